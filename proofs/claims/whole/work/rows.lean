section
-- ===== PART A: goes FIRST, ahead of the names: the tables' words, and 'selects' of the private methods out of them =====
/-- a private method of a class that the tables say can be made, by its rows of tables_1 -/
def lw_okq (q : MethodName × Nat) : Prop := (q.1.cls ≠ "java/lang/invoke/MethodHandle" ∧ q.1.cls ≠ "java/lang/invoke/VarHandle") ∧ Cond.instantiable q.1.cls q.2 ∈ tables_1 ∧ Cond.privateMethod q.1 ∈ tables_1 ∧ Cond.instanceMethod q.1 ∈ tables_1
theorem lw_p0 : lw_okq (⟨"RestBounds", "forgetWhatRestsOnWalk", "()V"⟩, 7) := ⟨⟨by decide +kernel, by decide +kernel⟩, List.mem_of_getElem? (i := 10) (by decide +kernel), List.mem_of_getElem? (i := 175) (by decide +kernel), List.mem_of_getElem? (i := 176) (by decide +kernel)⟩
theorem lw_p1 : lw_okq (⟨"RestBounds", "goOnTimes", "(LRestBounds$Listing;II)I"⟩, 7) := ⟨⟨by decide +kernel, by decide +kernel⟩, List.mem_of_getElem? (i := 10) (by decide +kernel), List.mem_of_getElem? (i := 296) (by decide +kernel), List.mem_of_getElem? (i := 297) (by decide +kernel)⟩
theorem lw_p2 : lw_okq (⟨"RestBounds", "goOnOnce", "(LRestBounds$Listing;I)Z"⟩, 7) := ⟨⟨by decide +kernel, by decide +kernel⟩, List.mem_of_getElem? (i := 10) (by decide +kernel), List.mem_of_getElem? (i := 300) (by decide +kernel), List.mem_of_getElem? (i := 301) (by decide +kernel)⟩
theorem lw_p3 : lw_okq (⟨"RestBounds", "width", "(LRestBounds$Listing;I)J"⟩, 7) := ⟨⟨by decide +kernel, by decide +kernel⟩, List.mem_of_getElem? (i := 10) (by decide +kernel), List.mem_of_getElem? (i := 370) (by decide +kernel), List.mem_of_getElem? (i := 371) (by decide +kernel)⟩
theorem lw_p4 : lw_okq (⟨"RestBounds", "high", "(LRestBounds$Listing;I)J"⟩, 7) := ⟨⟨by decide +kernel, by decide +kernel⟩, List.mem_of_getElem? (i := 10) (by decide +kernel), List.mem_of_getElem? (i := 374) (by decide +kernel), List.mem_of_getElem? (i := 375) (by decide +kernel)⟩
theorem lw_p5 : lw_okq (⟨"RestBounds", "low", "(LRestBounds$Listing;I)J"⟩, 7) := ⟨⟨by decide +kernel, by decide +kernel⟩, List.mem_of_getElem? (i := 10) (by decide +kernel), List.mem_of_getElem? (i := 382) (by decide +kernel), List.mem_of_getElem? (i := 383) (by decide +kernel)⟩
theorem lw_p6 : lw_okq (⟨"RestBounds", "trialWidth", "(III)J"⟩, 7) := ⟨⟨by decide +kernel, by decide +kernel⟩, List.mem_of_getElem? (i := 10) (by decide +kernel), List.mem_of_getElem? (i := 415) (by decide +kernel), List.mem_of_getElem? (i := 416) (by decide +kernel)⟩
theorem lw_p7 : lw_okq (⟨"RestBoundsModel", "forget", "()V"⟩, 25) := ⟨⟨by decide +kernel, by decide +kernel⟩, List.mem_of_getElem? (i := 454) (by decide +kernel), List.mem_of_getElem? (i := 543) (by decide +kernel), List.mem_of_getElem? (i := 544) (by decide +kernel)⟩
theorem lw_p8 : lw_okq (⟨"RestBoundsModel", "isState", "(I)Z"⟩, 25) := ⟨⟨by decide +kernel, by decide +kernel⟩, List.mem_of_getElem? (i := 454) (by decide +kernel), List.mem_of_getElem? (i := 551) (by decide +kernel), List.mem_of_getElem? (i := 552) (by decide +kernel)⟩
theorem lw_p9 : lw_okq (⟨"RestBoundsModel", "arrowOf", "(II)I"⟩, 25) := ⟨⟨by decide +kernel, by decide +kernel⟩, List.mem_of_getElem? (i := 454) (by decide +kernel), List.mem_of_getElem? (i := 555) (by decide +kernel), List.mem_of_getElem? (i := 556) (by decide +kernel)⟩
theorem lw_p10 : lw_okq (⟨"RestBoundsModel", "comes", "(I)I"⟩, 25) := ⟨⟨by decide +kernel, by decide +kernel⟩, List.mem_of_getElem? (i := 454) (by decide +kernel), List.mem_of_getElem? (i := 575) (by decide +kernel), List.mem_of_getElem? (i := 576) (by decide +kernel)⟩
theorem lw_p11 : lw_okq (⟨"RestBoundsModel", "open", "(II)V"⟩, 25) := ⟨⟨by decide +kernel, by decide +kernel⟩, List.mem_of_getElem? (i := 454) (by decide +kernel), List.mem_of_getElem? (i := 579) (by decide +kernel), List.mem_of_getElem? (i := 580) (by decide +kernel)⟩
theorem lw_p12 : lw_okq (⟨"RestBoundsModel", "reach", "(I)I"⟩, 25) := ⟨⟨by decide +kernel, by decide +kernel⟩, List.mem_of_getElem? (i := 454) (by decide +kernel), List.mem_of_getElem? (i := 584) (by decide +kernel), List.mem_of_getElem? (i := 585) (by decide +kernel)⟩
theorem lw_p13 : lw_okq (⟨"RestBoundsModel", "look", "()V"⟩, 25) := ⟨⟨by decide +kernel, by decide +kernel⟩, List.mem_of_getElem? (i := 454) (by decide +kernel), List.mem_of_getElem? (i := 588) (by decide +kernel), List.mem_of_getElem? (i := 589) (by decide +kernel)⟩
theorem lw_p14 : lw_okq (⟨"RestBoundsModel", "goOn", "(II)Z"⟩, 25) := ⟨⟨by decide +kernel, by decide +kernel⟩, List.mem_of_getElem? (i := 454) (by decide +kernel), List.mem_of_getElem? (i := 596) (by decide +kernel), List.mem_of_getElem? (i := 597) (by decide +kernel)⟩
theorem lw_p15 : lw_okq (⟨"RestBoundsModel", "next", "(II)I"⟩, 25) := ⟨⟨by decide +kernel, by decide +kernel⟩, List.mem_of_getElem? (i := 454) (by decide +kernel), List.mem_of_getElem? (i := 600) (by decide +kernel), List.mem_of_getElem? (i := 601) (by decide +kernel)⟩
def lw_privs_1 : List (MethodName × Nat) := [(⟨"RestBounds", "forgetWhatRestsOnWalk", "()V"⟩, 7), (⟨"RestBounds", "goOnTimes", "(LRestBounds$Listing;II)I"⟩, 7), (⟨"RestBounds", "goOnOnce", "(LRestBounds$Listing;I)Z"⟩, 7), (⟨"RestBounds", "width", "(LRestBounds$Listing;I)J"⟩, 7), (⟨"RestBounds", "high", "(LRestBounds$Listing;I)J"⟩, 7), (⟨"RestBounds", "low", "(LRestBounds$Listing;I)J"⟩, 7), (⟨"RestBounds", "trialWidth", "(III)J"⟩, 7), (⟨"RestBoundsModel", "forget", "()V"⟩, 25), (⟨"RestBoundsModel", "isState", "(I)Z"⟩, 25), (⟨"RestBoundsModel", "arrowOf", "(II)I"⟩, 25), (⟨"RestBoundsModel", "comes", "(I)I"⟩, 25), (⟨"RestBoundsModel", "open", "(II)V"⟩, 25), (⟨"RestBoundsModel", "reach", "(I)I"⟩, 25), (⟨"RestBoundsModel", "look", "()V"⟩, 25), (⟨"RestBoundsModel", "goOn", "(II)Z"⟩, 25), (⟨"RestBoundsModel", "next", "(II)I"⟩, 25)]
theorem lw_r1 : ∀ q ∈ lw_privs_1, lw_okq q := List.forall_mem_cons.mpr ⟨lw_p0, List.forall_mem_cons.mpr ⟨lw_p1, List.forall_mem_cons.mpr ⟨lw_p2, List.forall_mem_cons.mpr ⟨lw_p3, List.forall_mem_cons.mpr ⟨lw_p4, List.forall_mem_cons.mpr ⟨lw_p5, List.forall_mem_cons.mpr ⟨lw_p6, List.forall_mem_cons.mpr ⟨lw_p7, List.forall_mem_cons.mpr ⟨lw_p8, List.forall_mem_cons.mpr ⟨lw_p9, List.forall_mem_cons.mpr ⟨lw_p10, List.forall_mem_cons.mpr ⟨lw_p11, List.forall_mem_cons.mpr ⟨lw_p12, List.forall_mem_cons.mpr ⟨lw_p13, List.forall_mem_cons.mpr ⟨lw_p14, List.forall_mem_cons.mpr ⟨lw_p15, fun _ h => absurd h List.not_mem_nil⟩⟩⟩⟩⟩⟩⟩⟩⟩⟩⟩⟩⟩⟩⟩⟩
theorem lw_p16 : lw_okq (⟨"RestBoundsModel", "lay", "(IIJ)V"⟩, 25) := ⟨⟨by decide +kernel, by decide +kernel⟩, List.mem_of_getElem? (i := 454) (by decide +kernel), List.mem_of_getElem? (i := 604) (by decide +kernel), List.mem_of_getElem? (i := 605) (by decide +kernel)⟩
theorem lw_p17 : lw_okq (⟨"RestBoundsModel", "share", "(IIJJJ)V"⟩, 25) := ⟨⟨by decide +kernel, by decide +kernel⟩, List.mem_of_getElem? (i := 454) (by decide +kernel), List.mem_of_getElem? (i := 610) (by decide +kernel), List.mem_of_getElem? (i := 611) (by decide +kernel)⟩
theorem lw_p18 : lw_okq (⟨"RestBoundsModel", "newItems", "(II)I"⟩, 25) := ⟨⟨by decide +kernel, by decide +kernel⟩, List.mem_of_getElem? (i := 454) (by decide +kernel), List.mem_of_getElem? (i := 614) (by decide +kernel), List.mem_of_getElem? (i := 615) (by decide +kernel)⟩
theorem lw_p19 : lw_okq (⟨"RestBoundsModel", "alike", "(IIII)I"⟩, 25) := ⟨⟨by decide +kernel, by decide +kernel⟩, List.mem_of_getElem? (i := 454) (by decide +kernel), List.mem_of_getElem? (i := 618) (by decide +kernel), List.mem_of_getElem? (i := 619) (by decide +kernel)⟩
theorem lw_p20 : lw_okq (⟨"RestBoundsModel", "high", "(II)J"⟩, 25) := ⟨⟨by decide +kernel, by decide +kernel⟩, List.mem_of_getElem? (i := 454) (by decide +kernel), List.mem_of_getElem? (i := 629) (by decide +kernel), List.mem_of_getElem? (i := 630) (by decide +kernel)⟩
theorem lw_p21 : lw_okq (⟨"RestBoundsModel", "foundOf", "(II)J"⟩, 25) := ⟨⟨by decide +kernel, by decide +kernel⟩, List.mem_of_getElem? (i := 454) (by decide +kernel), List.mem_of_getElem? (i := 633) (by decide +kernel), List.mem_of_getElem? (i := 634) (by decide +kernel)⟩
theorem lw_p22 : lw_okq (⟨"RestBoundsModel", "unended", "(II)J"⟩, 25) := ⟨⟨by decide +kernel, by decide +kernel⟩, List.mem_of_getElem? (i := 454) (by decide +kernel), List.mem_of_getElem? (i := 637) (by decide +kernel), List.mem_of_getElem? (i := 638) (by decide +kernel)⟩
theorem lw_p23 : lw_okq (⟨"RestBoundsModel", "low", "(II)J"⟩, 25) := ⟨⟨by decide +kernel, by decide +kernel⟩, List.mem_of_getElem? (i := 454) (by decide +kernel), List.mem_of_getElem? (i := 641) (by decide +kernel), List.mem_of_getElem? (i := 642) (by decide +kernel)⟩
theorem lw_p24 : lw_okq (⟨"RestBoundsModel", "isSure", "(I)Z"⟩, 25) := ⟨⟨by decide +kernel, by decide +kernel⟩, List.mem_of_getElem? (i := 454) (by decide +kernel), List.mem_of_getElem? (i := 645) (by decide +kernel), List.mem_of_getElem? (i := 646) (by decide +kernel)⟩
theorem lw_p25 : lw_okq (⟨"RestBoundsModel", "copy", "(II)V"⟩, 25) := ⟨⟨by decide +kernel, by decide +kernel⟩, List.mem_of_getElem? (i := 454) (by decide +kernel), List.mem_of_getElem? (i := 685) (by decide +kernel), List.mem_of_getElem? (i := 686) (by decide +kernel)⟩
def lw_privs_2 : List (MethodName × Nat) := [(⟨"RestBoundsModel", "lay", "(IIJ)V"⟩, 25), (⟨"RestBoundsModel", "share", "(IIJJJ)V"⟩, 25), (⟨"RestBoundsModel", "newItems", "(II)I"⟩, 25), (⟨"RestBoundsModel", "alike", "(IIII)I"⟩, 25), (⟨"RestBoundsModel", "high", "(II)J"⟩, 25), (⟨"RestBoundsModel", "foundOf", "(II)J"⟩, 25), (⟨"RestBoundsModel", "unended", "(II)J"⟩, 25), (⟨"RestBoundsModel", "low", "(II)J"⟩, 25), (⟨"RestBoundsModel", "isSure", "(I)Z"⟩, 25), (⟨"RestBoundsModel", "copy", "(II)V"⟩, 25)]
theorem lw_r2 : ∀ q ∈ lw_privs_2, lw_okq q := List.forall_mem_cons.mpr ⟨lw_p16, List.forall_mem_cons.mpr ⟨lw_p17, List.forall_mem_cons.mpr ⟨lw_p18, List.forall_mem_cons.mpr ⟨lw_p19, List.forall_mem_cons.mpr ⟨lw_p20, List.forall_mem_cons.mpr ⟨lw_p21, List.forall_mem_cons.mpr ⟨lw_p22, List.forall_mem_cons.mpr ⟨lw_p23, List.forall_mem_cons.mpr ⟨lw_p24, List.forall_mem_cons.mpr ⟨lw_p25, fun _ h => absurd h List.not_mem_nil⟩⟩⟩⟩⟩⟩⟩⟩⟩⟩
def lw_privs : List (MethodName × Nat) := lw_privs_1 ++ (lw_privs_2)
def lw_tbl : List Cond := k2_sels lw_privs ++ tables_1
theorem lw_privs_ok : ∀ q ∈ lw_privs, lw_okq q := by
  show ∀ q ∈ lw_privs_1 ++ (lw_privs_2), lw_okq q
  exact List.forall_mem_append.mpr ⟨lw_r1, lw_r2⟩
end
section
/-! The words in which a method's rows are printed: a method, its instructions with the place behind them -/
/-- a method: name, bytes, number of locals, kind of answer, own class, frames and words of locals that its calls need -/
abbrev Mth : Type := MethodName × ByteArray × Nat × Option FieldType × String × Nat × Nat
def dk (μ : Mth) (pc : Nat) (i : Instr) (n npc : Nat) : Prop := decode μ.2.1 pc = .ok (i, n) ∧ npc = pc + n
def dKi (μ : Mth) (pc : Nat) (v : Int32) (npc : Nat) : Prop := (∃ n : Int, decode μ.2.1 pc = .ok (.iconst n, 1) ∧ Int32.ofInt n = v ∧ npc = pc + 1) ∨ (∃ n : Int, decode μ.2.1 pc = .ok (.bipush n, 2) ∧ (Int8.ofInt n).toInt32 = v ∧ npc = pc + 2) ∨ (∃ n : Int, decode μ.2.1 pc = .ok (.sipush n, 3) ∧ (Int16.ofInt n).toInt32 = v ∧ npc = pc + 3) ∨ (∃ ix : Nat, decode μ.2.1 pc = .ok (.ldc ix, 2) ∧ Cond.constant μ.2.2.2.2.1 ix v ∈ lw_tbl ∧ npc = pc + 2)
def dKl (μ : Mth) (pc : Nat) (v : Int64) (npc : Nat) : Prop := (∃ n : Fin 2, decode μ.2.1 pc = .ok (.lconst n, 1) ∧ Int64.ofNat n.val = v ∧ npc = pc + 1) ∨ (∃ ix : Nat, decode μ.2.1 pc = .ok (.ldc2_w ix, 3) ∧ Cond.constantLong μ.2.2.2.2.1 ix v ∈ lw_tbl ∧ npc = pc + 3)
def dIl (μ : Mth) (pc i npc : Nat) : Prop := (∃ k : Fin 4, decode μ.2.1 pc = .ok (.iload_n k, 1) ∧ k.val = i ∧ npc = pc + 1) ∨ (decode μ.2.1 pc = .ok (.iload i, 2) ∧ npc = pc + 2)
def dLl (μ : Mth) (pc i npc : Nat) : Prop := (∃ k : Fin 4, decode μ.2.1 pc = .ok (.lload_n k, 1) ∧ k.val = i ∧ npc = pc + 1) ∨ (decode μ.2.1 pc = .ok (.lload i, 2) ∧ npc = pc + 2)
def dAl (μ : Mth) (pc i npc : Nat) : Prop := (∃ k : Fin 4, decode μ.2.1 pc = .ok (.aload_n k, 1) ∧ k.val = i ∧ npc = pc + 1) ∨ (decode μ.2.1 pc = .ok (.aload i, 2) ∧ npc = pc + 2)
def dIs (μ : Mth) (pc i npc : Nat) : Prop := ((∃ k : Fin 4, decode μ.2.1 pc = .ok (.istore_n k, 1) ∧ k.val = i ∧ npc = pc + 1) ∨ (decode μ.2.1 pc = .ok (.istore i, 2) ∧ npc = pc + 2)) ∧ i < μ.2.2.1
def dLs (μ : Mth) (pc i npc : Nat) : Prop := ((∃ k : Fin 4, decode μ.2.1 pc = .ok (.lstore_n k, 1) ∧ k.val = i ∧ npc = pc + 1) ∨ (decode μ.2.1 pc = .ok (.lstore i, 2) ∧ npc = pc + 2)) ∧ i + 1 < μ.2.2.1
def dAs (μ : Mth) (pc i npc : Nat) : Prop := ((∃ k : Fin 4, decode μ.2.1 pc = .ok (.astore_n k, 1) ∧ k.val = i ∧ npc = pc + 1) ∨ (decode μ.2.1 pc = .ok (.astore i, 2) ∧ npc = pc + 2)) ∧ i < μ.2.2.1
def dIn (μ : Mth) (pc i : Nat) (k : Int32) (npc : Nat) : Prop := ∃ n : Int, decode μ.2.1 pc = .ok (.iinc i n, 3) ∧ Int32.ofInt n = k ∧ npc = pc + 3 ∧ i < μ.2.2.1
def dJ (μ : Mth) (pc tgt : Nat) : Prop := ∃ off : Int, decode μ.2.1 pc = .ok (.goto off, 3) ∧ (pc : Int) + off = (tgt : Int)
def dC (μ : Mth) (pc : Nat) (k : Jvm.ClassFile.Cond) (npc tgt : Nat) : Prop := ∃ off : Int, decode μ.2.1 pc = .ok (.if_icmp k off, 3) ∧ (pc : Int) + off = (tgt : Int) ∧ npc = pc + 3
def dZ (μ : Mth) (pc : Nat) (k : Jvm.ClassFile.Cond) (npc tgt : Nat) : Prop := ∃ off : Int, decode μ.2.1 pc = .ok (.ifCond k off, 3) ∧ (pc : Int) + off = (tgt : Int) ∧ npc = pc + 3
/-- the classes, by number -/
def dW (w : Cond) : Prop := w ∈ lw_tbl
theorem dW_at {w : Cond} (i : Nat) (h : lw_tbl[i]? = some w) : dW w := List.mem_of_getElem? h
end
section
/-! printed by wip/whole/gen.py: classes, fields, methods, a row an instruction -/
def RX0 : String := "RestBounds$Listing"
def TX0 : u_T := fun k => match k with
  | 0 => ("RestBounds$Listing", "start", "I", false)
  | 1 => ("RestBounds$Listing", "steps", "I", false)
  | 2 => ("RestBounds$Listing", "size", "I", false)
  | 3 => ("RestBounds$Listing", "place", "[I", true)
  | 4 => ("RestBounds$Listing", "depth", "[I", true)
  | 5 => ("RestBounds$Listing", "amount", "[J", true)
  | 6 => ("RestBounds$Listing", "ended", "[J", true)
  | 7 => ("RestBounds$Listing", "left", "[J", true)
  | _ => ("RestBounds$Listing", "held", "[J", true)
def tyX0 : Nat → FieldType := fun k => match k with
  | 0 => .int
  | 1 => .int
  | 2 => .int
  | 3 => .array (.int)
  | 4 => .array (.int)
  | 5 => .array (.long)
  | 6 => .array (.long)
  | 7 => .array (.long)
  | _ => .array (.long)
def RX1 : String := "RestBounds$Shares"
def TX1 : u_T := fun k => match k with
  | 0 => ("RestBounds$Shares", "size", "I", false)
  | 1 => ("RestBounds$Shares", "sum", "J", false)
  | 2 => ("RestBounds$Shares", "shared", "J", false)
  | 3 => ("RestBounds$Shares", "divisor", "I", false)
  | 4 => ("RestBounds$Shares", "place", "[I", true)
  | 5 => ("RestBounds$Shares", "depth", "[I", true)
  | _ => ("RestBounds$Shares", "amount", "[J", true)
def tyX1 : Nat → FieldType := fun k => match k with
  | 0 => .int
  | 1 => .long
  | 2 => .long
  | 3 => .int
  | 4 => .array (.int)
  | 5 => .array (.int)
  | _ => .array (.long)
def RX2 : String := "RestBounds$Walk"
def TX2 : u_T := fun k => match k with
  | 0 => ("RestBounds$Walk", "size", "I", false)
  | 1 => ("RestBounds$Walk", "outcomeOf", "[I", true)
  | 2 => ("RestBounds$Walk", "lawOf", "[I", true)
  | 3 => ("RestBounds$Walk", "total", "[I", true)
  | 4 => ("RestBounds$Walk", "arrows", "[I", true)
  | 5 => ("RestBounds$Walk", "target", "[[I", true)
  | 6 => ("RestBounds$Walk", "weight", "[[I", true)
  | 7 => ("RestBounds$Walk", "comesTo", "[I", true)
  | 8 => ("RestBounds$Walk", "reach", "[I", true)
  | _ => ("RestBounds$Walk", "sure", "[Z", true)
def tyX2 : Nat → FieldType := fun k => match k with
  | 0 => .int
  | 1 => .array (.int)
  | 2 => .array (.int)
  | 3 => .array (.int)
  | 4 => .array (.int)
  | 5 => .array (.array (.int))
  | 6 => .array (.array (.int))
  | 7 => .array (.int)
  | 8 => .array (.int)
  | _ => .array (.boolean)
def RX3 : String := "RestBounds"
def TX3 : u_T := fun k => match k with
  | 0 => ("RestBounds", "walk", "LRestBounds$Walk;", true)
  | 1 => ("RestBounds", "shares", "LRestBounds$Shares;", true)
  | 2 => ("RestBounds", "now", "LRestBounds$Listing;", true)
  | 3 => ("RestBounds", "trial", "LRestBounds$Listing;", true)
  | 4 => ("RestBounds", "kept", "[LRestBounds$Listing;", true)
  | 5 => ("RestBounds", "ordering", "I", false)
  | _ => ("RestBounds", "joining", "Z", false)
def tyX3 : Nat → FieldType := fun k => match k with
  | 0 => .object "RestBounds$Walk"
  | 1 => .object "RestBounds$Shares"
  | 2 => .object "RestBounds$Listing"
  | 3 => .object "RestBounds$Listing"
  | 4 => .array (.object "RestBounds$Listing")
  | 5 => .int
  | _ => .boolean
def RX4 : String := "RestBoundsModel"
def TX4 : u_T := fun k => match k with
  | 0 => ("RestBoundsModel", "states", "I", false)
  | 1 => ("RestBoundsModel", "outcome", "[I", true)
  | 2 => ("RestBoundsModel", "arrows", "[I", true)
  | 3 => ("RestBoundsModel", "arrowTo", "[I", true)
  | 4 => ("RestBoundsModel", "sixteenths", "[I", true)
  | 5 => ("RestBoundsModel", "sum", "[I", true)
  | 6 => ("RestBoundsModel", "law", "[I", true)
  | 7 => ("RestBoundsModel", "order", "I", false)
  | 8 => ("RestBoundsModel", "joins", "Z", false)
  | 9 => ("RestBoundsModel", "is", "[Z", true)
  | 10 => ("RestBoundsModel", "start", "[I", true)
  | 11 => ("RestBoundsModel", "went", "[I", true)
  | 12 => ("RestBoundsModel", "many", "[I", true)
  | 13 => ("RestBoundsModel", "itemState", "[I", true)
  | 14 => ("RestBoundsModel", "itemDepth", "[I", true)
  | 15 => ("RestBoundsModel", "itemUnits", "[J", true)
  | 16 => ("RestBoundsModel", "found", "[J", true)
  | 17 => ("RestBoundsModel", "rest", "[J", true)
  | 18 => ("RestBoundsModel", "isLooked", "Z", false)
  | 19 => ("RestBoundsModel", "reaches", "[I", true)
  | 20 => ("RestBoundsModel", "sure", "[Z", true)
  | 21 => ("RestBoundsModel", "shares", "I", false)
  | 22 => ("RestBoundsModel", "shareState", "[I", true)
  | 23 => ("RestBoundsModel", "shareDepth", "[I", true)
  | _ => ("RestBoundsModel", "shareUnits", "[J", true)
def tyX4 : Nat → FieldType := fun k => match k with
  | 0 => .int
  | 1 => .array (.int)
  | 2 => .array (.int)
  | 3 => .array (.int)
  | 4 => .array (.int)
  | 5 => .array (.int)
  | 6 => .array (.int)
  | 7 => .int
  | 8 => .boolean
  | 9 => .array (.boolean)
  | 10 => .array (.int)
  | 11 => .array (.int)
  | 12 => .array (.int)
  | 13 => .array (.int)
  | 14 => .array (.int)
  | 15 => .array (.long)
  | 16 => .array (.long)
  | 17 => .array (.long)
  | 18 => .boolean
  | 19 => .array (.int)
  | 20 => .array (.boolean)
  | 21 => .int
  | 22 => .array (.int)
  | 23 => .array (.int)
  | _ => .array (.long)
abbrev vwCl : List vw_C := [(RX0, TX0, 9), (RX1, TX1, 7), (RX2, TX2, 10), (RX3, TX3, 7), (RX4, TX4, 25)]
def RJ10 : String := "java/lang/System"
def RJ7 : String := "java/util/Arrays"
def RJ9 : String := "java/lang/Math"
def RL : String := "RestBoundsLaw"
abbrev cX0_init : ByteArray := prog_2_method_1_code
def yX0_init : MethodName := ⟨RX0, "<init>", "()V"⟩
abbrev mX0_init : Mth := (yX0_init, cX0_init, 1, none, RX0, 1, 20)
abbrev cX0_exists : ByteArray := prog_2_method_2_code
def yX0_exists : MethodName := ⟨RX0, "exists", "()Z"⟩
abbrev mX0_exists : Mth := (yX0_exists, cX0_exists, 1, (some .boolean), RX0, 0, 0)
abbrev cX0_hasItem : ByteArray := prog_2_method_3_code
def yX0_hasItem : MethodName := ⟨RX0, "hasItem", "(I)Z"⟩
abbrev mX0_hasItem : Mth := (yX0_hasItem, cX0_hasItem, 2, (some .boolean), RX0, 0, 0)
abbrev cX0_forget : ByteArray := prog_2_method_4_code
def yX0_forget : MethodName := ⟨RX0, "forget", "()V"⟩
abbrev mX0_forget : Mth := (yX0_forget, cX0_forget, 1, none, RX0, 0, 0)
abbrev cX0_beginAt : ByteArray := prog_2_method_5_code
def yX0_beginAt : MethodName := ⟨RX0, "beginAt", "(I)V"⟩
abbrev mX0_beginAt : Mth := (yX0_beginAt, cX0_beginAt, 2, none, RX0, 1, 24)
abbrev cX0_copyFrom : ByteArray := prog_2_method_6_code
def yX0_copyFrom : MethodName := ⟨RX0, "copyFrom", "(LRestBounds$Listing;)V"⟩
abbrev mX0_copyFrom : Mth := (yX0_copyFrom, cX0_copyFrom, 2, none, RX0, 1, 27)
abbrev cX0_nextBy : ByteArray := prog_2_method_7_code
def yX0_nextBy : MethodName := ⟨RX0, "nextBy", "(I)I"⟩
abbrev mX0_nextBy : Mth := (yX0_nextBy, cX0_nextBy, 4, (some .int), RX0, 0, 0)
abbrev cX0_addItem : ByteArray := prog_2_method_8_code
def yX0_addItem : MethodName := ⟨RX0, "addItem", "(IIJ)V"⟩
abbrev mX0_addItem : Mth := (yX0_addItem, cX0_addItem, 5, none, RX0, 0, 0)
abbrev cX0_takeOut : ByteArray := prog_2_method_9_code
def yX0_takeOut : MethodName := ⟨RX0, "takeOut", "(I)V"⟩
abbrev mX0_takeOut : Mth := (yX0_takeOut, cX0_takeOut, 3, none, RX0, 1, 27)
abbrev cX0_addEnded : ByteArray := prog_2_method_10_code
def yX0_addEnded : MethodName := ⟨RX0, "addEnded", "(IJ)V"⟩
abbrev mX0_addEnded : Mth := (yX0_addEnded, cX0_addEnded, 4, none, RX0, 0, 0)
abbrev cX0_addLeft : ByteArray := prog_2_method_11_code
def yX0_addLeft : MethodName := ⟨RX0, "addLeft", "(IJ)V"⟩
abbrev mX0_addLeft : Mth := (yX0_addLeft, cX0_addLeft, 4, none, RX0, 0, 0)
abbrev cX0_itemAt : ByteArray := prog_2_method_12_code
def yX0_itemAt : MethodName := ⟨RX0, "itemAt", "(II)I"⟩
abbrev mX0_itemAt : Mth := (yX0_itemAt, cX0_itemAt, 4, (some .int), RX0, 0, 0)
abbrev cX0_countNew : ByteArray := prog_2_method_13_code
def yX0_countNew : MethodName := ⟨RX0, "countNew", "(LRestBounds$Shares;Z)I"⟩
abbrev mX0_countNew : Mth := (yX0_countNew, cX0_countNew, 5, (some .int), RX0, 1, 23)
abbrev cX0_putShares : ByteArray := prog_2_method_14_code
def yX0_putShares : MethodName := ⟨RX0, "putShares", "(LRestBounds$Shares;Z)V"⟩
abbrev mX0_putShares : Mth := (yX0_putShares, cX0_putShares, 6, none, RX0, 1, 24)
abbrev cX0_endedIn : ByteArray := prog_2_method_15_code
def yX0_endedIn : MethodName := ⟨RX0, "endedIn", "(I)J"⟩
abbrev mX0_endedIn : Mth := (yX0_endedIn, cX0_endedIn, 5, (some .long), RX0, 0, 0)
abbrev cX1_init : ByteArray := prog_3_method_1_code
def yX1_init : MethodName := ⟨RX1, "<init>", "()V"⟩
abbrev mX1_init : Mth := (yX1_init, cX1_init, 1, none, RX1, 1, 20)
abbrev cX1_divide : ByteArray := prog_3_method_2_code
def yX1_divide : MethodName := ⟨RX1, "divide", "(LRestBounds$Walk;IIJ)V"⟩
abbrev mX1_divide : Mth := (yX1_divide, cX1_divide, 8, none, RX1, 2, 50)
abbrev cX1_spread : ByteArray := prog_3_method_3_code
def yX1_spread : MethodName := ⟨RX1, "spread", "(LRestBounds$Walk;IIII)V"⟩
abbrev mX1_spread : Mth := (yX1_spread, cX1_spread, 7, none, RX1, 1, 24)
abbrev cX1_portion : ByteArray := prog_3_method_4_code
def yX1_portion : MethodName := ⟨RX1, "portion", "(I)J"⟩
abbrev mX1_portion : Mth := (yX1_portion, cX1_portion, 2, (some .long), RX1, 0, 0)
abbrev cX1_add : ByteArray := prog_3_method_5_code
def yX1_add : MethodName := ⟨RX1, "add", "(IIJ)V"⟩
abbrev mX1_add : Mth := (yX1_add, cX1_add, 5, none, RX1, 0, 0)
abbrev cX1_isRepeated : ByteArray := prog_3_method_6_code
def yX1_isRepeated : MethodName := ⟨RX1, "isRepeated", "(I)Z"⟩
abbrev mX1_isRepeated : Mth := (yX1_isRepeated, cX1_isRepeated, 3, (some .boolean), RX1, 0, 0)
abbrev cX2_init : ByteArray := prog_4_method_1_code
def yX2_init : MethodName := ⟨RX2, "<init>", "()V"⟩
abbrev mX2_init : Mth := (yX2_init, cX2_init, 1, none, RX2, 1, 20)
abbrev cX2_has : ByteArray := prog_4_method_2_code
def yX2_has : MethodName := ⟨RX2, "has", "(I)Z"⟩
abbrev mX2_has : Mth := (yX2_has, cX2_has, 2, (some .boolean), RX2, 0, 0)
abbrev cX2_goesOn : ByteArray := prog_4_method_3_code
def yX2_goesOn : MethodName := ⟨RX2, "goesOn", "(I)Z"⟩
abbrev mX2_goesOn : Mth := (yX2_goesOn, cX2_goesOn, 2, (some .boolean), RX2, 1, 21)
abbrev cX2_addState : ByteArray := prog_4_method_4_code
def yX2_addState : MethodName := ⟨RX2, "addState", "(I)I"⟩
abbrev mX2_addState : Mth := (yX2_addState, cX2_addState, 2, (some .int), RX2, 0, 0)
abbrev cX2_addSixteenths : ByteArray := prog_4_method_5_code
def yX2_addSixteenths : MethodName := ⟨RX2, "addSixteenths", "(III)I"⟩
abbrev mX2_addSixteenths : Mth := (yX2_addSixteenths, cX2_addSixteenths, 5, (some .int), RX2, 1, 23)
abbrev cX2_arrowTo : ByteArray := prog_4_method_6_code
def yX2_arrowTo : MethodName := ⟨RX2, "arrowTo", "(II)I"⟩
abbrev mX2_arrowTo : Mth := (yX2_arrowTo, cX2_arrowTo, 4, (some .int), RX2, 0, 0)
abbrev cX2_sixteenthsTo : ByteArray := prog_4_method_7_code
def yX2_sixteenthsTo : MethodName := ⟨RX2, "sixteenthsTo", "(II)I"⟩
abbrev mX2_sixteenthsTo : Mth := (yX2_sixteenthsTo, cX2_sixteenthsTo, 4, (some .int), RX2, 1, 23)
abbrev cX2_isWhole : ByteArray := prog_4_method_8_code
def yX2_isWhole : MethodName := ⟨RX2, "isWhole", "(I)Z"⟩
abbrev mX2_isWhole : Mth := (yX2_isWhole, cX2_isWhole, 2, (some .boolean), RX2, 0, 0)
abbrev cX2_isProved : ByteArray := prog_4_method_9_code
def yX2_isProved : MethodName := ⟨RX2, "isProved", "(II)Z"⟩
abbrev mX2_isProved : Mth := (yX2_isProved, cX2_isProved, 3, (some .boolean), RX2, 3, 70)
abbrev cX2_isLoop : ByteArray := prog_4_method_10_code
def yX2_isLoop : MethodName := ⟨RX2, "isLoop", "(I)Z"⟩
abbrev mX2_isLoop : Mth := (yX2_isLoop, cX2_isLoop, 3, (some .boolean), RX2, 2, 46)
abbrev cX2_isRing : ByteArray := prog_4_method_11_code
def yX2_isRing : MethodName := ⟨RX2, "isRing", "(II)Z"⟩
abbrev mX2_isRing : Mth := (yX2_isRing, cX2_isRing, 5, (some .boolean), RX2, 2, 46)
abbrev cX2_forgetLaws : ByteArray := prog_4_method_12_code
def yX2_forgetLaws : MethodName := ⟨RX2, "forgetLaws", "()V"⟩
abbrev mX2_forgetLaws : Mth := (yX2_forgetLaws, cX2_forgetLaws, 1, none, RX2, 1, 23)
abbrev cX2_survey : ByteArray := prog_4_method_13_code
def yX2_survey : MethodName := ⟨RX2, "survey", "()V"⟩
abbrev mX2_survey : Mth := (yX2_survey, cX2_survey, 2, none, RX2, 3, 65)
abbrev cX2_findComings : ByteArray := prog_4_method_14_code
def yX2_findComings : MethodName := ⟨RX2, "findComings", "()V"⟩
abbrev mX2_findComings : Mth := (yX2_findComings, cX2_findComings, 3, none, RX2, 1, 22)
abbrev cX2_comes : ByteArray := prog_4_method_15_code
def yX2_comes : MethodName := ⟨RX2, "comes", "(II)Z"⟩
abbrev mX2_comes : Mth := (yX2_comes, cX2_comes, 3, (some .boolean), RX2, 0, 0)
abbrev cX2_findReach : ByteArray := prog_4_method_16_code
def yX2_findReach : MethodName := ⟨RX2, "findReach", "(I)I"⟩
abbrev mX2_findReach : Mth := (yX2_findReach, cX2_findReach, 4, (some .int), RX2, 2, 42)
abbrev cX2_findSure : ByteArray := prog_4_method_17_code
def yX2_findSure : MethodName := ⟨RX2, "findSure", "(I)Z"⟩
abbrev mX2_findSure : Mth := (yX2_findSure, cX2_findSure, 3, (some .boolean), RX2, 1, 22)
abbrev cX2_isWholeFrom : ByteArray := prog_4_method_18_code
def yX2_isWholeFrom : MethodName := ⟨RX2, "isWholeFrom", "(I)Z"⟩
abbrev mX2_isWholeFrom : Mth := (yX2_isWholeFrom, cX2_isWholeFrom, 3, (some .boolean), RX2, 2, 42)
abbrev cX2_endsWithin : ByteArray := prog_4_method_19_code
def yX2_endsWithin : MethodName := ⟨RX2, "endsWithin", "(II)Z"⟩
abbrev mX2_endsWithin : Mth := (yX2_endsWithin, cX2_endsWithin, 3, (some .boolean), RX2, 0, 0)
abbrev cX3_init : ByteArray := prog_1_method_1_code
def yX3_init : MethodName := ⟨RX3, "<init>", "()V"⟩
abbrev mX3_init : Mth := (yX3_init, cX3_init, 2, none, RX3, 2, 40)
abbrev cX3_state : ByteArray := prog_1_method_2_code
def yX3_state : MethodName := ⟨RX3, "state", "(I)I"⟩
abbrev mX3_state : Mth := (yX3_state, cX3_state, 2, (some .int), RX3, 3, 64)
abbrev cX3_arrow : ByteArray := prog_1_method_3_code
def yX3_arrow : MethodName := ⟨RX3, "arrow", "(III)I"⟩
abbrev mX3_arrow : Mth := (yX3_arrow, cX3_arrow, 4, (some .int), RX3, 3, 64)
abbrev cX3_law : ByteArray := prog_1_method_4_code
def yX3_law : MethodName := ⟨RX3, "law", "(II)I"⟩
abbrev mX3_law : Mth := (yX3_law, cX3_law, 3, (some .int), RX3, 4, 92)
abbrev cX3_order : ByteArray := prog_1_method_5_code
def yX3_order : MethodName := ⟨RX3, "order", "(I)I"⟩
abbrev mX3_order : Mth := (yX3_order, cX3_order, 3, (some .int), RX3, 0, 0)
abbrev cX3_joined : ByteArray := prog_1_method_6_code
def yX3_joined : MethodName := ⟨RX3, "joined", "(Z)I"⟩
abbrev mX3_joined : Mth := (yX3_joined, cX3_joined, 3, (some .int), RX3, 0, 0)
abbrev cX3_begin : ByteArray := prog_1_method_7_code
def yX3_begin : MethodName := ⟨RX3, "begin", "(I)I"⟩
abbrev mX3_begin : Mth := (yX3_begin, cX3_begin, 2, (some .int), RX3, 4, 86)
abbrev cX3_grow : ByteArray := prog_1_method_8_code
def yX3_grow : MethodName := ⟨RX3, "grow", "(I)I"⟩
abbrev mX3_grow : Mth := (yX3_grow, cX3_grow, 2, (some .int), RX3, 5, 127)
abbrev cX3_until : ByteArray := prog_1_method_9_code
def yX3_until : MethodName := ⟨RX3, "until", "(III)I"⟩
abbrev mX3_until : Mth := (yX3_until, cX3_until, 7, (some .int), RX3, 4, 103)
abbrev cX3_end : ByteArray := prog_1_method_10_code
def yX3_end : MethodName := ⟨RX3, "end", "(II)J"⟩
abbrev mX3_end : Mth := (yX3_end, cX3_end, 3, (some .long), RX3, 2, 49)
abbrev cX3_given : ByteArray := prog_1_method_11_code
def yX3_given : MethodName := ⟨RX3, "given", "(III)I"⟩
abbrev mX3_given : Mth := (yX3_given, cX3_given, 6, (some .int), RX3, 2, 53)
abbrev cX3_best : ByteArray := prog_1_method_12_code
def yX3_best : MethodName := ⟨RX3, "best", "(II)I"⟩
abbrev mX3_best : Mth := (yX3_best, cX3_best, 9, (some .int), RX3, 6, 150)
abbrev cX3_item : ByteArray := prog_1_method_13_code
def yX3_item : MethodName := ⟨RX3, "item", "(II)I"⟩
abbrev mX3_item : Mth := (yX3_item, cX3_item, 3, (some .int), RX3, 1, 21)
abbrev cX3_units : ByteArray := prog_1_method_14_code
def yX3_units : MethodName := ⟨RX3, "units", "(I)J"⟩
abbrev mX3_units : Mth := (yX3_units, cX3_units, 2, (some .long), RX3, 1, 21)
abbrev cX3_found : ByteArray := prog_1_method_15_code
def yX3_found : MethodName := ⟨RX3, "found", "(I)J"⟩
abbrev mX3_found : Mth := (yX3_found, cX3_found, 2, (some .long), RX3, 1, 20)
abbrev cX3_rests : ByteArray := prog_1_method_16_code
def yX3_rests : MethodName := ⟨RX3, "rests", "(I)J"⟩
abbrev mX3_rests : Mth := (yX3_rests, cX3_rests, 2, (some .long), RX3, 1, 21)
abbrev cX3_save : ByteArray := prog_1_method_17_code
def yX3_save : MethodName := ⟨RX3, "save", "(I)I"⟩
abbrev mX3_save : Mth := (yX3_save, cX3_save, 2, (some .int), RX3, 2, 48)
abbrev cX3_back : ByteArray := prog_1_method_18_code
def yX3_back : MethodName := ⟨RX3, "back", "(I)I"⟩
abbrev mX3_back : Mth := (yX3_back, cX3_back, 2, (some .int), RX3, 2, 48)
abbrev cX3_told : ByteArray := prog_1_method_19_code
def yX3_told : MethodName := ⟨RX3, "told", "(I)I"⟩
abbrev mX3_told : Mth := (yX3_told, cX3_told, 2, (some .int), RX3, 1, 21)
abbrev cX3_isOutcome : ByteArray := prog_1_method_20_code
def yX3_isOutcome : MethodName := ⟨RX3, "isOutcome", "(I)Z"⟩
abbrev mX3_isOutcome : Mth := (yX3_isOutcome, cX3_isOutcome, 1, (some .boolean), RX3, 0, 0)
abbrev cX3_isSet : ByteArray := prog_1_method_21_code
def yX3_isSet : MethodName := ⟨RX3, "isSet", "(I)Z"⟩
abbrev mX3_isSet : Mth := (yX3_isSet, cX3_isSet, 1, (some .boolean), RX3, 0, 0)
abbrev cX3_isSide : ByteArray := prog_1_method_22_code
def yX3_isSide : MethodName := ⟨RX3, "isSide", "(I)Z"⟩
abbrev mX3_isSide : Mth := (yX3_isSide, cX3_isSide, 1, (some .boolean), RX3, 0, 0)
abbrev cX3_isSave : ByteArray := prog_1_method_23_code
def yX3_isSave : MethodName := ⟨RX3, "isSave", "(I)Z"⟩
abbrev mX3_isSave : Mth := (yX3_isSave, cX3_isSave, 1, (some .boolean), RX3, 0, 0)
abbrev cX3_forgetWhatRestsOnWalk : ByteArray := prog_1_method_24_code
def yX3_forgetWhatRestsOnWalk : MethodName := ⟨RX3, "forgetWhatRestsOnWalk", "()V"⟩
abbrev mX3_forgetWhatRestsOnWalk : Mth := (yX3_forgetWhatRestsOnWalk, cX3_forgetWhatRestsOnWalk, 2, none, RX3, 2, 43)
abbrev cX3_goOnTimes : ByteArray := prog_1_method_25_code
def yX3_goOnTimes : MethodName := ⟨RX3, "goOnTimes", "(LRestBounds$Listing;II)I"⟩
abbrev mX3_goOnTimes : Mth := (yX3_goOnTimes, cX3_goOnTimes, 5, (some .int), RX3, 4, 103)
abbrev cX3_goOnOnce : ByteArray := prog_1_method_26_code
def yX3_goOnOnce : MethodName := ⟨RX3, "goOnOnce", "(LRestBounds$Listing;I)Z"⟩
abbrev mX3_goOnOnce : Mth := (yX3_goOnOnce, cX3_goOnOnce, 7, (some .boolean), RX3, 3, 77)
abbrev cX3_low : ByteArray := prog_1_method_27_code
def yX3_low : MethodName := ⟨RX3, "low", "(LRestBounds$Listing;I)J"⟩
abbrev mX3_low : Mth := (yX3_low, cX3_low, 6, (some .long), RX3, 1, 24)
abbrev cX3_high : ByteArray := prog_1_method_28_code
def yX3_high : MethodName := ⟨RX3, "high", "(LRestBounds$Listing;I)J"⟩
abbrev mX3_high : Mth := (yX3_high, cX3_high, 6, (some .long), RX3, 1, 24)
abbrev cX3_width : ByteArray := prog_1_method_29_code
def yX3_width : MethodName := ⟨RX3, "width", "(LRestBounds$Listing;I)J"⟩
abbrev mX3_width : Mth := (yX3_width, cX3_width, 3, (some .long), RX3, 2, 49)
abbrev cX3_trialWidth : ByteArray := prog_1_method_30_code
def yX3_trialWidth : MethodName := ⟨RX3, "trialWidth", "(III)J"⟩
abbrev mX3_trialWidth : Mth := (yX3_trialWidth, cX3_trialWidth, 4, (some .long), RX3, 5, 127)
abbrev cX3_leastPart : ByteArray := prog_1_method_31_code
def yX3_leastPart : MethodName := ⟨RX3, "leastPart", "(JJ)I"⟩
abbrev mX3_leastPart : Mth := (yX3_leastPart, cX3_leastPart, 6, (some .int), RX3, 1, 28)
abbrev cX3_greatestPart : ByteArray := prog_1_method_32_code
def yX3_greatestPart : MethodName := ⟨RX3, "greatestPart", "(JJ)I"⟩
abbrev mX3_greatestPart : Mth := (yX3_greatestPart, cX3_greatestPart, 6, (some .int), RX3, 1, 28)
abbrev cX3_partOf : ByteArray := prog_1_method_33_code
def yX3_partOf : MethodName := ⟨RX3, "partOf", "(JJZ)I"⟩
abbrev mX3_partOf : Mth := (yX3_partOf, cX3_partOf, 9, (some .int), RX3, 0, 0)
abbrev cX4_init : ByteArray := prog_6_method_1_code
def yX4_init : MethodName := ⟨RX4, "<init>", "()V"⟩
abbrev mX4_init : Mth := (yX4_init, cX4_init, 1, none, RX4, 1, 20)
abbrev cX4_in : ByteArray := prog_6_method_2_code
def yX4_in : MethodName := ⟨RX4, "in", "(III)Z"⟩
abbrev mX4_in : Mth := (yX4_in, cX4_in, 3, (some .boolean), RX4, 0, 0)
abbrev cX4_isState : ByteArray := prog_6_method_3_code
def yX4_isState : MethodName := ⟨RX4, "isState", "(I)Z"⟩
abbrev mX4_isState : Mth := (yX4_isState, cX4_isState, 2, (some .boolean), RX4, 1, 22)
abbrev cX4_forget : ByteArray := prog_6_method_4_code
def yX4_forget : MethodName := ⟨RX4, "forget", "()V"⟩
abbrev mX4_forget : Mth := (yX4_forget, cX4_forget, 2, none, RX4, 0, 0)
abbrev cX4_state : ByteArray := prog_6_method_5_code
def yX4_state : MethodName := ⟨RX4, "state", "(I)I"⟩
abbrev mX4_state : Mth := (yX4_state, cX4_state, 2, (some .int), RX4, 1, 22)
abbrev cX4_arrowOf : ByteArray := prog_6_method_6_code
def yX4_arrowOf : MethodName := ⟨RX4, "arrowOf", "(II)I"⟩
abbrev mX4_arrowOf : Mth := (yX4_arrowOf, cX4_arrowOf, 4, (some .int), RX4, 0, 0)
abbrev cX4_arrow : ByteArray := prog_6_method_7_code
def yX4_arrow : MethodName := ⟨RX4, "arrow", "(III)I"⟩
abbrev mX4_arrow : Mth := (yX4_arrow, cX4_arrow, 5, (some .int), RX4, 2, 43)
abbrev cX4_law : ByteArray := prog_6_method_8_code
def yX4_law : MethodName := ⟨RX4, "law", "(II)I"⟩
abbrev mX4_law : Mth := (yX4_law, cX4_law, 6, (some .int), RX4, 2, 43)
abbrev cX4_order : ByteArray := prog_6_method_9_code
def yX4_order : MethodName := ⟨RX4, "order", "(I)I"⟩
abbrev mX4_order : Mth := (yX4_order, cX4_order, 3, (some .int), RX4, 1, 22)
abbrev cX4_joined : ByteArray := prog_6_method_10_code
def yX4_joined : MethodName := ⟨RX4, "joined", "(Z)I"⟩
abbrev mX4_joined : Mth := (yX4_joined, cX4_joined, 3, (some .int), RX4, 0, 0)
abbrev cX4_comes : ByteArray := prog_6_method_11_code
def yX4_comes : MethodName := ⟨RX4, "comes", "(I)I"⟩
abbrev mX4_comes : Mth := (yX4_comes, cX4_comes, 6, (some .int), RX4, 0, 0)
abbrev cX4_look : ByteArray := prog_6_method_12_code
def yX4_look : MethodName := ⟨RX4, "look", "()V"⟩
abbrev mX4_look : Mth := (yX4_look, cX4_look, 4, none, RX4, 1, 25)
abbrev cX4_reach : ByteArray := prog_6_method_13_code
def yX4_reach : MethodName := ⟨RX4, "reach", "(I)I"⟩
abbrev mX4_reach : Mth := (yX4_reach, cX4_reach, 2, (some .int), RX4, 2, 48)
abbrev cX4_isSure : ByteArray := prog_6_method_14_code
def yX4_isSure : MethodName := ⟨RX4, "isSure", "(I)Z"⟩
abbrev mX4_isSure : Mth := (yX4_isSure, cX4_isSure, 2, (some .boolean), RX4, 2, 48)
abbrev cX4_open : ByteArray := prog_6_method_15_code
def yX4_open : MethodName := ⟨RX4, "open", "(II)V"⟩
abbrev mX4_open : Mth := (yX4_open, cX4_open, 4, none, RX4, 0, 0)
abbrev cX4_begin : ByteArray := prog_6_method_16_code
def yX4_begin : MethodName := ⟨RX4, "begin", "(I)I"⟩
abbrev mX4_begin : Mth := (yX4_begin, cX4_begin, 4, (some .int), RX4, 3, 69)
abbrev cX4_next : ByteArray := prog_6_method_17_code
def yX4_next : MethodName := ⟨RX4, "next", "(II)I"⟩
abbrev mX4_next : Mth := (yX4_next, cX4_next, 8, (some .int), RX4, 0, 0)
abbrev cX4_share : ByteArray := prog_6_method_18_code
def yX4_share : MethodName := ⟨RX4, "share", "(IIJJJ)V"⟩
abbrev mX4_share : Mth := (yX4_share, cX4_share, 11, none, RX4, 0, 0)
abbrev cX4_lay : ByteArray := prog_6_method_19_code
def yX4_lay : MethodName := ⟨RX4, "lay", "(IIJ)V"⟩
abbrev mX4_lay : Mth := (yX4_lay, cX4_lay, 13, none, RX4, 1, 30)
abbrev cX4_alike : ByteArray := prog_6_method_20_code
def yX4_alike : MethodName := ⟨RX4, "alike", "(IIII)I"⟩
abbrev mX4_alike : Mth := (yX4_alike, cX4_alike, 6, (some .int), RX4, 0, 0)
abbrev cX4_newItems : ByteArray := prog_6_method_21_code
def yX4_newItems : MethodName := ⟨RX4, "newItems", "(II)I"⟩
abbrev mX4_newItems : Mth := (yX4_newItems, cX4_newItems, 7, (some .int), RX4, 1, 25)
abbrev cX4_goOn : ByteArray := prog_6_method_22_code
def yX4_goOn : MethodName := ⟨RX4, "goOn", "(II)Z"⟩
abbrev mX4_goOn : Mth := (yX4_goOn, cX4_goOn, 11, (some .boolean), RX4, 2, 62)
abbrev cX4_grow : ByteArray := prog_6_method_23_code
def yX4_grow : MethodName := ⟨RX4, "grow", "(I)I"⟩
abbrev mX4_grow : Mth := (yX4_grow, cX4_grow, 3, (some .int), RX4, 3, 92)
abbrev cX4_isSet : ByteArray := prog_6_method_24_code
def yX4_isSet : MethodName := ⟨RX4, "isSet", "(I)Z"⟩
abbrev mX4_isSet : Mth := (yX4_isSet, cX4_isSet, 1, (some .boolean), RX4, 1, 22)
abbrev cX4_until : ByteArray := prog_6_method_25_code
def yX4_until : MethodName := ⟨RX4, "until", "(III)I"⟩
abbrev mX4_until : Mth := (yX4_until, cX4_until, 7, (some .int), RX4, 4, 94)
abbrev cX4_unended : ByteArray := prog_6_method_26_code
def yX4_unended : MethodName := ⟨RX4, "unended", "(II)J"⟩
abbrev mX4_unended : Mth := (yX4_unended, cX4_unended, 6, (some .long), RX4, 0, 0)
abbrev cX4_foundOf : ByteArray := prog_6_method_27_code
def yX4_foundOf : MethodName := ⟨RX4, "foundOf", "(II)J"⟩
abbrev mX4_foundOf : Mth := (yX4_foundOf, cX4_foundOf, 6, (some .long), RX4, 0, 0)
abbrev cX4_low : ByteArray := prog_6_method_28_code
def yX4_low : MethodName := ⟨RX4, "low", "(II)J"⟩
abbrev mX4_low : Mth := (yX4_low, cX4_low, 6, (some .long), RX4, 3, 69)
abbrev cX4_high : ByteArray := prog_6_method_29_code
def yX4_high : MethodName := ⟨RX4, "high", "(II)J"⟩
abbrev mX4_high : Mth := (yX4_high, cX4_high, 6, (some .long), RX4, 3, 69)
abbrev cX4_end : ByteArray := prog_6_method_30_code
def yX4_end : MethodName := ⟨RX4, "end", "(II)J"⟩
abbrev mX4_end : Mth := (yX4_end, cX4_end, 3, (some .long), RX4, 4, 94)
abbrev cX4_part : ByteArray := prog_6_method_31_code
def yX4_part : MethodName := ⟨RX4, "part", "(JJZ)I"⟩
abbrev mX4_part : Mth := (yX4_part, cX4_part, 9, (some .int), RX4, 0, 0)
abbrev cX4_given : ByteArray := prog_6_method_32_code
def yX4_given : MethodName := ⟨RX4, "given", "(III)I"⟩
abbrev mX4_given : Mth := (yX4_given, cX4_given, 10, (some .int), RX4, 4, 94)
abbrev cX4_best : ByteArray := prog_6_method_33_code
def yX4_best : MethodName := ⟨RX4, "best", "(II)I"⟩
abbrev mX4_best : Mth := (yX4_best, cX4_best, 10, (some .int), RX4, 4, 94)
abbrev cX4_item : ByteArray := prog_6_method_34_code
def yX4_item : MethodName := ⟨RX4, "item", "(II)I"⟩
abbrev mX4_item : Mth := (yX4_item, cX4_item, 3, (some .int), RX4, 1, 22)
abbrev cX4_units : ByteArray := prog_6_method_35_code
def yX4_units : MethodName := ⟨RX4, "units", "(I)J"⟩
abbrev mX4_units : Mth := (yX4_units, cX4_units, 2, (some .long), RX4, 1, 22)
abbrev cX4_found : ByteArray := prog_6_method_36_code
def yX4_found : MethodName := ⟨RX4, "found", "(I)J"⟩
abbrev mX4_found : Mth := (yX4_found, cX4_found, 2, (some .long), RX4, 1, 22)
abbrev cX4_rests : ByteArray := prog_6_method_37_code
def yX4_rests : MethodName := ⟨RX4, "rests", "(I)J"⟩
abbrev mX4_rests : Mth := (yX4_rests, cX4_rests, 2, (some .long), RX4, 2, 43)
abbrev cX4_copy : ByteArray := prog_6_method_38_code
def yX4_copy : MethodName := ⟨RX4, "copy", "(II)V"⟩
abbrev mX4_copy : Mth := (yX4_copy, cX4_copy, 4, none, RX4, 0, 0)
abbrev cX4_save : ByteArray := prog_6_method_39_code
def yX4_save : MethodName := ⟨RX4, "save", "(I)I"⟩
abbrev mX4_save : Mth := (yX4_save, cX4_save, 2, (some .int), RX4, 1, 23)
abbrev cX4_back : ByteArray := prog_6_method_40_code
def yX4_back : MethodName := ⟨RX4, "back", "(I)I"⟩
abbrev mX4_back : Mth := (yX4_back, cX4_back, 2, (some .int), RX4, 1, 23)
abbrev cX4_told : ByteArray := prog_6_method_41_code
def yX4_told : MethodName := ⟨RX4, "told", "(I)I"⟩
abbrev mX4_told : Mth := (yX4_told, cX4_told, 2, (some .int), RX4, 2, 43)
abbrev cJ9_min_7cf53 : ByteArray := prog_7_method_69_code
def yJ9_min_7cf53 : MethodName := ⟨RJ9, "min", "(II)I"⟩
abbrev mJ9_min_7cf53 : Mth := (yJ9_min_7cf53, cJ9_min_7cf53, 2, (some .int), RJ9, 0, 0)
abbrev cJ7_fill_d0a16 : ByteArray := prog_9_method_101_code
def yJ7_fill_d0a16 : MethodName := ⟨RJ7, "fill", "([JJ)V"⟩
abbrev mJ7_fill_d0a16 : Mth := (yJ7_fill_d0a16, cJ7_fill_d0a16, 5, none, RJ7, 0, 0)
abbrev cJ7_fill_53178 : ByteArray := prog_9_method_103_code
def yJ7_fill_53178 : MethodName := ⟨RJ7, "fill", "([II)V"⟩
abbrev mJ7_fill_53178 : Mth := (yJ7_fill_53178, cJ7_fill_53178, 4, none, RJ7, 0, 0)
abbrev cL_law : ByteArray := code
def yL_law : MethodName := ⟨RL, "law", "([I)Z"⟩
abbrev mL_law : Mth := (yL_law, cL_law, 4, ret, RL, 9, 356)
def clR (ci : Nat) : vw_C := vwCl.getD ci (RX0, TX0, 0)
def dG (μ : Mth) (pc ci j npc : Nat) : Prop := ∃ ix : Nat, decode μ.2.1 pc = .ok (.getfield ix, 3) ∧ npc = pc + 3 ∧ dW (.fieldLink μ.2.2.2.2.1 ix ((clR ci).2.1 j).1 ((clR ci).2.1 j).2.1 ((clR ci).2.1 j).2.2.1) ∧ j < (clR ci).2.2
def dP (μ : Mth) (pc ci j npc : Nat) : Prop := ∃ ix : Nat, decode μ.2.1 pc = .ok (.putfield ix, 3) ∧ npc = pc + 3 ∧ dW (.fieldLink μ.2.2.2.2.1 ix ((clR ci).2.1 j).1 ((clR ci).2.1 j).2.1 ((clR ci).2.1 j).2.2.1) ∧ j < (clR ci).2.2
def rOk (μ μ' : Mth) : Prop := μ'.2.2.2.2.2.1 + 1 ≤ μ.2.2.2.2.2.1 ∧ 8 + (μ'.2.2.1 + 11) + μ'.2.2.2.2.2.2 ≤ μ.2.2.2.2.2.2
def dV (μ : Mth) (pc : Nat) (μ' : Mth) (npc : Nat) : Prop := ∃ ix : Nat, decode μ.2.1 pc = .ok (.invokevirtual ix, 3) ∧ npc = pc + 3 ∧ dW (.methodLink μ.2.2.2.2.1 ix μ'.1) ∧ μ'.2.2.2.2.2.1 + 1 ≤ μ.2.2.2.2.2.1 ∧ 8 + (μ'.2.2.1 + 11) + μ'.2.2.2.2.2.2 ≤ μ.2.2.2.2.2.2
def dS (μ : Mth) (pc : Nat) (μ' : Mth) (npc : Nat) : Prop := ∃ ix : Nat, decode μ.2.1 pc = .ok (.invokestatic ix, 3) ∧ npc = pc + 3 ∧ dW (.methodLink μ.2.2.2.2.1 ix μ'.1) ∧ μ'.2.2.2.2.2.1 + 1 ≤ μ.2.2.2.2.2.1 ∧ 8 + (μ'.2.2.1 + 11) + μ'.2.2.2.2.2.2 ≤ μ.2.2.2.2.2.2
def dCp (μ : Mth) (pc npc : Nat) : Prop := ∃ ix : Nat, decode μ.2.1 pc = .ok (.invokestatic ix, 3) ∧ npc = pc + 3 ∧ dW (.methodLink μ.2.2.2.2.1 ix arraycopyName) ∧ 1 ≤ μ.2.2.2.2.2.1 ∧ 8 + (nativeFrameWords "java/lang/System" "arraycopy" 5 + 11) ≤ μ.2.2.2.2.2.2
def dMn (μ : Mth) (pc npc : Nat) : Prop := ∃ ix : Nat, decode μ.2.1 pc = .ok (.invokestatic ix, 3) ∧ npc = pc + 3 ∧ dW (.methodLink μ.2.2.2.2.1 ix Lib.Math.min.name) ∧ 1 ≤ μ.2.2.2.2.2.1 ∧ 8 + 13 ≤ μ.2.2.2.2.2.2
def okM (μ : Mth) : Prop := dW (.code μ.1 μ.2.1 μ.2.2.1 μ.2.2.2.1) ∧ dW (.initialized μ.1.cls) ∧ (μ.1.cls ≠ "java/lang/invoke/MethodHandle" ∧ μ.1.cls ≠ "java/lang/invoke/VarHandle") ∧ plainName μ.1.cls = true ∧ (parseMethodDescriptor μ.1.desc).isSome = true ∧ ((dW (.instanceMethod μ.1) ∧ dW (.selects μ.1.cls μ.1 μ.1)) ∨ dW (.static μ.1))
def nP (μ : Mth) : Nat := ((parseMethodDescriptor μ.1.desc).map (fun d => d.parameters.length)).getD 0
end
section
theorem aX0_init_0 : dAl mX0_init 0 0 1 := Or.inl ⟨0, by decide +kernel, rfl, rfl⟩
theorem aX0_init_4 : dAl mX0_init 4 0 5 := Or.inl ⟨0, by decide +kernel, rfl, rfl⟩
theorem aX0_init_5 : dKi mX0_init 5 ((-1)) 6 := Or.inl ⟨-1, by decide +kernel, by decide +kernel, rfl⟩
theorem aX0_init_6 : dP mX0_init 6 0 0 9 := ⟨9, by decide +kernel, rfl, dW_at 133 (by decide +kernel), by decide⟩
theorem aX0_init_9 : dAl mX0_init 9 0 10 := Or.inl ⟨0, by decide +kernel, rfl, rfl⟩
theorem aX0_init_10 : dKi mX0_init 10 (nI 60) 12 := Or.inr (Or.inl ⟨60, by decide +kernel, by decide +kernel, rfl⟩)
theorem aX0_init_14 : dP mX0_init 14 0 3 17 := ⟨15, by decide +kernel, rfl, dW_at 139 (by decide +kernel), by decide⟩
theorem aX0_init_17 : dAl mX0_init 17 0 18 := Or.inl ⟨0, by decide +kernel, rfl, rfl⟩
theorem aX0_init_18 : dKi mX0_init 18 (nI 60) 20 := Or.inr (Or.inl ⟨60, by decide +kernel, by decide +kernel, rfl⟩)
theorem aX0_init_22 : dP mX0_init 22 0 4 25 := ⟨19, by decide +kernel, rfl, dW_at 141 (by decide +kernel), by decide⟩
theorem aX0_init_25 : dAl mX0_init 25 0 26 := Or.inl ⟨0, by decide +kernel, rfl, rfl⟩
theorem aX0_init_26 : dKi mX0_init 26 (nI 60) 28 := Or.inr (Or.inl ⟨60, by decide +kernel, by decide +kernel, rfl⟩)
theorem aX0_init_30 : dP mX0_init 30 0 5 33 := ⟨22, by decide +kernel, rfl, dW_at 143 (by decide +kernel), by decide⟩
theorem aX0_init_33 : dAl mX0_init 33 0 34 := Or.inl ⟨0, by decide +kernel, rfl, rfl⟩
theorem aX0_init_34 : dKi mX0_init 34 (nI 8) 36 := Or.inr (Or.inl ⟨8, by decide +kernel, by decide +kernel, rfl⟩)
theorem aX0_init_38 : dP mX0_init 38 0 6 41 := ⟨26, by decide +kernel, rfl, dW_at 145 (by decide +kernel), by decide⟩
theorem aX0_init_41 : dAl mX0_init 41 0 42 := Or.inl ⟨0, by decide +kernel, rfl, rfl⟩
theorem aX0_init_42 : dKi mX0_init 42 (nI 20) 44 := Or.inr (Or.inl ⟨20, by decide +kernel, by decide +kernel, rfl⟩)
theorem aX0_init_46 : dP mX0_init 46 0 7 49 := ⟨29, by decide +kernel, rfl, dW_at 147 (by decide +kernel), by decide⟩
theorem aX0_init_49 : dAl mX0_init 49 0 50 := Or.inl ⟨0, by decide +kernel, rfl, rfl⟩
theorem aX0_init_50 : dKi mX0_init 50 (nI 20) 52 := Or.inr (Or.inl ⟨20, by decide +kernel, by decide +kernel, rfl⟩)
theorem aX0_init_54 : dP mX0_init 54 0 8 57 := ⟨32, by decide +kernel, rfl, dW_at 149 (by decide +kernel), by decide⟩
theorem aX0_init_57 : dk mX0_init 57 .return_ 1 58 := ⟨by decide +kernel, rfl⟩
theorem okX0_exists : okM mX0_exists := ⟨dW_at 320 (by decide +kernel), dW_at 30 (by decide +kernel), by decide +kernel, by decide +kernel, by decide +kernel, Or.inl ⟨dW_at 318 (by decide +kernel), dW_at 319 (by decide +kernel)⟩⟩
theorem aX0_exists_0 : dAl mX0_exists 0 0 1 := Or.inl ⟨0, by decide +kernel, rfl, rfl⟩
theorem aX0_exists_1 : dG mX0_exists 1 0 0 4 := ⟨9, by decide +kernel, rfl, dW_at 133 (by decide +kernel), by decide⟩
theorem aX0_exists_4 : dKi mX0_exists 4 ((-1)) 5 := Or.inl ⟨-1, by decide +kernel, by decide +kernel, rfl⟩
theorem aX0_exists_5 : dC mX0_exists 5 .eq 8 12 := ⟨7, by decide +kernel, by decide, rfl⟩
theorem aX0_exists_8 : dKi mX0_exists 8 (nI 1) 9 := Or.inl ⟨1, by decide +kernel, by decide +kernel, rfl⟩
theorem aX0_exists_9 : dJ mX0_exists 9 13 := ⟨4, by decide +kernel, by decide⟩
theorem aX0_exists_12 : dKi mX0_exists 12 (nI 0) 13 := Or.inl ⟨0, by decide +kernel, by decide +kernel, rfl⟩
theorem aX0_exists_13 : dk mX0_exists 13 .ireturn 1 14 := ⟨by decide +kernel, rfl⟩
theorem okX0_hasItem : okM mX0_hasItem := ⟨dW_at 336 (by decide +kernel), dW_at 30 (by decide +kernel), by decide +kernel, by decide +kernel, by decide +kernel, Or.inl ⟨dW_at 334 (by decide +kernel), dW_at 335 (by decide +kernel)⟩⟩
theorem aX0_hasItem_0 : dIl mX0_hasItem 0 1 1 := Or.inl ⟨1, by decide +kernel, rfl, rfl⟩
theorem aX0_hasItem_1 : dZ mX0_hasItem 1 .lt 4 16 := ⟨15, by decide +kernel, by decide, rfl⟩
theorem aX0_hasItem_4 : dIl mX0_hasItem 4 1 5 := Or.inl ⟨1, by decide +kernel, rfl, rfl⟩
theorem aX0_hasItem_5 : dAl mX0_hasItem 5 0 6 := Or.inl ⟨0, by decide +kernel, rfl, rfl⟩
theorem aX0_hasItem_6 : dG mX0_hasItem 6 0 2 9 := ⟨35, by decide +kernel, rfl, dW_at 137 (by decide +kernel), by decide⟩
theorem aX0_hasItem_9 : dC mX0_hasItem 9 .ge 12 16 := ⟨7, by decide +kernel, by decide, rfl⟩
theorem aX0_hasItem_12 : dKi mX0_hasItem 12 (nI 1) 13 := Or.inl ⟨1, by decide +kernel, by decide +kernel, rfl⟩
theorem aX0_hasItem_13 : dJ mX0_hasItem 13 17 := ⟨4, by decide +kernel, by decide⟩
theorem aX0_hasItem_16 : dKi mX0_hasItem 16 (nI 0) 17 := Or.inl ⟨0, by decide +kernel, by decide +kernel, rfl⟩
theorem aX0_hasItem_17 : dk mX0_hasItem 17 .ireturn 1 18 := ⟨by decide +kernel, rfl⟩
theorem okX0_forget : okM mX0_forget := ⟨dW_at 207 (by decide +kernel), dW_at 30 (by decide +kernel), by decide +kernel, by decide +kernel, by decide +kernel, Or.inl ⟨dW_at 205 (by decide +kernel), dW_at 206 (by decide +kernel)⟩⟩
theorem aX0_forget_0 : dAl mX0_forget 0 0 1 := Or.inl ⟨0, by decide +kernel, rfl, rfl⟩
theorem aX0_forget_1 : dKi mX0_forget 1 ((-1)) 2 := Or.inl ⟨-1, by decide +kernel, by decide +kernel, rfl⟩
theorem aX0_forget_2 : dP mX0_forget 2 0 0 5 := ⟨9, by decide +kernel, rfl, dW_at 133 (by decide +kernel), by decide⟩
theorem aX0_forget_5 : dAl mX0_forget 5 0 6 := Or.inl ⟨0, by decide +kernel, rfl, rfl⟩
theorem aX0_forget_6 : dKi mX0_forget 6 (nI 0) 7 := Or.inl ⟨0, by decide +kernel, by decide +kernel, rfl⟩
theorem aX0_forget_7 : dP mX0_forget 7 0 1 10 := ⟨38, by decide +kernel, rfl, dW_at 135 (by decide +kernel), by decide⟩
theorem aX0_forget_10 : dAl mX0_forget 10 0 11 := Or.inl ⟨0, by decide +kernel, rfl, rfl⟩
theorem aX0_forget_11 : dKi mX0_forget 11 (nI 0) 12 := Or.inl ⟨0, by decide +kernel, by decide +kernel, rfl⟩
theorem aX0_forget_12 : dP mX0_forget 12 0 2 15 := ⟨35, by decide +kernel, rfl, dW_at 137 (by decide +kernel), by decide⟩
theorem aX0_forget_15 : dk mX0_forget 15 .return_ 1 16 := ⟨by decide +kernel, rfl⟩
theorem okX0_beginAt : okM mX0_beginAt := ⟨dW_at 304 (by decide +kernel), dW_at 30 (by decide +kernel), by decide +kernel, by decide +kernel, by decide +kernel, Or.inl ⟨dW_at 302 (by decide +kernel), dW_at 303 (by decide +kernel)⟩⟩
theorem aX0_beginAt_0 : dAl mX0_beginAt 0 0 1 := Or.inl ⟨0, by decide +kernel, rfl, rfl⟩
theorem aX0_beginAt_1 : dIl mX0_beginAt 1 1 2 := Or.inl ⟨1, by decide +kernel, rfl, rfl⟩
theorem aX0_beginAt_2 : dP mX0_beginAt 2 0 0 5 := ⟨9, by decide +kernel, rfl, dW_at 133 (by decide +kernel), by decide⟩
theorem aX0_beginAt_5 : dAl mX0_beginAt 5 0 6 := Or.inl ⟨0, by decide +kernel, rfl, rfl⟩
theorem aX0_beginAt_6 : dKi mX0_beginAt 6 (nI 0) 7 := Or.inl ⟨0, by decide +kernel, by decide +kernel, rfl⟩
theorem aX0_beginAt_7 : dP mX0_beginAt 7 0 1 10 := ⟨38, by decide +kernel, rfl, dW_at 135 (by decide +kernel), by decide⟩
theorem aX0_beginAt_10 : dAl mX0_beginAt 10 0 11 := Or.inl ⟨0, by decide +kernel, rfl, rfl⟩
theorem aX0_beginAt_11 : dKi mX0_beginAt 11 (nI 0) 12 := Or.inl ⟨0, by decide +kernel, by decide +kernel, rfl⟩
theorem aX0_beginAt_12 : dP mX0_beginAt 12 0 2 15 := ⟨35, by decide +kernel, rfl, dW_at 137 (by decide +kernel), by decide⟩
theorem aX0_beginAt_15 : dAl mX0_beginAt 15 0 16 := Or.inl ⟨0, by decide +kernel, rfl, rfl⟩
theorem aX0_beginAt_16 : dG mX0_beginAt 16 0 6 19 := ⟨26, by decide +kernel, rfl, dW_at 145 (by decide +kernel), by decide⟩
theorem aX0_beginAt_19 : dKl mX0_beginAt 19 (lN 0) 20 := Or.inl ⟨0, by decide +kernel, rfl, rfl⟩
theorem aX0_beginAt_20 : dS mX0_beginAt 20 mJ7_fill_d0a16 23 := ⟨41, by decide +kernel, rfl, dW_at 305 (by decide +kernel), by decide⟩
theorem aX0_beginAt_23 : dAl mX0_beginAt 23 0 24 := Or.inl ⟨0, by decide +kernel, rfl, rfl⟩
theorem aX0_beginAt_24 : dG mX0_beginAt 24 0 7 27 := ⟨29, by decide +kernel, rfl, dW_at 147 (by decide +kernel), by decide⟩
theorem aX0_beginAt_27 : dKl mX0_beginAt 27 (lN 0) 28 := Or.inl ⟨0, by decide +kernel, rfl, rfl⟩
theorem aX0_beginAt_28 : dS mX0_beginAt 28 mJ7_fill_d0a16 31 := ⟨41, by decide +kernel, rfl, dW_at 305 (by decide +kernel), by decide⟩
theorem aX0_beginAt_31 : dAl mX0_beginAt 31 0 32 := Or.inl ⟨0, by decide +kernel, rfl, rfl⟩
theorem aX0_beginAt_32 : dG mX0_beginAt 32 0 8 35 := ⟨32, by decide +kernel, rfl, dW_at 149 (by decide +kernel), by decide⟩
theorem aX0_beginAt_35 : dKl mX0_beginAt 35 (lN 0) 36 := Or.inl ⟨0, by decide +kernel, rfl, rfl⟩
theorem aX0_beginAt_36 : dS mX0_beginAt 36 mJ7_fill_d0a16 39 := ⟨41, by decide +kernel, rfl, dW_at 305 (by decide +kernel), by decide⟩
theorem aX0_beginAt_39 : dAl mX0_beginAt 39 0 40 := Or.inl ⟨0, by decide +kernel, rfl, rfl⟩
theorem aX0_beginAt_40 : dIl mX0_beginAt 40 1 41 := Or.inl ⟨1, by decide +kernel, rfl, rfl⟩
theorem aX0_beginAt_41 : dKi mX0_beginAt 41 (nI 0) 42 := Or.inl ⟨0, by decide +kernel, by decide +kernel, rfl⟩
theorem aX0_beginAt_42 : dKl mX0_beginAt 42 (lN 1152921504606846976) 45 := Or.inr ⟨47, by decide +kernel, dW_at 308 (by decide +kernel), rfl⟩
theorem aX0_beginAt_45 : dV mX0_beginAt 45 mX0_addItem 48 := ⟨49, by decide +kernel, rfl, dW_at 309 (by decide +kernel), by decide⟩
theorem aX0_beginAt_48 : dk mX0_beginAt 48 .return_ 1 49 := ⟨by decide +kernel, rfl⟩
theorem okX0_copyFrom : okM mX0_copyFrom := ⟨dW_at 470 (by decide +kernel), dW_at 30 (by decide +kernel), by decide +kernel, by decide +kernel, by decide +kernel, Or.inl ⟨dW_at 468 (by decide +kernel), dW_at 469 (by decide +kernel)⟩⟩
theorem aX0_copyFrom_0 : dAl mX0_copyFrom 0 0 1 := Or.inl ⟨0, by decide +kernel, rfl, rfl⟩
theorem aX0_copyFrom_1 : dAl mX0_copyFrom 1 1 2 := Or.inl ⟨1, by decide +kernel, rfl, rfl⟩
theorem aX0_copyFrom_2 : dG mX0_copyFrom 2 0 0 5 := ⟨9, by decide +kernel, rfl, dW_at 133 (by decide +kernel), by decide⟩
theorem aX0_copyFrom_5 : dP mX0_copyFrom 5 0 0 8 := ⟨9, by decide +kernel, rfl, dW_at 133 (by decide +kernel), by decide⟩
theorem aX0_copyFrom_8 : dAl mX0_copyFrom 8 0 9 := Or.inl ⟨0, by decide +kernel, rfl, rfl⟩
theorem aX0_copyFrom_9 : dAl mX0_copyFrom 9 1 10 := Or.inl ⟨1, by decide +kernel, rfl, rfl⟩
theorem aX0_copyFrom_10 : dG mX0_copyFrom 10 0 1 13 := ⟨38, by decide +kernel, rfl, dW_at 135 (by decide +kernel), by decide⟩
theorem aX0_copyFrom_13 : dP mX0_copyFrom 13 0 1 16 := ⟨38, by decide +kernel, rfl, dW_at 135 (by decide +kernel), by decide⟩
theorem aX0_copyFrom_16 : dAl mX0_copyFrom 16 0 17 := Or.inl ⟨0, by decide +kernel, rfl, rfl⟩
theorem aX0_copyFrom_17 : dAl mX0_copyFrom 17 1 18 := Or.inl ⟨1, by decide +kernel, rfl, rfl⟩
theorem aX0_copyFrom_18 : dG mX0_copyFrom 18 0 2 21 := ⟨35, by decide +kernel, rfl, dW_at 137 (by decide +kernel), by decide⟩
theorem aX0_copyFrom_21 : dP mX0_copyFrom 21 0 2 24 := ⟨35, by decide +kernel, rfl, dW_at 137 (by decide +kernel), by decide⟩
theorem aX0_copyFrom_24 : dAl mX0_copyFrom 24 1 25 := Or.inl ⟨1, by decide +kernel, rfl, rfl⟩
theorem aX0_copyFrom_25 : dG mX0_copyFrom 25 0 3 28 := ⟨15, by decide +kernel, rfl, dW_at 139 (by decide +kernel), by decide⟩
theorem aX0_copyFrom_28 : dKi mX0_copyFrom 28 (nI 0) 29 := Or.inl ⟨0, by decide +kernel, by decide +kernel, rfl⟩
theorem aX0_copyFrom_29 : dAl mX0_copyFrom 29 0 30 := Or.inl ⟨0, by decide +kernel, rfl, rfl⟩
theorem aX0_copyFrom_30 : dG mX0_copyFrom 30 0 3 33 := ⟨15, by decide +kernel, rfl, dW_at 139 (by decide +kernel), by decide⟩
theorem aX0_copyFrom_33 : dKi mX0_copyFrom 33 (nI 0) 34 := Or.inl ⟨0, by decide +kernel, by decide +kernel, rfl⟩
theorem aX0_copyFrom_34 : dKi mX0_copyFrom 34 (nI 60) 36 := Or.inr (Or.inl ⟨60, by decide +kernel, by decide +kernel, rfl⟩)
theorem aX0_copyFrom_36 : dCp mX0_copyFrom 36 39 := ⟨53, by decide +kernel, rfl, dW_at 341 (by decide +kernel), by decide⟩
theorem aX0_copyFrom_39 : dAl mX0_copyFrom 39 1 40 := Or.inl ⟨1, by decide +kernel, rfl, rfl⟩
theorem aX0_copyFrom_40 : dG mX0_copyFrom 40 0 4 43 := ⟨19, by decide +kernel, rfl, dW_at 141 (by decide +kernel), by decide⟩
theorem aX0_copyFrom_43 : dKi mX0_copyFrom 43 (nI 0) 44 := Or.inl ⟨0, by decide +kernel, by decide +kernel, rfl⟩
theorem aX0_copyFrom_44 : dAl mX0_copyFrom 44 0 45 := Or.inl ⟨0, by decide +kernel, rfl, rfl⟩
theorem aX0_copyFrom_45 : dG mX0_copyFrom 45 0 4 48 := ⟨19, by decide +kernel, rfl, dW_at 141 (by decide +kernel), by decide⟩
theorem aX0_copyFrom_48 : dKi mX0_copyFrom 48 (nI 0) 49 := Or.inl ⟨0, by decide +kernel, by decide +kernel, rfl⟩
theorem aX0_copyFrom_49 : dKi mX0_copyFrom 49 (nI 60) 51 := Or.inr (Or.inl ⟨60, by decide +kernel, by decide +kernel, rfl⟩)
theorem aX0_copyFrom_51 : dCp mX0_copyFrom 51 54 := ⟨53, by decide +kernel, rfl, dW_at 341 (by decide +kernel), by decide⟩
theorem aX0_copyFrom_54 : dAl mX0_copyFrom 54 1 55 := Or.inl ⟨1, by decide +kernel, rfl, rfl⟩
theorem aX0_copyFrom_55 : dG mX0_copyFrom 55 0 5 58 := ⟨22, by decide +kernel, rfl, dW_at 143 (by decide +kernel), by decide⟩
theorem aX0_copyFrom_58 : dKi mX0_copyFrom 58 (nI 0) 59 := Or.inl ⟨0, by decide +kernel, by decide +kernel, rfl⟩
theorem aX0_copyFrom_59 : dAl mX0_copyFrom 59 0 60 := Or.inl ⟨0, by decide +kernel, rfl, rfl⟩
theorem aX0_copyFrom_60 : dG mX0_copyFrom 60 0 5 63 := ⟨22, by decide +kernel, rfl, dW_at 143 (by decide +kernel), by decide⟩
theorem aX0_copyFrom_63 : dKi mX0_copyFrom 63 (nI 0) 64 := Or.inl ⟨0, by decide +kernel, by decide +kernel, rfl⟩
theorem aX0_copyFrom_64 : dKi mX0_copyFrom 64 (nI 60) 66 := Or.inr (Or.inl ⟨60, by decide +kernel, by decide +kernel, rfl⟩)
theorem aX0_copyFrom_66 : dCp mX0_copyFrom 66 69 := ⟨53, by decide +kernel, rfl, dW_at 341 (by decide +kernel), by decide⟩
theorem aX0_copyFrom_69 : dAl mX0_copyFrom 69 1 70 := Or.inl ⟨1, by decide +kernel, rfl, rfl⟩
theorem aX0_copyFrom_70 : dG mX0_copyFrom 70 0 6 73 := ⟨26, by decide +kernel, rfl, dW_at 145 (by decide +kernel), by decide⟩
theorem aX0_copyFrom_73 : dKi mX0_copyFrom 73 (nI 0) 74 := Or.inl ⟨0, by decide +kernel, by decide +kernel, rfl⟩
theorem aX0_copyFrom_74 : dAl mX0_copyFrom 74 0 75 := Or.inl ⟨0, by decide +kernel, rfl, rfl⟩
theorem aX0_copyFrom_75 : dG mX0_copyFrom 75 0 6 78 := ⟨26, by decide +kernel, rfl, dW_at 145 (by decide +kernel), by decide⟩
theorem aX0_copyFrom_78 : dKi mX0_copyFrom 78 (nI 0) 79 := Or.inl ⟨0, by decide +kernel, by decide +kernel, rfl⟩
theorem aX0_copyFrom_79 : dKi mX0_copyFrom 79 (nI 8) 81 := Or.inr (Or.inl ⟨8, by decide +kernel, by decide +kernel, rfl⟩)
theorem aX0_copyFrom_81 : dCp mX0_copyFrom 81 84 := ⟨53, by decide +kernel, rfl, dW_at 341 (by decide +kernel), by decide⟩
theorem aX0_copyFrom_84 : dAl mX0_copyFrom 84 1 85 := Or.inl ⟨1, by decide +kernel, rfl, rfl⟩
theorem aX0_copyFrom_85 : dG mX0_copyFrom 85 0 7 88 := ⟨29, by decide +kernel, rfl, dW_at 147 (by decide +kernel), by decide⟩
theorem aX0_copyFrom_88 : dKi mX0_copyFrom 88 (nI 0) 89 := Or.inl ⟨0, by decide +kernel, by decide +kernel, rfl⟩
theorem aX0_copyFrom_89 : dAl mX0_copyFrom 89 0 90 := Or.inl ⟨0, by decide +kernel, rfl, rfl⟩
theorem aX0_copyFrom_90 : dG mX0_copyFrom 90 0 7 93 := ⟨29, by decide +kernel, rfl, dW_at 147 (by decide +kernel), by decide⟩
theorem aX0_copyFrom_93 : dKi mX0_copyFrom 93 (nI 0) 94 := Or.inl ⟨0, by decide +kernel, by decide +kernel, rfl⟩
theorem aX0_copyFrom_94 : dKi mX0_copyFrom 94 (nI 20) 96 := Or.inr (Or.inl ⟨20, by decide +kernel, by decide +kernel, rfl⟩)
theorem aX0_copyFrom_96 : dCp mX0_copyFrom 96 99 := ⟨53, by decide +kernel, rfl, dW_at 341 (by decide +kernel), by decide⟩
theorem aX0_copyFrom_99 : dAl mX0_copyFrom 99 1 100 := Or.inl ⟨1, by decide +kernel, rfl, rfl⟩
theorem aX0_copyFrom_100 : dG mX0_copyFrom 100 0 8 103 := ⟨32, by decide +kernel, rfl, dW_at 149 (by decide +kernel), by decide⟩
theorem aX0_copyFrom_103 : dKi mX0_copyFrom 103 (nI 0) 104 := Or.inl ⟨0, by decide +kernel, by decide +kernel, rfl⟩
theorem aX0_copyFrom_104 : dAl mX0_copyFrom 104 0 105 := Or.inl ⟨0, by decide +kernel, rfl, rfl⟩
theorem aX0_copyFrom_105 : dG mX0_copyFrom 105 0 8 108 := ⟨32, by decide +kernel, rfl, dW_at 149 (by decide +kernel), by decide⟩
theorem aX0_copyFrom_108 : dKi mX0_copyFrom 108 (nI 0) 109 := Or.inl ⟨0, by decide +kernel, by decide +kernel, rfl⟩
theorem aX0_copyFrom_109 : dKi mX0_copyFrom 109 (nI 20) 111 := Or.inr (Or.inl ⟨20, by decide +kernel, by decide +kernel, rfl⟩)
theorem aX0_copyFrom_111 : dCp mX0_copyFrom 111 114 := ⟨53, by decide +kernel, rfl, dW_at 341 (by decide +kernel), by decide⟩
theorem aX0_copyFrom_114 : dk mX0_copyFrom 114 .return_ 1 115 := ⟨by decide +kernel, rfl⟩
theorem okX0_nextBy : okM mX0_nextBy := ⟨dW_at 332 (by decide +kernel), dW_at 30 (by decide +kernel), by decide +kernel, by decide +kernel, by decide +kernel, Or.inl ⟨dW_at 330 (by decide +kernel), dW_at 331 (by decide +kernel)⟩⟩
theorem aX0_nextBy_0 : dAl mX0_nextBy 0 0 1 := Or.inl ⟨0, by decide +kernel, rfl, rfl⟩
theorem aX0_nextBy_1 : dG mX0_nextBy 1 0 2 4 := ⟨35, by decide +kernel, rfl, dW_at 137 (by decide +kernel), by decide⟩
theorem aX0_nextBy_4 : dZ mX0_nextBy 4 .ne 7 9 := ⟨5, by decide +kernel, by decide, rfl⟩
theorem aX0_nextBy_7 : dKi mX0_nextBy 7 ((-1)) 8 := Or.inl ⟨-1, by decide +kernel, by decide +kernel, rfl⟩
theorem aX0_nextBy_8 : dk mX0_nextBy 8 .ireturn 1 9 := ⟨by decide +kernel, rfl⟩
theorem aX0_nextBy_9 : dIl mX0_nextBy 9 1 10 := Or.inl ⟨1, by decide +kernel, rfl, rfl⟩
theorem aX0_nextBy_10 : dKi mX0_nextBy 10 (nI 2) 11 := Or.inl ⟨2, by decide +kernel, by decide +kernel, rfl⟩
theorem aX0_nextBy_11 : dC mX0_nextBy 11 .ne 14 21 := ⟨10, by decide +kernel, by decide, rfl⟩
theorem aX0_nextBy_14 : dAl mX0_nextBy 14 0 15 := Or.inl ⟨0, by decide +kernel, rfl, rfl⟩
theorem aX0_nextBy_15 : dG mX0_nextBy 15 0 2 18 := ⟨35, by decide +kernel, rfl, dW_at 137 (by decide +kernel), by decide⟩
theorem aX0_nextBy_18 : dKi mX0_nextBy 18 (nI 1) 19 := Or.inl ⟨1, by decide +kernel, by decide +kernel, rfl⟩
theorem aX0_nextBy_19 : dk mX0_nextBy 19 .isub 1 20 := ⟨by decide +kernel, rfl⟩
theorem aX0_nextBy_20 : dk mX0_nextBy 20 .ireturn 1 21 := ⟨by decide +kernel, rfl⟩
theorem aX0_nextBy_21 : dKi mX0_nextBy 21 (nI 0) 22 := Or.inl ⟨0, by decide +kernel, by decide +kernel, rfl⟩
theorem aX0_nextBy_22 : dIs mX0_nextBy 22 2 23 := ⟨Or.inl ⟨2, by decide +kernel, rfl, rfl⟩, by decide⟩
theorem aX0_nextBy_23 : dKi mX0_nextBy 23 (nI 1) 24 := Or.inl ⟨1, by decide +kernel, by decide +kernel, rfl⟩
theorem aX0_nextBy_24 : dIs mX0_nextBy 24 3 25 := ⟨Or.inl ⟨3, by decide +kernel, rfl, rfl⟩, by decide⟩
theorem aX0_nextBy_25 : dIl mX0_nextBy 25 3 26 := Or.inl ⟨3, by decide +kernel, rfl, rfl⟩
theorem aX0_nextBy_26 : dAl mX0_nextBy 26 0 27 := Or.inl ⟨0, by decide +kernel, rfl, rfl⟩
theorem aX0_nextBy_27 : dG mX0_nextBy 27 0 2 30 := ⟨35, by decide +kernel, rfl, dW_at 137 (by decide +kernel), by decide⟩
theorem aX0_nextBy_30 : dC mX0_nextBy 30 .ge 33 80 := ⟨50, by decide +kernel, by decide, rfl⟩
theorem aX0_nextBy_33 : dIl mX0_nextBy 33 1 34 := Or.inl ⟨1, by decide +kernel, rfl, rfl⟩
theorem aX0_nextBy_34 : dKi mX0_nextBy 34 (nI 1) 35 := Or.inl ⟨1, by decide +kernel, by decide +kernel, rfl⟩
theorem aX0_nextBy_35 : dC mX0_nextBy 35 .ne 38 57 := ⟨22, by decide +kernel, by decide, rfl⟩
theorem aX0_nextBy_38 : dAl mX0_nextBy 38 0 39 := Or.inl ⟨0, by decide +kernel, rfl, rfl⟩
theorem aX0_nextBy_39 : dG mX0_nextBy 39 0 5 42 := ⟨22, by decide +kernel, rfl, dW_at 143 (by decide +kernel), by decide⟩
theorem aX0_nextBy_42 : dIl mX0_nextBy 42 3 43 := Or.inl ⟨3, by decide +kernel, rfl, rfl⟩
theorem aX0_nextBy_43 : dk mX0_nextBy 43 .laload 1 44 := ⟨by decide +kernel, rfl⟩
theorem aX0_nextBy_44 : dAl mX0_nextBy 44 0 45 := Or.inl ⟨0, by decide +kernel, rfl, rfl⟩
theorem aX0_nextBy_45 : dG mX0_nextBy 45 0 5 48 := ⟨22, by decide +kernel, rfl, dW_at 143 (by decide +kernel), by decide⟩
theorem aX0_nextBy_48 : dIl mX0_nextBy 48 2 49 := Or.inl ⟨2, by decide +kernel, rfl, rfl⟩
theorem aX0_nextBy_49 : dk mX0_nextBy 49 .laload 1 50 := ⟨by decide +kernel, rfl⟩
theorem aX0_nextBy_50 : dk mX0_nextBy 50 .lcmp 1 51 := ⟨by decide +kernel, rfl⟩
theorem aX0_nextBy_51 : dZ mX0_nextBy 51 .le 54 74 := ⟨23, by decide +kernel, by decide, rfl⟩
theorem aX0_nextBy_54 : dJ mX0_nextBy 54 72 := ⟨18, by decide +kernel, by decide⟩
theorem aX0_nextBy_57 : dAl mX0_nextBy 57 0 58 := Or.inl ⟨0, by decide +kernel, rfl, rfl⟩
theorem aX0_nextBy_58 : dG mX0_nextBy 58 0 4 61 := ⟨19, by decide +kernel, rfl, dW_at 141 (by decide +kernel), by decide⟩
theorem aX0_nextBy_61 : dIl mX0_nextBy 61 3 62 := Or.inl ⟨3, by decide +kernel, rfl, rfl⟩
theorem aX0_nextBy_62 : dk mX0_nextBy 62 .iaload 1 63 := ⟨by decide +kernel, rfl⟩
theorem aX0_nextBy_63 : dAl mX0_nextBy 63 0 64 := Or.inl ⟨0, by decide +kernel, rfl, rfl⟩
theorem aX0_nextBy_64 : dG mX0_nextBy 64 0 4 67 := ⟨19, by decide +kernel, rfl, dW_at 141 (by decide +kernel), by decide⟩
theorem aX0_nextBy_67 : dIl mX0_nextBy 67 2 68 := Or.inl ⟨2, by decide +kernel, rfl, rfl⟩
theorem aX0_nextBy_68 : dk mX0_nextBy 68 .iaload 1 69 := ⟨by decide +kernel, rfl⟩
theorem aX0_nextBy_69 : dC mX0_nextBy 69 .ge 72 74 := ⟨5, by decide +kernel, by decide, rfl⟩
theorem aX0_nextBy_72 : dIl mX0_nextBy 72 3 73 := Or.inl ⟨3, by decide +kernel, rfl, rfl⟩
theorem aX0_nextBy_73 : dIs mX0_nextBy 73 2 74 := ⟨Or.inl ⟨2, by decide +kernel, rfl, rfl⟩, by decide⟩
theorem aX0_nextBy_74 : dIn mX0_nextBy 74 3 (nI 1) 77 := ⟨1, by decide +kernel, by decide +kernel, rfl, by decide⟩
theorem aX0_nextBy_77 : dJ mX0_nextBy 77 25 := ⟨-52, by decide +kernel, by decide⟩
theorem aX0_nextBy_80 : dIl mX0_nextBy 80 2 81 := Or.inl ⟨2, by decide +kernel, rfl, rfl⟩
theorem aX0_nextBy_81 : dk mX0_nextBy 81 .ireturn 1 82 := ⟨by decide +kernel, rfl⟩
theorem okX0_addItem : okM mX0_addItem := ⟨dW_at 312 (by decide +kernel), dW_at 30 (by decide +kernel), by decide +kernel, by decide +kernel, by decide +kernel, Or.inl ⟨dW_at 310 (by decide +kernel), dW_at 311 (by decide +kernel)⟩⟩
theorem aX0_addItem_0 : dAl mX0_addItem 0 0 1 := Or.inl ⟨0, by decide +kernel, rfl, rfl⟩
theorem aX0_addItem_1 : dG mX0_addItem 1 0 2 4 := ⟨35, by decide +kernel, rfl, dW_at 137 (by decide +kernel), by decide⟩
theorem aX0_addItem_4 : dKi mX0_addItem 4 (nI 60) 6 := Or.inr (Or.inl ⟨60, by decide +kernel, by decide +kernel, rfl⟩)
theorem aX0_addItem_6 : dC mX0_addItem 6 .lt 9 10 := ⟨4, by decide +kernel, by decide, rfl⟩
theorem aX0_addItem_9 : dk mX0_addItem 9 .return_ 1 10 := ⟨by decide +kernel, rfl⟩
theorem aX0_addItem_10 : dAl mX0_addItem 10 0 11 := Or.inl ⟨0, by decide +kernel, rfl, rfl⟩
theorem aX0_addItem_11 : dG mX0_addItem 11 0 3 14 := ⟨15, by decide +kernel, rfl, dW_at 139 (by decide +kernel), by decide⟩
theorem aX0_addItem_14 : dAl mX0_addItem 14 0 15 := Or.inl ⟨0, by decide +kernel, rfl, rfl⟩
theorem aX0_addItem_15 : dG mX0_addItem 15 0 2 18 := ⟨35, by decide +kernel, rfl, dW_at 137 (by decide +kernel), by decide⟩
theorem aX0_addItem_18 : dIl mX0_addItem 18 1 19 := Or.inl ⟨1, by decide +kernel, rfl, rfl⟩
theorem aX0_addItem_19 : dk mX0_addItem 19 .iastore 1 20 := ⟨by decide +kernel, rfl⟩
theorem aX0_addItem_20 : dAl mX0_addItem 20 0 21 := Or.inl ⟨0, by decide +kernel, rfl, rfl⟩
theorem aX0_addItem_21 : dG mX0_addItem 21 0 4 24 := ⟨19, by decide +kernel, rfl, dW_at 141 (by decide +kernel), by decide⟩
theorem aX0_addItem_24 : dAl mX0_addItem 24 0 25 := Or.inl ⟨0, by decide +kernel, rfl, rfl⟩
theorem aX0_addItem_25 : dG mX0_addItem 25 0 2 28 := ⟨35, by decide +kernel, rfl, dW_at 137 (by decide +kernel), by decide⟩
theorem aX0_addItem_28 : dIl mX0_addItem 28 2 29 := Or.inl ⟨2, by decide +kernel, rfl, rfl⟩
theorem aX0_addItem_29 : dk mX0_addItem 29 .iastore 1 30 := ⟨by decide +kernel, rfl⟩
theorem aX0_addItem_30 : dAl mX0_addItem 30 0 31 := Or.inl ⟨0, by decide +kernel, rfl, rfl⟩
theorem aX0_addItem_31 : dG mX0_addItem 31 0 5 34 := ⟨22, by decide +kernel, rfl, dW_at 143 (by decide +kernel), by decide⟩
theorem aX0_addItem_34 : dAl mX0_addItem 34 0 35 := Or.inl ⟨0, by decide +kernel, rfl, rfl⟩
theorem aX0_addItem_35 : dG mX0_addItem 35 0 2 38 := ⟨35, by decide +kernel, rfl, dW_at 137 (by decide +kernel), by decide⟩
theorem aX0_addItem_38 : dLl mX0_addItem 38 3 39 := Or.inl ⟨3, by decide +kernel, rfl, rfl⟩
theorem aX0_addItem_39 : dk mX0_addItem 39 .lastore 1 40 := ⟨by decide +kernel, rfl⟩
theorem aX0_addItem_40 : dAl mX0_addItem 40 0 41 := Or.inl ⟨0, by decide +kernel, rfl, rfl⟩
theorem aX0_addItem_41 : dk mX0_addItem 41 .dup 1 42 := ⟨by decide +kernel, rfl⟩
theorem aX0_addItem_42 : dG mX0_addItem 42 0 2 45 := ⟨35, by decide +kernel, rfl, dW_at 137 (by decide +kernel), by decide⟩
theorem aX0_addItem_45 : dKi mX0_addItem 45 (nI 1) 46 := Or.inl ⟨1, by decide +kernel, by decide +kernel, rfl⟩
theorem aX0_addItem_46 : dk mX0_addItem 46 .iadd 1 47 := ⟨by decide +kernel, rfl⟩
theorem aX0_addItem_47 : dP mX0_addItem 47 0 2 50 := ⟨35, by decide +kernel, rfl, dW_at 137 (by decide +kernel), by decide⟩
theorem aX0_addItem_50 : dAl mX0_addItem 50 0 51 := Or.inl ⟨0, by decide +kernel, rfl, rfl⟩
theorem aX0_addItem_51 : dG mX0_addItem 51 0 8 54 := ⟨32, by decide +kernel, rfl, dW_at 149 (by decide +kernel), by decide⟩
theorem aX0_addItem_54 : dIl mX0_addItem 54 1 55 := Or.inl ⟨1, by decide +kernel, rfl, rfl⟩
theorem aX0_addItem_55 : dk mX0_addItem 55 .dup2 1 56 := ⟨by decide +kernel, rfl⟩
theorem aX0_addItem_56 : dk mX0_addItem 56 .laload 1 57 := ⟨by decide +kernel, rfl⟩
theorem aX0_addItem_57 : dLl mX0_addItem 57 3 58 := Or.inl ⟨3, by decide +kernel, rfl, rfl⟩
theorem aX0_addItem_58 : dk mX0_addItem 58 .ladd 1 59 := ⟨by decide +kernel, rfl⟩
theorem aX0_addItem_59 : dk mX0_addItem 59 .lastore 1 60 := ⟨by decide +kernel, rfl⟩
theorem aX0_addItem_60 : dk mX0_addItem 60 .return_ 1 61 := ⟨by decide +kernel, rfl⟩
theorem okX0_takeOut : okM mX0_takeOut := ⟨dW_at 340 (by decide +kernel), dW_at 30 (by decide +kernel), by decide +kernel, by decide +kernel, by decide +kernel, Or.inl ⟨dW_at 338 (by decide +kernel), dW_at 339 (by decide +kernel)⟩⟩
theorem aX0_takeOut_0 : dAl mX0_takeOut 0 0 1 := Or.inl ⟨0, by decide +kernel, rfl, rfl⟩
theorem aX0_takeOut_1 : dG mX0_takeOut 1 0 8 4 := ⟨32, by decide +kernel, rfl, dW_at 149 (by decide +kernel), by decide⟩
theorem aX0_takeOut_4 : dAl mX0_takeOut 4 0 5 := Or.inl ⟨0, by decide +kernel, rfl, rfl⟩
theorem aX0_takeOut_5 : dG mX0_takeOut 5 0 3 8 := ⟨15, by decide +kernel, rfl, dW_at 139 (by decide +kernel), by decide⟩
theorem aX0_takeOut_8 : dIl mX0_takeOut 8 1 9 := Or.inl ⟨1, by decide +kernel, rfl, rfl⟩
theorem aX0_takeOut_9 : dk mX0_takeOut 9 .iaload 1 10 := ⟨by decide +kernel, rfl⟩
theorem aX0_takeOut_10 : dk mX0_takeOut 10 .dup2 1 11 := ⟨by decide +kernel, rfl⟩
theorem aX0_takeOut_11 : dk mX0_takeOut 11 .laload 1 12 := ⟨by decide +kernel, rfl⟩
theorem aX0_takeOut_12 : dAl mX0_takeOut 12 0 13 := Or.inl ⟨0, by decide +kernel, rfl, rfl⟩
theorem aX0_takeOut_13 : dG mX0_takeOut 13 0 5 16 := ⟨22, by decide +kernel, rfl, dW_at 143 (by decide +kernel), by decide⟩
theorem aX0_takeOut_16 : dIl mX0_takeOut 16 1 17 := Or.inl ⟨1, by decide +kernel, rfl, rfl⟩
theorem aX0_takeOut_17 : dk mX0_takeOut 17 .laload 1 18 := ⟨by decide +kernel, rfl⟩
theorem aX0_takeOut_18 : dk mX0_takeOut 18 .lsub 1 19 := ⟨by decide +kernel, rfl⟩
theorem aX0_takeOut_19 : dk mX0_takeOut 19 .lastore 1 20 := ⟨by decide +kernel, rfl⟩
theorem aX0_takeOut_20 : dAl mX0_takeOut 20 0 21 := Or.inl ⟨0, by decide +kernel, rfl, rfl⟩
theorem aX0_takeOut_21 : dG mX0_takeOut 21 0 2 24 := ⟨35, by decide +kernel, rfl, dW_at 137 (by decide +kernel), by decide⟩
theorem aX0_takeOut_24 : dIl mX0_takeOut 24 1 25 := Or.inl ⟨1, by decide +kernel, rfl, rfl⟩
theorem aX0_takeOut_25 : dk mX0_takeOut 25 .isub 1 26 := ⟨by decide +kernel, rfl⟩
theorem aX0_takeOut_26 : dKi mX0_takeOut 26 (nI 1) 27 := Or.inl ⟨1, by decide +kernel, by decide +kernel, rfl⟩
theorem aX0_takeOut_27 : dk mX0_takeOut 27 .isub 1 28 := ⟨by decide +kernel, rfl⟩
theorem aX0_takeOut_28 : dIs mX0_takeOut 28 2 29 := ⟨Or.inl ⟨2, by decide +kernel, rfl, rfl⟩, by decide⟩
theorem aX0_takeOut_29 : dAl mX0_takeOut 29 0 30 := Or.inl ⟨0, by decide +kernel, rfl, rfl⟩
theorem aX0_takeOut_30 : dG mX0_takeOut 30 0 3 33 := ⟨15, by decide +kernel, rfl, dW_at 139 (by decide +kernel), by decide⟩
theorem aX0_takeOut_33 : dIl mX0_takeOut 33 1 34 := Or.inl ⟨1, by decide +kernel, rfl, rfl⟩
theorem aX0_takeOut_34 : dKi mX0_takeOut 34 (nI 1) 35 := Or.inl ⟨1, by decide +kernel, by decide +kernel, rfl⟩
theorem aX0_takeOut_35 : dk mX0_takeOut 35 .iadd 1 36 := ⟨by decide +kernel, rfl⟩
theorem aX0_takeOut_36 : dAl mX0_takeOut 36 0 37 := Or.inl ⟨0, by decide +kernel, rfl, rfl⟩
theorem aX0_takeOut_37 : dG mX0_takeOut 37 0 3 40 := ⟨15, by decide +kernel, rfl, dW_at 139 (by decide +kernel), by decide⟩
theorem aX0_takeOut_40 : dIl mX0_takeOut 40 1 41 := Or.inl ⟨1, by decide +kernel, rfl, rfl⟩
theorem aX0_takeOut_41 : dIl mX0_takeOut 41 2 42 := Or.inl ⟨2, by decide +kernel, rfl, rfl⟩
theorem aX0_takeOut_42 : dCp mX0_takeOut 42 45 := ⟨53, by decide +kernel, rfl, dW_at 341 (by decide +kernel), by decide⟩
theorem aX0_takeOut_45 : dAl mX0_takeOut 45 0 46 := Or.inl ⟨0, by decide +kernel, rfl, rfl⟩
theorem aX0_takeOut_46 : dG mX0_takeOut 46 0 4 49 := ⟨19, by decide +kernel, rfl, dW_at 141 (by decide +kernel), by decide⟩
theorem aX0_takeOut_49 : dIl mX0_takeOut 49 1 50 := Or.inl ⟨1, by decide +kernel, rfl, rfl⟩
theorem aX0_takeOut_50 : dKi mX0_takeOut 50 (nI 1) 51 := Or.inl ⟨1, by decide +kernel, by decide +kernel, rfl⟩
theorem aX0_takeOut_51 : dk mX0_takeOut 51 .iadd 1 52 := ⟨by decide +kernel, rfl⟩
theorem aX0_takeOut_52 : dAl mX0_takeOut 52 0 53 := Or.inl ⟨0, by decide +kernel, rfl, rfl⟩
theorem aX0_takeOut_53 : dG mX0_takeOut 53 0 4 56 := ⟨19, by decide +kernel, rfl, dW_at 141 (by decide +kernel), by decide⟩
theorem aX0_takeOut_56 : dIl mX0_takeOut 56 1 57 := Or.inl ⟨1, by decide +kernel, rfl, rfl⟩
theorem aX0_takeOut_57 : dIl mX0_takeOut 57 2 58 := Or.inl ⟨2, by decide +kernel, rfl, rfl⟩
theorem aX0_takeOut_58 : dCp mX0_takeOut 58 61 := ⟨53, by decide +kernel, rfl, dW_at 341 (by decide +kernel), by decide⟩
theorem aX0_takeOut_61 : dAl mX0_takeOut 61 0 62 := Or.inl ⟨0, by decide +kernel, rfl, rfl⟩
theorem aX0_takeOut_62 : dG mX0_takeOut 62 0 5 65 := ⟨22, by decide +kernel, rfl, dW_at 143 (by decide +kernel), by decide⟩
theorem aX0_takeOut_65 : dIl mX0_takeOut 65 1 66 := Or.inl ⟨1, by decide +kernel, rfl, rfl⟩
theorem aX0_takeOut_66 : dKi mX0_takeOut 66 (nI 1) 67 := Or.inl ⟨1, by decide +kernel, by decide +kernel, rfl⟩
theorem aX0_takeOut_67 : dk mX0_takeOut 67 .iadd 1 68 := ⟨by decide +kernel, rfl⟩
theorem aX0_takeOut_68 : dAl mX0_takeOut 68 0 69 := Or.inl ⟨0, by decide +kernel, rfl, rfl⟩
theorem aX0_takeOut_69 : dG mX0_takeOut 69 0 5 72 := ⟨22, by decide +kernel, rfl, dW_at 143 (by decide +kernel), by decide⟩
theorem aX0_takeOut_72 : dIl mX0_takeOut 72 1 73 := Or.inl ⟨1, by decide +kernel, rfl, rfl⟩
theorem aX0_takeOut_73 : dIl mX0_takeOut 73 2 74 := Or.inl ⟨2, by decide +kernel, rfl, rfl⟩
theorem aX0_takeOut_74 : dCp mX0_takeOut 74 77 := ⟨53, by decide +kernel, rfl, dW_at 341 (by decide +kernel), by decide⟩
theorem aX0_takeOut_77 : dAl mX0_takeOut 77 0 78 := Or.inl ⟨0, by decide +kernel, rfl, rfl⟩
theorem aX0_takeOut_78 : dk mX0_takeOut 78 .dup 1 79 := ⟨by decide +kernel, rfl⟩
theorem aX0_takeOut_79 : dG mX0_takeOut 79 0 2 82 := ⟨35, by decide +kernel, rfl, dW_at 137 (by decide +kernel), by decide⟩
theorem aX0_takeOut_82 : dKi mX0_takeOut 82 (nI 1) 83 := Or.inl ⟨1, by decide +kernel, by decide +kernel, rfl⟩
theorem aX0_takeOut_83 : dk mX0_takeOut 83 .isub 1 84 := ⟨by decide +kernel, rfl⟩
theorem aX0_takeOut_84 : dP mX0_takeOut 84 0 2 87 := ⟨35, by decide +kernel, rfl, dW_at 137 (by decide +kernel), by decide⟩
theorem aX0_takeOut_87 : dk mX0_takeOut 87 .return_ 1 88 := ⟨by decide +kernel, rfl⟩
theorem okX0_addEnded : okM mX0_addEnded := ⟨dW_at 347 (by decide +kernel), dW_at 30 (by decide +kernel), by decide +kernel, by decide +kernel, by decide +kernel, Or.inl ⟨dW_at 345 (by decide +kernel), dW_at 346 (by decide +kernel)⟩⟩
theorem aX0_addEnded_0 : dAl mX0_addEnded 0 0 1 := Or.inl ⟨0, by decide +kernel, rfl, rfl⟩
theorem aX0_addEnded_1 : dG mX0_addEnded 1 0 6 4 := ⟨26, by decide +kernel, rfl, dW_at 145 (by decide +kernel), by decide⟩
theorem aX0_addEnded_4 : dIl mX0_addEnded 4 1 5 := Or.inl ⟨1, by decide +kernel, rfl, rfl⟩
theorem aX0_addEnded_5 : dk mX0_addEnded 5 .dup2 1 6 := ⟨by decide +kernel, rfl⟩
theorem aX0_addEnded_6 : dk mX0_addEnded 6 .laload 1 7 := ⟨by decide +kernel, rfl⟩
theorem aX0_addEnded_7 : dLl mX0_addEnded 7 2 8 := Or.inl ⟨2, by decide +kernel, rfl, rfl⟩
theorem aX0_addEnded_8 : dk mX0_addEnded 8 .ladd 1 9 := ⟨by decide +kernel, rfl⟩
theorem aX0_addEnded_9 : dk mX0_addEnded 9 .lastore 1 10 := ⟨by decide +kernel, rfl⟩
theorem aX0_addEnded_10 : dk mX0_addEnded 10 .return_ 1 11 := ⟨by decide +kernel, rfl⟩
theorem okX0_addLeft : okM mX0_addLeft := ⟨dW_at 351 (by decide +kernel), dW_at 30 (by decide +kernel), by decide +kernel, by decide +kernel, by decide +kernel, Or.inl ⟨dW_at 349 (by decide +kernel), dW_at 350 (by decide +kernel)⟩⟩
theorem aX0_addLeft_0 : dAl mX0_addLeft 0 0 1 := Or.inl ⟨0, by decide +kernel, rfl, rfl⟩
theorem aX0_addLeft_1 : dG mX0_addLeft 1 0 7 4 := ⟨29, by decide +kernel, rfl, dW_at 147 (by decide +kernel), by decide⟩
theorem aX0_addLeft_4 : dIl mX0_addLeft 4 1 5 := Or.inl ⟨1, by decide +kernel, rfl, rfl⟩
theorem aX0_addLeft_5 : dk mX0_addLeft 5 .dup2 1 6 := ⟨by decide +kernel, rfl⟩
theorem aX0_addLeft_6 : dk mX0_addLeft 6 .laload 1 7 := ⟨by decide +kernel, rfl⟩
theorem aX0_addLeft_7 : dLl mX0_addLeft 7 2 8 := Or.inl ⟨2, by decide +kernel, rfl, rfl⟩
theorem aX0_addLeft_8 : dk mX0_addLeft 8 .ladd 1 9 := ⟨by decide +kernel, rfl⟩
theorem aX0_addLeft_9 : dk mX0_addLeft 9 .lastore 1 10 := ⟨by decide +kernel, rfl⟩
theorem aX0_addLeft_10 : dAl mX0_addLeft 10 0 11 := Or.inl ⟨0, by decide +kernel, rfl, rfl⟩
theorem aX0_addLeft_11 : dG mX0_addLeft 11 0 8 14 := ⟨32, by decide +kernel, rfl, dW_at 149 (by decide +kernel), by decide⟩
theorem aX0_addLeft_14 : dIl mX0_addLeft 14 1 15 := Or.inl ⟨1, by decide +kernel, rfl, rfl⟩
theorem aX0_addLeft_15 : dk mX0_addLeft 15 .dup2 1 16 := ⟨by decide +kernel, rfl⟩
theorem aX0_addLeft_16 : dk mX0_addLeft 16 .laload 1 17 := ⟨by decide +kernel, rfl⟩
theorem aX0_addLeft_17 : dLl mX0_addLeft 17 2 18 := Or.inl ⟨2, by decide +kernel, rfl, rfl⟩
theorem aX0_addLeft_18 : dk mX0_addLeft 18 .ladd 1 19 := ⟨by decide +kernel, rfl⟩
theorem aX0_addLeft_19 : dk mX0_addLeft 19 .lastore 1 20 := ⟨by decide +kernel, rfl⟩
theorem aX0_addLeft_20 : dk mX0_addLeft 20 .return_ 1 21 := ⟨by decide +kernel, rfl⟩
theorem okX0_itemAt : okM mX0_itemAt := ⟨dW_at 379 (by decide +kernel), dW_at 30 (by decide +kernel), by decide +kernel, by decide +kernel, by decide +kernel, Or.inl ⟨dW_at 377 (by decide +kernel), dW_at 378 (by decide +kernel)⟩⟩
theorem aX0_itemAt_0 : dKi mX0_itemAt 0 (nI 0) 1 := Or.inl ⟨0, by decide +kernel, by decide +kernel, rfl⟩
theorem aX0_itemAt_1 : dIs mX0_itemAt 1 3 2 := ⟨Or.inl ⟨3, by decide +kernel, rfl, rfl⟩, by decide⟩
theorem aX0_itemAt_2 : dIl mX0_itemAt 2 3 3 := Or.inl ⟨3, by decide +kernel, rfl, rfl⟩
theorem aX0_itemAt_3 : dAl mX0_itemAt 3 0 4 := Or.inl ⟨0, by decide +kernel, rfl, rfl⟩
theorem aX0_itemAt_4 : dG mX0_itemAt 4 0 2 7 := ⟨35, by decide +kernel, rfl, dW_at 137 (by decide +kernel), by decide⟩
theorem aX0_itemAt_7 : dC mX0_itemAt 7 .ge 10 38 := ⟨31, by decide +kernel, by decide, rfl⟩
theorem aX0_itemAt_10 : dAl mX0_itemAt 10 0 11 := Or.inl ⟨0, by decide +kernel, rfl, rfl⟩
theorem aX0_itemAt_11 : dG mX0_itemAt 11 0 3 14 := ⟨15, by decide +kernel, rfl, dW_at 139 (by decide +kernel), by decide⟩
theorem aX0_itemAt_14 : dIl mX0_itemAt 14 3 15 := Or.inl ⟨3, by decide +kernel, rfl, rfl⟩
theorem aX0_itemAt_15 : dk mX0_itemAt 15 .iaload 1 16 := ⟨by decide +kernel, rfl⟩
theorem aX0_itemAt_16 : dIl mX0_itemAt 16 1 17 := Or.inl ⟨1, by decide +kernel, rfl, rfl⟩
theorem aX0_itemAt_17 : dC mX0_itemAt 17 .ne 20 32 := ⟨15, by decide +kernel, by decide, rfl⟩
theorem aX0_itemAt_20 : dAl mX0_itemAt 20 0 21 := Or.inl ⟨0, by decide +kernel, rfl, rfl⟩
theorem aX0_itemAt_21 : dG mX0_itemAt 21 0 4 24 := ⟨19, by decide +kernel, rfl, dW_at 141 (by decide +kernel), by decide⟩
theorem aX0_itemAt_24 : dIl mX0_itemAt 24 3 25 := Or.inl ⟨3, by decide +kernel, rfl, rfl⟩
theorem aX0_itemAt_25 : dk mX0_itemAt 25 .iaload 1 26 := ⟨by decide +kernel, rfl⟩
theorem aX0_itemAt_26 : dIl mX0_itemAt 26 2 27 := Or.inl ⟨2, by decide +kernel, rfl, rfl⟩
theorem aX0_itemAt_27 : dC mX0_itemAt 27 .ne 30 32 := ⟨5, by decide +kernel, by decide, rfl⟩
theorem aX0_itemAt_30 : dIl mX0_itemAt 30 3 31 := Or.inl ⟨3, by decide +kernel, rfl, rfl⟩
theorem aX0_itemAt_31 : dk mX0_itemAt 31 .ireturn 1 32 := ⟨by decide +kernel, rfl⟩
theorem aX0_itemAt_32 : dIn mX0_itemAt 32 3 (nI 1) 35 := ⟨1, by decide +kernel, by decide +kernel, rfl, by decide⟩
theorem aX0_itemAt_35 : dJ mX0_itemAt 35 2 := ⟨-33, by decide +kernel, by decide⟩
theorem aX0_itemAt_38 : dKi mX0_itemAt 38 ((-1)) 39 := Or.inl ⟨-1, by decide +kernel, by decide +kernel, rfl⟩
theorem aX0_itemAt_39 : dk mX0_itemAt 39 .ireturn 1 40 := ⟨by decide +kernel, rfl⟩
theorem okX0_countNew : okM mX0_countNew := ⟨dW_at 375 (by decide +kernel), dW_at 30 (by decide +kernel), by decide +kernel, by decide +kernel, by decide +kernel, Or.inl ⟨dW_at 373 (by decide +kernel), dW_at 374 (by decide +kernel)⟩⟩
theorem aX0_countNew_0 : dIl mX0_countNew 0 2 1 := Or.inl ⟨2, by decide +kernel, rfl, rfl⟩
theorem aX0_countNew_1 : dZ mX0_countNew 1 .ne 4 9 := ⟨8, by decide +kernel, by decide, rfl⟩
theorem aX0_countNew_4 : dAl mX0_countNew 4 1 5 := Or.inl ⟨1, by decide +kernel, rfl, rfl⟩
theorem aX0_countNew_5 : dG mX0_countNew 5 1 0 8 := ⟨59, by decide +kernel, rfl, dW_at 100 (by decide +kernel), by decide⟩
theorem aX0_countNew_8 : dk mX0_countNew 8 .ireturn 1 9 := ⟨by decide +kernel, rfl⟩
theorem aX0_countNew_9 : dKi mX0_countNew 9 (nI 0) 10 := Or.inl ⟨0, by decide +kernel, by decide +kernel, rfl⟩
theorem aX0_countNew_10 : dIs mX0_countNew 10 3 11 := ⟨Or.inl ⟨3, by decide +kernel, rfl, rfl⟩, by decide⟩
theorem aX0_countNew_11 : dKi mX0_countNew 11 (nI 0) 12 := Or.inl ⟨0, by decide +kernel, by decide +kernel, rfl⟩
theorem aX0_countNew_12 : dIs mX0_countNew 12 4 14 := ⟨Or.inr ⟨by decide +kernel, rfl⟩, by decide⟩
theorem aX0_countNew_14 : dIl mX0_countNew 14 4 16 := Or.inr ⟨by decide +kernel, rfl⟩
theorem aX0_countNew_16 : dAl mX0_countNew 16 1 17 := Or.inl ⟨1, by decide +kernel, rfl, rfl⟩
theorem aX0_countNew_17 : dG mX0_countNew 17 1 0 20 := ⟨59, by decide +kernel, rfl, dW_at 100 (by decide +kernel), by decide⟩
theorem aX0_countNew_20 : dC mX0_countNew 20 .ge 23 63 := ⟨43, by decide +kernel, by decide, rfl⟩
theorem aX0_countNew_23 : dAl mX0_countNew 23 0 24 := Or.inl ⟨0, by decide +kernel, rfl, rfl⟩
theorem aX0_countNew_24 : dAl mX0_countNew 24 1 25 := Or.inl ⟨1, by decide +kernel, rfl, rfl⟩
theorem aX0_countNew_25 : dG mX0_countNew 25 1 4 28 := ⟨62, by decide +kernel, rfl, dW_at 106 (by decide +kernel), by decide⟩
theorem aX0_countNew_28 : dIl mX0_countNew 28 4 30 := Or.inr ⟨by decide +kernel, rfl⟩
theorem aX0_countNew_30 : dk mX0_countNew 30 .iaload 1 31 := ⟨by decide +kernel, rfl⟩
theorem aX0_countNew_31 : dAl mX0_countNew 31 1 32 := Or.inl ⟨1, by decide +kernel, rfl, rfl⟩
theorem aX0_countNew_32 : dG mX0_countNew 32 1 5 35 := ⟨63, by decide +kernel, rfl, dW_at 108 (by decide +kernel), by decide⟩
theorem aX0_countNew_35 : dIl mX0_countNew 35 4 37 := Or.inr ⟨by decide +kernel, rfl⟩
theorem aX0_countNew_37 : dk mX0_countNew 37 .iaload 1 38 := ⟨by decide +kernel, rfl⟩
theorem aX0_countNew_38 : dV mX0_countNew 38 mX0_itemAt 41 := ⟨64, by decide +kernel, rfl, dW_at 376 (by decide +kernel), by decide⟩
theorem aX0_countNew_41 : dKi mX0_countNew 41 ((-1)) 42 := Or.inl ⟨-1, by decide +kernel, by decide +kernel, rfl⟩
theorem aX0_countNew_42 : dC mX0_countNew 42 .ne 45 57 := ⟨15, by decide +kernel, by decide, rfl⟩
theorem aX0_countNew_45 : dAl mX0_countNew 45 1 46 := Or.inl ⟨1, by decide +kernel, rfl, rfl⟩
theorem aX0_countNew_46 : dIl mX0_countNew 46 4 48 := Or.inr ⟨by decide +kernel, rfl⟩
theorem aX0_countNew_48 : dV mX0_countNew 48 mX1_isRepeated 51 := ⟨68, by decide +kernel, rfl, dW_at 380 (by decide +kernel), by decide⟩
theorem aX0_countNew_51 : dZ mX0_countNew 51 .ne 54 57 := ⟨6, by decide +kernel, by decide, rfl⟩
theorem aX0_countNew_54 : dIn mX0_countNew 54 3 (nI 1) 57 := ⟨1, by decide +kernel, by decide +kernel, rfl, by decide⟩
theorem aX0_countNew_57 : dIn mX0_countNew 57 4 (nI 1) 60 := ⟨1, by decide +kernel, by decide +kernel, rfl, by decide⟩
theorem aX0_countNew_60 : dJ mX0_countNew 60 14 := ⟨-46, by decide +kernel, by decide⟩
theorem aX0_countNew_63 : dIl mX0_countNew 63 3 64 := Or.inl ⟨3, by decide +kernel, rfl, rfl⟩
theorem aX0_countNew_64 : dk mX0_countNew 64 .ireturn 1 65 := ⟨by decide +kernel, rfl⟩
theorem okX0_putShares : okM mX0_putShares := ⟨dW_at 387 (by decide +kernel), dW_at 30 (by decide +kernel), by decide +kernel, by decide +kernel, by decide +kernel, Or.inl ⟨dW_at 385 (by decide +kernel), dW_at 386 (by decide +kernel)⟩⟩
theorem aX0_putShares_0 : dKi mX0_putShares 0 (nI 0) 1 := Or.inl ⟨0, by decide +kernel, by decide +kernel, rfl⟩
theorem aX0_putShares_1 : dIs mX0_putShares 1 3 2 := ⟨Or.inl ⟨3, by decide +kernel, rfl, rfl⟩, by decide⟩
theorem aX0_putShares_2 : dIl mX0_putShares 2 3 3 := Or.inl ⟨3, by decide +kernel, rfl, rfl⟩
theorem aX0_putShares_3 : dAl mX0_putShares 3 1 4 := Or.inl ⟨1, by decide +kernel, rfl, rfl⟩
theorem aX0_putShares_4 : dG mX0_putShares 4 1 0 7 := ⟨59, by decide +kernel, rfl, dW_at 100 (by decide +kernel), by decide⟩
theorem aX0_putShares_7 : dC mX0_putShares 7 .ge 10 105 := ⟨98, by decide +kernel, by decide, rfl⟩
theorem aX0_putShares_10 : dAl mX0_putShares 10 1 11 := Or.inl ⟨1, by decide +kernel, rfl, rfl⟩
theorem aX0_putShares_11 : dG mX0_putShares 11 1 4 14 := ⟨62, by decide +kernel, rfl, dW_at 106 (by decide +kernel), by decide⟩
theorem aX0_putShares_14 : dIl mX0_putShares 14 3 15 := Or.inl ⟨3, by decide +kernel, rfl, rfl⟩
theorem aX0_putShares_15 : dk mX0_putShares 15 .iaload 1 16 := ⟨by decide +kernel, rfl⟩
theorem aX0_putShares_16 : dIs mX0_putShares 16 4 18 := ⟨Or.inr ⟨by decide +kernel, rfl⟩, by decide⟩
theorem aX0_putShares_18 : dIl mX0_putShares 18 2 19 := Or.inl ⟨2, by decide +kernel, rfl, rfl⟩
theorem aX0_putShares_19 : dZ mX0_putShares 19 .eq 22 37 := ⟨18, by decide +kernel, by decide, rfl⟩
theorem aX0_putShares_22 : dAl mX0_putShares 22 0 23 := Or.inl ⟨0, by decide +kernel, rfl, rfl⟩
theorem aX0_putShares_23 : dIl mX0_putShares 23 4 25 := Or.inr ⟨by decide +kernel, rfl⟩
theorem aX0_putShares_25 : dAl mX0_putShares 25 1 26 := Or.inl ⟨1, by decide +kernel, rfl, rfl⟩
theorem aX0_putShares_26 : dG mX0_putShares 26 1 5 29 := ⟨63, by decide +kernel, rfl, dW_at 108 (by decide +kernel), by decide⟩
theorem aX0_putShares_29 : dIl mX0_putShares 29 3 30 := Or.inl ⟨3, by decide +kernel, rfl, rfl⟩
theorem aX0_putShares_30 : dk mX0_putShares 30 .iaload 1 31 := ⟨by decide +kernel, rfl⟩
theorem aX0_putShares_31 : dV mX0_putShares 31 mX0_itemAt 34 := ⟨64, by decide +kernel, rfl, dW_at 376 (by decide +kernel), by decide⟩
theorem aX0_putShares_34 : dJ mX0_putShares 34 38 := ⟨4, by decide +kernel, by decide⟩
theorem aX0_putShares_37 : dKi mX0_putShares 37 ((-1)) 38 := Or.inl ⟨-1, by decide +kernel, by decide +kernel, rfl⟩
theorem aX0_putShares_38 : dIs mX0_putShares 38 5 40 := ⟨Or.inr ⟨by decide +kernel, rfl⟩, by decide⟩
theorem aX0_putShares_40 : dIl mX0_putShares 40 5 42 := Or.inr ⟨by decide +kernel, rfl⟩
theorem aX0_putShares_42 : dKi mX0_putShares 42 ((-1)) 43 := Or.inl ⟨-1, by decide +kernel, by decide +kernel, rfl⟩
theorem aX0_putShares_43 : dC mX0_putShares 43 .ne 46 67 := ⟨24, by decide +kernel, by decide, rfl⟩
theorem aX0_putShares_46 : dAl mX0_putShares 46 0 47 := Or.inl ⟨0, by decide +kernel, rfl, rfl⟩
theorem aX0_putShares_47 : dIl mX0_putShares 47 4 49 := Or.inr ⟨by decide +kernel, rfl⟩
theorem aX0_putShares_49 : dAl mX0_putShares 49 1 50 := Or.inl ⟨1, by decide +kernel, rfl, rfl⟩
theorem aX0_putShares_50 : dG mX0_putShares 50 1 5 53 := ⟨63, by decide +kernel, rfl, dW_at 108 (by decide +kernel), by decide⟩
theorem aX0_putShares_53 : dIl mX0_putShares 53 3 54 := Or.inl ⟨3, by decide +kernel, rfl, rfl⟩
theorem aX0_putShares_54 : dk mX0_putShares 54 .iaload 1 55 := ⟨by decide +kernel, rfl⟩
theorem aX0_putShares_55 : dAl mX0_putShares 55 1 56 := Or.inl ⟨1, by decide +kernel, rfl, rfl⟩
theorem aX0_putShares_56 : dG mX0_putShares 56 1 6 59 := ⟨72, by decide +kernel, rfl, dW_at 110 (by decide +kernel), by decide⟩
theorem aX0_putShares_59 : dIl mX0_putShares 59 3 60 := Or.inl ⟨3, by decide +kernel, rfl, rfl⟩
theorem aX0_putShares_60 : dk mX0_putShares 60 .laload 1 61 := ⟨by decide +kernel, rfl⟩
theorem aX0_putShares_61 : dV mX0_putShares 61 mX0_addItem 64 := ⟨49, by decide +kernel, rfl, dW_at 309 (by decide +kernel), by decide⟩
theorem aX0_putShares_64 : dJ mX0_putShares 64 99 := ⟨35, by decide +kernel, by decide⟩
theorem aX0_putShares_67 : dAl mX0_putShares 67 0 68 := Or.inl ⟨0, by decide +kernel, rfl, rfl⟩
theorem aX0_putShares_68 : dG mX0_putShares 68 0 5 71 := ⟨22, by decide +kernel, rfl, dW_at 143 (by decide +kernel), by decide⟩
theorem aX0_putShares_71 : dIl mX0_putShares 71 5 73 := Or.inr ⟨by decide +kernel, rfl⟩
theorem aX0_putShares_73 : dk mX0_putShares 73 .dup2 1 74 := ⟨by decide +kernel, rfl⟩
theorem aX0_putShares_74 : dk mX0_putShares 74 .laload 1 75 := ⟨by decide +kernel, rfl⟩
theorem aX0_putShares_75 : dAl mX0_putShares 75 1 76 := Or.inl ⟨1, by decide +kernel, rfl, rfl⟩
theorem aX0_putShares_76 : dG mX0_putShares 76 1 6 79 := ⟨72, by decide +kernel, rfl, dW_at 110 (by decide +kernel), by decide⟩
theorem aX0_putShares_79 : dIl mX0_putShares 79 3 80 := Or.inl ⟨3, by decide +kernel, rfl, rfl⟩
theorem aX0_putShares_80 : dk mX0_putShares 80 .laload 1 81 := ⟨by decide +kernel, rfl⟩
theorem aX0_putShares_81 : dk mX0_putShares 81 .ladd 1 82 := ⟨by decide +kernel, rfl⟩
theorem aX0_putShares_82 : dk mX0_putShares 82 .lastore 1 83 := ⟨by decide +kernel, rfl⟩
theorem aX0_putShares_83 : dAl mX0_putShares 83 0 84 := Or.inl ⟨0, by decide +kernel, rfl, rfl⟩
theorem aX0_putShares_84 : dG mX0_putShares 84 0 8 87 := ⟨32, by decide +kernel, rfl, dW_at 149 (by decide +kernel), by decide⟩
theorem aX0_putShares_87 : dIl mX0_putShares 87 4 89 := Or.inr ⟨by decide +kernel, rfl⟩
theorem aX0_putShares_89 : dk mX0_putShares 89 .dup2 1 90 := ⟨by decide +kernel, rfl⟩
theorem aX0_putShares_90 : dk mX0_putShares 90 .laload 1 91 := ⟨by decide +kernel, rfl⟩
theorem aX0_putShares_91 : dAl mX0_putShares 91 1 92 := Or.inl ⟨1, by decide +kernel, rfl, rfl⟩
theorem aX0_putShares_92 : dG mX0_putShares 92 1 6 95 := ⟨72, by decide +kernel, rfl, dW_at 110 (by decide +kernel), by decide⟩
theorem aX0_putShares_95 : dIl mX0_putShares 95 3 96 := Or.inl ⟨3, by decide +kernel, rfl, rfl⟩
theorem aX0_putShares_96 : dk mX0_putShares 96 .laload 1 97 := ⟨by decide +kernel, rfl⟩
theorem aX0_putShares_97 : dk mX0_putShares 97 .ladd 1 98 := ⟨by decide +kernel, rfl⟩
theorem aX0_putShares_98 : dk mX0_putShares 98 .lastore 1 99 := ⟨by decide +kernel, rfl⟩
theorem aX0_putShares_99 : dIn mX0_putShares 99 3 (nI 1) 102 := ⟨1, by decide +kernel, by decide +kernel, rfl, by decide⟩
theorem aX0_putShares_102 : dJ mX0_putShares 102 2 := ⟨-100, by decide +kernel, by decide⟩
theorem aX0_putShares_105 : dk mX0_putShares 105 .return_ 1 106 := ⟨by decide +kernel, rfl⟩
theorem okX0_endedIn : okM mX0_endedIn := ⟨dW_at 406 (by decide +kernel), dW_at 30 (by decide +kernel), by decide +kernel, by decide +kernel, by decide +kernel, Or.inl ⟨dW_at 404 (by decide +kernel), dW_at 405 (by decide +kernel)⟩⟩
theorem aX0_endedIn_0 : dKl mX0_endedIn 0 (lN 0) 1 := Or.inl ⟨0, by decide +kernel, rfl, rfl⟩
theorem aX0_endedIn_1 : dLs mX0_endedIn 1 2 2 := ⟨Or.inl ⟨2, by decide +kernel, rfl, rfl⟩, by decide⟩
theorem aX0_endedIn_2 : dKi mX0_endedIn 2 (nI 0) 3 := Or.inl ⟨0, by decide +kernel, by decide +kernel, rfl⟩
theorem aX0_endedIn_3 : dIs mX0_endedIn 3 4 5 := ⟨Or.inr ⟨by decide +kernel, rfl⟩, by decide⟩
theorem aX0_endedIn_5 : dIl mX0_endedIn 5 4 7 := Or.inr ⟨by decide +kernel, rfl⟩
theorem aX0_endedIn_7 : dKi mX0_endedIn 7 (nI 7) 9 := Or.inr (Or.inl ⟨7, by decide +kernel, by decide +kernel, rfl⟩)
theorem aX0_endedIn_9 : dC mX0_endedIn 9 .gt 12 38 := ⟨29, by decide +kernel, by decide, rfl⟩
theorem aX0_endedIn_12 : dIl mX0_endedIn 12 1 13 := Or.inl ⟨1, by decide +kernel, rfl, rfl⟩
theorem aX0_endedIn_13 : dIl mX0_endedIn 13 4 15 := Or.inr ⟨by decide +kernel, rfl⟩
theorem aX0_endedIn_15 : dk mX0_endedIn 15 .ishr 1 16 := ⟨by decide +kernel, rfl⟩
theorem aX0_endedIn_16 : dKi mX0_endedIn 16 (nI 1) 17 := Or.inl ⟨1, by decide +kernel, by decide +kernel, rfl⟩
theorem aX0_endedIn_17 : dk mX0_endedIn 17 .iand 1 18 := ⟨by decide +kernel, rfl⟩
theorem aX0_endedIn_18 : dKi mX0_endedIn 18 (nI 1) 19 := Or.inl ⟨1, by decide +kernel, by decide +kernel, rfl⟩
theorem aX0_endedIn_19 : dC mX0_endedIn 19 .ne 22 32 := ⟨13, by decide +kernel, by decide, rfl⟩
theorem aX0_endedIn_22 : dLl mX0_endedIn 22 2 23 := Or.inl ⟨2, by decide +kernel, rfl, rfl⟩
theorem aX0_endedIn_23 : dAl mX0_endedIn 23 0 24 := Or.inl ⟨0, by decide +kernel, rfl, rfl⟩
theorem aX0_endedIn_24 : dG mX0_endedIn 24 0 6 27 := ⟨26, by decide +kernel, rfl, dW_at 145 (by decide +kernel), by decide⟩
theorem aX0_endedIn_27 : dIl mX0_endedIn 27 4 29 := Or.inr ⟨by decide +kernel, rfl⟩
theorem aX0_endedIn_29 : dk mX0_endedIn 29 .laload 1 30 := ⟨by decide +kernel, rfl⟩
theorem aX0_endedIn_30 : dk mX0_endedIn 30 .ladd 1 31 := ⟨by decide +kernel, rfl⟩
theorem aX0_endedIn_31 : dLs mX0_endedIn 31 2 32 := ⟨Or.inl ⟨2, by decide +kernel, rfl, rfl⟩, by decide⟩
theorem aX0_endedIn_32 : dIn mX0_endedIn 32 4 (nI 1) 35 := ⟨1, by decide +kernel, by decide +kernel, rfl, by decide⟩
theorem aX0_endedIn_35 : dJ mX0_endedIn 35 5 := ⟨-30, by decide +kernel, by decide⟩
theorem aX0_endedIn_38 : dLl mX0_endedIn 38 2 39 := Or.inl ⟨2, by decide +kernel, rfl, rfl⟩
theorem aX0_endedIn_39 : dk mX0_endedIn 39 .lreturn 1 40 := ⟨by decide +kernel, rfl⟩
theorem aX1_init_0 : dAl mX1_init 0 0 1 := Or.inl ⟨0, by decide +kernel, rfl, rfl⟩
theorem aX1_init_4 : dAl mX1_init 4 0 5 := Or.inl ⟨0, by decide +kernel, rfl, rfl⟩
theorem aX1_init_5 : dKi mX1_init 5 (nI 32) 7 := Or.inr (Or.inl ⟨32, by decide +kernel, by decide +kernel, rfl⟩)
theorem aX1_init_9 : dP mX1_init 9 1 4 12 := ⟨9, by decide +kernel, rfl, dW_at 105 (by decide +kernel), by decide⟩
theorem aX1_init_12 : dAl mX1_init 12 0 13 := Or.inl ⟨0, by decide +kernel, rfl, rfl⟩
theorem aX1_init_13 : dKi mX1_init 13 (nI 32) 15 := Or.inr (Or.inl ⟨32, by decide +kernel, by decide +kernel, rfl⟩)
theorem aX1_init_17 : dP mX1_init 17 1 5 20 := ⟨15, by decide +kernel, rfl, dW_at 107 (by decide +kernel), by decide⟩
theorem aX1_init_20 : dAl mX1_init 20 0 21 := Or.inl ⟨0, by decide +kernel, rfl, rfl⟩
theorem aX1_init_21 : dKi mX1_init 21 (nI 32) 23 := Or.inr (Or.inl ⟨32, by decide +kernel, by decide +kernel, rfl⟩)
theorem aX1_init_25 : dP mX1_init 25 1 6 28 := ⟨18, by decide +kernel, rfl, dW_at 109 (by decide +kernel), by decide⟩
theorem aX1_init_28 : dk mX1_init 28 .return_ 1 29 := ⟨by decide +kernel, rfl⟩
theorem okX1_divide : okM mX1_divide := ⟨dW_at 355 (by decide +kernel), dW_at 29 (by decide +kernel), by decide +kernel, by decide +kernel, by decide +kernel, Or.inl ⟨dW_at 353 (by decide +kernel), dW_at 354 (by decide +kernel)⟩⟩
theorem aX1_divide_0 : dAl mX1_divide 0 0 1 := Or.inl ⟨0, by decide +kernel, rfl, rfl⟩
theorem aX1_divide_1 : dKi mX1_divide 1 (nI 0) 2 := Or.inl ⟨0, by decide +kernel, by decide +kernel, rfl⟩
theorem aX1_divide_2 : dP mX1_divide 2 1 0 5 := ⟨22, by decide +kernel, rfl, dW_at 99 (by decide +kernel), by decide⟩
theorem aX1_divide_5 : dAl mX1_divide 5 0 6 := Or.inl ⟨0, by decide +kernel, rfl, rfl⟩
theorem aX1_divide_6 : dKl mX1_divide 6 (lN 0) 7 := Or.inl ⟨0, by decide +kernel, rfl, rfl⟩
theorem aX1_divide_7 : dP mX1_divide 7 1 1 10 := ⟨26, by decide +kernel, rfl, dW_at 101 (by decide +kernel), by decide⟩
theorem aX1_divide_10 : dAl mX1_divide 10 0 11 := Or.inl ⟨0, by decide +kernel, rfl, rfl⟩
theorem aX1_divide_11 : dLl mX1_divide 11 4 13 := Or.inr ⟨by decide +kernel, rfl⟩
theorem aX1_divide_13 : dP mX1_divide 13 1 2 16 := ⟨30, by decide +kernel, rfl, dW_at 103 (by decide +kernel), by decide⟩
theorem aX1_divide_16 : dAl mX1_divide 16 1 17 := Or.inl ⟨1, by decide +kernel, rfl, rfl⟩
theorem aX1_divide_17 : dG mX1_divide 17 2 2 20 := ⟨33, by decide +kernel, rfl, dW_at 56 (by decide +kernel), by decide⟩
theorem aX1_divide_20 : dIl mX1_divide 20 2 21 := Or.inl ⟨2, by decide +kernel, rfl, rfl⟩
theorem aX1_divide_21 : dk mX1_divide 21 .iaload 1 22 := ⟨by decide +kernel, rfl⟩
theorem aX1_divide_22 : dIs mX1_divide 22 6 24 := ⟨Or.inr ⟨by decide +kernel, rfl⟩, by decide⟩
theorem aX1_divide_24 : dIl mX1_divide 24 6 26 := Or.inr ⟨by decide +kernel, rfl⟩
theorem aX1_divide_26 : dKi mX1_divide 26 ((-1)) 27 := Or.inl ⟨-1, by decide +kernel, by decide +kernel, rfl⟩
theorem aX1_divide_27 : dC mX1_divide 27 .ne 30 50 := ⟨23, by decide +kernel, by decide, rfl⟩
theorem aX1_divide_30 : dAl mX1_divide 30 0 31 := Or.inl ⟨0, by decide +kernel, rfl, rfl⟩
theorem aX1_divide_31 : dKi mX1_divide 31 (nI 16) 33 := Or.inr (Or.inl ⟨16, by decide +kernel, by decide +kernel, rfl⟩)
theorem aX1_divide_33 : dP mX1_divide 33 1 3 36 := ⟨38, by decide +kernel, rfl, dW_at 104 (by decide +kernel), by decide⟩
theorem aX1_divide_36 : dAl mX1_divide 36 0 37 := Or.inl ⟨0, by decide +kernel, rfl, rfl⟩
theorem aX1_divide_37 : dAl mX1_divide 37 1 38 := Or.inl ⟨1, by decide +kernel, rfl, rfl⟩
theorem aX1_divide_38 : dIl mX1_divide 38 2 39 := Or.inl ⟨2, by decide +kernel, rfl, rfl⟩
theorem aX1_divide_39 : dKi mX1_divide 39 ((-1)) 40 := Or.inl ⟨-1, by decide +kernel, by decide +kernel, rfl⟩
theorem aX1_divide_40 : dIl mX1_divide 40 3 41 := Or.inl ⟨3, by decide +kernel, rfl, rfl⟩
theorem aX1_divide_41 : dKi mX1_divide 41 (nI 1) 42 := Or.inl ⟨1, by decide +kernel, by decide +kernel, rfl⟩
theorem aX1_divide_42 : dk mX1_divide 42 .iadd 1 43 := ⟨by decide +kernel, rfl⟩
theorem aX1_divide_43 : dKi mX1_divide 43 (nI 1) 44 := Or.inl ⟨1, by decide +kernel, by decide +kernel, rfl⟩
theorem aX1_divide_44 : dV mX1_divide 44 mX1_spread 47 := ⟨41, by decide +kernel, rfl, dW_at 356 (by decide +kernel), by decide⟩
theorem aX1_divide_47 : dJ mX1_divide 47 141 := ⟨94, by decide +kernel, by decide⟩
theorem aX1_divide_50 : dIl mX1_divide 50 6 52 := Or.inr ⟨by decide +kernel, rfl⟩
theorem aX1_divide_52 : dIl mX1_divide 52 2 53 := Or.inl ⟨2, by decide +kernel, rfl, rfl⟩
theorem aX1_divide_53 : dC mX1_divide 53 .ne 56 83 := ⟨30, by decide +kernel, by decide, rfl⟩
theorem aX1_divide_56 : dAl mX1_divide 56 0 57 := Or.inl ⟨0, by decide +kernel, rfl, rfl⟩
theorem aX1_divide_57 : dKi mX1_divide 57 (nI 16) 59 := Or.inr (Or.inl ⟨16, by decide +kernel, by decide +kernel, rfl⟩)
theorem aX1_divide_59 : dAl mX1_divide 59 1 60 := Or.inl ⟨1, by decide +kernel, rfl, rfl⟩
theorem aX1_divide_60 : dIl mX1_divide 60 2 61 := Or.inl ⟨2, by decide +kernel, rfl, rfl⟩
theorem aX1_divide_61 : dIl mX1_divide 61 2 62 := Or.inl ⟨2, by decide +kernel, rfl, rfl⟩
theorem aX1_divide_62 : dV mX1_divide 62 mX2_sixteenthsTo 65 := ⟨45, by decide +kernel, rfl, dW_at 368 (by decide +kernel), by decide⟩
theorem aX1_divide_65 : dk mX1_divide 65 .isub 1 66 := ⟨by decide +kernel, rfl⟩
theorem aX1_divide_66 : dP mX1_divide 66 1 3 69 := ⟨38, by decide +kernel, rfl, dW_at 104 (by decide +kernel), by decide⟩
theorem aX1_divide_69 : dAl mX1_divide 69 0 70 := Or.inl ⟨0, by decide +kernel, rfl, rfl⟩
theorem aX1_divide_70 : dAl mX1_divide 70 1 71 := Or.inl ⟨1, by decide +kernel, rfl, rfl⟩
theorem aX1_divide_71 : dIl mX1_divide 71 2 72 := Or.inl ⟨2, by decide +kernel, rfl, rfl⟩
theorem aX1_divide_72 : dIl mX1_divide 72 2 73 := Or.inl ⟨2, by decide +kernel, rfl, rfl⟩
theorem aX1_divide_73 : dIl mX1_divide 73 3 74 := Or.inl ⟨3, by decide +kernel, rfl, rfl⟩
theorem aX1_divide_74 : dKi mX1_divide 74 (nI 1) 75 := Or.inl ⟨1, by decide +kernel, by decide +kernel, rfl⟩
theorem aX1_divide_75 : dk mX1_divide 75 .iadd 1 76 := ⟨by decide +kernel, rfl⟩
theorem aX1_divide_76 : dKi mX1_divide 76 (nI 1) 77 := Or.inl ⟨1, by decide +kernel, by decide +kernel, rfl⟩
theorem aX1_divide_77 : dV mX1_divide 77 mX1_spread 80 := ⟨41, by decide +kernel, rfl, dW_at 356 (by decide +kernel), by decide⟩
theorem aX1_divide_80 : dJ mX1_divide 80 141 := ⟨61, by decide +kernel, by decide⟩
theorem aX1_divide_83 : dAl mX1_divide 83 1 84 := Or.inl ⟨1, by decide +kernel, rfl, rfl⟩
theorem aX1_divide_84 : dIl mX1_divide 84 2 85 := Or.inl ⟨2, by decide +kernel, rfl, rfl⟩
theorem aX1_divide_85 : dIl mX1_divide 85 6 87 := Or.inr ⟨by decide +kernel, rfl⟩
theorem aX1_divide_87 : dV mX1_divide 87 mX2_sixteenthsTo 90 := ⟨45, by decide +kernel, rfl, dW_at 368 (by decide +kernel), by decide⟩
theorem aX1_divide_90 : dIs mX1_divide 90 7 92 := ⟨Or.inr ⟨by decide +kernel, rfl⟩, by decide⟩
theorem aX1_divide_92 : dAl mX1_divide 92 0 93 := Or.inl ⟨0, by decide +kernel, rfl, rfl⟩
theorem aX1_divide_93 : dKi mX1_divide 93 (nI 256) 96 := Or.inr (Or.inr (Or.inl ⟨256, by decide +kernel, by decide +kernel, rfl⟩))
theorem aX1_divide_96 : dIl mX1_divide 96 7 98 := Or.inr ⟨by decide +kernel, rfl⟩
theorem aX1_divide_98 : dAl mX1_divide 98 1 99 := Or.inl ⟨1, by decide +kernel, rfl, rfl⟩
theorem aX1_divide_99 : dIl mX1_divide 99 6 101 := Or.inr ⟨by decide +kernel, rfl⟩
theorem aX1_divide_101 : dIl mX1_divide 101 2 102 := Or.inl ⟨2, by decide +kernel, rfl, rfl⟩
theorem aX1_divide_102 : dV mX1_divide 102 mX2_sixteenthsTo 105 := ⟨45, by decide +kernel, rfl, dW_at 368 (by decide +kernel), by decide⟩
theorem aX1_divide_105 : dk mX1_divide 105 .imul 1 106 := ⟨by decide +kernel, rfl⟩
theorem aX1_divide_106 : dk mX1_divide 106 .isub 1 107 := ⟨by decide +kernel, rfl⟩
theorem aX1_divide_107 : dP mX1_divide 107 1 3 110 := ⟨38, by decide +kernel, rfl, dW_at 104 (by decide +kernel), by decide⟩
theorem aX1_divide_110 : dAl mX1_divide 110 0 111 := Or.inl ⟨0, by decide +kernel, rfl, rfl⟩
theorem aX1_divide_111 : dAl mX1_divide 111 1 112 := Or.inl ⟨1, by decide +kernel, rfl, rfl⟩
theorem aX1_divide_112 : dIl mX1_divide 112 2 113 := Or.inl ⟨2, by decide +kernel, rfl, rfl⟩
theorem aX1_divide_113 : dIl mX1_divide 113 6 115 := Or.inr ⟨by decide +kernel, rfl⟩
theorem aX1_divide_115 : dIl mX1_divide 115 3 116 := Or.inl ⟨3, by decide +kernel, rfl, rfl⟩
theorem aX1_divide_116 : dKi mX1_divide 116 (nI 1) 117 := Or.inl ⟨1, by decide +kernel, by decide +kernel, rfl⟩
theorem aX1_divide_117 : dk mX1_divide 117 .iadd 1 118 := ⟨by decide +kernel, rfl⟩
theorem aX1_divide_118 : dKi mX1_divide 118 (nI 16) 120 := Or.inr (Or.inl ⟨16, by decide +kernel, by decide +kernel, rfl⟩)
theorem aX1_divide_120 : dV mX1_divide 120 mX1_spread 123 := ⟨41, by decide +kernel, rfl, dW_at 356 (by decide +kernel), by decide⟩
theorem aX1_divide_123 : dAl mX1_divide 123 0 124 := Or.inl ⟨0, by decide +kernel, rfl, rfl⟩
theorem aX1_divide_124 : dAl mX1_divide 124 1 125 := Or.inl ⟨1, by decide +kernel, rfl, rfl⟩
theorem aX1_divide_125 : dIl mX1_divide 125 6 127 := Or.inr ⟨by decide +kernel, rfl⟩
theorem aX1_divide_127 : dIl mX1_divide 127 2 128 := Or.inl ⟨2, by decide +kernel, rfl, rfl⟩
theorem aX1_divide_128 : dKi mX1_divide 128 (nI 40) 130 := Or.inr (Or.inl ⟨40, by decide +kernel, by decide +kernel, rfl⟩)
theorem aX1_divide_130 : dIl mX1_divide 130 3 131 := Or.inl ⟨3, by decide +kernel, rfl, rfl⟩
theorem aX1_divide_131 : dKi mX1_divide 131 (nI 2) 132 := Or.inl ⟨2, by decide +kernel, by decide +kernel, rfl⟩
theorem aX1_divide_132 : dk mX1_divide 132 .iadd 1 133 := ⟨by decide +kernel, rfl⟩
theorem aX1_divide_133 : dMn mX1_divide 133 136 := ⟨49, by decide +kernel, rfl, dW_at 369 (by decide +kernel), by decide⟩
theorem aX1_divide_136 : dIl mX1_divide 136 7 138 := Or.inr ⟨by decide +kernel, rfl⟩
theorem aX1_divide_138 : dV mX1_divide 138 mX1_spread 141 := ⟨41, by decide +kernel, rfl, dW_at 356 (by decide +kernel), by decide⟩
theorem aX1_divide_141 : dk mX1_divide 141 .return_ 1 142 := ⟨by decide +kernel, rfl⟩
theorem okX1_spread : okM mX1_spread := ⟨dW_at 359 (by decide +kernel), dW_at 29 (by decide +kernel), by decide +kernel, by decide +kernel, by decide +kernel, Or.inl ⟨dW_at 357 (by decide +kernel), dW_at 358 (by decide +kernel)⟩⟩
theorem aX1_spread_0 : dKi mX1_spread 0 (nI 0) 1 := Or.inl ⟨0, by decide +kernel, by decide +kernel, rfl⟩
theorem aX1_spread_1 : dIs mX1_spread 1 6 3 := ⟨Or.inr ⟨by decide +kernel, rfl⟩, by decide⟩
theorem aX1_spread_3 : dIl mX1_spread 3 6 5 := Or.inr ⟨by decide +kernel, rfl⟩
theorem aX1_spread_5 : dAl mX1_spread 5 1 6 := Or.inl ⟨1, by decide +kernel, rfl, rfl⟩
theorem aX1_spread_6 : dG mX1_spread 6 2 4 9 := ⟨54, by decide +kernel, rfl, dW_at 61 (by decide +kernel), by decide⟩
theorem aX1_spread_9 : dIl mX1_spread 9 2 10 := Or.inl ⟨2, by decide +kernel, rfl, rfl⟩
theorem aX1_spread_10 : dk mX1_spread 10 .iaload 1 11 := ⟨by decide +kernel, rfl⟩
theorem aX1_spread_11 : dC mX1_spread 11 .ge 14 64 := ⟨53, by decide +kernel, by decide, rfl⟩
theorem aX1_spread_14 : dAl mX1_spread 14 1 15 := Or.inl ⟨1, by decide +kernel, rfl, rfl⟩
theorem aX1_spread_15 : dG mX1_spread 15 2 5 18 := ⟨57, by decide +kernel, rfl, dW_at 63 (by decide +kernel), by decide⟩
theorem aX1_spread_18 : dIl mX1_spread 18 2 19 := Or.inl ⟨2, by decide +kernel, rfl, rfl⟩
theorem aX1_spread_19 : dk mX1_spread 19 .aaload 1 20 := ⟨by decide +kernel, rfl⟩
theorem aX1_spread_20 : dIl mX1_spread 20 6 22 := Or.inr ⟨by decide +kernel, rfl⟩
theorem aX1_spread_22 : dk mX1_spread 22 .iaload 1 23 := ⟨by decide +kernel, rfl⟩
theorem aX1_spread_23 : dIl mX1_spread 23 3 24 := Or.inl ⟨3, by decide +kernel, rfl, rfl⟩
theorem aX1_spread_24 : dC mX1_spread 24 .eq 27 58 := ⟨34, by decide +kernel, by decide, rfl⟩
theorem aX1_spread_27 : dAl mX1_spread 27 0 28 := Or.inl ⟨0, by decide +kernel, rfl, rfl⟩
theorem aX1_spread_28 : dAl mX1_spread 28 1 29 := Or.inl ⟨1, by decide +kernel, rfl, rfl⟩
theorem aX1_spread_29 : dG mX1_spread 29 2 5 32 := ⟨57, by decide +kernel, rfl, dW_at 63 (by decide +kernel), by decide⟩
theorem aX1_spread_32 : dIl mX1_spread 32 2 33 := Or.inl ⟨2, by decide +kernel, rfl, rfl⟩
theorem aX1_spread_33 : dk mX1_spread 33 .aaload 1 34 := ⟨by decide +kernel, rfl⟩
theorem aX1_spread_34 : dIl mX1_spread 34 6 36 := Or.inr ⟨by decide +kernel, rfl⟩
theorem aX1_spread_36 : dk mX1_spread 36 .iaload 1 37 := ⟨by decide +kernel, rfl⟩
theorem aX1_spread_37 : dIl mX1_spread 37 4 39 := Or.inr ⟨by decide +kernel, rfl⟩
theorem aX1_spread_39 : dAl mX1_spread 39 0 40 := Or.inl ⟨0, by decide +kernel, rfl, rfl⟩
theorem aX1_spread_40 : dIl mX1_spread 40 5 42 := Or.inr ⟨by decide +kernel, rfl⟩
theorem aX1_spread_42 : dAl mX1_spread 42 1 43 := Or.inl ⟨1, by decide +kernel, rfl, rfl⟩
theorem aX1_spread_43 : dG mX1_spread 43 2 6 46 := ⟨61, by decide +kernel, rfl, dW_at 65 (by decide +kernel), by decide⟩
theorem aX1_spread_46 : dIl mX1_spread 46 2 47 := Or.inl ⟨2, by decide +kernel, rfl, rfl⟩
theorem aX1_spread_47 : dk mX1_spread 47 .aaload 1 48 := ⟨by decide +kernel, rfl⟩
theorem aX1_spread_48 : dIl mX1_spread 48 6 50 := Or.inr ⟨by decide +kernel, rfl⟩
theorem aX1_spread_50 : dk mX1_spread 50 .iaload 1 51 := ⟨by decide +kernel, rfl⟩
theorem aX1_spread_51 : dk mX1_spread 51 .imul 1 52 := ⟨by decide +kernel, rfl⟩
theorem aX1_spread_52 : dV mX1_spread 52 mX1_portion 55 := ⟨64, by decide +kernel, rfl, dW_at 360 (by decide +kernel), by decide⟩
theorem aX1_spread_55 : dV mX1_spread 55 mX1_add 58 := ⟨68, by decide +kernel, rfl, dW_at 364 (by decide +kernel), by decide⟩
theorem aX1_spread_58 : dIn mX1_spread 58 6 (nI 1) 61 := ⟨1, by decide +kernel, by decide +kernel, rfl, by decide⟩
theorem aX1_spread_61 : dJ mX1_spread 61 3 := ⟨-58, by decide +kernel, by decide⟩
theorem aX1_spread_64 : dk mX1_spread 64 .return_ 1 65 := ⟨by decide +kernel, rfl⟩
theorem okX1_portion : okM mX1_portion := ⟨dW_at 363 (by decide +kernel), dW_at 29 (by decide +kernel), by decide +kernel, by decide +kernel, by decide +kernel, Or.inl ⟨dW_at 361 (by decide +kernel), dW_at 362 (by decide +kernel)⟩⟩
theorem aX1_portion_0 : dAl mX1_portion 0 0 1 := Or.inl ⟨0, by decide +kernel, rfl, rfl⟩
theorem aX1_portion_1 : dG mX1_portion 1 1 3 4 := ⟨38, by decide +kernel, rfl, dW_at 104 (by decide +kernel), by decide⟩
theorem aX1_portion_4 : dKi mX1_portion 4 (nI 1) 5 := Or.inl ⟨1, by decide +kernel, by decide +kernel, rfl⟩
theorem aX1_portion_5 : dC mX1_portion 5 .ge 8 10 := ⟨5, by decide +kernel, by decide, rfl⟩
theorem aX1_portion_8 : dKl mX1_portion 8 (lN 0) 9 := Or.inl ⟨0, by decide +kernel, rfl, rfl⟩
theorem aX1_portion_9 : dk mX1_portion 9 .lreturn 1 10 := ⟨by decide +kernel, rfl⟩
theorem aX1_portion_10 : dAl mX1_portion 10 0 11 := Or.inl ⟨0, by decide +kernel, rfl, rfl⟩
theorem aX1_portion_11 : dG mX1_portion 11 1 2 14 := ⟨30, by decide +kernel, rfl, dW_at 103 (by decide +kernel), by decide⟩
theorem aX1_portion_14 : dAl mX1_portion 14 0 15 := Or.inl ⟨0, by decide +kernel, rfl, rfl⟩
theorem aX1_portion_15 : dG mX1_portion 15 1 3 18 := ⟨38, by decide +kernel, rfl, dW_at 104 (by decide +kernel), by decide⟩
theorem aX1_portion_18 : dk mX1_portion 18 .i2l 1 19 := ⟨by decide +kernel, rfl⟩
theorem aX1_portion_19 : dk mX1_portion 19 .ldiv 1 20 := ⟨by decide +kernel, rfl⟩
theorem aX1_portion_20 : dIl mX1_portion 20 1 21 := Or.inl ⟨1, by decide +kernel, rfl, rfl⟩
theorem aX1_portion_21 : dk mX1_portion 21 .i2l 1 22 := ⟨by decide +kernel, rfl⟩
theorem aX1_portion_22 : dk mX1_portion 22 .lmul 1 23 := ⟨by decide +kernel, rfl⟩
theorem aX1_portion_23 : dAl mX1_portion 23 0 24 := Or.inl ⟨0, by decide +kernel, rfl, rfl⟩
theorem aX1_portion_24 : dG mX1_portion 24 1 2 27 := ⟨30, by decide +kernel, rfl, dW_at 103 (by decide +kernel), by decide⟩
theorem aX1_portion_27 : dAl mX1_portion 27 0 28 := Or.inl ⟨0, by decide +kernel, rfl, rfl⟩
theorem aX1_portion_28 : dG mX1_portion 28 1 3 31 := ⟨38, by decide +kernel, rfl, dW_at 104 (by decide +kernel), by decide⟩
theorem aX1_portion_31 : dk mX1_portion 31 .i2l 1 32 := ⟨by decide +kernel, rfl⟩
theorem aX1_portion_32 : dk mX1_portion 32 .lrem 1 33 := ⟨by decide +kernel, rfl⟩
theorem aX1_portion_33 : dIl mX1_portion 33 1 34 := Or.inl ⟨1, by decide +kernel, rfl, rfl⟩
theorem aX1_portion_34 : dk mX1_portion 34 .i2l 1 35 := ⟨by decide +kernel, rfl⟩
theorem aX1_portion_35 : dk mX1_portion 35 .lmul 1 36 := ⟨by decide +kernel, rfl⟩
theorem aX1_portion_36 : dAl mX1_portion 36 0 37 := Or.inl ⟨0, by decide +kernel, rfl, rfl⟩
theorem aX1_portion_37 : dG mX1_portion 37 1 3 40 := ⟨38, by decide +kernel, rfl, dW_at 104 (by decide +kernel), by decide⟩
theorem aX1_portion_40 : dk mX1_portion 40 .i2l 1 41 := ⟨by decide +kernel, rfl⟩
theorem aX1_portion_41 : dk mX1_portion 41 .ldiv 1 42 := ⟨by decide +kernel, rfl⟩
theorem aX1_portion_42 : dk mX1_portion 42 .ladd 1 43 := ⟨by decide +kernel, rfl⟩
theorem aX1_portion_43 : dk mX1_portion 43 .lreturn 1 44 := ⟨by decide +kernel, rfl⟩
theorem okX1_add : okM mX1_add := ⟨dW_at 367 (by decide +kernel), dW_at 29 (by decide +kernel), by decide +kernel, by decide +kernel, by decide +kernel, Or.inl ⟨dW_at 365 (by decide +kernel), dW_at 366 (by decide +kernel)⟩⟩
theorem aX1_add_0 : dLl mX1_add 0 3 1 := Or.inl ⟨3, by decide +kernel, rfl, rfl⟩
theorem aX1_add_1 : dKl mX1_add 1 (lN 1) 2 := Or.inl ⟨1, by decide +kernel, rfl, rfl⟩
theorem aX1_add_2 : dk mX1_add 2 .lcmp 1 3 := ⟨by decide +kernel, rfl⟩
theorem aX1_add_3 : dZ mX1_add 3 .lt 6 15 := ⟨12, by decide +kernel, by decide, rfl⟩
theorem aX1_add_6 : dAl mX1_add 6 0 7 := Or.inl ⟨0, by decide +kernel, rfl, rfl⟩
theorem aX1_add_7 : dG mX1_add 7 1 0 10 := ⟨22, by decide +kernel, rfl, dW_at 99 (by decide +kernel), by decide⟩
theorem aX1_add_10 : dKi mX1_add 10 (nI 32) 12 := Or.inr (Or.inl ⟨32, by decide +kernel, by decide +kernel, rfl⟩)
theorem aX1_add_12 : dC mX1_add 12 .lt 15 16 := ⟨4, by decide +kernel, by decide, rfl⟩
theorem aX1_add_15 : dk mX1_add 15 .return_ 1 16 := ⟨by decide +kernel, rfl⟩
theorem aX1_add_16 : dAl mX1_add 16 0 17 := Or.inl ⟨0, by decide +kernel, rfl, rfl⟩
theorem aX1_add_17 : dG mX1_add 17 1 4 20 := ⟨9, by decide +kernel, rfl, dW_at 105 (by decide +kernel), by decide⟩
theorem aX1_add_20 : dAl mX1_add 20 0 21 := Or.inl ⟨0, by decide +kernel, rfl, rfl⟩
theorem aX1_add_21 : dG mX1_add 21 1 0 24 := ⟨22, by decide +kernel, rfl, dW_at 99 (by decide +kernel), by decide⟩
theorem aX1_add_24 : dIl mX1_add 24 1 25 := Or.inl ⟨1, by decide +kernel, rfl, rfl⟩
theorem aX1_add_25 : dk mX1_add 25 .iastore 1 26 := ⟨by decide +kernel, rfl⟩
theorem aX1_add_26 : dAl mX1_add 26 0 27 := Or.inl ⟨0, by decide +kernel, rfl, rfl⟩
theorem aX1_add_27 : dG mX1_add 27 1 5 30 := ⟨15, by decide +kernel, rfl, dW_at 107 (by decide +kernel), by decide⟩
theorem aX1_add_30 : dAl mX1_add 30 0 31 := Or.inl ⟨0, by decide +kernel, rfl, rfl⟩
theorem aX1_add_31 : dG mX1_add 31 1 0 34 := ⟨22, by decide +kernel, rfl, dW_at 99 (by decide +kernel), by decide⟩
theorem aX1_add_34 : dIl mX1_add 34 2 35 := Or.inl ⟨2, by decide +kernel, rfl, rfl⟩
theorem aX1_add_35 : dk mX1_add 35 .iastore 1 36 := ⟨by decide +kernel, rfl⟩
theorem aX1_add_36 : dAl mX1_add 36 0 37 := Or.inl ⟨0, by decide +kernel, rfl, rfl⟩
theorem aX1_add_37 : dG mX1_add 37 1 6 40 := ⟨18, by decide +kernel, rfl, dW_at 109 (by decide +kernel), by decide⟩
theorem aX1_add_40 : dAl mX1_add 40 0 41 := Or.inl ⟨0, by decide +kernel, rfl, rfl⟩
theorem aX1_add_41 : dG mX1_add 41 1 0 44 := ⟨22, by decide +kernel, rfl, dW_at 99 (by decide +kernel), by decide⟩
theorem aX1_add_44 : dLl mX1_add 44 3 45 := Or.inl ⟨3, by decide +kernel, rfl, rfl⟩
theorem aX1_add_45 : dk mX1_add 45 .lastore 1 46 := ⟨by decide +kernel, rfl⟩
theorem aX1_add_46 : dAl mX1_add 46 0 47 := Or.inl ⟨0, by decide +kernel, rfl, rfl⟩
theorem aX1_add_47 : dk mX1_add 47 .dup 1 48 := ⟨by decide +kernel, rfl⟩
theorem aX1_add_48 : dG mX1_add 48 1 0 51 := ⟨22, by decide +kernel, rfl, dW_at 99 (by decide +kernel), by decide⟩
theorem aX1_add_51 : dKi mX1_add 51 (nI 1) 52 := Or.inl ⟨1, by decide +kernel, by decide +kernel, rfl⟩
theorem aX1_add_52 : dk mX1_add 52 .iadd 1 53 := ⟨by decide +kernel, rfl⟩
theorem aX1_add_53 : dP mX1_add 53 1 0 56 := ⟨22, by decide +kernel, rfl, dW_at 99 (by decide +kernel), by decide⟩
theorem aX1_add_56 : dAl mX1_add 56 0 57 := Or.inl ⟨0, by decide +kernel, rfl, rfl⟩
theorem aX1_add_57 : dk mX1_add 57 .dup 1 58 := ⟨by decide +kernel, rfl⟩
theorem aX1_add_58 : dG mX1_add 58 1 1 61 := ⟨26, by decide +kernel, rfl, dW_at 101 (by decide +kernel), by decide⟩
theorem aX1_add_61 : dLl mX1_add 61 3 62 := Or.inl ⟨3, by decide +kernel, rfl, rfl⟩
theorem aX1_add_62 : dk mX1_add 62 .ladd 1 63 := ⟨by decide +kernel, rfl⟩
theorem aX1_add_63 : dP mX1_add 63 1 1 66 := ⟨26, by decide +kernel, rfl, dW_at 101 (by decide +kernel), by decide⟩
theorem aX1_add_66 : dk mX1_add 66 .return_ 1 67 := ⟨by decide +kernel, rfl⟩
theorem okX1_isRepeated : okM mX1_isRepeated := ⟨dW_at 383 (by decide +kernel), dW_at 29 (by decide +kernel), by decide +kernel, by decide +kernel, by decide +kernel, Or.inl ⟨dW_at 381 (by decide +kernel), dW_at 382 (by decide +kernel)⟩⟩
theorem aX1_isRepeated_0 : dKi mX1_isRepeated 0 (nI 0) 1 := Or.inl ⟨0, by decide +kernel, by decide +kernel, rfl⟩
theorem aX1_isRepeated_1 : dIs mX1_isRepeated 1 2 2 := ⟨Or.inl ⟨2, by decide +kernel, rfl, rfl⟩, by decide⟩
theorem aX1_isRepeated_2 : dIl mX1_isRepeated 2 2 3 := Or.inl ⟨2, by decide +kernel, rfl, rfl⟩
theorem aX1_isRepeated_3 : dIl mX1_isRepeated 3 1 4 := Or.inl ⟨1, by decide +kernel, rfl, rfl⟩
theorem aX1_isRepeated_4 : dC mX1_isRepeated 4 .ge 7 45 := ⟨41, by decide +kernel, by decide, rfl⟩
theorem aX1_isRepeated_7 : dAl mX1_isRepeated 7 0 8 := Or.inl ⟨0, by decide +kernel, rfl, rfl⟩
theorem aX1_isRepeated_8 : dG mX1_isRepeated 8 1 4 11 := ⟨9, by decide +kernel, rfl, dW_at 105 (by decide +kernel), by decide⟩
theorem aX1_isRepeated_11 : dIl mX1_isRepeated 11 2 12 := Or.inl ⟨2, by decide +kernel, rfl, rfl⟩
theorem aX1_isRepeated_12 : dk mX1_isRepeated 12 .iaload 1 13 := ⟨by decide +kernel, rfl⟩
theorem aX1_isRepeated_13 : dAl mX1_isRepeated 13 0 14 := Or.inl ⟨0, by decide +kernel, rfl, rfl⟩
theorem aX1_isRepeated_14 : dG mX1_isRepeated 14 1 4 17 := ⟨9, by decide +kernel, rfl, dW_at 105 (by decide +kernel), by decide⟩
theorem aX1_isRepeated_17 : dIl mX1_isRepeated 17 1 18 := Or.inl ⟨1, by decide +kernel, rfl, rfl⟩
theorem aX1_isRepeated_18 : dk mX1_isRepeated 18 .iaload 1 19 := ⟨by decide +kernel, rfl⟩
theorem aX1_isRepeated_19 : dC mX1_isRepeated 19 .ne 22 39 := ⟨20, by decide +kernel, by decide, rfl⟩
theorem aX1_isRepeated_22 : dAl mX1_isRepeated 22 0 23 := Or.inl ⟨0, by decide +kernel, rfl, rfl⟩
theorem aX1_isRepeated_23 : dG mX1_isRepeated 23 1 5 26 := ⟨15, by decide +kernel, rfl, dW_at 107 (by decide +kernel), by decide⟩
theorem aX1_isRepeated_26 : dIl mX1_isRepeated 26 2 27 := Or.inl ⟨2, by decide +kernel, rfl, rfl⟩
theorem aX1_isRepeated_27 : dk mX1_isRepeated 27 .iaload 1 28 := ⟨by decide +kernel, rfl⟩
theorem aX1_isRepeated_28 : dAl mX1_isRepeated 28 0 29 := Or.inl ⟨0, by decide +kernel, rfl, rfl⟩
theorem aX1_isRepeated_29 : dG mX1_isRepeated 29 1 5 32 := ⟨15, by decide +kernel, rfl, dW_at 107 (by decide +kernel), by decide⟩
theorem aX1_isRepeated_32 : dIl mX1_isRepeated 32 1 33 := Or.inl ⟨1, by decide +kernel, rfl, rfl⟩
theorem aX1_isRepeated_33 : dk mX1_isRepeated 33 .iaload 1 34 := ⟨by decide +kernel, rfl⟩
theorem aX1_isRepeated_34 : dC mX1_isRepeated 34 .ne 37 39 := ⟨5, by decide +kernel, by decide, rfl⟩
theorem aX1_isRepeated_37 : dKi mX1_isRepeated 37 (nI 1) 38 := Or.inl ⟨1, by decide +kernel, by decide +kernel, rfl⟩
theorem aX1_isRepeated_38 : dk mX1_isRepeated 38 .ireturn 1 39 := ⟨by decide +kernel, rfl⟩
theorem aX1_isRepeated_39 : dIn mX1_isRepeated 39 2 (nI 1) 42 := ⟨1, by decide +kernel, by decide +kernel, rfl, by decide⟩
theorem aX1_isRepeated_42 : dJ mX1_isRepeated 42 2 := ⟨-40, by decide +kernel, by decide⟩
theorem aX1_isRepeated_45 : dKi mX1_isRepeated 45 (nI 0) 46 := Or.inl ⟨0, by decide +kernel, by decide +kernel, rfl⟩
theorem aX1_isRepeated_46 : dk mX1_isRepeated 46 .ireturn 1 47 := ⟨by decide +kernel, rfl⟩
theorem aX2_init_0 : dAl mX2_init 0 0 1 := Or.inl ⟨0, by decide +kernel, rfl, rfl⟩
theorem aX2_init_4 : dAl mX2_init 4 0 5 := Or.inl ⟨0, by decide +kernel, rfl, rfl⟩
theorem aX2_init_5 : dKi mX2_init 5 (nI 20) 7 := Or.inr (Or.inl ⟨20, by decide +kernel, by decide +kernel, rfl⟩)
theorem aX2_init_9 : dP mX2_init 9 2 1 12 := ⟨9, by decide +kernel, rfl, dW_at 53 (by decide +kernel), by decide⟩
theorem aX2_init_12 : dAl mX2_init 12 0 13 := Or.inl ⟨0, by decide +kernel, rfl, rfl⟩
theorem aX2_init_13 : dKi mX2_init 13 (nI 20) 15 := Or.inr (Or.inl ⟨20, by decide +kernel, by decide +kernel, rfl⟩)
theorem aX2_init_17 : dP mX2_init 17 2 2 20 := ⟨15, by decide +kernel, rfl, dW_at 55 (by decide +kernel), by decide⟩
theorem aX2_init_20 : dAl mX2_init 20 0 21 := Or.inl ⟨0, by decide +kernel, rfl, rfl⟩
theorem aX2_init_21 : dKi mX2_init 21 (nI 20) 23 := Or.inr (Or.inl ⟨20, by decide +kernel, by decide +kernel, rfl⟩)
theorem aX2_init_25 : dP mX2_init 25 2 3 28 := ⟨18, by decide +kernel, rfl, dW_at 58 (by decide +kernel), by decide⟩
theorem aX2_init_28 : dAl mX2_init 28 0 29 := Or.inl ⟨0, by decide +kernel, rfl, rfl⟩
theorem aX2_init_29 : dKi mX2_init 29 (nI 20) 31 := Or.inr (Or.inl ⟨20, by decide +kernel, by decide +kernel, rfl⟩)
theorem aX2_init_33 : dP mX2_init 33 2 4 36 := ⟨21, by decide +kernel, rfl, dW_at 60 (by decide +kernel), by decide⟩
theorem aX2_init_36 : dAl mX2_init 36 0 37 := Or.inl ⟨0, by decide +kernel, rfl, rfl⟩
theorem aX2_init_37 : dKi mX2_init 37 (nI 20) 39 := Or.inr (Or.inl ⟨20, by decide +kernel, by decide +kernel, rfl⟩)
theorem aX2_init_39 : dKi mX2_init 39 (nI 16) 41 := Or.inr (Or.inl ⟨16, by decide +kernel, by decide +kernel, rfl⟩)
theorem aX2_init_45 : dP mX2_init 45 2 5 48 := ⟨26, by decide +kernel, rfl, dW_at 62 (by decide +kernel), by decide⟩
theorem aX2_init_48 : dAl mX2_init 48 0 49 := Or.inl ⟨0, by decide +kernel, rfl, rfl⟩
theorem aX2_init_49 : dKi mX2_init 49 (nI 20) 51 := Or.inr (Or.inl ⟨20, by decide +kernel, by decide +kernel, rfl⟩)
theorem aX2_init_51 : dKi mX2_init 51 (nI 16) 53 := Or.inr (Or.inl ⟨16, by decide +kernel, by decide +kernel, rfl⟩)
theorem aX2_init_57 : dP mX2_init 57 2 6 60 := ⟨29, by decide +kernel, rfl, dW_at 64 (by decide +kernel), by decide⟩
theorem aX2_init_60 : dAl mX2_init 60 0 61 := Or.inl ⟨0, by decide +kernel, rfl, rfl⟩
theorem aX2_init_61 : dKi mX2_init 61 (nI 20) 63 := Or.inr (Or.inl ⟨20, by decide +kernel, by decide +kernel, rfl⟩)
theorem aX2_init_65 : dP mX2_init 65 2 7 68 := ⟨32, by decide +kernel, rfl, dW_at 66 (by decide +kernel), by decide⟩
theorem aX2_init_68 : dAl mX2_init 68 0 69 := Or.inl ⟨0, by decide +kernel, rfl, rfl⟩
theorem aX2_init_69 : dKi mX2_init 69 (nI 20) 71 := Or.inr (Or.inl ⟨20, by decide +kernel, by decide +kernel, rfl⟩)
theorem aX2_init_73 : dP mX2_init 73 2 8 76 := ⟨35, by decide +kernel, rfl, dW_at 67 (by decide +kernel), by decide⟩
theorem aX2_init_76 : dAl mX2_init 76 0 77 := Or.inl ⟨0, by decide +kernel, rfl, rfl⟩
theorem aX2_init_77 : dKi mX2_init 77 (nI 20) 79 := Or.inr (Or.inl ⟨20, by decide +kernel, by decide +kernel, rfl⟩)
theorem aX2_init_81 : dP mX2_init 81 2 9 84 := ⟨38, by decide +kernel, rfl, dW_at 69 (by decide +kernel), by decide⟩
theorem aX2_init_84 : dk mX2_init 84 .return_ 1 85 := ⟨by decide +kernel, rfl⟩
theorem okX2_has : okM mX2_has := ⟨dW_at 230 (by decide +kernel), dW_at 28 (by decide +kernel), by decide +kernel, by decide +kernel, by decide +kernel, Or.inl ⟨dW_at 228 (by decide +kernel), dW_at 229 (by decide +kernel)⟩⟩
theorem aX2_has_0 : dIl mX2_has 0 1 1 := Or.inl ⟨1, by decide +kernel, rfl, rfl⟩
theorem aX2_has_1 : dZ mX2_has 1 .lt 4 16 := ⟨15, by decide +kernel, by decide, rfl⟩
theorem aX2_has_4 : dIl mX2_has 4 1 5 := Or.inl ⟨1, by decide +kernel, rfl, rfl⟩
theorem aX2_has_5 : dAl mX2_has 5 0 6 := Or.inl ⟨0, by decide +kernel, rfl, rfl⟩
theorem aX2_has_6 : dG mX2_has 6 2 0 9 := ⟨42, by decide +kernel, rfl, dW_at 51 (by decide +kernel), by decide⟩
theorem aX2_has_9 : dC mX2_has 9 .ge 12 16 := ⟨7, by decide +kernel, by decide, rfl⟩
theorem aX2_has_12 : dKi mX2_has 12 (nI 1) 13 := Or.inl ⟨1, by decide +kernel, by decide +kernel, rfl⟩
theorem aX2_has_13 : dJ mX2_has 13 17 := ⟨4, by decide +kernel, by decide⟩
theorem aX2_has_16 : dKi mX2_has 16 (nI 0) 17 := Or.inl ⟨0, by decide +kernel, by decide +kernel, rfl⟩
theorem aX2_has_17 : dk mX2_has 17 .ireturn 1 18 := ⟨by decide +kernel, rfl⟩
theorem okX2_goesOn : okM mX2_goesOn := ⟨dW_at 226 (by decide +kernel), dW_at 28 (by decide +kernel), by decide +kernel, by decide +kernel, by decide +kernel, Or.inl ⟨dW_at 224 (by decide +kernel), dW_at 225 (by decide +kernel)⟩⟩
theorem aX2_goesOn_0 : dAl mX2_goesOn 0 0 1 := Or.inl ⟨0, by decide +kernel, rfl, rfl⟩
theorem aX2_goesOn_1 : dIl mX2_goesOn 1 1 2 := Or.inl ⟨1, by decide +kernel, rfl, rfl⟩
theorem aX2_goesOn_2 : dV mX2_goesOn 2 mX2_has 5 := ⟨46, by decide +kernel, rfl, dW_at 227 (by decide +kernel), by decide⟩
theorem aX2_goesOn_5 : dZ mX2_goesOn 5 .eq 8 22 := ⟨17, by decide +kernel, by decide, rfl⟩
theorem aX2_goesOn_8 : dAl mX2_goesOn 8 0 9 := Or.inl ⟨0, by decide +kernel, rfl, rfl⟩
theorem aX2_goesOn_9 : dG mX2_goesOn 9 2 1 12 := ⟨9, by decide +kernel, rfl, dW_at 53 (by decide +kernel), by decide⟩
theorem aX2_goesOn_12 : dIl mX2_goesOn 12 1 13 := Or.inl ⟨1, by decide +kernel, rfl, rfl⟩
theorem aX2_goesOn_13 : dk mX2_goesOn 13 .iaload 1 14 := ⟨by decide +kernel, rfl⟩
theorem aX2_goesOn_14 : dKi mX2_goesOn 14 ((-1)) 15 := Or.inl ⟨-1, by decide +kernel, by decide +kernel, rfl⟩
theorem aX2_goesOn_15 : dC mX2_goesOn 15 .ne 18 22 := ⟨7, by decide +kernel, by decide, rfl⟩
theorem aX2_goesOn_18 : dKi mX2_goesOn 18 (nI 1) 19 := Or.inl ⟨1, by decide +kernel, by decide +kernel, rfl⟩
theorem aX2_goesOn_19 : dJ mX2_goesOn 19 23 := ⟨4, by decide +kernel, by decide⟩
theorem aX2_goesOn_22 : dKi mX2_goesOn 22 (nI 0) 23 := Or.inl ⟨0, by decide +kernel, by decide +kernel, rfl⟩
theorem aX2_goesOn_23 : dk mX2_goesOn 23 .ireturn 1 24 := ⟨by decide +kernel, rfl⟩
theorem okX2_addState : okM mX2_addState := ⟨dW_at 218 (by decide +kernel), dW_at 28 (by decide +kernel), by decide +kernel, by decide +kernel, by decide +kernel, Or.inl ⟨dW_at 216 (by decide +kernel), dW_at 217 (by decide +kernel)⟩⟩
theorem aX2_addState_0 : dAl mX2_addState 0 0 1 := Or.inl ⟨0, by decide +kernel, rfl, rfl⟩
theorem aX2_addState_1 : dG mX2_addState 1 2 1 4 := ⟨9, by decide +kernel, rfl, dW_at 53 (by decide +kernel), by decide⟩
theorem aX2_addState_4 : dAl mX2_addState 4 0 5 := Or.inl ⟨0, by decide +kernel, rfl, rfl⟩
theorem aX2_addState_5 : dG mX2_addState 5 2 0 8 := ⟨42, by decide +kernel, rfl, dW_at 51 (by decide +kernel), by decide⟩
theorem aX2_addState_8 : dIl mX2_addState 8 1 9 := Or.inl ⟨1, by decide +kernel, rfl, rfl⟩
theorem aX2_addState_9 : dk mX2_addState 9 .iastore 1 10 := ⟨by decide +kernel, rfl⟩
theorem aX2_addState_10 : dAl mX2_addState 10 0 11 := Or.inl ⟨0, by decide +kernel, rfl, rfl⟩
theorem aX2_addState_11 : dG mX2_addState 11 2 2 14 := ⟨15, by decide +kernel, rfl, dW_at 55 (by decide +kernel), by decide⟩
theorem aX2_addState_14 : dAl mX2_addState 14 0 15 := Or.inl ⟨0, by decide +kernel, rfl, rfl⟩
theorem aX2_addState_15 : dG mX2_addState 15 2 0 18 := ⟨42, by decide +kernel, rfl, dW_at 51 (by decide +kernel), by decide⟩
theorem aX2_addState_18 : dKi mX2_addState 18 ((-1)) 19 := Or.inl ⟨-1, by decide +kernel, by decide +kernel, rfl⟩
theorem aX2_addState_19 : dk mX2_addState 19 .iastore 1 20 := ⟨by decide +kernel, rfl⟩
theorem aX2_addState_20 : dAl mX2_addState 20 0 21 := Or.inl ⟨0, by decide +kernel, rfl, rfl⟩
theorem aX2_addState_21 : dk mX2_addState 21 .dup 1 22 := ⟨by decide +kernel, rfl⟩
theorem aX2_addState_22 : dG mX2_addState 22 2 0 25 := ⟨42, by decide +kernel, rfl, dW_at 51 (by decide +kernel), by decide⟩
theorem aX2_addState_25 : dKi mX2_addState 25 (nI 1) 26 := Or.inl ⟨1, by decide +kernel, by decide +kernel, rfl⟩
theorem aX2_addState_26 : dk mX2_addState 26 .iadd 1 27 := ⟨by decide +kernel, rfl⟩
theorem aX2_addState_27 : dP mX2_addState 27 2 0 30 := ⟨42, by decide +kernel, rfl, dW_at 51 (by decide +kernel), by decide⟩
theorem aX2_addState_30 : dAl mX2_addState 30 0 31 := Or.inl ⟨0, by decide +kernel, rfl, rfl⟩
theorem aX2_addState_31 : dG mX2_addState 31 2 0 34 := ⟨42, by decide +kernel, rfl, dW_at 51 (by decide +kernel), by decide⟩
theorem aX2_addState_34 : dKi mX2_addState 34 (nI 1) 35 := Or.inl ⟨1, by decide +kernel, by decide +kernel, rfl⟩
theorem aX2_addState_35 : dk mX2_addState 35 .isub 1 36 := ⟨by decide +kernel, rfl⟩
theorem aX2_addState_36 : dk mX2_addState 36 .ireturn 1 37 := ⟨by decide +kernel, rfl⟩
theorem okX2_addSixteenths : okM mX2_addSixteenths := ⟨dW_at 235 (by decide +kernel), dW_at 28 (by decide +kernel), by decide +kernel, by decide +kernel, by decide +kernel, Or.inl ⟨dW_at 233 (by decide +kernel), dW_at 234 (by decide +kernel)⟩⟩
theorem aX2_addSixteenths_0 : dAl mX2_addSixteenths 0 0 1 := Or.inl ⟨0, by decide +kernel, rfl, rfl⟩
theorem aX2_addSixteenths_1 : dIl mX2_addSixteenths 1 1 2 := Or.inl ⟨1, by decide +kernel, rfl, rfl⟩
theorem aX2_addSixteenths_2 : dIl mX2_addSixteenths 2 2 3 := Or.inl ⟨2, by decide +kernel, rfl, rfl⟩
theorem aX2_addSixteenths_3 : dV mX2_addSixteenths 3 mX2_arrowTo 6 := ⟨50, by decide +kernel, rfl, dW_at 236 (by decide +kernel), by decide⟩
theorem aX2_addSixteenths_6 : dIs mX2_addSixteenths 6 4 8 := ⟨Or.inr ⟨by decide +kernel, rfl⟩, by decide⟩
theorem aX2_addSixteenths_8 : dIl mX2_addSixteenths 8 4 10 := Or.inr ⟨by decide +kernel, rfl⟩
theorem aX2_addSixteenths_10 : dKi mX2_addSixteenths 10 ((-1)) 11 := Or.inl ⟨-1, by decide +kernel, by decide +kernel, rfl⟩
theorem aX2_addSixteenths_11 : dC mX2_addSixteenths 11 .ne 14 53 := ⟨42, by decide +kernel, by decide, rfl⟩
theorem aX2_addSixteenths_14 : dAl mX2_addSixteenths 14 0 15 := Or.inl ⟨0, by decide +kernel, rfl, rfl⟩
theorem aX2_addSixteenths_15 : dG mX2_addSixteenths 15 2 4 18 := ⟨21, by decide +kernel, rfl, dW_at 60 (by decide +kernel), by decide⟩
theorem aX2_addSixteenths_18 : dIl mX2_addSixteenths 18 1 19 := Or.inl ⟨1, by decide +kernel, rfl, rfl⟩
theorem aX2_addSixteenths_19 : dk mX2_addSixteenths 19 .iaload 1 20 := ⟨by decide +kernel, rfl⟩
theorem aX2_addSixteenths_20 : dKi mX2_addSixteenths 20 (nI 16) 22 := Or.inr (Or.inl ⟨16, by decide +kernel, by decide +kernel, rfl⟩)
theorem aX2_addSixteenths_22 : dC mX2_addSixteenths 22 .ge 25 53 := ⟨31, by decide +kernel, by decide, rfl⟩
theorem aX2_addSixteenths_25 : dAl mX2_addSixteenths 25 0 26 := Or.inl ⟨0, by decide +kernel, rfl, rfl⟩
theorem aX2_addSixteenths_26 : dG mX2_addSixteenths 26 2 4 29 := ⟨21, by decide +kernel, rfl, dW_at 60 (by decide +kernel), by decide⟩
theorem aX2_addSixteenths_29 : dIl mX2_addSixteenths 29 1 30 := Or.inl ⟨1, by decide +kernel, rfl, rfl⟩
theorem aX2_addSixteenths_30 : dk mX2_addSixteenths 30 .iaload 1 31 := ⟨by decide +kernel, rfl⟩
theorem aX2_addSixteenths_31 : dIs mX2_addSixteenths 31 4 33 := ⟨Or.inr ⟨by decide +kernel, rfl⟩, by decide⟩
theorem aX2_addSixteenths_33 : dAl mX2_addSixteenths 33 0 34 := Or.inl ⟨0, by decide +kernel, rfl, rfl⟩
theorem aX2_addSixteenths_34 : dG mX2_addSixteenths 34 2 5 37 := ⟨26, by decide +kernel, rfl, dW_at 62 (by decide +kernel), by decide⟩
theorem aX2_addSixteenths_37 : dIl mX2_addSixteenths 37 1 38 := Or.inl ⟨1, by decide +kernel, rfl, rfl⟩
theorem aX2_addSixteenths_38 : dk mX2_addSixteenths 38 .aaload 1 39 := ⟨by decide +kernel, rfl⟩
theorem aX2_addSixteenths_39 : dIl mX2_addSixteenths 39 4 41 := Or.inr ⟨by decide +kernel, rfl⟩
theorem aX2_addSixteenths_41 : dIl mX2_addSixteenths 41 2 42 := Or.inl ⟨2, by decide +kernel, rfl, rfl⟩
theorem aX2_addSixteenths_42 : dk mX2_addSixteenths 42 .iastore 1 43 := ⟨by decide +kernel, rfl⟩
theorem aX2_addSixteenths_43 : dAl mX2_addSixteenths 43 0 44 := Or.inl ⟨0, by decide +kernel, rfl, rfl⟩
theorem aX2_addSixteenths_44 : dG mX2_addSixteenths 44 2 4 47 := ⟨21, by decide +kernel, rfl, dW_at 60 (by decide +kernel), by decide⟩
theorem aX2_addSixteenths_47 : dIl mX2_addSixteenths 47 1 48 := Or.inl ⟨1, by decide +kernel, rfl, rfl⟩
theorem aX2_addSixteenths_48 : dk mX2_addSixteenths 48 .dup2 1 49 := ⟨by decide +kernel, rfl⟩
theorem aX2_addSixteenths_49 : dk mX2_addSixteenths 49 .iaload 1 50 := ⟨by decide +kernel, rfl⟩
theorem aX2_addSixteenths_50 : dKi mX2_addSixteenths 50 (nI 1) 51 := Or.inl ⟨1, by decide +kernel, by decide +kernel, rfl⟩
theorem aX2_addSixteenths_51 : dk mX2_addSixteenths 51 .iadd 1 52 := ⟨by decide +kernel, rfl⟩
theorem aX2_addSixteenths_52 : dk mX2_addSixteenths 52 .iastore 1 53 := ⟨by decide +kernel, rfl⟩
theorem aX2_addSixteenths_53 : dIl mX2_addSixteenths 53 4 55 := Or.inr ⟨by decide +kernel, rfl⟩
theorem aX2_addSixteenths_55 : dKi mX2_addSixteenths 55 ((-1)) 56 := Or.inl ⟨-1, by decide +kernel, by decide +kernel, rfl⟩
theorem aX2_addSixteenths_56 : dC mX2_addSixteenths 56 .eq 59 82 := ⟨26, by decide +kernel, by decide, rfl⟩
theorem aX2_addSixteenths_59 : dAl mX2_addSixteenths 59 0 60 := Or.inl ⟨0, by decide +kernel, rfl, rfl⟩
theorem aX2_addSixteenths_60 : dG mX2_addSixteenths 60 2 6 63 := ⟨29, by decide +kernel, rfl, dW_at 64 (by decide +kernel), by decide⟩
theorem aX2_addSixteenths_63 : dIl mX2_addSixteenths 63 1 64 := Or.inl ⟨1, by decide +kernel, rfl, rfl⟩
theorem aX2_addSixteenths_64 : dk mX2_addSixteenths 64 .aaload 1 65 := ⟨by decide +kernel, rfl⟩
theorem aX2_addSixteenths_65 : dIl mX2_addSixteenths 65 4 67 := Or.inr ⟨by decide +kernel, rfl⟩
theorem aX2_addSixteenths_67 : dk mX2_addSixteenths 67 .dup2 1 68 := ⟨by decide +kernel, rfl⟩
theorem aX2_addSixteenths_68 : dk mX2_addSixteenths 68 .iaload 1 69 := ⟨by decide +kernel, rfl⟩
theorem aX2_addSixteenths_69 : dIl mX2_addSixteenths 69 3 70 := Or.inl ⟨3, by decide +kernel, rfl, rfl⟩
theorem aX2_addSixteenths_70 : dk mX2_addSixteenths 70 .iadd 1 71 := ⟨by decide +kernel, rfl⟩
theorem aX2_addSixteenths_71 : dk mX2_addSixteenths 71 .iastore 1 72 := ⟨by decide +kernel, rfl⟩
theorem aX2_addSixteenths_72 : dAl mX2_addSixteenths 72 0 73 := Or.inl ⟨0, by decide +kernel, rfl, rfl⟩
theorem aX2_addSixteenths_73 : dG mX2_addSixteenths 73 2 3 76 := ⟨18, by decide +kernel, rfl, dW_at 58 (by decide +kernel), by decide⟩
theorem aX2_addSixteenths_76 : dIl mX2_addSixteenths 76 1 77 := Or.inl ⟨1, by decide +kernel, rfl, rfl⟩
theorem aX2_addSixteenths_77 : dk mX2_addSixteenths 77 .dup2 1 78 := ⟨by decide +kernel, rfl⟩
theorem aX2_addSixteenths_78 : dk mX2_addSixteenths 78 .iaload 1 79 := ⟨by decide +kernel, rfl⟩
theorem aX2_addSixteenths_79 : dIl mX2_addSixteenths 79 3 80 := Or.inl ⟨3, by decide +kernel, rfl, rfl⟩
theorem aX2_addSixteenths_80 : dk mX2_addSixteenths 80 .iadd 1 81 := ⟨by decide +kernel, rfl⟩
theorem aX2_addSixteenths_81 : dk mX2_addSixteenths 81 .iastore 1 82 := ⟨by decide +kernel, rfl⟩
theorem aX2_addSixteenths_82 : dAl mX2_addSixteenths 82 0 83 := Or.inl ⟨0, by decide +kernel, rfl, rfl⟩
theorem aX2_addSixteenths_83 : dG mX2_addSixteenths 83 2 3 86 := ⟨18, by decide +kernel, rfl, dW_at 58 (by decide +kernel), by decide⟩
theorem aX2_addSixteenths_86 : dIl mX2_addSixteenths 86 1 87 := Or.inl ⟨1, by decide +kernel, rfl, rfl⟩
theorem aX2_addSixteenths_87 : dk mX2_addSixteenths 87 .iaload 1 88 := ⟨by decide +kernel, rfl⟩
theorem aX2_addSixteenths_88 : dk mX2_addSixteenths 88 .ireturn 1 89 := ⟨by decide +kernel, rfl⟩
theorem okX2_arrowTo : okM mX2_arrowTo := ⟨dW_at 239 (by decide +kernel), dW_at 28 (by decide +kernel), by decide +kernel, by decide +kernel, by decide +kernel, Or.inl ⟨dW_at 237 (by decide +kernel), dW_at 238 (by decide +kernel)⟩⟩
theorem aX2_arrowTo_0 : dKi mX2_arrowTo 0 (nI 0) 1 := Or.inl ⟨0, by decide +kernel, by decide +kernel, rfl⟩
theorem aX2_arrowTo_1 : dIs mX2_arrowTo 1 3 2 := ⟨Or.inl ⟨3, by decide +kernel, rfl, rfl⟩, by decide⟩
theorem aX2_arrowTo_2 : dIl mX2_arrowTo 2 3 3 := Or.inl ⟨3, by decide +kernel, rfl, rfl⟩
theorem aX2_arrowTo_3 : dAl mX2_arrowTo 3 0 4 := Or.inl ⟨0, by decide +kernel, rfl, rfl⟩
theorem aX2_arrowTo_4 : dG mX2_arrowTo 4 2 4 7 := ⟨21, by decide +kernel, rfl, dW_at 60 (by decide +kernel), by decide⟩
theorem aX2_arrowTo_7 : dIl mX2_arrowTo 7 1 8 := Or.inl ⟨1, by decide +kernel, rfl, rfl⟩
theorem aX2_arrowTo_8 : dk mX2_arrowTo 8 .iaload 1 9 := ⟨by decide +kernel, rfl⟩
theorem aX2_arrowTo_9 : dC mX2_arrowTo 9 .ge 12 32 := ⟨23, by decide +kernel, by decide, rfl⟩
theorem aX2_arrowTo_12 : dAl mX2_arrowTo 12 0 13 := Or.inl ⟨0, by decide +kernel, rfl, rfl⟩
theorem aX2_arrowTo_13 : dG mX2_arrowTo 13 2 5 16 := ⟨26, by decide +kernel, rfl, dW_at 62 (by decide +kernel), by decide⟩
theorem aX2_arrowTo_16 : dIl mX2_arrowTo 16 1 17 := Or.inl ⟨1, by decide +kernel, rfl, rfl⟩
theorem aX2_arrowTo_17 : dk mX2_arrowTo 17 .aaload 1 18 := ⟨by decide +kernel, rfl⟩
theorem aX2_arrowTo_18 : dIl mX2_arrowTo 18 3 19 := Or.inl ⟨3, by decide +kernel, rfl, rfl⟩
theorem aX2_arrowTo_19 : dk mX2_arrowTo 19 .iaload 1 20 := ⟨by decide +kernel, rfl⟩
theorem aX2_arrowTo_20 : dIl mX2_arrowTo 20 2 21 := Or.inl ⟨2, by decide +kernel, rfl, rfl⟩
theorem aX2_arrowTo_21 : dC mX2_arrowTo 21 .ne 24 26 := ⟨5, by decide +kernel, by decide, rfl⟩
theorem aX2_arrowTo_24 : dIl mX2_arrowTo 24 3 25 := Or.inl ⟨3, by decide +kernel, rfl, rfl⟩
theorem aX2_arrowTo_25 : dk mX2_arrowTo 25 .ireturn 1 26 := ⟨by decide +kernel, rfl⟩
theorem aX2_arrowTo_26 : dIn mX2_arrowTo 26 3 (nI 1) 29 := ⟨1, by decide +kernel, by decide +kernel, rfl, by decide⟩
theorem aX2_arrowTo_29 : dJ mX2_arrowTo 29 2 := ⟨-27, by decide +kernel, by decide⟩
theorem aX2_arrowTo_32 : dKi mX2_arrowTo 32 ((-1)) 33 := Or.inl ⟨-1, by decide +kernel, by decide +kernel, rfl⟩
theorem aX2_arrowTo_33 : dk mX2_arrowTo 33 .ireturn 1 34 := ⟨by decide +kernel, rfl⟩
theorem okX2_sixteenthsTo : okM mX2_sixteenthsTo := ⟨dW_at 255 (by decide +kernel), dW_at 28 (by decide +kernel), by decide +kernel, by decide +kernel, by decide +kernel, Or.inl ⟨dW_at 253 (by decide +kernel), dW_at 254 (by decide +kernel)⟩⟩
theorem aX2_sixteenthsTo_0 : dAl mX2_sixteenthsTo 0 0 1 := Or.inl ⟨0, by decide +kernel, rfl, rfl⟩
theorem aX2_sixteenthsTo_1 : dIl mX2_sixteenthsTo 1 1 2 := Or.inl ⟨1, by decide +kernel, rfl, rfl⟩
theorem aX2_sixteenthsTo_2 : dIl mX2_sixteenthsTo 2 2 3 := Or.inl ⟨2, by decide +kernel, rfl, rfl⟩
theorem aX2_sixteenthsTo_3 : dV mX2_sixteenthsTo 3 mX2_arrowTo 6 := ⟨50, by decide +kernel, rfl, dW_at 236 (by decide +kernel), by decide⟩
theorem aX2_sixteenthsTo_6 : dIs mX2_sixteenthsTo 6 3 7 := ⟨Or.inl ⟨3, by decide +kernel, rfl, rfl⟩, by decide⟩
theorem aX2_sixteenthsTo_7 : dIl mX2_sixteenthsTo 7 3 8 := Or.inl ⟨3, by decide +kernel, rfl, rfl⟩
theorem aX2_sixteenthsTo_8 : dKi mX2_sixteenthsTo 8 ((-1)) 9 := Or.inl ⟨-1, by decide +kernel, by decide +kernel, rfl⟩
theorem aX2_sixteenthsTo_9 : dC mX2_sixteenthsTo 9 .ne 12 16 := ⟨7, by decide +kernel, by decide, rfl⟩
theorem aX2_sixteenthsTo_12 : dKi mX2_sixteenthsTo 12 (nI 0) 13 := Or.inl ⟨0, by decide +kernel, by decide +kernel, rfl⟩
theorem aX2_sixteenthsTo_13 : dJ mX2_sixteenthsTo 13 24 := ⟨11, by decide +kernel, by decide⟩
theorem aX2_sixteenthsTo_16 : dAl mX2_sixteenthsTo 16 0 17 := Or.inl ⟨0, by decide +kernel, rfl, rfl⟩
theorem aX2_sixteenthsTo_17 : dG mX2_sixteenthsTo 17 2 6 20 := ⟨29, by decide +kernel, rfl, dW_at 64 (by decide +kernel), by decide⟩
theorem aX2_sixteenthsTo_20 : dIl mX2_sixteenthsTo 20 1 21 := Or.inl ⟨1, by decide +kernel, rfl, rfl⟩
theorem aX2_sixteenthsTo_21 : dk mX2_sixteenthsTo 21 .aaload 1 22 := ⟨by decide +kernel, rfl⟩
theorem aX2_sixteenthsTo_22 : dIl mX2_sixteenthsTo 22 3 23 := Or.inl ⟨3, by decide +kernel, rfl, rfl⟩
theorem aX2_sixteenthsTo_23 : dk mX2_sixteenthsTo 23 .iaload 1 24 := ⟨by decide +kernel, rfl⟩
theorem aX2_sixteenthsTo_24 : dk mX2_sixteenthsTo 24 .ireturn 1 25 := ⟨by decide +kernel, rfl⟩
theorem okX2_isWhole : okM mX2_isWhole := ⟨dW_at 259 (by decide +kernel), dW_at 28 (by decide +kernel), by decide +kernel, by decide +kernel, by decide +kernel, Or.inl ⟨dW_at 257 (by decide +kernel), dW_at 258 (by decide +kernel)⟩⟩
theorem aX2_isWhole_0 : dAl mX2_isWhole 0 0 1 := Or.inl ⟨0, by decide +kernel, rfl, rfl⟩
theorem aX2_isWhole_1 : dG mX2_isWhole 1 2 3 4 := ⟨18, by decide +kernel, rfl, dW_at 58 (by decide +kernel), by decide⟩
theorem aX2_isWhole_4 : dIl mX2_isWhole 4 1 5 := Or.inl ⟨1, by decide +kernel, rfl, rfl⟩
theorem aX2_isWhole_5 : dk mX2_isWhole 5 .iaload 1 6 := ⟨by decide +kernel, rfl⟩
theorem aX2_isWhole_6 : dKi mX2_isWhole 6 (nI 16) 8 := Or.inr (Or.inl ⟨16, by decide +kernel, by decide +kernel, rfl⟩)
theorem aX2_isWhole_8 : dC mX2_isWhole 8 .ne 11 15 := ⟨7, by decide +kernel, by decide, rfl⟩
theorem aX2_isWhole_11 : dKi mX2_isWhole 11 (nI 1) 12 := Or.inl ⟨1, by decide +kernel, by decide +kernel, rfl⟩
theorem aX2_isWhole_12 : dJ mX2_isWhole 12 16 := ⟨4, by decide +kernel, by decide⟩
theorem aX2_isWhole_15 : dKi mX2_isWhole 15 (nI 0) 16 := Or.inl ⟨0, by decide +kernel, by decide +kernel, rfl⟩
theorem aX2_isWhole_16 : dk mX2_isWhole 16 .ireturn 1 17 := ⟨by decide +kernel, rfl⟩
theorem okX2_isProved : okM mX2_isProved := ⟨dW_at 247 (by decide +kernel), dW_at 28 (by decide +kernel), by decide +kernel, by decide +kernel, by decide +kernel, Or.inl ⟨dW_at 245 (by decide +kernel), dW_at 246 (by decide +kernel)⟩⟩
theorem aX2_isProved_0 : dIl mX2_isProved 0 1 1 := Or.inl ⟨1, by decide +kernel, rfl, rfl⟩
theorem aX2_isProved_1 : dIl mX2_isProved 1 2 2 := Or.inl ⟨2, by decide +kernel, rfl, rfl⟩
theorem aX2_isProved_2 : dC mX2_isProved 2 .ne 5 13 := ⟨11, by decide +kernel, by decide, rfl⟩
theorem aX2_isProved_5 : dAl mX2_isProved 5 0 6 := Or.inl ⟨0, by decide +kernel, rfl, rfl⟩
theorem aX2_isProved_6 : dIl mX2_isProved 6 1 7 := Or.inl ⟨1, by decide +kernel, rfl, rfl⟩
theorem aX2_isProved_7 : dV mX2_isProved 7 mX2_isLoop 10 := ⟨54, by decide +kernel, rfl, dW_at 248 (by decide +kernel), by decide⟩
theorem aX2_isProved_10 : dJ mX2_isProved 10 19 := ⟨9, by decide +kernel, by decide⟩
theorem aX2_isProved_13 : dAl mX2_isProved 13 0 14 := Or.inl ⟨0, by decide +kernel, rfl, rfl⟩
theorem aX2_isProved_14 : dIl mX2_isProved 14 1 15 := Or.inl ⟨1, by decide +kernel, rfl, rfl⟩
theorem aX2_isProved_15 : dIl mX2_isProved 15 2 16 := Or.inl ⟨2, by decide +kernel, rfl, rfl⟩
theorem aX2_isProved_16 : dV mX2_isProved 16 mX2_isRing 19 := ⟨57, by decide +kernel, rfl, dW_at 260 (by decide +kernel), by decide⟩
theorem aX2_isProved_19 : dk mX2_isProved 19 .ireturn 1 20 := ⟨by decide +kernel, rfl⟩
theorem okX2_isLoop : okM mX2_isLoop := ⟨dW_at 251 (by decide +kernel), dW_at 28 (by decide +kernel), by decide +kernel, by decide +kernel, by decide +kernel, Or.inl ⟨dW_at 249 (by decide +kernel), dW_at 250 (by decide +kernel)⟩⟩
theorem aX2_isLoop_0 : dAl mX2_isLoop 0 0 1 := Or.inl ⟨0, by decide +kernel, rfl, rfl⟩
theorem aX2_isLoop_1 : dIl mX2_isLoop 1 1 2 := Or.inl ⟨1, by decide +kernel, rfl, rfl⟩
theorem aX2_isLoop_2 : dIl mX2_isLoop 2 1 3 := Or.inl ⟨1, by decide +kernel, rfl, rfl⟩
theorem aX2_isLoop_3 : dV mX2_isLoop 3 mX2_sixteenthsTo 6 := ⟨61, by decide +kernel, rfl, dW_at 252 (by decide +kernel), by decide⟩
theorem aX2_isLoop_6 : dIs mX2_isLoop 6 2 7 := ⟨Or.inl ⟨2, by decide +kernel, rfl, rfl⟩, by decide⟩
theorem aX2_isLoop_7 : dAl mX2_isLoop 7 0 8 := Or.inl ⟨0, by decide +kernel, rfl, rfl⟩
theorem aX2_isLoop_8 : dIl mX2_isLoop 8 1 9 := Or.inl ⟨1, by decide +kernel, rfl, rfl⟩
theorem aX2_isLoop_9 : dV mX2_isLoop 9 mX2_isWhole 12 := ⟨64, by decide +kernel, rfl, dW_at 256 (by decide +kernel), by decide⟩
theorem aX2_isLoop_12 : dZ mX2_isLoop 12 .eq 15 29 := ⟨17, by decide +kernel, by decide, rfl⟩
theorem aX2_isLoop_15 : dIl mX2_isLoop 15 2 16 := Or.inl ⟨2, by decide +kernel, rfl, rfl⟩
theorem aX2_isLoop_16 : dZ mX2_isLoop 16 .le 19 29 := ⟨13, by decide +kernel, by decide, rfl⟩
theorem aX2_isLoop_19 : dIl mX2_isLoop 19 2 20 := Or.inl ⟨2, by decide +kernel, rfl, rfl⟩
theorem aX2_isLoop_20 : dKi mX2_isLoop 20 (nI 16) 22 := Or.inr (Or.inl ⟨16, by decide +kernel, by decide +kernel, rfl⟩)
theorem aX2_isLoop_22 : dC mX2_isLoop 22 .ge 25 29 := ⟨7, by decide +kernel, by decide, rfl⟩
theorem aX2_isLoop_25 : dKi mX2_isLoop 25 (nI 1) 26 := Or.inl ⟨1, by decide +kernel, by decide +kernel, rfl⟩
theorem aX2_isLoop_26 : dJ mX2_isLoop 26 30 := ⟨4, by decide +kernel, by decide⟩
theorem aX2_isLoop_29 : dKi mX2_isLoop 29 (nI 0) 30 := Or.inl ⟨0, by decide +kernel, by decide +kernel, rfl⟩
theorem aX2_isLoop_30 : dk mX2_isLoop 30 .ireturn 1 31 := ⟨by decide +kernel, rfl⟩
theorem okX2_isRing : okM mX2_isRing := ⟨dW_at 263 (by decide +kernel), dW_at 28 (by decide +kernel), by decide +kernel, by decide +kernel, by decide +kernel, Or.inl ⟨dW_at 261 (by decide +kernel), dW_at 262 (by decide +kernel)⟩⟩
theorem aX2_isRing_0 : dAl mX2_isRing 0 0 1 := Or.inl ⟨0, by decide +kernel, rfl, rfl⟩
theorem aX2_isRing_1 : dIl mX2_isRing 1 1 2 := Or.inl ⟨1, by decide +kernel, rfl, rfl⟩
theorem aX2_isRing_2 : dIl mX2_isRing 2 2 3 := Or.inl ⟨2, by decide +kernel, rfl, rfl⟩
theorem aX2_isRing_3 : dV mX2_isRing 3 mX2_sixteenthsTo 6 := ⟨61, by decide +kernel, rfl, dW_at 252 (by decide +kernel), by decide⟩
theorem aX2_isRing_6 : dIs mX2_isRing 6 3 7 := ⟨Or.inl ⟨3, by decide +kernel, rfl, rfl⟩, by decide⟩
theorem aX2_isRing_7 : dAl mX2_isRing 7 0 8 := Or.inl ⟨0, by decide +kernel, rfl, rfl⟩
theorem aX2_isRing_8 : dIl mX2_isRing 8 2 9 := Or.inl ⟨2, by decide +kernel, rfl, rfl⟩
theorem aX2_isRing_9 : dIl mX2_isRing 9 1 10 := Or.inl ⟨1, by decide +kernel, rfl, rfl⟩
theorem aX2_isRing_10 : dV mX2_isRing 10 mX2_sixteenthsTo 13 := ⟨61, by decide +kernel, rfl, dW_at 252 (by decide +kernel), by decide⟩
theorem aX2_isRing_13 : dIs mX2_isRing 13 4 15 := ⟨Or.inr ⟨by decide +kernel, rfl⟩, by decide⟩
theorem aX2_isRing_15 : dAl mX2_isRing 15 0 16 := Or.inl ⟨0, by decide +kernel, rfl, rfl⟩
theorem aX2_isRing_16 : dIl mX2_isRing 16 1 17 := Or.inl ⟨1, by decide +kernel, rfl, rfl⟩
theorem aX2_isRing_17 : dV mX2_isRing 17 mX2_isWhole 20 := ⟨64, by decide +kernel, rfl, dW_at 256 (by decide +kernel), by decide⟩
theorem aX2_isRing_20 : dZ mX2_isRing 20 .eq 23 72 := ⟨52, by decide +kernel, by decide, rfl⟩
theorem aX2_isRing_23 : dAl mX2_isRing 23 0 24 := Or.inl ⟨0, by decide +kernel, rfl, rfl⟩
theorem aX2_isRing_24 : dIl mX2_isRing 24 2 25 := Or.inl ⟨2, by decide +kernel, rfl, rfl⟩
theorem aX2_isRing_25 : dV mX2_isRing 25 mX2_isWhole 28 := ⟨64, by decide +kernel, rfl, dW_at 256 (by decide +kernel), by decide⟩
theorem aX2_isRing_28 : dZ mX2_isRing 28 .eq 31 72 := ⟨44, by decide +kernel, by decide, rfl⟩
theorem aX2_isRing_31 : dIl mX2_isRing 31 3 32 := Or.inl ⟨3, by decide +kernel, rfl, rfl⟩
theorem aX2_isRing_32 : dZ mX2_isRing 32 .le 35 72 := ⟨40, by decide +kernel, by decide, rfl⟩
theorem aX2_isRing_35 : dIl mX2_isRing 35 4 37 := Or.inr ⟨by decide +kernel, rfl⟩
theorem aX2_isRing_37 : dZ mX2_isRing 37 .le 40 72 := ⟨35, by decide +kernel, by decide, rfl⟩
theorem aX2_isRing_40 : dIl mX2_isRing 40 3 41 := Or.inl ⟨3, by decide +kernel, rfl, rfl⟩
theorem aX2_isRing_41 : dIl mX2_isRing 41 4 43 := Or.inr ⟨by decide +kernel, rfl⟩
theorem aX2_isRing_43 : dk mX2_isRing 43 .imul 1 44 := ⟨by decide +kernel, rfl⟩
theorem aX2_isRing_44 : dKi mX2_isRing 44 (nI 256) 47 := Or.inr (Or.inr (Or.inl ⟨256, by decide +kernel, by decide +kernel, rfl⟩))
theorem aX2_isRing_47 : dC mX2_isRing 47 .ge 50 72 := ⟨25, by decide +kernel, by decide, rfl⟩
theorem aX2_isRing_50 : dAl mX2_isRing 50 0 51 := Or.inl ⟨0, by decide +kernel, rfl, rfl⟩
theorem aX2_isRing_51 : dIl mX2_isRing 51 1 52 := Or.inl ⟨1, by decide +kernel, rfl, rfl⟩
theorem aX2_isRing_52 : dIl mX2_isRing 52 1 53 := Or.inl ⟨1, by decide +kernel, rfl, rfl⟩
theorem aX2_isRing_53 : dV mX2_isRing 53 mX2_sixteenthsTo 56 := ⟨61, by decide +kernel, rfl, dW_at 252 (by decide +kernel), by decide⟩
theorem aX2_isRing_56 : dZ mX2_isRing 56 .ne 59 72 := ⟨16, by decide +kernel, by decide, rfl⟩
theorem aX2_isRing_59 : dAl mX2_isRing 59 0 60 := Or.inl ⟨0, by decide +kernel, rfl, rfl⟩
theorem aX2_isRing_60 : dIl mX2_isRing 60 2 61 := Or.inl ⟨2, by decide +kernel, rfl, rfl⟩
theorem aX2_isRing_61 : dIl mX2_isRing 61 2 62 := Or.inl ⟨2, by decide +kernel, rfl, rfl⟩
theorem aX2_isRing_62 : dV mX2_isRing 62 mX2_sixteenthsTo 65 := ⟨61, by decide +kernel, rfl, dW_at 252 (by decide +kernel), by decide⟩
theorem aX2_isRing_65 : dZ mX2_isRing 65 .ne 68 72 := ⟨7, by decide +kernel, by decide, rfl⟩
theorem aX2_isRing_68 : dKi mX2_isRing 68 (nI 1) 69 := Or.inl ⟨1, by decide +kernel, by decide +kernel, rfl⟩
theorem aX2_isRing_69 : dJ mX2_isRing 69 73 := ⟨4, by decide +kernel, by decide⟩
theorem aX2_isRing_72 : dKi mX2_isRing 72 (nI 0) 73 := Or.inl ⟨0, by decide +kernel, by decide +kernel, rfl⟩
theorem aX2_isRing_73 : dk mX2_isRing 73 .ireturn 1 74 := ⟨by decide +kernel, rfl⟩
theorem okX2_forgetLaws : okM mX2_forgetLaws := ⟨dW_at 211 (by decide +kernel), dW_at 28 (by decide +kernel), by decide +kernel, by decide +kernel, by decide +kernel, Or.inl ⟨dW_at 209 (by decide +kernel), dW_at 210 (by decide +kernel)⟩⟩
theorem aX2_forgetLaws_0 : dAl mX2_forgetLaws 0 0 1 := Or.inl ⟨0, by decide +kernel, rfl, rfl⟩
theorem aX2_forgetLaws_1 : dG mX2_forgetLaws 1 2 2 4 := ⟨15, by decide +kernel, rfl, dW_at 55 (by decide +kernel), by decide⟩
theorem aX2_forgetLaws_4 : dKi mX2_forgetLaws 4 ((-1)) 5 := Or.inl ⟨-1, by decide +kernel, by decide +kernel, rfl⟩
theorem aX2_forgetLaws_5 : dS mX2_forgetLaws 5 mJ7_fill_53178 8 := ⟨67, by decide +kernel, rfl, dW_at 212 (by decide +kernel), by decide⟩
theorem aX2_forgetLaws_8 : dk mX2_forgetLaws 8 .return_ 1 9 := ⟨by decide +kernel, rfl⟩
theorem okX2_survey : okM mX2_survey := ⟨dW_at 279 (by decide +kernel), dW_at 28 (by decide +kernel), by decide +kernel, by decide +kernel, by decide +kernel, Or.inl ⟨dW_at 277 (by decide +kernel), dW_at 278 (by decide +kernel)⟩⟩
theorem aX2_survey_0 : dAl mX2_survey 0 0 1 := Or.inl ⟨0, by decide +kernel, rfl, rfl⟩
theorem aX2_survey_1 : dV mX2_survey 1 mX2_findComings 4 := ⟨73, by decide +kernel, rfl, dW_at 280 (by decide +kernel), by decide⟩
theorem aX2_survey_4 : dKi mX2_survey 4 (nI 0) 5 := Or.inl ⟨0, by decide +kernel, by decide +kernel, rfl⟩
theorem aX2_survey_5 : dIs mX2_survey 5 1 6 := ⟨Or.inl ⟨1, by decide +kernel, rfl, rfl⟩, by decide⟩
theorem aX2_survey_6 : dIl mX2_survey 6 1 7 := Or.inl ⟨1, by decide +kernel, rfl, rfl⟩
theorem aX2_survey_7 : dAl mX2_survey 7 0 8 := Or.inl ⟨0, by decide +kernel, rfl, rfl⟩
theorem aX2_survey_8 : dG mX2_survey 8 2 0 11 := ⟨42, by decide +kernel, rfl, dW_at 51 (by decide +kernel), by decide⟩
theorem aX2_survey_11 : dC mX2_survey 11 .ge 14 31 := ⟨20, by decide +kernel, by decide, rfl⟩
theorem aX2_survey_14 : dAl mX2_survey 14 0 15 := Or.inl ⟨0, by decide +kernel, rfl, rfl⟩
theorem aX2_survey_15 : dG mX2_survey 15 2 8 18 := ⟨35, by decide +kernel, rfl, dW_at 67 (by decide +kernel), by decide⟩
theorem aX2_survey_18 : dIl mX2_survey 18 1 19 := Or.inl ⟨1, by decide +kernel, rfl, rfl⟩
theorem aX2_survey_19 : dAl mX2_survey 19 0 20 := Or.inl ⟨0, by decide +kernel, rfl, rfl⟩
theorem aX2_survey_20 : dIl mX2_survey 20 1 21 := Or.inl ⟨1, by decide +kernel, rfl, rfl⟩
theorem aX2_survey_21 : dV mX2_survey 21 mX2_findReach 24 := ⟨76, by decide +kernel, rfl, dW_at 288 (by decide +kernel), by decide⟩
theorem aX2_survey_24 : dk mX2_survey 24 .iastore 1 25 := ⟨by decide +kernel, rfl⟩
theorem aX2_survey_25 : dIn mX2_survey 25 1 (nI 1) 28 := ⟨1, by decide +kernel, by decide +kernel, rfl, by decide⟩
theorem aX2_survey_28 : dJ mX2_survey 28 6 := ⟨-22, by decide +kernel, by decide⟩
theorem aX2_survey_31 : dKi mX2_survey 31 (nI 0) 32 := Or.inl ⟨0, by decide +kernel, by decide +kernel, rfl⟩
theorem aX2_survey_32 : dIs mX2_survey 32 1 33 := ⟨Or.inl ⟨1, by decide +kernel, rfl, rfl⟩, by decide⟩
theorem aX2_survey_33 : dIl mX2_survey 33 1 34 := Or.inl ⟨1, by decide +kernel, rfl, rfl⟩
theorem aX2_survey_34 : dAl mX2_survey 34 0 35 := Or.inl ⟨0, by decide +kernel, rfl, rfl⟩
theorem aX2_survey_35 : dG mX2_survey 35 2 0 38 := ⟨42, by decide +kernel, rfl, dW_at 51 (by decide +kernel), by decide⟩
theorem aX2_survey_38 : dC mX2_survey 38 .ge 41 58 := ⟨20, by decide +kernel, by decide, rfl⟩
theorem aX2_survey_41 : dAl mX2_survey 41 0 42 := Or.inl ⟨0, by decide +kernel, rfl, rfl⟩
theorem aX2_survey_42 : dG mX2_survey 42 2 9 45 := ⟨38, by decide +kernel, rfl, dW_at 69 (by decide +kernel), by decide⟩
theorem aX2_survey_45 : dIl mX2_survey 45 1 46 := Or.inl ⟨1, by decide +kernel, rfl, rfl⟩
theorem aX2_survey_46 : dAl mX2_survey 46 0 47 := Or.inl ⟨0, by decide +kernel, rfl, rfl⟩
theorem aX2_survey_47 : dIl mX2_survey 47 1 48 := Or.inl ⟨1, by decide +kernel, rfl, rfl⟩
theorem aX2_survey_48 : dV mX2_survey 48 mX2_findSure 51 := ⟨80, by decide +kernel, rfl, dW_at 293 (by decide +kernel), by decide⟩
theorem aX2_survey_51 : dk mX2_survey 51 .bastore 1 52 := ⟨by decide +kernel, rfl⟩
theorem aX2_survey_52 : dIn mX2_survey 52 1 (nI 1) 55 := ⟨1, by decide +kernel, by decide +kernel, rfl, by decide⟩
theorem aX2_survey_55 : dJ mX2_survey 55 33 := ⟨-22, by decide +kernel, by decide⟩
theorem aX2_survey_58 : dk mX2_survey 58 .return_ 1 59 := ⟨by decide +kernel, rfl⟩
theorem okX2_findComings : okM mX2_findComings := ⟨dW_at 283 (by decide +kernel), dW_at 28 (by decide +kernel), by decide +kernel, by decide +kernel, by decide +kernel, Or.inl ⟨dW_at 281 (by decide +kernel), dW_at 282 (by decide +kernel)⟩⟩
theorem aX2_findComings_0 : dKi mX2_findComings 0 (nI 0) 1 := Or.inl ⟨0, by decide +kernel, by decide +kernel, rfl⟩
theorem aX2_findComings_1 : dIs mX2_findComings 1 1 2 := ⟨Or.inl ⟨1, by decide +kernel, rfl, rfl⟩, by decide⟩
theorem aX2_findComings_2 : dIl mX2_findComings 2 1 3 := Or.inl ⟨1, by decide +kernel, rfl, rfl⟩
theorem aX2_findComings_3 : dAl mX2_findComings 3 0 4 := Or.inl ⟨0, by decide +kernel, rfl, rfl⟩
theorem aX2_findComings_4 : dG mX2_findComings 4 2 0 7 := ⟨42, by decide +kernel, rfl, dW_at 51 (by decide +kernel), by decide⟩
theorem aX2_findComings_7 : dC mX2_findComings 7 .ge 10 62 := ⟨55, by decide +kernel, by decide, rfl⟩
theorem aX2_findComings_10 : dAl mX2_findComings 10 0 11 := Or.inl ⟨0, by decide +kernel, rfl, rfl⟩
theorem aX2_findComings_11 : dG mX2_findComings 11 2 7 14 := ⟨32, by decide +kernel, rfl, dW_at 66 (by decide +kernel), by decide⟩
theorem aX2_findComings_14 : dIl mX2_findComings 14 1 15 := Or.inl ⟨1, by decide +kernel, rfl, rfl⟩
theorem aX2_findComings_15 : dKi mX2_findComings 15 (nI 1) 16 := Or.inl ⟨1, by decide +kernel, by decide +kernel, rfl⟩
theorem aX2_findComings_16 : dIl mX2_findComings 16 1 17 := Or.inl ⟨1, by decide +kernel, rfl, rfl⟩
theorem aX2_findComings_17 : dk mX2_findComings 17 .ishl 1 18 := ⟨by decide +kernel, rfl⟩
theorem aX2_findComings_18 : dk mX2_findComings 18 .iastore 1 19 := ⟨by decide +kernel, rfl⟩
theorem aX2_findComings_19 : dKi mX2_findComings 19 (nI 0) 20 := Or.inl ⟨0, by decide +kernel, by decide +kernel, rfl⟩
theorem aX2_findComings_20 : dIs mX2_findComings 20 2 21 := ⟨Or.inl ⟨2, by decide +kernel, rfl, rfl⟩, by decide⟩
theorem aX2_findComings_21 : dIl mX2_findComings 21 2 22 := Or.inl ⟨2, by decide +kernel, rfl, rfl⟩
theorem aX2_findComings_22 : dAl mX2_findComings 22 0 23 := Or.inl ⟨0, by decide +kernel, rfl, rfl⟩
theorem aX2_findComings_23 : dG mX2_findComings 23 2 4 26 := ⟨21, by decide +kernel, rfl, dW_at 60 (by decide +kernel), by decide⟩
theorem aX2_findComings_26 : dIl mX2_findComings 26 1 27 := Or.inl ⟨1, by decide +kernel, rfl, rfl⟩
theorem aX2_findComings_27 : dk mX2_findComings 27 .iaload 1 28 := ⟨by decide +kernel, rfl⟩
theorem aX2_findComings_28 : dC mX2_findComings 28 .ge 31 56 := ⟨28, by decide +kernel, by decide, rfl⟩
theorem aX2_findComings_31 : dAl mX2_findComings 31 0 32 := Or.inl ⟨0, by decide +kernel, rfl, rfl⟩
theorem aX2_findComings_32 : dG mX2_findComings 32 2 7 35 := ⟨32, by decide +kernel, rfl, dW_at 66 (by decide +kernel), by decide⟩
theorem aX2_findComings_35 : dIl mX2_findComings 35 1 36 := Or.inl ⟨1, by decide +kernel, rfl, rfl⟩
theorem aX2_findComings_36 : dk mX2_findComings 36 .dup2 1 37 := ⟨by decide +kernel, rfl⟩
theorem aX2_findComings_37 : dk mX2_findComings 37 .iaload 1 38 := ⟨by decide +kernel, rfl⟩
theorem aX2_findComings_38 : dKi mX2_findComings 38 (nI 1) 39 := Or.inl ⟨1, by decide +kernel, by decide +kernel, rfl⟩
theorem aX2_findComings_39 : dAl mX2_findComings 39 0 40 := Or.inl ⟨0, by decide +kernel, rfl, rfl⟩
theorem aX2_findComings_40 : dG mX2_findComings 40 2 5 43 := ⟨26, by decide +kernel, rfl, dW_at 62 (by decide +kernel), by decide⟩
theorem aX2_findComings_43 : dIl mX2_findComings 43 1 44 := Or.inl ⟨1, by decide +kernel, rfl, rfl⟩
theorem aX2_findComings_44 : dk mX2_findComings 44 .aaload 1 45 := ⟨by decide +kernel, rfl⟩
theorem aX2_findComings_45 : dIl mX2_findComings 45 2 46 := Or.inl ⟨2, by decide +kernel, rfl, rfl⟩
theorem aX2_findComings_46 : dk mX2_findComings 46 .iaload 1 47 := ⟨by decide +kernel, rfl⟩
theorem aX2_findComings_47 : dk mX2_findComings 47 .ishl 1 48 := ⟨by decide +kernel, rfl⟩
theorem aX2_findComings_48 : dk mX2_findComings 48 .ior 1 49 := ⟨by decide +kernel, rfl⟩
theorem aX2_findComings_49 : dk mX2_findComings 49 .iastore 1 50 := ⟨by decide +kernel, rfl⟩
theorem aX2_findComings_50 : dIn mX2_findComings 50 2 (nI 1) 53 := ⟨1, by decide +kernel, by decide +kernel, rfl, by decide⟩
theorem aX2_findComings_53 : dJ mX2_findComings 53 21 := ⟨-32, by decide +kernel, by decide⟩
theorem aX2_findComings_56 : dIn mX2_findComings 56 1 (nI 1) 59 := ⟨1, by decide +kernel, by decide +kernel, rfl, by decide⟩
theorem aX2_findComings_59 : dJ mX2_findComings 59 2 := ⟨-57, by decide +kernel, by decide⟩
theorem aX2_findComings_62 : dKi mX2_findComings 62 (nI 0) 63 := Or.inl ⟨0, by decide +kernel, by decide +kernel, rfl⟩
theorem aX2_findComings_63 : dIs mX2_findComings 63 1 64 := ⟨Or.inl ⟨1, by decide +kernel, rfl, rfl⟩, by decide⟩
theorem aX2_findComings_64 : dIl mX2_findComings 64 1 65 := Or.inl ⟨1, by decide +kernel, rfl, rfl⟩
theorem aX2_findComings_65 : dAl mX2_findComings 65 0 66 := Or.inl ⟨0, by decide +kernel, rfl, rfl⟩
theorem aX2_findComings_66 : dG mX2_findComings 66 2 0 69 := ⟨42, by decide +kernel, rfl, dW_at 51 (by decide +kernel), by decide⟩
theorem aX2_findComings_69 : dC mX2_findComings 69 .ge 72 118 := ⟨49, by decide +kernel, by decide, rfl⟩
theorem aX2_findComings_72 : dKi mX2_findComings 72 (nI 0) 73 := Or.inl ⟨0, by decide +kernel, by decide +kernel, rfl⟩
theorem aX2_findComings_73 : dIs mX2_findComings 73 2 74 := ⟨Or.inl ⟨2, by decide +kernel, rfl, rfl⟩, by decide⟩
theorem aX2_findComings_74 : dIl mX2_findComings 74 2 75 := Or.inl ⟨2, by decide +kernel, rfl, rfl⟩
theorem aX2_findComings_75 : dAl mX2_findComings 75 0 76 := Or.inl ⟨0, by decide +kernel, rfl, rfl⟩
theorem aX2_findComings_76 : dG mX2_findComings 76 2 0 79 := ⟨42, by decide +kernel, rfl, dW_at 51 (by decide +kernel), by decide⟩
theorem aX2_findComings_79 : dC mX2_findComings 79 .ge 82 112 := ⟨33, by decide +kernel, by decide, rfl⟩
theorem aX2_findComings_82 : dAl mX2_findComings 82 0 83 := Or.inl ⟨0, by decide +kernel, rfl, rfl⟩
theorem aX2_findComings_83 : dIl mX2_findComings 83 2 84 := Or.inl ⟨2, by decide +kernel, rfl, rfl⟩
theorem aX2_findComings_84 : dIl mX2_findComings 84 1 85 := Or.inl ⟨1, by decide +kernel, rfl, rfl⟩
theorem aX2_findComings_85 : dV mX2_findComings 85 mX2_comes 88 := ⟨83, by decide +kernel, rfl, dW_at 284 (by decide +kernel), by decide⟩
theorem aX2_findComings_88 : dZ mX2_findComings 88 .eq 91 106 := ⟨18, by decide +kernel, by decide, rfl⟩
theorem aX2_findComings_91 : dAl mX2_findComings 91 0 92 := Or.inl ⟨0, by decide +kernel, rfl, rfl⟩
theorem aX2_findComings_92 : dG mX2_findComings 92 2 7 95 := ⟨32, by decide +kernel, rfl, dW_at 66 (by decide +kernel), by decide⟩
theorem aX2_findComings_95 : dIl mX2_findComings 95 2 96 := Or.inl ⟨2, by decide +kernel, rfl, rfl⟩
theorem aX2_findComings_96 : dk mX2_findComings 96 .dup2 1 97 := ⟨by decide +kernel, rfl⟩
theorem aX2_findComings_97 : dk mX2_findComings 97 .iaload 1 98 := ⟨by decide +kernel, rfl⟩
theorem aX2_findComings_98 : dAl mX2_findComings 98 0 99 := Or.inl ⟨0, by decide +kernel, rfl, rfl⟩
theorem aX2_findComings_99 : dG mX2_findComings 99 2 7 102 := ⟨32, by decide +kernel, rfl, dW_at 66 (by decide +kernel), by decide⟩
theorem aX2_findComings_102 : dIl mX2_findComings 102 1 103 := Or.inl ⟨1, by decide +kernel, rfl, rfl⟩
theorem aX2_findComings_103 : dk mX2_findComings 103 .iaload 1 104 := ⟨by decide +kernel, rfl⟩
theorem aX2_findComings_104 : dk mX2_findComings 104 .ior 1 105 := ⟨by decide +kernel, rfl⟩
theorem aX2_findComings_105 : dk mX2_findComings 105 .iastore 1 106 := ⟨by decide +kernel, rfl⟩
theorem aX2_findComings_106 : dIn mX2_findComings 106 2 (nI 1) 109 := ⟨1, by decide +kernel, by decide +kernel, rfl, by decide⟩
theorem aX2_findComings_109 : dJ mX2_findComings 109 74 := ⟨-35, by decide +kernel, by decide⟩
theorem aX2_findComings_112 : dIn mX2_findComings 112 1 (nI 1) 115 := ⟨1, by decide +kernel, by decide +kernel, rfl, by decide⟩
theorem aX2_findComings_115 : dJ mX2_findComings 115 64 := ⟨-51, by decide +kernel, by decide⟩
theorem aX2_findComings_118 : dk mX2_findComings 118 .return_ 1 119 := ⟨by decide +kernel, rfl⟩
theorem okX2_comes : okM mX2_comes := ⟨dW_at 287 (by decide +kernel), dW_at 28 (by decide +kernel), by decide +kernel, by decide +kernel, by decide +kernel, Or.inl ⟨dW_at 285 (by decide +kernel), dW_at 286 (by decide +kernel)⟩⟩
theorem aX2_comes_0 : dAl mX2_comes 0 0 1 := Or.inl ⟨0, by decide +kernel, rfl, rfl⟩
theorem aX2_comes_1 : dG mX2_comes 1 2 7 4 := ⟨32, by decide +kernel, rfl, dW_at 66 (by decide +kernel), by decide⟩
theorem aX2_comes_4 : dIl mX2_comes 4 1 5 := Or.inl ⟨1, by decide +kernel, rfl, rfl⟩
theorem aX2_comes_5 : dk mX2_comes 5 .iaload 1 6 := ⟨by decide +kernel, rfl⟩
theorem aX2_comes_6 : dIl mX2_comes 6 2 7 := Or.inl ⟨2, by decide +kernel, rfl, rfl⟩
theorem aX2_comes_7 : dk mX2_comes 7 .ishr 1 8 := ⟨by decide +kernel, rfl⟩
theorem aX2_comes_8 : dKi mX2_comes 8 (nI 1) 9 := Or.inl ⟨1, by decide +kernel, by decide +kernel, rfl⟩
theorem aX2_comes_9 : dk mX2_comes 9 .iand 1 10 := ⟨by decide +kernel, rfl⟩
theorem aX2_comes_10 : dKi mX2_comes 10 (nI 1) 11 := Or.inl ⟨1, by decide +kernel, by decide +kernel, rfl⟩
theorem aX2_comes_11 : dC mX2_comes 11 .ne 14 18 := ⟨7, by decide +kernel, by decide, rfl⟩
theorem aX2_comes_14 : dKi mX2_comes 14 (nI 1) 15 := Or.inl ⟨1, by decide +kernel, by decide +kernel, rfl⟩
theorem aX2_comes_15 : dJ mX2_comes 15 19 := ⟨4, by decide +kernel, by decide⟩
theorem aX2_comes_18 : dKi mX2_comes 18 (nI 0) 19 := Or.inl ⟨0, by decide +kernel, by decide +kernel, rfl⟩
theorem aX2_comes_19 : dk mX2_comes 19 .ireturn 1 20 := ⟨by decide +kernel, rfl⟩
theorem okX2_findReach : okM mX2_findReach := ⟨dW_at 291 (by decide +kernel), dW_at 28 (by decide +kernel), by decide +kernel, by decide +kernel, by decide +kernel, Or.inl ⟨dW_at 289 (by decide +kernel), dW_at 290 (by decide +kernel)⟩⟩
theorem aX2_findReach_0 : dKi mX2_findReach 0 (nI 0) 1 := Or.inl ⟨0, by decide +kernel, by decide +kernel, rfl⟩
theorem aX2_findReach_1 : dIs mX2_findReach 1 2 2 := ⟨Or.inl ⟨2, by decide +kernel, rfl, rfl⟩, by decide⟩
theorem aX2_findReach_2 : dKi mX2_findReach 2 (nI 0) 3 := Or.inl ⟨0, by decide +kernel, by decide +kernel, rfl⟩
theorem aX2_findReach_3 : dIs mX2_findReach 3 3 4 := ⟨Or.inl ⟨3, by decide +kernel, rfl, rfl⟩, by decide⟩
theorem aX2_findReach_4 : dIl mX2_findReach 4 3 5 := Or.inl ⟨3, by decide +kernel, rfl, rfl⟩
theorem aX2_findReach_5 : dAl mX2_findReach 5 0 6 := Or.inl ⟨0, by decide +kernel, rfl, rfl⟩
theorem aX2_findReach_6 : dG mX2_findReach 6 2 0 9 := ⟨42, by decide +kernel, rfl, dW_at 51 (by decide +kernel), by decide⟩
theorem aX2_findReach_9 : dC mX2_findReach 9 .ge 12 46 := ⟨37, by decide +kernel, by decide, rfl⟩
theorem aX2_findReach_12 : dAl mX2_findReach 12 0 13 := Or.inl ⟨0, by decide +kernel, rfl, rfl⟩
theorem aX2_findReach_13 : dIl mX2_findReach 13 1 14 := Or.inl ⟨1, by decide +kernel, rfl, rfl⟩
theorem aX2_findReach_14 : dIl mX2_findReach 14 3 15 := Or.inl ⟨3, by decide +kernel, rfl, rfl⟩
theorem aX2_findReach_15 : dV mX2_findReach 15 mX2_comes 18 := ⟨83, by decide +kernel, rfl, dW_at 284 (by decide +kernel), by decide⟩
theorem aX2_findReach_18 : dZ mX2_findReach 18 .eq 21 40 := ⟨22, by decide +kernel, by decide, rfl⟩
theorem aX2_findReach_21 : dAl mX2_findReach 21 0 22 := Or.inl ⟨0, by decide +kernel, rfl, rfl⟩
theorem aX2_findReach_22 : dIl mX2_findReach 22 3 23 := Or.inl ⟨3, by decide +kernel, rfl, rfl⟩
theorem aX2_findReach_23 : dV mX2_findReach 23 mX2_goesOn 26 := ⟨86, by decide +kernel, rfl, dW_at 292 (by decide +kernel), by decide⟩
theorem aX2_findReach_26 : dZ mX2_findReach 26 .ne 29 40 := ⟨14, by decide +kernel, by decide, rfl⟩
theorem aX2_findReach_29 : dIl mX2_findReach 29 2 30 := Or.inl ⟨2, by decide +kernel, rfl, rfl⟩
theorem aX2_findReach_30 : dKi mX2_findReach 30 (nI 1) 31 := Or.inl ⟨1, by decide +kernel, by decide +kernel, rfl⟩
theorem aX2_findReach_31 : dAl mX2_findReach 31 0 32 := Or.inl ⟨0, by decide +kernel, rfl, rfl⟩
theorem aX2_findReach_32 : dG mX2_findReach 32 2 1 35 := ⟨9, by decide +kernel, rfl, dW_at 53 (by decide +kernel), by decide⟩
theorem aX2_findReach_35 : dIl mX2_findReach 35 3 36 := Or.inl ⟨3, by decide +kernel, rfl, rfl⟩
theorem aX2_findReach_36 : dk mX2_findReach 36 .iaload 1 37 := ⟨by decide +kernel, rfl⟩
theorem aX2_findReach_37 : dk mX2_findReach 37 .ishl 1 38 := ⟨by decide +kernel, rfl⟩
theorem aX2_findReach_38 : dk mX2_findReach 38 .ior 1 39 := ⟨by decide +kernel, rfl⟩
theorem aX2_findReach_39 : dIs mX2_findReach 39 2 40 := ⟨Or.inl ⟨2, by decide +kernel, rfl, rfl⟩, by decide⟩
theorem aX2_findReach_40 : dIn mX2_findReach 40 3 (nI 1) 43 := ⟨1, by decide +kernel, by decide +kernel, rfl, by decide⟩
theorem aX2_findReach_43 : dJ mX2_findReach 43 4 := ⟨-39, by decide +kernel, by decide⟩
theorem aX2_findReach_46 : dIl mX2_findReach 46 2 47 := Or.inl ⟨2, by decide +kernel, rfl, rfl⟩
theorem aX2_findReach_47 : dk mX2_findReach 47 .ireturn 1 48 := ⟨by decide +kernel, rfl⟩
theorem okX2_findSure : okM mX2_findSure := ⟨dW_at 296 (by decide +kernel), dW_at 28 (by decide +kernel), by decide +kernel, by decide +kernel, by decide +kernel, Or.inl ⟨dW_at 294 (by decide +kernel), dW_at 295 (by decide +kernel)⟩⟩
theorem aX2_findSure_0 : dKi mX2_findSure 0 (nI 0) 1 := Or.inl ⟨0, by decide +kernel, by decide +kernel, rfl⟩
theorem aX2_findSure_1 : dIs mX2_findSure 1 2 2 := ⟨Or.inl ⟨2, by decide +kernel, rfl, rfl⟩, by decide⟩
theorem aX2_findSure_2 : dIl mX2_findSure 2 2 3 := Or.inl ⟨2, by decide +kernel, rfl, rfl⟩
theorem aX2_findSure_3 : dAl mX2_findSure 3 0 4 := Or.inl ⟨0, by decide +kernel, rfl, rfl⟩
theorem aX2_findSure_4 : dG mX2_findSure 4 2 0 7 := ⟨42, by decide +kernel, rfl, dW_at 51 (by decide +kernel), by decide⟩
theorem aX2_findSure_7 : dC mX2_findSure 7 .ge 10 36 := ⟨29, by decide +kernel, by decide, rfl⟩
theorem aX2_findSure_10 : dAl mX2_findSure 10 0 11 := Or.inl ⟨0, by decide +kernel, rfl, rfl⟩
theorem aX2_findSure_11 : dIl mX2_findSure 11 1 12 := Or.inl ⟨1, by decide +kernel, rfl, rfl⟩
theorem aX2_findSure_12 : dIl mX2_findSure 12 2 13 := Or.inl ⟨2, by decide +kernel, rfl, rfl⟩
theorem aX2_findSure_13 : dV mX2_findSure 13 mX2_comes 16 := ⟨83, by decide +kernel, rfl, dW_at 284 (by decide +kernel), by decide⟩
theorem aX2_findSure_16 : dZ mX2_findSure 16 .eq 19 30 := ⟨14, by decide +kernel, by decide, rfl⟩
theorem aX2_findSure_19 : dAl mX2_findSure 19 0 20 := Or.inl ⟨0, by decide +kernel, rfl, rfl⟩
theorem aX2_findSure_20 : dG mX2_findSure 20 2 8 23 := ⟨35, by decide +kernel, rfl, dW_at 67 (by decide +kernel), by decide⟩
theorem aX2_findSure_23 : dIl mX2_findSure 23 2 24 := Or.inl ⟨2, by decide +kernel, rfl, rfl⟩
theorem aX2_findSure_24 : dk mX2_findSure 24 .iaload 1 25 := ⟨by decide +kernel, rfl⟩
theorem aX2_findSure_25 : dZ mX2_findSure 25 .ne 28 30 := ⟨5, by decide +kernel, by decide, rfl⟩
theorem aX2_findSure_28 : dKi mX2_findSure 28 (nI 0) 29 := Or.inl ⟨0, by decide +kernel, by decide +kernel, rfl⟩
theorem aX2_findSure_29 : dk mX2_findSure 29 .ireturn 1 30 := ⟨by decide +kernel, rfl⟩
theorem aX2_findSure_30 : dIn mX2_findSure 30 2 (nI 1) 33 := ⟨1, by decide +kernel, by decide +kernel, rfl, by decide⟩
theorem aX2_findSure_33 : dJ mX2_findSure 33 2 := ⟨-31, by decide +kernel, by decide⟩
theorem aX2_findSure_36 : dKi mX2_findSure 36 (nI 1) 37 := Or.inl ⟨1, by decide +kernel, by decide +kernel, rfl⟩
theorem aX2_findSure_37 : dk mX2_findSure 37 .ireturn 1 38 := ⟨by decide +kernel, rfl⟩
theorem okX2_isWholeFrom : okM mX2_isWholeFrom := ⟨dW_at 300 (by decide +kernel), dW_at 28 (by decide +kernel), by decide +kernel, by decide +kernel, by decide +kernel, Or.inl ⟨dW_at 298 (by decide +kernel), dW_at 299 (by decide +kernel)⟩⟩
theorem aX2_isWholeFrom_0 : dKi mX2_isWholeFrom 0 (nI 0) 1 := Or.inl ⟨0, by decide +kernel, by decide +kernel, rfl⟩
theorem aX2_isWholeFrom_1 : dIs mX2_isWholeFrom 1 2 2 := ⟨Or.inl ⟨2, by decide +kernel, rfl, rfl⟩, by decide⟩
theorem aX2_isWholeFrom_2 : dIl mX2_isWholeFrom 2 2 3 := Or.inl ⟨2, by decide +kernel, rfl, rfl⟩
theorem aX2_isWholeFrom_3 : dAl mX2_isWholeFrom 3 0 4 := Or.inl ⟨0, by decide +kernel, rfl, rfl⟩
theorem aX2_isWholeFrom_4 : dG mX2_isWholeFrom 4 2 0 7 := ⟨42, by decide +kernel, rfl, dW_at 51 (by decide +kernel), by decide⟩
theorem aX2_isWholeFrom_7 : dC mX2_isWholeFrom 7 .ge 10 43 := ⟨36, by decide +kernel, by decide, rfl⟩
theorem aX2_isWholeFrom_10 : dAl mX2_isWholeFrom 10 0 11 := Or.inl ⟨0, by decide +kernel, rfl, rfl⟩
theorem aX2_isWholeFrom_11 : dIl mX2_isWholeFrom 11 1 12 := Or.inl ⟨1, by decide +kernel, rfl, rfl⟩
theorem aX2_isWholeFrom_12 : dIl mX2_isWholeFrom 12 2 13 := Or.inl ⟨2, by decide +kernel, rfl, rfl⟩
theorem aX2_isWholeFrom_13 : dV mX2_isWholeFrom 13 mX2_comes 16 := ⟨83, by decide +kernel, rfl, dW_at 284 (by decide +kernel), by decide⟩
theorem aX2_isWholeFrom_16 : dZ mX2_isWholeFrom 16 .eq 19 37 := ⟨21, by decide +kernel, by decide, rfl⟩
theorem aX2_isWholeFrom_19 : dAl mX2_isWholeFrom 19 0 20 := Or.inl ⟨0, by decide +kernel, rfl, rfl⟩
theorem aX2_isWholeFrom_20 : dIl mX2_isWholeFrom 20 2 21 := Or.inl ⟨2, by decide +kernel, rfl, rfl⟩
theorem aX2_isWholeFrom_21 : dV mX2_isWholeFrom 21 mX2_goesOn 24 := ⟨86, by decide +kernel, rfl, dW_at 292 (by decide +kernel), by decide⟩
theorem aX2_isWholeFrom_24 : dZ mX2_isWholeFrom 24 .eq 27 37 := ⟨13, by decide +kernel, by decide, rfl⟩
theorem aX2_isWholeFrom_27 : dAl mX2_isWholeFrom 27 0 28 := Or.inl ⟨0, by decide +kernel, rfl, rfl⟩
theorem aX2_isWholeFrom_28 : dIl mX2_isWholeFrom 28 2 29 := Or.inl ⟨2, by decide +kernel, rfl, rfl⟩
theorem aX2_isWholeFrom_29 : dV mX2_isWholeFrom 29 mX2_isWhole 32 := ⟨64, by decide +kernel, rfl, dW_at 256 (by decide +kernel), by decide⟩
theorem aX2_isWholeFrom_32 : dZ mX2_isWholeFrom 32 .ne 35 37 := ⟨5, by decide +kernel, by decide, rfl⟩
theorem aX2_isWholeFrom_35 : dKi mX2_isWholeFrom 35 (nI 0) 36 := Or.inl ⟨0, by decide +kernel, by decide +kernel, rfl⟩
theorem aX2_isWholeFrom_36 : dk mX2_isWholeFrom 36 .ireturn 1 37 := ⟨by decide +kernel, rfl⟩
theorem aX2_isWholeFrom_37 : dIn mX2_isWholeFrom 37 2 (nI 1) 40 := ⟨1, by decide +kernel, by decide +kernel, rfl, by decide⟩
theorem aX2_isWholeFrom_40 : dJ mX2_isWholeFrom 40 2 := ⟨-38, by decide +kernel, by decide⟩
theorem aX2_isWholeFrom_43 : dKi mX2_isWholeFrom 43 (nI 1) 44 := Or.inl ⟨1, by decide +kernel, by decide +kernel, rfl⟩
theorem aX2_isWholeFrom_44 : dk mX2_isWholeFrom 44 .ireturn 1 45 := ⟨by decide +kernel, rfl⟩
theorem okX2_endsWithin : okM mX2_endsWithin := ⟨dW_at 414 (by decide +kernel), dW_at 28 (by decide +kernel), by decide +kernel, by decide +kernel, by decide +kernel, Or.inl ⟨dW_at 412 (by decide +kernel), dW_at 413 (by decide +kernel)⟩⟩
theorem aX2_endsWithin_0 : dAl mX2_endsWithin 0 0 1 := Or.inl ⟨0, by decide +kernel, rfl, rfl⟩
theorem aX2_endsWithin_1 : dG mX2_endsWithin 1 2 9 4 := ⟨38, by decide +kernel, rfl, dW_at 69 (by decide +kernel), by decide⟩
theorem aX2_endsWithin_4 : dIl mX2_endsWithin 4 1 5 := Or.inl ⟨1, by decide +kernel, rfl, rfl⟩
theorem aX2_endsWithin_5 : dk mX2_endsWithin 5 .baload 1 6 := ⟨by decide +kernel, rfl⟩
theorem aX2_endsWithin_6 : dZ mX2_endsWithin 6 .eq 9 26 := ⟨20, by decide +kernel, by decide, rfl⟩
theorem aX2_endsWithin_9 : dAl mX2_endsWithin 9 0 10 := Or.inl ⟨0, by decide +kernel, rfl, rfl⟩
theorem aX2_endsWithin_10 : dG mX2_endsWithin 10 2 8 13 := ⟨35, by decide +kernel, rfl, dW_at 67 (by decide +kernel), by decide⟩
theorem aX2_endsWithin_13 : dIl mX2_endsWithin 13 1 14 := Or.inl ⟨1, by decide +kernel, rfl, rfl⟩
theorem aX2_endsWithin_14 : dk mX2_endsWithin 14 .iaload 1 15 := ⟨by decide +kernel, rfl⟩
theorem aX2_endsWithin_15 : dIl mX2_endsWithin 15 2 16 := Or.inl ⟨2, by decide +kernel, rfl, rfl⟩
theorem aX2_endsWithin_16 : dKi mX2_endsWithin 16 ((-1)) 17 := Or.inl ⟨-1, by decide +kernel, by decide +kernel, rfl⟩
theorem aX2_endsWithin_17 : dk mX2_endsWithin 17 .ixor 1 18 := ⟨by decide +kernel, rfl⟩
theorem aX2_endsWithin_18 : dk mX2_endsWithin 18 .iand 1 19 := ⟨by decide +kernel, rfl⟩
theorem aX2_endsWithin_19 : dZ mX2_endsWithin 19 .ne 22 26 := ⟨7, by decide +kernel, by decide, rfl⟩
theorem aX2_endsWithin_22 : dKi mX2_endsWithin 22 (nI 1) 23 := Or.inl ⟨1, by decide +kernel, by decide +kernel, rfl⟩
theorem aX2_endsWithin_23 : dJ mX2_endsWithin 23 27 := ⟨4, by decide +kernel, by decide⟩
theorem aX2_endsWithin_26 : dKi mX2_endsWithin 26 (nI 0) 27 := Or.inl ⟨0, by decide +kernel, by decide +kernel, rfl⟩
theorem aX2_endsWithin_27 : dk mX2_endsWithin 27 .ireturn 1 28 := ⟨by decide +kernel, rfl⟩
theorem okJ7_fill_d0a16 : okM mJ7_fill_d0a16 := ⟨dW_at 307 (by decide +kernel), dW_at 32 (by decide +kernel), by decide +kernel, by decide +kernel, by decide +kernel, Or.inr (dW_at 306 (by decide +kernel))⟩
theorem aJ7_fill_d0a16_0 : dKi mJ7_fill_d0a16 0 (nI 0) 1 := Or.inl ⟨0, by decide +kernel, by decide +kernel, rfl⟩
theorem aJ7_fill_d0a16_1 : dIs mJ7_fill_d0a16 1 3 2 := ⟨Or.inl ⟨3, by decide +kernel, rfl, rfl⟩, by decide⟩
theorem aJ7_fill_d0a16_2 : dAl mJ7_fill_d0a16 2 0 3 := Or.inl ⟨0, by decide +kernel, rfl, rfl⟩
theorem aJ7_fill_d0a16_3 : dk mJ7_fill_d0a16 3 .arraylength 1 4 := ⟨by decide +kernel, rfl⟩
theorem aJ7_fill_d0a16_4 : dIs mJ7_fill_d0a16 4 4 6 := ⟨Or.inr ⟨by decide +kernel, rfl⟩, by decide⟩
theorem aJ7_fill_d0a16_6 : dIl mJ7_fill_d0a16 6 3 7 := Or.inl ⟨3, by decide +kernel, rfl, rfl⟩
theorem aJ7_fill_d0a16_7 : dIl mJ7_fill_d0a16 7 4 9 := Or.inr ⟨by decide +kernel, rfl⟩
theorem aJ7_fill_d0a16_9 : dC mJ7_fill_d0a16 9 .ge 12 22 := ⟨13, by decide +kernel, by decide, rfl⟩
theorem aJ7_fill_d0a16_12 : dAl mJ7_fill_d0a16 12 0 13 := Or.inl ⟨0, by decide +kernel, rfl, rfl⟩
theorem aJ7_fill_d0a16_13 : dIl mJ7_fill_d0a16 13 3 14 := Or.inl ⟨3, by decide +kernel, rfl, rfl⟩
theorem aJ7_fill_d0a16_14 : dLl mJ7_fill_d0a16 14 1 15 := Or.inl ⟨1, by decide +kernel, rfl, rfl⟩
theorem aJ7_fill_d0a16_15 : dk mJ7_fill_d0a16 15 .lastore 1 16 := ⟨by decide +kernel, rfl⟩
theorem aJ7_fill_d0a16_16 : dIn mJ7_fill_d0a16 16 3 (nI 1) 19 := ⟨1, by decide +kernel, by decide +kernel, rfl, by decide⟩
theorem aJ7_fill_d0a16_19 : dJ mJ7_fill_d0a16 19 6 := ⟨-13, by decide +kernel, by decide⟩
theorem aJ7_fill_d0a16_22 : dk mJ7_fill_d0a16 22 .return_ 1 23 := ⟨by decide +kernel, rfl⟩
theorem okJ7_fill_53178 : okM mJ7_fill_53178 := ⟨dW_at 214 (by decide +kernel), dW_at 32 (by decide +kernel), by decide +kernel, by decide +kernel, by decide +kernel, Or.inr (dW_at 213 (by decide +kernel))⟩
theorem aJ7_fill_53178_0 : dKi mJ7_fill_53178 0 (nI 0) 1 := Or.inl ⟨0, by decide +kernel, by decide +kernel, rfl⟩
theorem aJ7_fill_53178_1 : dIs mJ7_fill_53178 1 2 2 := ⟨Or.inl ⟨2, by decide +kernel, rfl, rfl⟩, by decide⟩
theorem aJ7_fill_53178_2 : dAl mJ7_fill_53178 2 0 3 := Or.inl ⟨0, by decide +kernel, rfl, rfl⟩
theorem aJ7_fill_53178_3 : dk mJ7_fill_53178 3 .arraylength 1 4 := ⟨by decide +kernel, rfl⟩
theorem aJ7_fill_53178_4 : dIs mJ7_fill_53178 4 3 5 := ⟨Or.inl ⟨3, by decide +kernel, rfl, rfl⟩, by decide⟩
theorem aJ7_fill_53178_5 : dIl mJ7_fill_53178 5 2 6 := Or.inl ⟨2, by decide +kernel, rfl, rfl⟩
theorem aJ7_fill_53178_6 : dIl mJ7_fill_53178 6 3 7 := Or.inl ⟨3, by decide +kernel, rfl, rfl⟩
theorem aJ7_fill_53178_7 : dC mJ7_fill_53178 7 .ge 10 20 := ⟨13, by decide +kernel, by decide, rfl⟩
theorem aJ7_fill_53178_10 : dAl mJ7_fill_53178 10 0 11 := Or.inl ⟨0, by decide +kernel, rfl, rfl⟩
theorem aJ7_fill_53178_11 : dIl mJ7_fill_53178 11 2 12 := Or.inl ⟨2, by decide +kernel, rfl, rfl⟩
theorem aJ7_fill_53178_12 : dIl mJ7_fill_53178 12 1 13 := Or.inl ⟨1, by decide +kernel, rfl, rfl⟩
theorem aJ7_fill_53178_13 : dk mJ7_fill_53178 13 .iastore 1 14 := ⟨by decide +kernel, rfl⟩
theorem aJ7_fill_53178_14 : dIn mJ7_fill_53178 14 2 (nI 1) 17 := ⟨1, by decide +kernel, by decide +kernel, rfl, by decide⟩
theorem aJ7_fill_53178_17 : dJ mJ7_fill_53178 17 5 := ⟨-12, by decide +kernel, by decide⟩
theorem aJ7_fill_53178_20 : dk mJ7_fill_53178 20 .return_ 1 21 := ⟨by decide +kernel, rfl⟩
end
section
theorem aX3_init_0 : dAl mX3_init 0 0 1 := Or.inl ⟨0, by decide +kernel, rfl, rfl⟩
theorem aX3_init_4 : dAl mX3_init 4 0 5 := Or.inl ⟨0, by decide +kernel, rfl, rfl⟩
theorem aX3_init_8 : dk mX3_init 8 .dup 1 9 := ⟨by decide +kernel, rfl⟩
theorem aX3_init_12 : dP mX3_init 12 3 0 15 := ⟨12, by decide +kernel, rfl, dW_at 171 (by decide +kernel), by decide⟩
theorem aX3_init_15 : dAl mX3_init 15 0 16 := Or.inl ⟨0, by decide +kernel, rfl, rfl⟩
theorem aX3_init_19 : dk mX3_init 19 .dup 1 20 := ⟨by decide +kernel, rfl⟩
theorem aX3_init_23 : dP mX3_init 23 3 1 26 := ⟨19, by decide +kernel, rfl, dW_at 172 (by decide +kernel), by decide⟩
theorem aX3_init_26 : dAl mX3_init 26 0 27 := Or.inl ⟨0, by decide +kernel, rfl, rfl⟩
theorem aX3_init_30 : dk mX3_init 30 .dup 1 31 := ⟨by decide +kernel, rfl⟩
theorem aX3_init_34 : dP mX3_init 34 3 2 37 := ⟨26, by decide +kernel, rfl, dW_at 173 (by decide +kernel), by decide⟩
theorem aX3_init_37 : dAl mX3_init 37 0 38 := Or.inl ⟨0, by decide +kernel, rfl, rfl⟩
theorem aX3_init_41 : dk mX3_init 41 .dup 1 42 := ⟨by decide +kernel, rfl⟩
theorem aX3_init_45 : dP mX3_init 45 3 3 48 := ⟨30, by decide +kernel, rfl, dW_at 174 (by decide +kernel), by decide⟩
theorem aX3_init_48 : dAl mX3_init 48 0 49 := Or.inl ⟨0, by decide +kernel, rfl, rfl⟩
theorem aX3_init_49 : dKi mX3_init 49 (nI 3) 50 := Or.inl ⟨3, by decide +kernel, by decide +kernel, rfl⟩
theorem aX3_init_53 : dP mX3_init 53 3 4 56 := ⟨33, by decide +kernel, rfl, dW_at 175 (by decide +kernel), by decide⟩
theorem aX3_init_56 : dKi mX3_init 56 (nI 0) 57 := Or.inl ⟨0, by decide +kernel, by decide +kernel, rfl⟩
theorem aX3_init_57 : dIs mX3_init 57 1 58 := ⟨Or.inl ⟨1, by decide +kernel, rfl, rfl⟩, by decide⟩
theorem aX3_init_58 : dIl mX3_init 58 1 59 := Or.inl ⟨1, by decide +kernel, rfl, rfl⟩
theorem aX3_init_59 : dKi mX3_init 59 (nI 3) 60 := Or.inl ⟨3, by decide +kernel, by decide +kernel, rfl⟩
theorem aX3_init_60 : dC mX3_init 60 .ge 63 82 := ⟨22, by decide +kernel, by decide, rfl⟩
theorem aX3_init_63 : dAl mX3_init 63 0 64 := Or.inl ⟨0, by decide +kernel, rfl, rfl⟩
theorem aX3_init_64 : dG mX3_init 64 3 4 67 := ⟨33, by decide +kernel, rfl, dW_at 175 (by decide +kernel), by decide⟩
theorem aX3_init_67 : dIl mX3_init 67 1 68 := Or.inl ⟨1, by decide +kernel, rfl, rfl⟩
theorem aX3_init_71 : dk mX3_init 71 .dup 1 72 := ⟨by decide +kernel, rfl⟩
theorem aX3_init_76 : dIn mX3_init 76 1 (nI 1) 79 := ⟨1, by decide +kernel, by decide +kernel, rfl, by decide⟩
theorem aX3_init_79 : dJ mX3_init 79 58 := ⟨-21, by decide +kernel, by decide⟩
theorem aX3_init_82 : dAl mX3_init 82 0 83 := Or.inl ⟨0, by decide +kernel, rfl, rfl⟩
theorem aX3_init_83 : dKi mX3_init 83 (nI 0) 84 := Or.inl ⟨0, by decide +kernel, by decide +kernel, rfl⟩
theorem aX3_init_84 : dP mX3_init 84 3 5 87 := ⟨37, by decide +kernel, rfl, dW_at 176 (by decide +kernel), by decide⟩
theorem aX3_init_87 : dAl mX3_init 87 0 88 := Or.inl ⟨0, by decide +kernel, rfl, rfl⟩
theorem aX3_init_88 : dKi mX3_init 88 (nI 0) 89 := Or.inl ⟨0, by decide +kernel, by decide +kernel, rfl⟩
theorem aX3_init_89 : dP mX3_init 89 3 6 92 := ⟨41, by decide +kernel, rfl, dW_at 177 (by decide +kernel), by decide⟩
theorem aX3_init_92 : dk mX3_init 92 .return_ 1 93 := ⟨by decide +kernel, rfl⟩
theorem okX3_state : okM mX3_state := ⟨dW_at 196 (by decide +kernel), dW_at 27 (by decide +kernel), by decide +kernel, by decide +kernel, by decide +kernel, Or.inl ⟨dW_at 194 (by decide +kernel), dW_at 195 (by decide +kernel)⟩⟩
theorem aX3_state_0 : dIl mX3_state 0 1 1 := Or.inl ⟨1, by decide +kernel, rfl, rfl⟩
theorem aX3_state_1 : dKi mX3_state 1 ((-1)) 2 := Or.inl ⟨-1, by decide +kernel, by decide +kernel, rfl⟩
theorem aX3_state_2 : dC mX3_state 2 .eq 5 14 := ⟨12, by decide +kernel, by decide, rfl⟩
theorem aX3_state_5 : dIl mX3_state 5 1 6 := Or.inl ⟨1, by decide +kernel, rfl, rfl⟩
theorem aX3_state_6 : dS mX3_state 6 mX3_isOutcome 9 := ⟨45, by decide +kernel, rfl, dW_at 197 (by decide +kernel), by decide⟩
theorem aX3_state_9 : dZ mX3_state 9 .ne 12 14 := ⟨5, by decide +kernel, by decide, rfl⟩
theorem aX3_state_12 : dKi mX3_state 12 ((-1)) 13 := Or.inl ⟨-1, by decide +kernel, by decide +kernel, rfl⟩
theorem aX3_state_13 : dk mX3_state 13 .ireturn 1 14 := ⟨by decide +kernel, rfl⟩
theorem aX3_state_14 : dAl mX3_state 14 0 15 := Or.inl ⟨0, by decide +kernel, rfl, rfl⟩
theorem aX3_state_15 : dG mX3_state 15 3 0 18 := ⟨12, by decide +kernel, rfl, dW_at 171 (by decide +kernel), by decide⟩
theorem aX3_state_18 : dG mX3_state 18 2 0 21 := ⟨49, by decide +kernel, rfl, dW_at 52 (by decide +kernel), by decide⟩
theorem aX3_state_21 : dKi mX3_state 21 (nI 20) 23 := Or.inr (Or.inl ⟨20, by decide +kernel, by decide +kernel, rfl⟩)
theorem aX3_state_23 : dC mX3_state 23 .lt 26 29 := ⟨6, by decide +kernel, by decide, rfl⟩
theorem aX3_state_26 : dKi mX3_state 26 ((-3)) 28 := Or.inr (Or.inl ⟨-3, by decide +kernel, by decide +kernel, rfl⟩)
theorem aX3_state_28 : dk mX3_state 28 .ireturn 1 29 := ⟨by decide +kernel, rfl⟩
theorem aX3_state_29 : dAl mX3_state 29 0 30 := Or.inl ⟨0, by decide +kernel, rfl, rfl⟩
theorem aX3_state_30 : dV mX3_state 30 mX3_forgetWhatRestsOnWalk 33 := ⟨52, by decide +kernel, rfl, dW_at 200 (by decide +kernel), by decide⟩
theorem aX3_state_33 : dAl mX3_state 33 0 34 := Or.inl ⟨0, by decide +kernel, rfl, rfl⟩
theorem aX3_state_34 : dG mX3_state 34 3 0 37 := ⟨12, by decide +kernel, rfl, dW_at 171 (by decide +kernel), by decide⟩
theorem aX3_state_37 : dIl mX3_state 37 1 38 := Or.inl ⟨1, by decide +kernel, rfl, rfl⟩
theorem aX3_state_38 : dV mX3_state 38 mX2_addState 41 := ⟨55, by decide +kernel, rfl, dW_at 215 (by decide +kernel), by decide⟩
theorem aX3_state_41 : dk mX3_state 41 .ireturn 1 42 := ⟨by decide +kernel, rfl⟩
theorem okX3_arrow : okM mX3_arrow := ⟨dW_at 222 (by decide +kernel), dW_at 27 (by decide +kernel), by decide +kernel, by decide +kernel, by decide +kernel, Or.inl ⟨dW_at 220 (by decide +kernel), dW_at 221 (by decide +kernel)⟩⟩
theorem aX3_arrow_0 : dAl mX3_arrow 0 0 1 := Or.inl ⟨0, by decide +kernel, rfl, rfl⟩
theorem aX3_arrow_1 : dG mX3_arrow 1 3 0 4 := ⟨12, by decide +kernel, rfl, dW_at 171 (by decide +kernel), by decide⟩
theorem aX3_arrow_4 : dIl mX3_arrow 4 1 5 := Or.inl ⟨1, by decide +kernel, rfl, rfl⟩
theorem aX3_arrow_5 : dV mX3_arrow 5 mX2_goesOn 8 := ⟨59, by decide +kernel, rfl, dW_at 223 (by decide +kernel), by decide⟩
theorem aX3_arrow_8 : dZ mX3_arrow 8 .eq 11 33 := ⟨25, by decide +kernel, by decide, rfl⟩
theorem aX3_arrow_11 : dAl mX3_arrow 11 0 12 := Or.inl ⟨0, by decide +kernel, rfl, rfl⟩
theorem aX3_arrow_12 : dG mX3_arrow 12 3 0 15 := ⟨12, by decide +kernel, rfl, dW_at 171 (by decide +kernel), by decide⟩
theorem aX3_arrow_15 : dIl mX3_arrow 15 2 16 := Or.inl ⟨2, by decide +kernel, rfl, rfl⟩
theorem aX3_arrow_16 : dV mX3_arrow 16 mX2_has 19 := ⟨62, by decide +kernel, rfl, dW_at 231 (by decide +kernel), by decide⟩
theorem aX3_arrow_19 : dZ mX3_arrow 19 .eq 22 33 := ⟨14, by decide +kernel, by decide, rfl⟩
theorem aX3_arrow_22 : dIl mX3_arrow 22 3 23 := Or.inl ⟨3, by decide +kernel, rfl, rfl⟩
theorem aX3_arrow_23 : dKi mX3_arrow 23 (nI 1) 24 := Or.inl ⟨1, by decide +kernel, by decide +kernel, rfl⟩
theorem aX3_arrow_24 : dC mX3_arrow 24 .lt 27 33 := ⟨9, by decide +kernel, by decide, rfl⟩
theorem aX3_arrow_27 : dIl mX3_arrow 27 3 28 := Or.inl ⟨3, by decide +kernel, rfl, rfl⟩
theorem aX3_arrow_28 : dKi mX3_arrow 28 (nI 16) 30 := Or.inr (Or.inl ⟨16, by decide +kernel, by decide +kernel, rfl⟩)
theorem aX3_arrow_30 : dC mX3_arrow 30 .le 33 35 := ⟨5, by decide +kernel, by decide, rfl⟩
theorem aX3_arrow_33 : dKi mX3_arrow 33 ((-1)) 34 := Or.inl ⟨-1, by decide +kernel, by decide +kernel, rfl⟩
theorem aX3_arrow_34 : dk mX3_arrow 34 .ireturn 1 35 := ⟨by decide +kernel, rfl⟩
theorem aX3_arrow_35 : dAl mX3_arrow 35 0 36 := Or.inl ⟨0, by decide +kernel, rfl, rfl⟩
theorem aX3_arrow_36 : dG mX3_arrow 36 3 0 39 := ⟨12, by decide +kernel, rfl, dW_at 171 (by decide +kernel), by decide⟩
theorem aX3_arrow_39 : dG mX3_arrow 39 2 3 42 := ⟨65, by decide +kernel, rfl, dW_at 59 (by decide +kernel), by decide⟩
theorem aX3_arrow_42 : dIl mX3_arrow 42 1 43 := Or.inl ⟨1, by decide +kernel, rfl, rfl⟩
theorem aX3_arrow_43 : dk mX3_arrow 43 .iaload 1 44 := ⟨by decide +kernel, rfl⟩
theorem aX3_arrow_44 : dIl mX3_arrow 44 3 45 := Or.inl ⟨3, by decide +kernel, rfl, rfl⟩
theorem aX3_arrow_45 : dk mX3_arrow 45 .iadd 1 46 := ⟨by decide +kernel, rfl⟩
theorem aX3_arrow_46 : dKi mX3_arrow 46 (nI 16) 48 := Or.inr (Or.inl ⟨16, by decide +kernel, by decide +kernel, rfl⟩)
theorem aX3_arrow_48 : dC mX3_arrow 48 .le 51 54 := ⟨6, by decide +kernel, by decide, rfl⟩
theorem aX3_arrow_51 : dKi mX3_arrow 51 ((-3)) 53 := Or.inr (Or.inl ⟨-3, by decide +kernel, by decide +kernel, rfl⟩)
theorem aX3_arrow_53 : dk mX3_arrow 53 .ireturn 1 54 := ⟨by decide +kernel, rfl⟩
theorem aX3_arrow_54 : dAl mX3_arrow 54 0 55 := Or.inl ⟨0, by decide +kernel, rfl, rfl⟩
theorem aX3_arrow_55 : dV mX3_arrow 55 mX3_forgetWhatRestsOnWalk 58 := ⟨52, by decide +kernel, rfl, dW_at 200 (by decide +kernel), by decide⟩
theorem aX3_arrow_58 : dAl mX3_arrow 58 0 59 := Or.inl ⟨0, by decide +kernel, rfl, rfl⟩
theorem aX3_arrow_59 : dG mX3_arrow 59 3 0 62 := ⟨12, by decide +kernel, rfl, dW_at 171 (by decide +kernel), by decide⟩
theorem aX3_arrow_62 : dIl mX3_arrow 62 1 63 := Or.inl ⟨1, by decide +kernel, rfl, rfl⟩
theorem aX3_arrow_63 : dIl mX3_arrow 63 2 64 := Or.inl ⟨2, by decide +kernel, rfl, rfl⟩
theorem aX3_arrow_64 : dIl mX3_arrow 64 3 65 := Or.inl ⟨3, by decide +kernel, rfl, rfl⟩
theorem aX3_arrow_65 : dV mX3_arrow 65 mX2_addSixteenths 68 := ⟨69, by decide +kernel, rfl, dW_at 232 (by decide +kernel), by decide⟩
theorem aX3_arrow_68 : dk mX3_arrow 68 .ireturn 1 69 := ⟨by decide +kernel, rfl⟩
theorem okX3_law : okM mX3_law := ⟨dW_at 243 (by decide +kernel), dW_at 27 (by decide +kernel), by decide +kernel, by decide +kernel, by decide +kernel, Or.inl ⟨dW_at 241 (by decide +kernel), dW_at 242 (by decide +kernel)⟩⟩
theorem aX3_law_0 : dAl mX3_law 0 0 1 := Or.inl ⟨0, by decide +kernel, rfl, rfl⟩
theorem aX3_law_1 : dG mX3_law 1 3 0 4 := ⟨12, by decide +kernel, rfl, dW_at 171 (by decide +kernel), by decide⟩
theorem aX3_law_4 : dIl mX3_law 4 1 5 := Or.inl ⟨1, by decide +kernel, rfl, rfl⟩
theorem aX3_law_5 : dV mX3_law 5 mX2_goesOn 8 := ⟨59, by decide +kernel, rfl, dW_at 223 (by decide +kernel), by decide⟩
theorem aX3_law_8 : dZ mX3_law 8 .eq 11 27 := ⟨19, by decide +kernel, by decide, rfl⟩
theorem aX3_law_11 : dIl mX3_law 11 2 12 := Or.inl ⟨2, by decide +kernel, rfl, rfl⟩
theorem aX3_law_12 : dKi mX3_law 12 ((-1)) 13 := Or.inl ⟨-1, by decide +kernel, by decide +kernel, rfl⟩
theorem aX3_law_13 : dC mX3_law 13 .eq 16 29 := ⟨16, by decide +kernel, by decide, rfl⟩
theorem aX3_law_16 : dAl mX3_law 16 0 17 := Or.inl ⟨0, by decide +kernel, rfl, rfl⟩
theorem aX3_law_17 : dG mX3_law 17 3 0 20 := ⟨12, by decide +kernel, rfl, dW_at 171 (by decide +kernel), by decide⟩
theorem aX3_law_20 : dIl mX3_law 20 2 21 := Or.inl ⟨2, by decide +kernel, rfl, rfl⟩
theorem aX3_law_21 : dV mX3_law 21 mX2_has 24 := ⟨62, by decide +kernel, rfl, dW_at 231 (by decide +kernel), by decide⟩
theorem aX3_law_24 : dZ mX3_law 24 .ne 27 29 := ⟨5, by decide +kernel, by decide, rfl⟩
theorem aX3_law_27 : dKi mX3_law 27 ((-1)) 28 := Or.inl ⟨-1, by decide +kernel, by decide +kernel, rfl⟩
theorem aX3_law_28 : dk mX3_law 28 .ireturn 1 29 := ⟨by decide +kernel, rfl⟩
theorem aX3_law_29 : dIl mX3_law 29 2 30 := Or.inl ⟨2, by decide +kernel, rfl, rfl⟩
theorem aX3_law_30 : dKi mX3_law 30 ((-1)) 31 := Or.inl ⟨-1, by decide +kernel, by decide +kernel, rfl⟩
theorem aX3_law_31 : dC mX3_law 31 .eq 34 49 := ⟨18, by decide +kernel, by decide, rfl⟩
theorem aX3_law_34 : dAl mX3_law 34 0 35 := Or.inl ⟨0, by decide +kernel, rfl, rfl⟩
theorem aX3_law_35 : dG mX3_law 35 3 0 38 := ⟨12, by decide +kernel, rfl, dW_at 171 (by decide +kernel), by decide⟩
theorem aX3_law_38 : dIl mX3_law 38 1 39 := Or.inl ⟨1, by decide +kernel, rfl, rfl⟩
theorem aX3_law_39 : dIl mX3_law 39 2 40 := Or.inl ⟨2, by decide +kernel, rfl, rfl⟩
theorem aX3_law_40 : dV mX3_law 40 mX2_isProved 43 := ⟨73, by decide +kernel, rfl, dW_at 244 (by decide +kernel), by decide⟩
theorem aX3_law_43 : dZ mX3_law 43 .ne 46 49 := ⟨6, by decide +kernel, by decide, rfl⟩
theorem aX3_law_46 : dKi mX3_law 46 ((-2)) 48 := Or.inr (Or.inl ⟨-2, by decide +kernel, by decide +kernel, rfl⟩)
theorem aX3_law_48 : dk mX3_law 48 .ireturn 1 49 := ⟨by decide +kernel, rfl⟩
theorem aX3_law_49 : dAl mX3_law 49 0 50 := Or.inl ⟨0, by decide +kernel, rfl, rfl⟩
theorem aX3_law_50 : dG mX3_law 50 3 0 53 := ⟨12, by decide +kernel, rfl, dW_at 171 (by decide +kernel), by decide⟩
theorem aX3_law_53 : dG mX3_law 53 2 2 56 := ⟨77, by decide +kernel, rfl, dW_at 57 (by decide +kernel), by decide⟩
theorem aX3_law_56 : dIl mX3_law 56 1 57 := Or.inl ⟨1, by decide +kernel, rfl, rfl⟩
theorem aX3_law_57 : dIl mX3_law 57 2 58 := Or.inl ⟨2, by decide +kernel, rfl, rfl⟩
theorem aX3_law_58 : dk mX3_law 58 .iastore 1 59 := ⟨by decide +kernel, rfl⟩
theorem aX3_law_59 : dKi mX3_law 59 (nI 1) 60 := Or.inl ⟨1, by decide +kernel, by decide +kernel, rfl⟩
theorem aX3_law_60 : dk mX3_law 60 .ireturn 1 61 := ⟨by decide +kernel, rfl⟩
theorem okX3_order : okM mX3_order := ⟨dW_at 267 (by decide +kernel), dW_at 27 (by decide +kernel), by decide +kernel, by decide +kernel, by decide +kernel, Or.inl ⟨dW_at 265 (by decide +kernel), dW_at 266 (by decide +kernel)⟩⟩
theorem aX3_order_0 : dIl mX3_order 0 1 1 := Or.inl ⟨1, by decide +kernel, rfl, rfl⟩
theorem aX3_order_1 : dZ mX3_order 1 .lt 4 9 := ⟨8, by decide +kernel, by decide, rfl⟩
theorem aX3_order_4 : dIl mX3_order 4 1 5 := Or.inl ⟨1, by decide +kernel, rfl, rfl⟩
theorem aX3_order_5 : dKi mX3_order 5 (nI 2) 6 := Or.inl ⟨2, by decide +kernel, by decide +kernel, rfl⟩
theorem aX3_order_6 : dC mX3_order 6 .le 9 11 := ⟨5, by decide +kernel, by decide, rfl⟩
theorem aX3_order_9 : dKi mX3_order 9 ((-1)) 10 := Or.inl ⟨-1, by decide +kernel, by decide +kernel, rfl⟩
theorem aX3_order_10 : dk mX3_order 10 .ireturn 1 11 := ⟨by decide +kernel, rfl⟩
theorem aX3_order_11 : dAl mX3_order 11 0 12 := Or.inl ⟨0, by decide +kernel, rfl, rfl⟩
theorem aX3_order_12 : dG mX3_order 12 3 5 15 := ⟨37, by decide +kernel, rfl, dW_at 176 (by decide +kernel), by decide⟩
theorem aX3_order_15 : dIs mX3_order 15 2 16 := ⟨Or.inl ⟨2, by decide +kernel, rfl, rfl⟩, by decide⟩
theorem aX3_order_16 : dAl mX3_order 16 0 17 := Or.inl ⟨0, by decide +kernel, rfl, rfl⟩
theorem aX3_order_17 : dIl mX3_order 17 1 18 := Or.inl ⟨1, by decide +kernel, rfl, rfl⟩
theorem aX3_order_18 : dP mX3_order 18 3 5 21 := ⟨37, by decide +kernel, rfl, dW_at 176 (by decide +kernel), by decide⟩
theorem aX3_order_21 : dIl mX3_order 21 2 22 := Or.inl ⟨2, by decide +kernel, rfl, rfl⟩
theorem aX3_order_22 : dk mX3_order 22 .ireturn 1 23 := ⟨by decide +kernel, rfl⟩
theorem okX3_joined : okM mX3_joined := ⟨dW_at 271 (by decide +kernel), dW_at 27 (by decide +kernel), by decide +kernel, by decide +kernel, by decide +kernel, Or.inl ⟨dW_at 269 (by decide +kernel), dW_at 270 (by decide +kernel)⟩⟩
theorem aX3_joined_0 : dAl mX3_joined 0 0 1 := Or.inl ⟨0, by decide +kernel, rfl, rfl⟩
theorem aX3_joined_1 : dG mX3_joined 1 3 6 4 := ⟨41, by decide +kernel, rfl, dW_at 177 (by decide +kernel), by decide⟩
theorem aX3_joined_4 : dZ mX3_joined 4 .eq 7 11 := ⟨7, by decide +kernel, by decide, rfl⟩
theorem aX3_joined_7 : dKi mX3_joined 7 (nI 1) 8 := Or.inl ⟨1, by decide +kernel, by decide +kernel, rfl⟩
theorem aX3_joined_8 : dJ mX3_joined 8 12 := ⟨4, by decide +kernel, by decide⟩
theorem aX3_joined_11 : dKi mX3_joined 11 (nI 0) 12 := Or.inl ⟨0, by decide +kernel, by decide +kernel, rfl⟩
theorem aX3_joined_12 : dIs mX3_joined 12 2 13 := ⟨Or.inl ⟨2, by decide +kernel, rfl, rfl⟩, by decide⟩
theorem aX3_joined_13 : dAl mX3_joined 13 0 14 := Or.inl ⟨0, by decide +kernel, rfl, rfl⟩
theorem aX3_joined_14 : dIl mX3_joined 14 1 15 := Or.inl ⟨1, by decide +kernel, rfl, rfl⟩
theorem aX3_joined_15 : dP mX3_joined 15 3 6 18 := ⟨41, by decide +kernel, rfl, dW_at 177 (by decide +kernel), by decide⟩
theorem aX3_joined_18 : dIl mX3_joined 18 2 19 := Or.inl ⟨2, by decide +kernel, rfl, rfl⟩
theorem aX3_joined_19 : dk mX3_joined 19 .ireturn 1 20 := ⟨by decide +kernel, rfl⟩
theorem okX3_begin : okM mX3_begin := ⟨dW_at 275 (by decide +kernel), dW_at 27 (by decide +kernel), by decide +kernel, by decide +kernel, by decide +kernel, Or.inl ⟨dW_at 273 (by decide +kernel), dW_at 274 (by decide +kernel)⟩⟩
theorem aX3_begin_0 : dAl mX3_begin 0 0 1 := Or.inl ⟨0, by decide +kernel, rfl, rfl⟩
theorem aX3_begin_1 : dG mX3_begin 1 3 0 4 := ⟨12, by decide +kernel, rfl, dW_at 171 (by decide +kernel), by decide⟩
theorem aX3_begin_4 : dIl mX3_begin 4 1 5 := Or.inl ⟨1, by decide +kernel, rfl, rfl⟩
theorem aX3_begin_5 : dV mX3_begin 5 mX2_has 8 := ⟨62, by decide +kernel, rfl, dW_at 231 (by decide +kernel), by decide⟩
theorem aX3_begin_8 : dZ mX3_begin 8 .ne 11 13 := ⟨5, by decide +kernel, by decide, rfl⟩
theorem aX3_begin_11 : dKi mX3_begin 11 ((-1)) 12 := Or.inl ⟨-1, by decide +kernel, by decide +kernel, rfl⟩
theorem aX3_begin_12 : dk mX3_begin 12 .ireturn 1 13 := ⟨by decide +kernel, rfl⟩
theorem aX3_begin_13 : dAl mX3_begin 13 0 14 := Or.inl ⟨0, by decide +kernel, rfl, rfl⟩
theorem aX3_begin_14 : dG mX3_begin 14 3 0 17 := ⟨12, by decide +kernel, rfl, dW_at 171 (by decide +kernel), by decide⟩
theorem aX3_begin_17 : dV mX3_begin 17 mX2_survey 20 := ⟨80, by decide +kernel, rfl, dW_at 276 (by decide +kernel), by decide⟩
theorem aX3_begin_20 : dAl mX3_begin 20 0 21 := Or.inl ⟨0, by decide +kernel, rfl, rfl⟩
theorem aX3_begin_21 : dG mX3_begin 21 3 0 24 := ⟨12, by decide +kernel, rfl, dW_at 171 (by decide +kernel), by decide⟩
theorem aX3_begin_24 : dIl mX3_begin 24 1 25 := Or.inl ⟨1, by decide +kernel, rfl, rfl⟩
theorem aX3_begin_25 : dV mX3_begin 25 mX2_isWholeFrom 28 := ⟨83, by decide +kernel, rfl, dW_at 297 (by decide +kernel), by decide⟩
theorem aX3_begin_28 : dZ mX3_begin 28 .ne 31 34 := ⟨6, by decide +kernel, by decide, rfl⟩
theorem aX3_begin_31 : dKi mX3_begin 31 ((-2)) 33 := Or.inr (Or.inl ⟨-2, by decide +kernel, by decide +kernel, rfl⟩)
theorem aX3_begin_33 : dk mX3_begin 33 .ireturn 1 34 := ⟨by decide +kernel, rfl⟩
theorem aX3_begin_34 : dAl mX3_begin 34 0 35 := Or.inl ⟨0, by decide +kernel, rfl, rfl⟩
theorem aX3_begin_35 : dG mX3_begin 35 3 2 38 := ⟨26, by decide +kernel, rfl, dW_at 173 (by decide +kernel), by decide⟩
theorem aX3_begin_38 : dIl mX3_begin 38 1 39 := Or.inl ⟨1, by decide +kernel, rfl, rfl⟩
theorem aX3_begin_39 : dV mX3_begin 39 mX0_beginAt 42 := ⟨86, by decide +kernel, rfl, dW_at 301 (by decide +kernel), by decide⟩
theorem aX3_begin_42 : dAl mX3_begin 42 0 43 := Or.inl ⟨0, by decide +kernel, rfl, rfl⟩
theorem aX3_begin_43 : dG mX3_begin 43 3 0 46 := ⟨12, by decide +kernel, rfl, dW_at 171 (by decide +kernel), by decide⟩
theorem aX3_begin_46 : dG mX3_begin 46 2 8 49 := ⟨90, by decide +kernel, rfl, dW_at 68 (by decide +kernel), by decide⟩
theorem aX3_begin_49 : dIl mX3_begin 49 1 50 := Or.inl ⟨1, by decide +kernel, rfl, rfl⟩
theorem aX3_begin_50 : dk mX3_begin 50 .iaload 1 51 := ⟨by decide +kernel, rfl⟩
theorem aX3_begin_51 : dk mX3_begin 51 .ireturn 1 52 := ⟨by decide +kernel, rfl⟩
theorem okX3_grow : okM mX3_grow := ⟨dW_at 316 (by decide +kernel), dW_at 27 (by decide +kernel), by decide +kernel, by decide +kernel, by decide +kernel, Or.inl ⟨dW_at 314 (by decide +kernel), dW_at 315 (by decide +kernel)⟩⟩
theorem aX3_grow_0 : dIl mX3_grow 0 1 1 := Or.inl ⟨1, by decide +kernel, rfl, rfl⟩
theorem aX3_grow_1 : dZ mX3_grow 1 .lt 4 11 := ⟨10, by decide +kernel, by decide, rfl⟩
theorem aX3_grow_4 : dIl mX3_grow 4 1 5 := Or.inl ⟨1, by decide +kernel, rfl, rfl⟩
theorem aX3_grow_5 : dKi mX3_grow 5 (nI 500) 8 := Or.inr (Or.inr (Or.inl ⟨500, by decide +kernel, by decide +kernel, rfl⟩))
theorem aX3_grow_8 : dC mX3_grow 8 .le 11 13 := ⟨5, by decide +kernel, by decide, rfl⟩
theorem aX3_grow_11 : dKi mX3_grow 11 ((-1)) 12 := Or.inl ⟨-1, by decide +kernel, by decide +kernel, rfl⟩
theorem aX3_grow_12 : dk mX3_grow 12 .ireturn 1 13 := ⟨by decide +kernel, rfl⟩
theorem aX3_grow_13 : dAl mX3_grow 13 0 14 := Or.inl ⟨0, by decide +kernel, rfl, rfl⟩
theorem aX3_grow_14 : dG mX3_grow 14 3 2 17 := ⟨26, by decide +kernel, rfl, dW_at 173 (by decide +kernel), by decide⟩
theorem aX3_grow_17 : dV mX3_grow 17 mX0_exists 20 := ⟨93, by decide +kernel, rfl, dW_at 317 (by decide +kernel), by decide⟩
theorem aX3_grow_20 : dZ mX3_grow 20 .ne 23 26 := ⟨6, by decide +kernel, by decide, rfl⟩
theorem aX3_grow_23 : dKi mX3_grow 23 ((-2)) 25 := Or.inr (Or.inl ⟨-2, by decide +kernel, by decide +kernel, rfl⟩)
theorem aX3_grow_25 : dk mX3_grow 25 .ireturn 1 26 := ⟨by decide +kernel, rfl⟩
theorem aX3_grow_26 : dAl mX3_grow 26 0 27 := Or.inl ⟨0, by decide +kernel, rfl, rfl⟩
theorem aX3_grow_27 : dAl mX3_grow 27 0 28 := Or.inl ⟨0, by decide +kernel, rfl, rfl⟩
theorem aX3_grow_28 : dG mX3_grow 28 3 2 31 := ⟨26, by decide +kernel, rfl, dW_at 173 (by decide +kernel), by decide⟩
theorem aX3_grow_31 : dAl mX3_grow 31 0 32 := Or.inl ⟨0, by decide +kernel, rfl, rfl⟩
theorem aX3_grow_32 : dG mX3_grow 32 3 5 35 := ⟨37, by decide +kernel, rfl, dW_at 176 (by decide +kernel), by decide⟩
theorem aX3_grow_35 : dIl mX3_grow 35 1 36 := Or.inl ⟨1, by decide +kernel, rfl, rfl⟩
theorem aX3_grow_36 : dV mX3_grow 36 mX3_goOnTimes 39 := ⟨97, by decide +kernel, rfl, dW_at 321 (by decide +kernel), by decide⟩
theorem aX3_grow_39 : dk mX3_grow 39 .ireturn 1 40 := ⟨by decide +kernel, rfl⟩
theorem okX3_until : okM mX3_until := ⟨dW_at 391 (by decide +kernel), dW_at 27 (by decide +kernel), by decide +kernel, by decide +kernel, by decide +kernel, Or.inl ⟨dW_at 389 (by decide +kernel), dW_at 390 (by decide +kernel)⟩⟩
theorem aX3_until_0 : dIl mX3_until 0 1 1 := Or.inl ⟨1, by decide +kernel, rfl, rfl⟩
theorem aX3_until_1 : dS mX3_until 1 mX3_isSet 4 := ⟨101, by decide +kernel, rfl, dW_at 392 (by decide +kernel), by decide⟩
theorem aX3_until_4 : dZ mX3_until 4 .eq 7 28 := ⟨24, by decide +kernel, by decide, rfl⟩
theorem aX3_until_7 : dIl mX3_until 7 2 8 := Or.inl ⟨2, by decide +kernel, rfl, rfl⟩
theorem aX3_until_8 : dZ mX3_until 8 .lt 11 28 := ⟨20, by decide +kernel, by decide, rfl⟩
theorem aX3_until_11 : dIl mX3_until 11 2 12 := Or.inl ⟨2, by decide +kernel, rfl, rfl⟩
theorem aX3_until_12 : dKi mX3_until 12 (nI 60) 14 := Or.inr (Or.inl ⟨60, by decide +kernel, by decide +kernel, rfl⟩)
theorem aX3_until_14 : dC mX3_until 14 .gt 17 28 := ⟨14, by decide +kernel, by decide, rfl⟩
theorem aX3_until_17 : dIl mX3_until 17 3 18 := Or.inl ⟨3, by decide +kernel, rfl, rfl⟩
theorem aX3_until_18 : dZ mX3_until 18 .lt 21 28 := ⟨10, by decide +kernel, by decide, rfl⟩
theorem aX3_until_21 : dIl mX3_until 21 3 22 := Or.inl ⟨3, by decide +kernel, rfl, rfl⟩
theorem aX3_until_22 : dKi mX3_until 22 (nI 500) 25 := Or.inr (Or.inr (Or.inl ⟨500, by decide +kernel, by decide +kernel, rfl⟩))
theorem aX3_until_25 : dC mX3_until 25 .le 28 30 := ⟨5, by decide +kernel, by decide, rfl⟩
theorem aX3_until_28 : dKi mX3_until 28 ((-1)) 29 := Or.inl ⟨-1, by decide +kernel, by decide +kernel, rfl⟩
theorem aX3_until_29 : dk mX3_until 29 .ireturn 1 30 := ⟨by decide +kernel, rfl⟩
theorem aX3_until_30 : dAl mX3_until 30 0 31 := Or.inl ⟨0, by decide +kernel, rfl, rfl⟩
theorem aX3_until_31 : dG mX3_until 31 3 2 34 := ⟨26, by decide +kernel, rfl, dW_at 173 (by decide +kernel), by decide⟩
theorem aX3_until_34 : dV mX3_until 34 mX0_exists 37 := ⟨93, by decide +kernel, rfl, dW_at 317 (by decide +kernel), by decide⟩
theorem aX3_until_37 : dZ mX3_until 37 .ne 40 43 := ⟨6, by decide +kernel, by decide, rfl⟩
theorem aX3_until_40 : dKi mX3_until 40 ((-2)) 42 := Or.inr (Or.inl ⟨-2, by decide +kernel, by decide +kernel, rfl⟩)
theorem aX3_until_42 : dk mX3_until 42 .ireturn 1 43 := ⟨by decide +kernel, rfl⟩
theorem aX3_until_43 : dKl mX3_until 43 (lN 1) 44 := Or.inl ⟨1, by decide +kernel, rfl, rfl⟩
theorem aX3_until_44 : dKi mX3_until 44 (nI 60) 46 := Or.inr (Or.inl ⟨60, by decide +kernel, by decide +kernel, rfl⟩)
theorem aX3_until_46 : dIl mX3_until 46 2 47 := Or.inl ⟨2, by decide +kernel, rfl, rfl⟩
theorem aX3_until_47 : dk mX3_until 47 .isub 1 48 := ⟨by decide +kernel, rfl⟩
theorem aX3_until_48 : dk mX3_until 48 .lshl 1 49 := ⟨by decide +kernel, rfl⟩
theorem aX3_until_49 : dLs mX3_until 49 4 51 := ⟨Or.inr ⟨by decide +kernel, rfl⟩, by decide⟩
theorem aX3_until_51 : dKi mX3_until 51 (nI 0) 52 := Or.inl ⟨0, by decide +kernel, by decide +kernel, rfl⟩
theorem aX3_until_52 : dIs mX3_until 52 6 54 := ⟨Or.inr ⟨by decide +kernel, rfl⟩, by decide⟩
theorem aX3_until_54 : dIl mX3_until 54 6 56 := Or.inr ⟨by decide +kernel, rfl⟩
theorem aX3_until_56 : dIl mX3_until 56 3 57 := Or.inl ⟨3, by decide +kernel, rfl, rfl⟩
theorem aX3_until_57 : dC mX3_until 57 .ge 60 99 := ⟨42, by decide +kernel, by decide, rfl⟩
theorem aX3_until_60 : dAl mX3_until 60 0 61 := Or.inl ⟨0, by decide +kernel, rfl, rfl⟩
theorem aX3_until_61 : dAl mX3_until 61 0 62 := Or.inl ⟨0, by decide +kernel, rfl, rfl⟩
theorem aX3_until_62 : dG mX3_until 62 3 2 65 := ⟨26, by decide +kernel, rfl, dW_at 173 (by decide +kernel), by decide⟩
theorem aX3_until_65 : dIl mX3_until 65 1 66 := Or.inl ⟨1, by decide +kernel, rfl, rfl⟩
theorem aX3_until_66 : dV mX3_until 66 mX3_width 69 := ⟨104, by decide +kernel, rfl, dW_at 395 (by decide +kernel), by decide⟩
theorem aX3_until_69 : dLl mX3_until 69 4 71 := Or.inr ⟨by decide +kernel, rfl⟩
theorem aX3_until_71 : dk mX3_until 71 .lcmp 1 72 := ⟨by decide +kernel, rfl⟩
theorem aX3_until_72 : dZ mX3_until 72 .le 75 90 := ⟨18, by decide +kernel, by decide, rfl⟩
theorem aX3_until_75 : dAl mX3_until 75 0 76 := Or.inl ⟨0, by decide +kernel, rfl, rfl⟩
theorem aX3_until_76 : dAl mX3_until 76 0 77 := Or.inl ⟨0, by decide +kernel, rfl, rfl⟩
theorem aX3_until_77 : dG mX3_until 77 3 2 80 := ⟨26, by decide +kernel, rfl, dW_at 173 (by decide +kernel), by decide⟩
theorem aX3_until_80 : dAl mX3_until 80 0 81 := Or.inl ⟨0, by decide +kernel, rfl, rfl⟩
theorem aX3_until_81 : dG mX3_until 81 3 5 84 := ⟨37, by decide +kernel, rfl, dW_at 176 (by decide +kernel), by decide⟩
theorem aX3_until_84 : dV mX3_until 84 mX3_goOnOnce 87 := ⟨108, by decide +kernel, rfl, dW_at 325 (by decide +kernel), by decide⟩
theorem aX3_until_87 : dZ mX3_until 87 .ne 90 93 := ⟨6, by decide +kernel, by decide, rfl⟩
theorem aX3_until_90 : dIl mX3_until 90 6 92 := Or.inr ⟨by decide +kernel, rfl⟩
theorem aX3_until_92 : dk mX3_until 92 .ireturn 1 93 := ⟨by decide +kernel, rfl⟩
theorem aX3_until_93 : dIn mX3_until 93 6 (nI 1) 96 := ⟨1, by decide +kernel, by decide +kernel, rfl, by decide⟩
theorem aX3_until_96 : dJ mX3_until 96 54 := ⟨-42, by decide +kernel, by decide⟩
theorem aX3_until_99 : dIl mX3_until 99 3 100 := Or.inl ⟨3, by decide +kernel, rfl, rfl⟩
theorem aX3_until_100 : dk mX3_until 100 .ireturn 1 101 := ⟨by decide +kernel, rfl⟩
theorem okX3_end : okM mX3_end := ⟨dW_at 418 (by decide +kernel), dW_at 27 (by decide +kernel), by decide +kernel, by decide +kernel, by decide +kernel, Or.inl ⟨dW_at 416 (by decide +kernel), dW_at 417 (by decide +kernel)⟩⟩
theorem aX3_end_0 : dIl mX3_end 0 1 1 := Or.inl ⟨1, by decide +kernel, rfl, rfl⟩
theorem aX3_end_1 : dS mX3_end 1 mX3_isSet 4 := ⟨101, by decide +kernel, rfl, dW_at 392 (by decide +kernel), by decide⟩
theorem aX3_end_4 : dZ mX3_end 4 .eq 7 24 := ⟨20, by decide +kernel, by decide, rfl⟩
theorem aX3_end_7 : dIl mX3_end 7 2 8 := Or.inl ⟨2, by decide +kernel, rfl, rfl⟩
theorem aX3_end_8 : dS mX3_end 8 mX3_isSide 11 := ⟨112, by decide +kernel, rfl, dW_at 419 (by decide +kernel), by decide⟩
theorem aX3_end_11 : dZ mX3_end 11 .eq 14 24 := ⟨13, by decide +kernel, by decide, rfl⟩
theorem aX3_end_14 : dAl mX3_end 14 0 15 := Or.inl ⟨0, by decide +kernel, rfl, rfl⟩
theorem aX3_end_15 : dG mX3_end 15 3 2 18 := ⟨26, by decide +kernel, rfl, dW_at 173 (by decide +kernel), by decide⟩
theorem aX3_end_18 : dV mX3_end 18 mX0_exists 21 := ⟨93, by decide +kernel, rfl, dW_at 317 (by decide +kernel), by decide⟩
theorem aX3_end_21 : dZ mX3_end 21 .ne 24 26 := ⟨5, by decide +kernel, by decide, rfl⟩
theorem aX3_end_24 : dKl mX3_end 24 (lN 0) 25 := Or.inl ⟨0, by decide +kernel, rfl, rfl⟩
theorem aX3_end_25 : dk mX3_end 25 .lreturn 1 26 := ⟨by decide +kernel, rfl⟩
theorem aX3_end_26 : dIl mX3_end 26 2 27 := Or.inl ⟨2, by decide +kernel, rfl, rfl⟩
theorem aX3_end_27 : dZ mX3_end 27 .ne 30 42 := ⟨15, by decide +kernel, by decide, rfl⟩
theorem aX3_end_30 : dAl mX3_end 30 0 31 := Or.inl ⟨0, by decide +kernel, rfl, rfl⟩
theorem aX3_end_31 : dAl mX3_end 31 0 32 := Or.inl ⟨0, by decide +kernel, rfl, rfl⟩
theorem aX3_end_32 : dG mX3_end 32 3 2 35 := ⟨26, by decide +kernel, rfl, dW_at 173 (by decide +kernel), by decide⟩
theorem aX3_end_35 : dIl mX3_end 35 1 36 := Or.inl ⟨1, by decide +kernel, rfl, rfl⟩
theorem aX3_end_36 : dV mX3_end 36 mX3_low 39 := ⟨115, by decide +kernel, rfl, dW_at 407 (by decide +kernel), by decide⟩
theorem aX3_end_39 : dJ mX3_end 39 51 := ⟨12, by decide +kernel, by decide⟩
theorem aX3_end_42 : dAl mX3_end 42 0 43 := Or.inl ⟨0, by decide +kernel, rfl, rfl⟩
theorem aX3_end_43 : dAl mX3_end 43 0 44 := Or.inl ⟨0, by decide +kernel, rfl, rfl⟩
theorem aX3_end_44 : dG mX3_end 44 3 2 47 := ⟨26, by decide +kernel, rfl, dW_at 173 (by decide +kernel), by decide⟩
theorem aX3_end_47 : dIl mX3_end 47 1 48 := Or.inl ⟨1, by decide +kernel, rfl, rfl⟩
theorem aX3_end_48 : dV mX3_end 48 mX3_high 51 := ⟨118, by decide +kernel, rfl, dW_at 399 (by decide +kernel), by decide⟩
theorem aX3_end_51 : dk mX3_end 51 .lreturn 1 52 := ⟨by decide +kernel, rfl⟩
theorem okX3_given : okM mX3_given := ⟨dW_at 425 (by decide +kernel), dW_at 27 (by decide +kernel), by decide +kernel, by decide +kernel, by decide +kernel, Or.inl ⟨dW_at 423 (by decide +kernel), dW_at 424 (by decide +kernel)⟩⟩
theorem aX3_given_0 : dIl mX3_given 0 1 1 := Or.inl ⟨1, by decide +kernel, rfl, rfl⟩
theorem aX3_given_1 : dS mX3_given 1 mX3_isSet 4 := ⟨101, by decide +kernel, rfl, dW_at 392 (by decide +kernel), by decide⟩
theorem aX3_given_4 : dZ mX3_given 4 .eq 7 21 := ⟨17, by decide +kernel, by decide, rfl⟩
theorem aX3_given_7 : dIl mX3_given 7 2 8 := Or.inl ⟨2, by decide +kernel, rfl, rfl⟩
theorem aX3_given_8 : dS mX3_given 8 mX3_isSet 11 := ⟨101, by decide +kernel, rfl, dW_at 392 (by decide +kernel), by decide⟩
theorem aX3_given_11 : dZ mX3_given 11 .eq 14 21 := ⟨10, by decide +kernel, by decide, rfl⟩
theorem aX3_given_14 : dIl mX3_given 14 3 15 := Or.inl ⟨3, by decide +kernel, rfl, rfl⟩
theorem aX3_given_15 : dS mX3_given 15 mX3_isSide 18 := ⟨112, by decide +kernel, rfl, dW_at 419 (by decide +kernel), by decide⟩
theorem aX3_given_18 : dZ mX3_given 18 .ne 21 23 := ⟨5, by decide +kernel, by decide, rfl⟩
theorem aX3_given_21 : dKi mX3_given 21 ((-1)) 22 := Or.inl ⟨-1, by decide +kernel, by decide +kernel, rfl⟩
theorem aX3_given_22 : dk mX3_given 22 .ireturn 1 23 := ⟨by decide +kernel, rfl⟩
theorem aX3_given_23 : dAl mX3_given 23 0 24 := Or.inl ⟨0, by decide +kernel, rfl, rfl⟩
theorem aX3_given_24 : dG mX3_given 24 3 2 27 := ⟨26, by decide +kernel, rfl, dW_at 173 (by decide +kernel), by decide⟩
theorem aX3_given_27 : dV mX3_given 27 mX0_exists 30 := ⟨93, by decide +kernel, rfl, dW_at 317 (by decide +kernel), by decide⟩
theorem aX3_given_30 : dZ mX3_given 30 .ne 33 36 := ⟨6, by decide +kernel, by decide, rfl⟩
theorem aX3_given_33 : dKi mX3_given 33 ((-2)) 35 := Or.inr (Or.inl ⟨-2, by decide +kernel, by decide +kernel, rfl⟩)
theorem aX3_given_35 : dk mX3_given 35 .ireturn 1 36 := ⟨by decide +kernel, rfl⟩
theorem aX3_given_36 : dIl mX3_given 36 1 37 := Or.inl ⟨1, by decide +kernel, rfl, rfl⟩
theorem aX3_given_37 : dIl mX3_given 37 2 38 := Or.inl ⟨2, by decide +kernel, rfl, rfl⟩
theorem aX3_given_38 : dk mX3_given 38 .iand 1 39 := ⟨by decide +kernel, rfl⟩
theorem aX3_given_39 : dIs mX3_given 39 4 41 := ⟨Or.inr ⟨by decide +kernel, rfl⟩, by decide⟩
theorem aX3_given_41 : dIl mX3_given 41 2 42 := Or.inl ⟨2, by decide +kernel, rfl, rfl⟩
theorem aX3_given_42 : dIl mX3_given 42 1 43 := Or.inl ⟨1, by decide +kernel, rfl, rfl⟩
theorem aX3_given_43 : dKi mX3_given 43 ((-1)) 44 := Or.inl ⟨-1, by decide +kernel, by decide +kernel, rfl⟩
theorem aX3_given_44 : dk mX3_given 44 .ixor 1 45 := ⟨by decide +kernel, rfl⟩
theorem aX3_given_45 : dk mX3_given 45 .iand 1 46 := ⟨by decide +kernel, rfl⟩
theorem aX3_given_46 : dIs mX3_given 46 5 48 := ⟨Or.inr ⟨by decide +kernel, rfl⟩, by decide⟩
theorem aX3_given_48 : dIl mX3_given 48 3 49 := Or.inl ⟨3, by decide +kernel, rfl, rfl⟩
theorem aX3_given_49 : dZ mX3_given 49 .ne 52 76 := ⟨27, by decide +kernel, by decide, rfl⟩
theorem aX3_given_52 : dAl mX3_given 52 0 53 := Or.inl ⟨0, by decide +kernel, rfl, rfl⟩
theorem aX3_given_53 : dAl mX3_given 53 0 54 := Or.inl ⟨0, by decide +kernel, rfl, rfl⟩
theorem aX3_given_54 : dG mX3_given 54 3 2 57 := ⟨26, by decide +kernel, rfl, dW_at 173 (by decide +kernel), by decide⟩
theorem aX3_given_57 : dIl mX3_given 57 4 59 := Or.inr ⟨by decide +kernel, rfl⟩
theorem aX3_given_59 : dV mX3_given 59 mX3_low 62 := ⟨115, by decide +kernel, rfl, dW_at 407 (by decide +kernel), by decide⟩
theorem aX3_given_62 : dAl mX3_given 62 0 63 := Or.inl ⟨0, by decide +kernel, rfl, rfl⟩
theorem aX3_given_63 : dAl mX3_given 63 0 64 := Or.inl ⟨0, by decide +kernel, rfl, rfl⟩
theorem aX3_given_64 : dG mX3_given 64 3 2 67 := ⟨26, by decide +kernel, rfl, dW_at 173 (by decide +kernel), by decide⟩
theorem aX3_given_67 : dIl mX3_given 67 5 69 := Or.inr ⟨by decide +kernel, rfl⟩
theorem aX3_given_69 : dV mX3_given 69 mX3_high 72 := ⟨118, by decide +kernel, rfl, dW_at 399 (by decide +kernel), by decide⟩
theorem aX3_given_72 : dS mX3_given 72 mX3_leastPart 75 := ⟨121, by decide +kernel, rfl, dW_at 426 (by decide +kernel), by decide⟩
theorem aX3_given_75 : dk mX3_given 75 .ireturn 1 76 := ⟨by decide +kernel, rfl⟩
theorem aX3_given_76 : dAl mX3_given 76 0 77 := Or.inl ⟨0, by decide +kernel, rfl, rfl⟩
theorem aX3_given_77 : dAl mX3_given 77 0 78 := Or.inl ⟨0, by decide +kernel, rfl, rfl⟩
theorem aX3_given_78 : dG mX3_given 78 3 2 81 := ⟨26, by decide +kernel, rfl, dW_at 173 (by decide +kernel), by decide⟩
theorem aX3_given_81 : dIl mX3_given 81 4 83 := Or.inr ⟨by decide +kernel, rfl⟩
theorem aX3_given_83 : dV mX3_given 83 mX3_high 86 := ⟨118, by decide +kernel, rfl, dW_at 399 (by decide +kernel), by decide⟩
theorem aX3_given_86 : dAl mX3_given 86 0 87 := Or.inl ⟨0, by decide +kernel, rfl, rfl⟩
theorem aX3_given_87 : dAl mX3_given 87 0 88 := Or.inl ⟨0, by decide +kernel, rfl, rfl⟩
theorem aX3_given_88 : dG mX3_given 88 3 2 91 := ⟨26, by decide +kernel, rfl, dW_at 173 (by decide +kernel), by decide⟩
theorem aX3_given_91 : dIl mX3_given 91 5 93 := Or.inr ⟨by decide +kernel, rfl⟩
theorem aX3_given_93 : dV mX3_given 93 mX3_low 96 := ⟨115, by decide +kernel, rfl, dW_at 407 (by decide +kernel), by decide⟩
theorem aX3_given_96 : dS mX3_given 96 mX3_greatestPart 99 := ⟨125, by decide +kernel, rfl, dW_at 433 (by decide +kernel), by decide⟩
theorem aX3_given_99 : dk mX3_given 99 .ireturn 1 100 := ⟨by decide +kernel, rfl⟩
theorem okX3_best : okM mX3_best := ⟨dW_at 439 (by decide +kernel), dW_at 27 (by decide +kernel), by decide +kernel, by decide +kernel, by decide +kernel, Or.inl ⟨dW_at 437 (by decide +kernel), dW_at 438 (by decide +kernel)⟩⟩
theorem aX3_best_0 : dIl mX3_best 0 1 1 := Or.inl ⟨1, by decide +kernel, rfl, rfl⟩
theorem aX3_best_1 : dS mX3_best 1 mX3_isSet 4 := ⟨101, by decide +kernel, rfl, dW_at 392 (by decide +kernel), by decide⟩
theorem aX3_best_4 : dZ mX3_best 4 .eq 7 18 := ⟨14, by decide +kernel, by decide, rfl⟩
theorem aX3_best_7 : dIl mX3_best 7 2 8 := Or.inl ⟨2, by decide +kernel, rfl, rfl⟩
theorem aX3_best_8 : dZ mX3_best 8 .lt 11 18 := ⟨10, by decide +kernel, by decide, rfl⟩
theorem aX3_best_11 : dIl mX3_best 11 2 12 := Or.inl ⟨2, by decide +kernel, rfl, rfl⟩
theorem aX3_best_12 : dKi mX3_best 12 (nI 200) 15 := Or.inr (Or.inr (Or.inl ⟨200, by decide +kernel, by decide +kernel, rfl⟩))
theorem aX3_best_15 : dC mX3_best 15 .le 18 20 := ⟨5, by decide +kernel, by decide, rfl⟩
theorem aX3_best_18 : dKi mX3_best 18 ((-1)) 19 := Or.inl ⟨-1, by decide +kernel, by decide +kernel, rfl⟩
theorem aX3_best_19 : dk mX3_best 19 .ireturn 1 20 := ⟨by decide +kernel, rfl⟩
theorem aX3_best_20 : dAl mX3_best 20 0 21 := Or.inl ⟨0, by decide +kernel, rfl, rfl⟩
theorem aX3_best_21 : dG mX3_best 21 3 2 24 := ⟨26, by decide +kernel, rfl, dW_at 173 (by decide +kernel), by decide⟩
theorem aX3_best_24 : dV mX3_best 24 mX0_exists 27 := ⟨93, by decide +kernel, rfl, dW_at 317 (by decide +kernel), by decide⟩
theorem aX3_best_27 : dZ mX3_best 27 .ne 30 33 := ⟨6, by decide +kernel, by decide, rfl⟩
theorem aX3_best_30 : dKi mX3_best 30 ((-2)) 32 := Or.inr (Or.inl ⟨-2, by decide +kernel, by decide +kernel, rfl⟩)
theorem aX3_best_32 : dk mX3_best 32 .ireturn 1 33 := ⟨by decide +kernel, rfl⟩
theorem aX3_best_33 : dKi mX3_best 33 (nI 0) 34 := Or.inl ⟨0, by decide +kernel, by decide +kernel, rfl⟩
theorem aX3_best_34 : dIs mX3_best 34 3 35 := ⟨Or.inl ⟨3, by decide +kernel, rfl, rfl⟩, by decide⟩
theorem aX3_best_35 : dAl mX3_best 35 0 36 := Or.inl ⟨0, by decide +kernel, rfl, rfl⟩
theorem aX3_best_36 : dKi mX3_best 36 (nI 0) 37 := Or.inl ⟨0, by decide +kernel, by decide +kernel, rfl⟩
theorem aX3_best_37 : dIl mX3_best 37 1 38 := Or.inl ⟨1, by decide +kernel, rfl, rfl⟩
theorem aX3_best_38 : dIl mX3_best 38 2 39 := Or.inl ⟨2, by decide +kernel, rfl, rfl⟩
theorem aX3_best_39 : dV mX3_best 39 mX3_trialWidth 42 := ⟨128, by decide +kernel, rfl, dW_at 440 (by decide +kernel), by decide⟩
theorem aX3_best_42 : dLs mX3_best 42 4 44 := ⟨Or.inr ⟨by decide +kernel, rfl⟩, by decide⟩
theorem aX3_best_44 : dKi mX3_best 44 (nI 1) 45 := Or.inl ⟨1, by decide +kernel, by decide +kernel, rfl⟩
theorem aX3_best_45 : dIs mX3_best 45 6 47 := ⟨Or.inr ⟨by decide +kernel, rfl⟩, by decide⟩
theorem aX3_best_47 : dIl mX3_best 47 6 49 := Or.inr ⟨by decide +kernel, rfl⟩
theorem aX3_best_49 : dKi mX3_best 49 (nI 2) 50 := Or.inl ⟨2, by decide +kernel, by decide +kernel, rfl⟩
theorem aX3_best_50 : dC mX3_best 50 .gt 53 84 := ⟨34, by decide +kernel, by decide, rfl⟩
theorem aX3_best_53 : dAl mX3_best 53 0 54 := Or.inl ⟨0, by decide +kernel, rfl, rfl⟩
theorem aX3_best_54 : dIl mX3_best 54 6 56 := Or.inr ⟨by decide +kernel, rfl⟩
theorem aX3_best_56 : dIl mX3_best 56 1 57 := Or.inl ⟨1, by decide +kernel, rfl, rfl⟩
theorem aX3_best_57 : dIl mX3_best 57 2 58 := Or.inl ⟨2, by decide +kernel, rfl, rfl⟩
theorem aX3_best_58 : dV mX3_best 58 mX3_trialWidth 61 := ⟨128, by decide +kernel, rfl, dW_at 440 (by decide +kernel), by decide⟩
theorem aX3_best_61 : dLs mX3_best 61 7 63 := ⟨Or.inr ⟨by decide +kernel, rfl⟩, by decide⟩
theorem aX3_best_63 : dLl mX3_best 63 7 65 := Or.inr ⟨by decide +kernel, rfl⟩
theorem aX3_best_65 : dLl mX3_best 65 4 67 := Or.inr ⟨by decide +kernel, rfl⟩
theorem aX3_best_67 : dk mX3_best 67 .lcmp 1 68 := ⟨by decide +kernel, rfl⟩
theorem aX3_best_68 : dZ mX3_best 68 .ge 71 78 := ⟨10, by decide +kernel, by decide, rfl⟩
theorem aX3_best_71 : dLl mX3_best 71 7 73 := Or.inr ⟨by decide +kernel, rfl⟩
theorem aX3_best_73 : dLs mX3_best 73 4 75 := ⟨Or.inr ⟨by decide +kernel, rfl⟩, by decide⟩
theorem aX3_best_75 : dIl mX3_best 75 6 77 := Or.inr ⟨by decide +kernel, rfl⟩
theorem aX3_best_77 : dIs mX3_best 77 3 78 := ⟨Or.inl ⟨3, by decide +kernel, rfl, rfl⟩, by decide⟩
theorem aX3_best_78 : dIn mX3_best 78 6 (nI 1) 81 := ⟨1, by decide +kernel, by decide +kernel, rfl, by decide⟩
theorem aX3_best_81 : dJ mX3_best 81 47 := ⟨-34, by decide +kernel, by decide⟩
theorem aX3_best_84 : dIl mX3_best 84 3 85 := Or.inl ⟨3, by decide +kernel, rfl, rfl⟩
theorem aX3_best_85 : dk mX3_best 85 .ireturn 1 86 := ⟨by decide +kernel, rfl⟩
theorem okX3_item : okM mX3_item := ⟨dW_at 447 (by decide +kernel), dW_at 27 (by decide +kernel), by decide +kernel, by decide +kernel, by decide +kernel, Or.inl ⟨dW_at 445 (by decide +kernel), dW_at 446 (by decide +kernel)⟩⟩
theorem aX3_item_0 : dIl mX3_item 0 2 1 := Or.inl ⟨2, by decide +kernel, rfl, rfl⟩
theorem aX3_item_1 : dZ mX3_item 1 .lt 4 9 := ⟨8, by decide +kernel, by decide, rfl⟩
theorem aX3_item_4 : dIl mX3_item 4 2 5 := Or.inl ⟨2, by decide +kernel, rfl, rfl⟩
theorem aX3_item_5 : dKi mX3_item 5 (nI 1) 6 := Or.inl ⟨1, by decide +kernel, by decide +kernel, rfl⟩
theorem aX3_item_6 : dC mX3_item 6 .le 9 11 := ⟨5, by decide +kernel, by decide, rfl⟩
theorem aX3_item_9 : dKi mX3_item 9 ((-1)) 10 := Or.inl ⟨-1, by decide +kernel, by decide +kernel, rfl⟩
theorem aX3_item_10 : dk mX3_item 10 .ireturn 1 11 := ⟨by decide +kernel, rfl⟩
theorem aX3_item_11 : dAl mX3_item 11 0 12 := Or.inl ⟨0, by decide +kernel, rfl, rfl⟩
theorem aX3_item_12 : dG mX3_item 12 3 2 15 := ⟨26, by decide +kernel, rfl, dW_at 173 (by decide +kernel), by decide⟩
theorem aX3_item_15 : dV mX3_item 15 mX0_exists 18 := ⟨93, by decide +kernel, rfl, dW_at 317 (by decide +kernel), by decide⟩
theorem aX3_item_18 : dZ mX3_item 18 .ne 21 24 := ⟨6, by decide +kernel, by decide, rfl⟩
theorem aX3_item_21 : dKi mX3_item 21 ((-2)) 23 := Or.inr (Or.inl ⟨-2, by decide +kernel, by decide +kernel, rfl⟩)
theorem aX3_item_23 : dk mX3_item 23 .ireturn 1 24 := ⟨by decide +kernel, rfl⟩
theorem aX3_item_24 : dAl mX3_item 24 0 25 := Or.inl ⟨0, by decide +kernel, rfl, rfl⟩
theorem aX3_item_25 : dG mX3_item 25 3 2 28 := ⟨26, by decide +kernel, rfl, dW_at 173 (by decide +kernel), by decide⟩
theorem aX3_item_28 : dIl mX3_item 28 1 29 := Or.inl ⟨1, by decide +kernel, rfl, rfl⟩
theorem aX3_item_29 : dV mX3_item 29 mX0_hasItem 32 := ⟨132, by decide +kernel, rfl, dW_at 333 (by decide +kernel), by decide⟩
theorem aX3_item_32 : dZ mX3_item 32 .ne 35 37 := ⟨5, by decide +kernel, by decide, rfl⟩
theorem aX3_item_35 : dKi mX3_item 35 ((-1)) 36 := Or.inl ⟨-1, by decide +kernel, by decide +kernel, rfl⟩
theorem aX3_item_36 : dk mX3_item 36 .ireturn 1 37 := ⟨by decide +kernel, rfl⟩
theorem aX3_item_37 : dIl mX3_item 37 2 38 := Or.inl ⟨2, by decide +kernel, rfl, rfl⟩
theorem aX3_item_38 : dZ mX3_item 38 .ne 41 53 := ⟨15, by decide +kernel, by decide, rfl⟩
theorem aX3_item_41 : dAl mX3_item 41 0 42 := Or.inl ⟨0, by decide +kernel, rfl, rfl⟩
theorem aX3_item_42 : dG mX3_item 42 3 2 45 := ⟨26, by decide +kernel, rfl, dW_at 173 (by decide +kernel), by decide⟩
theorem aX3_item_45 : dG mX3_item 45 0 3 48 := ⟨135, by decide +kernel, rfl, dW_at 140 (by decide +kernel), by decide⟩
theorem aX3_item_48 : dIl mX3_item 48 1 49 := Or.inl ⟨1, by decide +kernel, rfl, rfl⟩
theorem aX3_item_49 : dk mX3_item 49 .iaload 1 50 := ⟨by decide +kernel, rfl⟩
theorem aX3_item_50 : dJ mX3_item 50 62 := ⟨12, by decide +kernel, by decide⟩
theorem aX3_item_53 : dAl mX3_item 53 0 54 := Or.inl ⟨0, by decide +kernel, rfl, rfl⟩
theorem aX3_item_54 : dG mX3_item 54 3 2 57 := ⟨26, by decide +kernel, rfl, dW_at 173 (by decide +kernel), by decide⟩
theorem aX3_item_57 : dG mX3_item 57 0 4 60 := ⟨138, by decide +kernel, rfl, dW_at 142 (by decide +kernel), by decide⟩
theorem aX3_item_60 : dIl mX3_item 60 1 61 := Or.inl ⟨1, by decide +kernel, rfl, rfl⟩
theorem aX3_item_61 : dk mX3_item 61 .iaload 1 62 := ⟨by decide +kernel, rfl⟩
theorem aX3_item_62 : dk mX3_item 62 .ireturn 1 63 := ⟨by decide +kernel, rfl⟩
theorem okX3_units : okM mX3_units := ⟨dW_at 451 (by decide +kernel), dW_at 27 (by decide +kernel), by decide +kernel, by decide +kernel, by decide +kernel, Or.inl ⟨dW_at 449 (by decide +kernel), dW_at 450 (by decide +kernel)⟩⟩
theorem aX3_units_0 : dAl mX3_units 0 0 1 := Or.inl ⟨0, by decide +kernel, rfl, rfl⟩
theorem aX3_units_1 : dG mX3_units 1 3 2 4 := ⟨26, by decide +kernel, rfl, dW_at 173 (by decide +kernel), by decide⟩
theorem aX3_units_4 : dV mX3_units 4 mX0_exists 7 := ⟨93, by decide +kernel, rfl, dW_at 317 (by decide +kernel), by decide⟩
theorem aX3_units_7 : dZ mX3_units 7 .eq 10 33 := ⟨26, by decide +kernel, by decide, rfl⟩
theorem aX3_units_10 : dAl mX3_units 10 0 11 := Or.inl ⟨0, by decide +kernel, rfl, rfl⟩
theorem aX3_units_11 : dG mX3_units 11 3 2 14 := ⟨26, by decide +kernel, rfl, dW_at 173 (by decide +kernel), by decide⟩
theorem aX3_units_14 : dIl mX3_units 14 1 15 := Or.inl ⟨1, by decide +kernel, rfl, rfl⟩
theorem aX3_units_15 : dV mX3_units 15 mX0_hasItem 18 := ⟨132, by decide +kernel, rfl, dW_at 333 (by decide +kernel), by decide⟩
theorem aX3_units_18 : dZ mX3_units 18 .eq 21 33 := ⟨15, by decide +kernel, by decide, rfl⟩
theorem aX3_units_21 : dAl mX3_units 21 0 22 := Or.inl ⟨0, by decide +kernel, rfl, rfl⟩
theorem aX3_units_22 : dG mX3_units 22 3 2 25 := ⟨26, by decide +kernel, rfl, dW_at 173 (by decide +kernel), by decide⟩
theorem aX3_units_25 : dG mX3_units 25 0 5 28 := ⟨141, by decide +kernel, rfl, dW_at 144 (by decide +kernel), by decide⟩
theorem aX3_units_28 : dIl mX3_units 28 1 29 := Or.inl ⟨1, by decide +kernel, rfl, rfl⟩
theorem aX3_units_29 : dk mX3_units 29 .laload 1 30 := ⟨by decide +kernel, rfl⟩
theorem aX3_units_30 : dJ mX3_units 30 34 := ⟨4, by decide +kernel, by decide⟩
theorem aX3_units_33 : dKl mX3_units 33 (lN 0) 34 := Or.inl ⟨0, by decide +kernel, rfl, rfl⟩
theorem aX3_units_34 : dk mX3_units 34 .lreturn 1 35 := ⟨by decide +kernel, rfl⟩
theorem okX3_found : okM mX3_found := ⟨dW_at 455 (by decide +kernel), dW_at 27 (by decide +kernel), by decide +kernel, by decide +kernel, by decide +kernel, Or.inl ⟨dW_at 453 (by decide +kernel), dW_at 454 (by decide +kernel)⟩⟩
theorem aX3_found_0 : dAl mX3_found 0 0 1 := Or.inl ⟨0, by decide +kernel, rfl, rfl⟩
theorem aX3_found_1 : dG mX3_found 1 3 2 4 := ⟨26, by decide +kernel, rfl, dW_at 173 (by decide +kernel), by decide⟩
theorem aX3_found_4 : dV mX3_found 4 mX0_exists 7 := ⟨93, by decide +kernel, rfl, dW_at 317 (by decide +kernel), by decide⟩
theorem aX3_found_7 : dZ mX3_found 7 .eq 10 29 := ⟨22, by decide +kernel, by decide, rfl⟩
theorem aX3_found_10 : dIl mX3_found 10 1 11 := Or.inl ⟨1, by decide +kernel, rfl, rfl⟩
theorem aX3_found_11 : dS mX3_found 11 mX3_isOutcome 14 := ⟨45, by decide +kernel, rfl, dW_at 197 (by decide +kernel), by decide⟩
theorem aX3_found_14 : dZ mX3_found 14 .eq 17 29 := ⟨15, by decide +kernel, by decide, rfl⟩
theorem aX3_found_17 : dAl mX3_found 17 0 18 := Or.inl ⟨0, by decide +kernel, rfl, rfl⟩
theorem aX3_found_18 : dG mX3_found 18 3 2 21 := ⟨26, by decide +kernel, rfl, dW_at 173 (by decide +kernel), by decide⟩
theorem aX3_found_21 : dG mX3_found 21 0 6 24 := ⟨145, by decide +kernel, rfl, dW_at 146 (by decide +kernel), by decide⟩
theorem aX3_found_24 : dIl mX3_found 24 1 25 := Or.inl ⟨1, by decide +kernel, rfl, rfl⟩
theorem aX3_found_25 : dk mX3_found 25 .laload 1 26 := ⟨by decide +kernel, rfl⟩
theorem aX3_found_26 : dJ mX3_found 26 30 := ⟨4, by decide +kernel, by decide⟩
theorem aX3_found_29 : dKl mX3_found 29 (lN 0) 30 := Or.inl ⟨0, by decide +kernel, rfl, rfl⟩
theorem aX3_found_30 : dk mX3_found 30 .lreturn 1 31 := ⟨by decide +kernel, rfl⟩
theorem okX3_rests : okM mX3_rests := ⟨dW_at 459 (by decide +kernel), dW_at 27 (by decide +kernel), by decide +kernel, by decide +kernel, by decide +kernel, Or.inl ⟨dW_at 457 (by decide +kernel), dW_at 458 (by decide +kernel)⟩⟩
theorem aX3_rests_0 : dAl mX3_rests 0 0 1 := Or.inl ⟨0, by decide +kernel, rfl, rfl⟩
theorem aX3_rests_1 : dG mX3_rests 1 3 2 4 := ⟨26, by decide +kernel, rfl, dW_at 173 (by decide +kernel), by decide⟩
theorem aX3_rests_4 : dV mX3_rests 4 mX0_exists 7 := ⟨93, by decide +kernel, rfl, dW_at 317 (by decide +kernel), by decide⟩
theorem aX3_rests_7 : dZ mX3_rests 7 .eq 10 33 := ⟨26, by decide +kernel, by decide, rfl⟩
theorem aX3_rests_10 : dAl mX3_rests 10 0 11 := Or.inl ⟨0, by decide +kernel, rfl, rfl⟩
theorem aX3_rests_11 : dG mX3_rests 11 3 0 14 := ⟨12, by decide +kernel, rfl, dW_at 171 (by decide +kernel), by decide⟩
theorem aX3_rests_14 : dIl mX3_rests 14 1 15 := Or.inl ⟨1, by decide +kernel, rfl, rfl⟩
theorem aX3_rests_15 : dV mX3_rests 15 mX2_has 18 := ⟨62, by decide +kernel, rfl, dW_at 231 (by decide +kernel), by decide⟩
theorem aX3_rests_18 : dZ mX3_rests 18 .eq 21 33 := ⟨15, by decide +kernel, by decide, rfl⟩
theorem aX3_rests_21 : dAl mX3_rests 21 0 22 := Or.inl ⟨0, by decide +kernel, rfl, rfl⟩
theorem aX3_rests_22 : dG mX3_rests 22 3 2 25 := ⟨26, by decide +kernel, rfl, dW_at 173 (by decide +kernel), by decide⟩
theorem aX3_rests_25 : dG mX3_rests 25 0 7 28 := ⟨148, by decide +kernel, rfl, dW_at 148 (by decide +kernel), by decide⟩
theorem aX3_rests_28 : dIl mX3_rests 28 1 29 := Or.inl ⟨1, by decide +kernel, rfl, rfl⟩
theorem aX3_rests_29 : dk mX3_rests 29 .laload 1 30 := ⟨by decide +kernel, rfl⟩
theorem aX3_rests_30 : dJ mX3_rests 30 34 := ⟨4, by decide +kernel, by decide⟩
theorem aX3_rests_33 : dKl mX3_rests 33 (lN 0) 34 := Or.inl ⟨0, by decide +kernel, rfl, rfl⟩
theorem aX3_rests_34 : dk mX3_rests 34 .lreturn 1 35 := ⟨by decide +kernel, rfl⟩
theorem okX3_save : okM mX3_save := ⟨dW_at 463 (by decide +kernel), dW_at 27 (by decide +kernel), by decide +kernel, by decide +kernel, by decide +kernel, Or.inl ⟨dW_at 461 (by decide +kernel), dW_at 462 (by decide +kernel)⟩⟩
theorem aX3_save_0 : dIl mX3_save 0 1 1 := Or.inl ⟨1, by decide +kernel, rfl, rfl⟩
theorem aX3_save_1 : dS mX3_save 1 mX3_isSave 4 := ⟨151, by decide +kernel, rfl, dW_at 464 (by decide +kernel), by decide⟩
theorem aX3_save_4 : dZ mX3_save 4 .ne 7 9 := ⟨5, by decide +kernel, by decide, rfl⟩
theorem aX3_save_7 : dKi mX3_save 7 ((-1)) 8 := Or.inl ⟨-1, by decide +kernel, by decide +kernel, rfl⟩
theorem aX3_save_8 : dk mX3_save 8 .ireturn 1 9 := ⟨by decide +kernel, rfl⟩
theorem aX3_save_9 : dAl mX3_save 9 0 10 := Or.inl ⟨0, by decide +kernel, rfl, rfl⟩
theorem aX3_save_10 : dG mX3_save 10 3 2 13 := ⟨26, by decide +kernel, rfl, dW_at 173 (by decide +kernel), by decide⟩
theorem aX3_save_13 : dV mX3_save 13 mX0_exists 16 := ⟨93, by decide +kernel, rfl, dW_at 317 (by decide +kernel), by decide⟩
theorem aX3_save_16 : dZ mX3_save 16 .ne 19 22 := ⟨6, by decide +kernel, by decide, rfl⟩
theorem aX3_save_19 : dKi mX3_save 19 ((-2)) 21 := Or.inr (Or.inl ⟨-2, by decide +kernel, by decide +kernel, rfl⟩)
theorem aX3_save_21 : dk mX3_save 21 .ireturn 1 22 := ⟨by decide +kernel, rfl⟩
theorem aX3_save_22 : dAl mX3_save 22 0 23 := Or.inl ⟨0, by decide +kernel, rfl, rfl⟩
theorem aX3_save_23 : dG mX3_save 23 3 4 26 := ⟨33, by decide +kernel, rfl, dW_at 175 (by decide +kernel), by decide⟩
theorem aX3_save_26 : dIl mX3_save 26 1 27 := Or.inl ⟨1, by decide +kernel, rfl, rfl⟩
theorem aX3_save_27 : dk mX3_save 27 .aaload 1 28 := ⟨by decide +kernel, rfl⟩
theorem aX3_save_28 : dAl mX3_save 28 0 29 := Or.inl ⟨0, by decide +kernel, rfl, rfl⟩
theorem aX3_save_29 : dG mX3_save 29 3 2 32 := ⟨26, by decide +kernel, rfl, dW_at 173 (by decide +kernel), by decide⟩
theorem aX3_save_32 : dV mX3_save 32 mX0_copyFrom 35 := ⟨154, by decide +kernel, rfl, dW_at 467 (by decide +kernel), by decide⟩
theorem aX3_save_35 : dAl mX3_save 35 0 36 := Or.inl ⟨0, by decide +kernel, rfl, rfl⟩
theorem aX3_save_36 : dG mX3_save 36 3 2 39 := ⟨26, by decide +kernel, rfl, dW_at 173 (by decide +kernel), by decide⟩
theorem aX3_save_39 : dG mX3_save 39 0 2 42 := ⟨158, by decide +kernel, rfl, dW_at 138 (by decide +kernel), by decide⟩
theorem aX3_save_42 : dk mX3_save 42 .ireturn 1 43 := ⟨by decide +kernel, rfl⟩
theorem okX3_back : okM mX3_back := ⟨dW_at 474 (by decide +kernel), dW_at 27 (by decide +kernel), by decide +kernel, by decide +kernel, by decide +kernel, Or.inl ⟨dW_at 472 (by decide +kernel), dW_at 473 (by decide +kernel)⟩⟩
theorem aX3_back_0 : dIl mX3_back 0 1 1 := Or.inl ⟨1, by decide +kernel, rfl, rfl⟩
theorem aX3_back_1 : dS mX3_back 1 mX3_isSave 4 := ⟨151, by decide +kernel, rfl, dW_at 464 (by decide +kernel), by decide⟩
theorem aX3_back_4 : dZ mX3_back 4 .ne 7 9 := ⟨5, by decide +kernel, by decide, rfl⟩
theorem aX3_back_7 : dKi mX3_back 7 ((-1)) 8 := Or.inl ⟨-1, by decide +kernel, by decide +kernel, rfl⟩
theorem aX3_back_8 : dk mX3_back 8 .ireturn 1 9 := ⟨by decide +kernel, rfl⟩
theorem aX3_back_9 : dAl mX3_back 9 0 10 := Or.inl ⟨0, by decide +kernel, rfl, rfl⟩
theorem aX3_back_10 : dG mX3_back 10 3 4 13 := ⟨33, by decide +kernel, rfl, dW_at 175 (by decide +kernel), by decide⟩
theorem aX3_back_13 : dIl mX3_back 13 1 14 := Or.inl ⟨1, by decide +kernel, rfl, rfl⟩
theorem aX3_back_14 : dk mX3_back 14 .aaload 1 15 := ⟨by decide +kernel, rfl⟩
theorem aX3_back_15 : dV mX3_back 15 mX0_exists 18 := ⟨93, by decide +kernel, rfl, dW_at 317 (by decide +kernel), by decide⟩
theorem aX3_back_18 : dZ mX3_back 18 .ne 21 24 := ⟨6, by decide +kernel, by decide, rfl⟩
theorem aX3_back_21 : dKi mX3_back 21 ((-2)) 23 := Or.inr (Or.inl ⟨-2, by decide +kernel, by decide +kernel, rfl⟩)
theorem aX3_back_23 : dk mX3_back 23 .ireturn 1 24 := ⟨by decide +kernel, rfl⟩
theorem aX3_back_24 : dAl mX3_back 24 0 25 := Or.inl ⟨0, by decide +kernel, rfl, rfl⟩
theorem aX3_back_25 : dG mX3_back 25 3 2 28 := ⟨26, by decide +kernel, rfl, dW_at 173 (by decide +kernel), by decide⟩
theorem aX3_back_28 : dAl mX3_back 28 0 29 := Or.inl ⟨0, by decide +kernel, rfl, rfl⟩
theorem aX3_back_29 : dG mX3_back 29 3 4 32 := ⟨33, by decide +kernel, rfl, dW_at 175 (by decide +kernel), by decide⟩
theorem aX3_back_32 : dIl mX3_back 32 1 33 := Or.inl ⟨1, by decide +kernel, rfl, rfl⟩
theorem aX3_back_33 : dk mX3_back 33 .aaload 1 34 := ⟨by decide +kernel, rfl⟩
theorem aX3_back_34 : dV mX3_back 34 mX0_copyFrom 37 := ⟨154, by decide +kernel, rfl, dW_at 467 (by decide +kernel), by decide⟩
theorem aX3_back_37 : dAl mX3_back 37 0 38 := Or.inl ⟨0, by decide +kernel, rfl, rfl⟩
theorem aX3_back_38 : dG mX3_back 38 3 2 41 := ⟨26, by decide +kernel, rfl, dW_at 173 (by decide +kernel), by decide⟩
theorem aX3_back_41 : dG mX3_back 41 0 2 44 := ⟨158, by decide +kernel, rfl, dW_at 138 (by decide +kernel), by decide⟩
theorem aX3_back_44 : dk mX3_back 44 .ireturn 1 45 := ⟨by decide +kernel, rfl⟩
theorem okX3_told : okM mX3_told := ⟨dW_at 478 (by decide +kernel), dW_at 27 (by decide +kernel), by decide +kernel, by decide +kernel, by decide +kernel, Or.inl ⟨dW_at 476 (by decide +kernel), dW_at 477 (by decide +kernel)⟩⟩
theorem aX3_told_0 : dIl mX3_told 0 1 1 := Or.inl ⟨1, by decide +kernel, rfl, rfl⟩
theorem aX3_told_36 : dAl mX3_told 36 0 37 := Or.inl ⟨0, by decide +kernel, rfl, rfl⟩
theorem aX3_told_37 : dG mX3_told 37 3 0 40 := ⟨12, by decide +kernel, rfl, dW_at 171 (by decide +kernel), by decide⟩
theorem aX3_told_40 : dG mX3_told 40 2 0 43 := ⟨49, by decide +kernel, rfl, dW_at 52 (by decide +kernel), by decide⟩
theorem aX3_told_43 : dk mX3_told 43 .ireturn 1 44 := ⟨by decide +kernel, rfl⟩
theorem aX3_told_44 : dAl mX3_told 44 0 45 := Or.inl ⟨0, by decide +kernel, rfl, rfl⟩
theorem aX3_told_45 : dG mX3_told 45 3 2 48 := ⟨26, by decide +kernel, rfl, dW_at 173 (by decide +kernel), by decide⟩
theorem aX3_told_48 : dG mX3_told 48 0 2 51 := ⟨158, by decide +kernel, rfl, dW_at 138 (by decide +kernel), by decide⟩
theorem aX3_told_51 : dk mX3_told 51 .ireturn 1 52 := ⟨by decide +kernel, rfl⟩
theorem aX3_told_52 : dAl mX3_told 52 0 53 := Or.inl ⟨0, by decide +kernel, rfl, rfl⟩
theorem aX3_told_53 : dG mX3_told 53 3 2 56 := ⟨26, by decide +kernel, rfl, dW_at 173 (by decide +kernel), by decide⟩
theorem aX3_told_56 : dG mX3_told 56 0 1 59 := ⟨159, by decide +kernel, rfl, dW_at 136 (by decide +kernel), by decide⟩
theorem aX3_told_59 : dk mX3_told 59 .ireturn 1 60 := ⟨by decide +kernel, rfl⟩
theorem aX3_told_60 : dAl mX3_told 60 0 61 := Or.inl ⟨0, by decide +kernel, rfl, rfl⟩
theorem aX3_told_61 : dG mX3_told 61 3 2 64 := ⟨26, by decide +kernel, rfl, dW_at 173 (by decide +kernel), by decide⟩
theorem aX3_told_64 : dG mX3_told 64 0 0 67 := ⟨162, by decide +kernel, rfl, dW_at 134 (by decide +kernel), by decide⟩
theorem aX3_told_67 : dk mX3_told 67 .ireturn 1 68 := ⟨by decide +kernel, rfl⟩
theorem aX3_told_68 : dAl mX3_told 68 0 69 := Or.inl ⟨0, by decide +kernel, rfl, rfl⟩
theorem aX3_told_69 : dG mX3_told 69 3 5 72 := ⟨37, by decide +kernel, rfl, dW_at 176 (by decide +kernel), by decide⟩
theorem aX3_told_72 : dk mX3_told 72 .ireturn 1 73 := ⟨by decide +kernel, rfl⟩
theorem aX3_told_73 : dIl mX3_told 73 1 74 := Or.inl ⟨1, by decide +kernel, rfl, rfl⟩
theorem aX3_told_74 : dKi mX3_told 74 (nI 10) 76 := Or.inr (Or.inl ⟨10, by decide +kernel, by decide +kernel, rfl⟩)
theorem aX3_told_76 : dC mX3_told 76 .lt 79 108 := ⟨32, by decide +kernel, by decide, rfl⟩
theorem aX3_told_79 : dAl mX3_told 79 0 80 := Or.inl ⟨0, by decide +kernel, rfl, rfl⟩
theorem aX3_told_80 : dG mX3_told 80 3 0 83 := ⟨12, by decide +kernel, rfl, dW_at 171 (by decide +kernel), by decide⟩
theorem aX3_told_83 : dIl mX3_told 83 1 84 := Or.inl ⟨1, by decide +kernel, rfl, rfl⟩
theorem aX3_told_84 : dKi mX3_told 84 (nI 10) 86 := Or.inr (Or.inl ⟨10, by decide +kernel, by decide +kernel, rfl⟩)
theorem aX3_told_86 : dk mX3_told 86 .isub 1 87 := ⟨by decide +kernel, rfl⟩
theorem aX3_told_87 : dV mX3_told 87 mX2_has 90 := ⟨62, by decide +kernel, rfl, dW_at 231 (by decide +kernel), by decide⟩
theorem aX3_told_90 : dZ mX3_told 90 .eq 93 108 := ⟨18, by decide +kernel, by decide, rfl⟩
theorem aX3_told_93 : dAl mX3_told 93 0 94 := Or.inl ⟨0, by decide +kernel, rfl, rfl⟩
theorem aX3_told_94 : dG mX3_told 94 3 0 97 := ⟨12, by decide +kernel, rfl, dW_at 171 (by decide +kernel), by decide⟩
theorem aX3_told_97 : dG mX3_told 97 2 2 100 := ⟨77, by decide +kernel, rfl, dW_at 57 (by decide +kernel), by decide⟩
theorem aX3_told_100 : dIl mX3_told 100 1 101 := Or.inl ⟨1, by decide +kernel, rfl, rfl⟩
theorem aX3_told_101 : dKi mX3_told 101 (nI 10) 103 := Or.inr (Or.inl ⟨10, by decide +kernel, by decide +kernel, rfl⟩)
theorem aX3_told_103 : dk mX3_told 103 .isub 1 104 := ⟨by decide +kernel, rfl⟩
theorem aX3_told_104 : dk mX3_told 104 .iaload 1 105 := ⟨by decide +kernel, rfl⟩
theorem aX3_told_105 : dJ mX3_told 105 109 := ⟨4, by decide +kernel, by decide⟩
theorem aX3_told_108 : dKi mX3_told 108 ((-1)) 109 := Or.inl ⟨-1, by decide +kernel, by decide +kernel, rfl⟩
theorem aX3_told_109 : dk mX3_told 109 .ireturn 1 110 := ⟨by decide +kernel, rfl⟩
theorem okX3_isOutcome : okM mX3_isOutcome := ⟨dW_at 199 (by decide +kernel), dW_at 27 (by decide +kernel), by decide +kernel, by decide +kernel, by decide +kernel, Or.inr (dW_at 198 (by decide +kernel))⟩
theorem aX3_isOutcome_0 : dIl mX3_isOutcome 0 0 1 := Or.inl ⟨0, by decide +kernel, rfl, rfl⟩
theorem aX3_isOutcome_1 : dZ mX3_isOutcome 1 .lt 4 14 := ⟨13, by decide +kernel, by decide, rfl⟩
theorem aX3_isOutcome_4 : dIl mX3_isOutcome 4 0 5 := Or.inl ⟨0, by decide +kernel, rfl, rfl⟩
theorem aX3_isOutcome_5 : dKi mX3_isOutcome 5 (nI 7) 7 := Or.inr (Or.inl ⟨7, by decide +kernel, by decide +kernel, rfl⟩)
theorem aX3_isOutcome_7 : dC mX3_isOutcome 7 .gt 10 14 := ⟨7, by decide +kernel, by decide, rfl⟩
theorem aX3_isOutcome_10 : dKi mX3_isOutcome 10 (nI 1) 11 := Or.inl ⟨1, by decide +kernel, by decide +kernel, rfl⟩
theorem aX3_isOutcome_11 : dJ mX3_isOutcome 11 15 := ⟨4, by decide +kernel, by decide⟩
theorem aX3_isOutcome_14 : dKi mX3_isOutcome 14 (nI 0) 15 := Or.inl ⟨0, by decide +kernel, by decide +kernel, rfl⟩
theorem aX3_isOutcome_15 : dk mX3_isOutcome 15 .ireturn 1 16 := ⟨by decide +kernel, rfl⟩
theorem okX3_isSet : okM mX3_isSet := ⟨dW_at 394 (by decide +kernel), dW_at 27 (by decide +kernel), by decide +kernel, by decide +kernel, by decide +kernel, Or.inr (dW_at 393 (by decide +kernel))⟩
theorem aX3_isSet_0 : dIl mX3_isSet 0 0 1 := Or.inl ⟨0, by decide +kernel, rfl, rfl⟩
theorem aX3_isSet_1 : dZ mX3_isSet 1 .lt 4 15 := ⟨14, by decide +kernel, by decide, rfl⟩
theorem aX3_isSet_4 : dIl mX3_isSet 4 0 5 := Or.inl ⟨0, by decide +kernel, rfl, rfl⟩
theorem aX3_isSet_5 : dKi mX3_isSet 5 (nI 255) 8 := Or.inr (Or.inr (Or.inl ⟨255, by decide +kernel, by decide +kernel, rfl⟩))
theorem aX3_isSet_8 : dC mX3_isSet 8 .gt 11 15 := ⟨7, by decide +kernel, by decide, rfl⟩
theorem aX3_isSet_11 : dKi mX3_isSet 11 (nI 1) 12 := Or.inl ⟨1, by decide +kernel, by decide +kernel, rfl⟩
theorem aX3_isSet_12 : dJ mX3_isSet 12 16 := ⟨4, by decide +kernel, by decide⟩
theorem aX3_isSet_15 : dKi mX3_isSet 15 (nI 0) 16 := Or.inl ⟨0, by decide +kernel, by decide +kernel, rfl⟩
theorem aX3_isSet_16 : dk mX3_isSet 16 .ireturn 1 17 := ⟨by decide +kernel, rfl⟩
theorem okX3_isSide : okM mX3_isSide := ⟨dW_at 421 (by decide +kernel), dW_at 27 (by decide +kernel), by decide +kernel, by decide +kernel, by decide +kernel, Or.inr (dW_at 420 (by decide +kernel))⟩
theorem aX3_isSide_0 : dIl mX3_isSide 0 0 1 := Or.inl ⟨0, by decide +kernel, rfl, rfl⟩
theorem aX3_isSide_1 : dZ mX3_isSide 1 .eq 4 9 := ⟨8, by decide +kernel, by decide, rfl⟩
theorem aX3_isSide_4 : dIl mX3_isSide 4 0 5 := Or.inl ⟨0, by decide +kernel, rfl, rfl⟩
theorem aX3_isSide_5 : dKi mX3_isSide 5 (nI 1) 6 := Or.inl ⟨1, by decide +kernel, by decide +kernel, rfl⟩
theorem aX3_isSide_6 : dC mX3_isSide 6 .ne 9 13 := ⟨7, by decide +kernel, by decide, rfl⟩
theorem aX3_isSide_9 : dKi mX3_isSide 9 (nI 1) 10 := Or.inl ⟨1, by decide +kernel, by decide +kernel, rfl⟩
theorem aX3_isSide_10 : dJ mX3_isSide 10 14 := ⟨4, by decide +kernel, by decide⟩
theorem aX3_isSide_13 : dKi mX3_isSide 13 (nI 0) 14 := Or.inl ⟨0, by decide +kernel, by decide +kernel, rfl⟩
theorem aX3_isSide_14 : dk mX3_isSide 14 .ireturn 1 15 := ⟨by decide +kernel, rfl⟩
theorem okX3_isSave : okM mX3_isSave := ⟨dW_at 466 (by decide +kernel), dW_at 27 (by decide +kernel), by decide +kernel, by decide +kernel, by decide +kernel, Or.inr (dW_at 465 (by decide +kernel))⟩
theorem aX3_isSave_0 : dIl mX3_isSave 0 0 1 := Or.inl ⟨0, by decide +kernel, rfl, rfl⟩
theorem aX3_isSave_1 : dZ mX3_isSave 1 .lt 4 13 := ⟨12, by decide +kernel, by decide, rfl⟩
theorem aX3_isSave_4 : dIl mX3_isSave 4 0 5 := Or.inl ⟨0, by decide +kernel, rfl, rfl⟩
theorem aX3_isSave_5 : dKi mX3_isSave 5 (nI 3) 6 := Or.inl ⟨3, by decide +kernel, by decide +kernel, rfl⟩
theorem aX3_isSave_6 : dC mX3_isSave 6 .ge 9 13 := ⟨7, by decide +kernel, by decide, rfl⟩
theorem aX3_isSave_9 : dKi mX3_isSave 9 (nI 1) 10 := Or.inl ⟨1, by decide +kernel, by decide +kernel, rfl⟩
theorem aX3_isSave_10 : dJ mX3_isSave 10 14 := ⟨4, by decide +kernel, by decide⟩
theorem aX3_isSave_13 : dKi mX3_isSave 13 (nI 0) 14 := Or.inl ⟨0, by decide +kernel, by decide +kernel, rfl⟩
theorem aX3_isSave_14 : dk mX3_isSave 14 .ireturn 1 15 := ⟨by decide +kernel, rfl⟩
theorem okX3_forgetWhatRestsOnWalk : okM mX3_forgetWhatRestsOnWalk := ⟨dW_at 203 (by decide +kernel), dW_at 27 (by decide +kernel), by decide +kernel, by decide +kernel, by decide +kernel, Or.inl ⟨dW_at 202 (by decide +kernel), dW_at 0 (by decide +kernel)⟩⟩
theorem aX3_forgetWhatRestsOnWalk_0 : dAl mX3_forgetWhatRestsOnWalk 0 0 1 := Or.inl ⟨0, by decide +kernel, rfl, rfl⟩
theorem aX3_forgetWhatRestsOnWalk_1 : dG mX3_forgetWhatRestsOnWalk 1 3 2 4 := ⟨26, by decide +kernel, rfl, dW_at 173 (by decide +kernel), by decide⟩
theorem aX3_forgetWhatRestsOnWalk_4 : dV mX3_forgetWhatRestsOnWalk 4 mX0_forget 7 := ⟨165, by decide +kernel, rfl, dW_at 204 (by decide +kernel), by decide⟩
theorem aX3_forgetWhatRestsOnWalk_7 : dKi mX3_forgetWhatRestsOnWalk 7 (nI 0) 8 := Or.inl ⟨0, by decide +kernel, by decide +kernel, rfl⟩
theorem aX3_forgetWhatRestsOnWalk_8 : dIs mX3_forgetWhatRestsOnWalk 8 1 9 := ⟨Or.inl ⟨1, by decide +kernel, rfl, rfl⟩, by decide⟩
theorem aX3_forgetWhatRestsOnWalk_9 : dIl mX3_forgetWhatRestsOnWalk 9 1 10 := Or.inl ⟨1, by decide +kernel, rfl, rfl⟩
theorem aX3_forgetWhatRestsOnWalk_10 : dKi mX3_forgetWhatRestsOnWalk 10 (nI 3) 11 := Or.inl ⟨3, by decide +kernel, by decide +kernel, rfl⟩
theorem aX3_forgetWhatRestsOnWalk_11 : dC mX3_forgetWhatRestsOnWalk 11 .ge 14 29 := ⟨18, by decide +kernel, by decide, rfl⟩
theorem aX3_forgetWhatRestsOnWalk_14 : dAl mX3_forgetWhatRestsOnWalk 14 0 15 := Or.inl ⟨0, by decide +kernel, rfl, rfl⟩
theorem aX3_forgetWhatRestsOnWalk_15 : dG mX3_forgetWhatRestsOnWalk 15 3 4 18 := ⟨33, by decide +kernel, rfl, dW_at 175 (by decide +kernel), by decide⟩
theorem aX3_forgetWhatRestsOnWalk_18 : dIl mX3_forgetWhatRestsOnWalk 18 1 19 := Or.inl ⟨1, by decide +kernel, rfl, rfl⟩
theorem aX3_forgetWhatRestsOnWalk_19 : dk mX3_forgetWhatRestsOnWalk 19 .aaload 1 20 := ⟨by decide +kernel, rfl⟩
theorem aX3_forgetWhatRestsOnWalk_20 : dV mX3_forgetWhatRestsOnWalk 20 mX0_forget 23 := ⟨165, by decide +kernel, rfl, dW_at 204 (by decide +kernel), by decide⟩
theorem aX3_forgetWhatRestsOnWalk_23 : dIn mX3_forgetWhatRestsOnWalk 23 1 (nI 1) 26 := ⟨1, by decide +kernel, by decide +kernel, rfl, by decide⟩
theorem aX3_forgetWhatRestsOnWalk_26 : dJ mX3_forgetWhatRestsOnWalk 26 9 := ⟨-17, by decide +kernel, by decide⟩
theorem aX3_forgetWhatRestsOnWalk_29 : dAl mX3_forgetWhatRestsOnWalk 29 0 30 := Or.inl ⟨0, by decide +kernel, rfl, rfl⟩
theorem aX3_forgetWhatRestsOnWalk_30 : dG mX3_forgetWhatRestsOnWalk 30 3 0 33 := ⟨12, by decide +kernel, rfl, dW_at 171 (by decide +kernel), by decide⟩
theorem aX3_forgetWhatRestsOnWalk_33 : dV mX3_forgetWhatRestsOnWalk 33 mX2_forgetLaws 36 := ⟨168, by decide +kernel, rfl, dW_at 208 (by decide +kernel), by decide⟩
theorem aX3_forgetWhatRestsOnWalk_36 : dk mX3_forgetWhatRestsOnWalk 36 .return_ 1 37 := ⟨by decide +kernel, rfl⟩
theorem okX3_goOnTimes : okM mX3_goOnTimes := ⟨dW_at 324 (by decide +kernel), dW_at 27 (by decide +kernel), by decide +kernel, by decide +kernel, by decide +kernel, Or.inl ⟨dW_at 323 (by decide +kernel), dW_at 1 (by decide +kernel)⟩⟩
theorem aX3_goOnTimes_0 : dKi mX3_goOnTimes 0 (nI 0) 1 := Or.inl ⟨0, by decide +kernel, by decide +kernel, rfl⟩
theorem aX3_goOnTimes_1 : dIs mX3_goOnTimes 1 4 3 := ⟨Or.inr ⟨by decide +kernel, rfl⟩, by decide⟩
theorem aX3_goOnTimes_3 : dIl mX3_goOnTimes 3 4 5 := Or.inr ⟨by decide +kernel, rfl⟩
theorem aX3_goOnTimes_5 : dIl mX3_goOnTimes 5 3 6 := Or.inl ⟨3, by decide +kernel, rfl, rfl⟩
theorem aX3_goOnTimes_6 : dC mX3_goOnTimes 6 .ge 9 27 := ⟨21, by decide +kernel, by decide, rfl⟩
theorem aX3_goOnTimes_9 : dAl mX3_goOnTimes 9 0 10 := Or.inl ⟨0, by decide +kernel, rfl, rfl⟩
theorem aX3_goOnTimes_10 : dAl mX3_goOnTimes 10 1 11 := Or.inl ⟨1, by decide +kernel, rfl, rfl⟩
theorem aX3_goOnTimes_11 : dIl mX3_goOnTimes 11 2 12 := Or.inl ⟨2, by decide +kernel, rfl, rfl⟩
theorem aX3_goOnTimes_12 : dV mX3_goOnTimes 12 mX3_goOnOnce 15 := ⟨108, by decide +kernel, rfl, dW_at 325 (by decide +kernel), by decide⟩
theorem aX3_goOnTimes_15 : dZ mX3_goOnTimes 15 .ne 18 21 := ⟨6, by decide +kernel, by decide, rfl⟩
theorem aX3_goOnTimes_18 : dIl mX3_goOnTimes 18 4 20 := Or.inr ⟨by decide +kernel, rfl⟩
theorem aX3_goOnTimes_20 : dk mX3_goOnTimes 20 .ireturn 1 21 := ⟨by decide +kernel, rfl⟩
theorem aX3_goOnTimes_21 : dIn mX3_goOnTimes 21 4 (nI 1) 24 := ⟨1, by decide +kernel, by decide +kernel, rfl, by decide⟩
theorem aX3_goOnTimes_24 : dJ mX3_goOnTimes 24 3 := ⟨-21, by decide +kernel, by decide⟩
theorem aX3_goOnTimes_27 : dIl mX3_goOnTimes 27 3 28 := Or.inl ⟨3, by decide +kernel, rfl, rfl⟩
theorem aX3_goOnTimes_28 : dk mX3_goOnTimes 28 .ireturn 1 29 := ⟨by decide +kernel, rfl⟩
theorem okX3_goOnOnce : okM mX3_goOnOnce := ⟨dW_at 328 (by decide +kernel), dW_at 27 (by decide +kernel), by decide +kernel, by decide +kernel, by decide +kernel, Or.inl ⟨dW_at 327 (by decide +kernel), dW_at 2 (by decide +kernel)⟩⟩
theorem aX3_goOnOnce_0 : dAl mX3_goOnOnce 0 1 1 := Or.inl ⟨1, by decide +kernel, rfl, rfl⟩
theorem aX3_goOnOnce_1 : dIl mX3_goOnOnce 1 2 2 := Or.inl ⟨2, by decide +kernel, rfl, rfl⟩
theorem aX3_goOnOnce_2 : dV mX3_goOnOnce 2 mX0_nextBy 5 := ⟨171, by decide +kernel, rfl, dW_at 329 (by decide +kernel), by decide⟩
theorem aX3_goOnOnce_5 : dIs mX3_goOnOnce 5 3 6 := ⟨Or.inl ⟨3, by decide +kernel, rfl, rfl⟩, by decide⟩
theorem aX3_goOnOnce_6 : dAl mX3_goOnOnce 6 1 7 := Or.inl ⟨1, by decide +kernel, rfl, rfl⟩
theorem aX3_goOnOnce_7 : dIl mX3_goOnOnce 7 3 8 := Or.inl ⟨3, by decide +kernel, rfl, rfl⟩
theorem aX3_goOnOnce_8 : dV mX3_goOnOnce 8 mX0_hasItem 11 := ⟨132, by decide +kernel, rfl, dW_at 333 (by decide +kernel), by decide⟩
theorem aX3_goOnOnce_11 : dZ mX3_goOnOnce 11 .ne 14 16 := ⟨5, by decide +kernel, by decide, rfl⟩
theorem aX3_goOnOnce_14 : dKi mX3_goOnOnce 14 (nI 0) 15 := Or.inl ⟨0, by decide +kernel, by decide +kernel, rfl⟩
theorem aX3_goOnOnce_15 : dk mX3_goOnOnce 15 .ireturn 1 16 := ⟨by decide +kernel, rfl⟩
theorem aX3_goOnOnce_16 : dAl mX3_goOnOnce 16 1 17 := Or.inl ⟨1, by decide +kernel, rfl, rfl⟩
theorem aX3_goOnOnce_17 : dG mX3_goOnOnce 17 0 3 20 := ⟨135, by decide +kernel, rfl, dW_at 140 (by decide +kernel), by decide⟩
theorem aX3_goOnOnce_20 : dIl mX3_goOnOnce 20 3 21 := Or.inl ⟨3, by decide +kernel, rfl, rfl⟩
theorem aX3_goOnOnce_21 : dk mX3_goOnOnce 21 .iaload 1 22 := ⟨by decide +kernel, rfl⟩
theorem aX3_goOnOnce_22 : dIs mX3_goOnOnce 22 4 24 := ⟨Or.inr ⟨by decide +kernel, rfl⟩, by decide⟩
theorem aX3_goOnOnce_24 : dAl mX3_goOnOnce 24 1 25 := Or.inl ⟨1, by decide +kernel, rfl, rfl⟩
theorem aX3_goOnOnce_25 : dG mX3_goOnOnce 25 0 5 28 := ⟨141, by decide +kernel, rfl, dW_at 144 (by decide +kernel), by decide⟩
theorem aX3_goOnOnce_28 : dIl mX3_goOnOnce 28 3 29 := Or.inl ⟨3, by decide +kernel, rfl, rfl⟩
theorem aX3_goOnOnce_29 : dk mX3_goOnOnce 29 .laload 1 30 := ⟨by decide +kernel, rfl⟩
theorem aX3_goOnOnce_30 : dLs mX3_goOnOnce 30 5 32 := ⟨Or.inr ⟨by decide +kernel, rfl⟩, by decide⟩
theorem aX3_goOnOnce_32 : dAl mX3_goOnOnce 32 0 33 := Or.inl ⟨0, by decide +kernel, rfl, rfl⟩
theorem aX3_goOnOnce_33 : dG mX3_goOnOnce 33 3 0 36 := ⟨12, by decide +kernel, rfl, dW_at 171 (by decide +kernel), by decide⟩
theorem aX3_goOnOnce_36 : dIl mX3_goOnOnce 36 4 38 := Or.inr ⟨by decide +kernel, rfl⟩
theorem aX3_goOnOnce_38 : dV mX3_goOnOnce 38 mX2_goesOn 41 := ⟨59, by decide +kernel, rfl, dW_at 223 (by decide +kernel), by decide⟩
theorem aX3_goOnOnce_41 : dZ mX3_goOnOnce 41 .ne 44 68 := ⟨27, by decide +kernel, by decide, rfl⟩
theorem aX3_goOnOnce_44 : dAl mX3_goOnOnce 44 1 45 := Or.inl ⟨1, by decide +kernel, rfl, rfl⟩
theorem aX3_goOnOnce_45 : dIl mX3_goOnOnce 45 3 46 := Or.inl ⟨3, by decide +kernel, rfl, rfl⟩
theorem aX3_goOnOnce_46 : dV mX3_goOnOnce 46 mX0_takeOut 49 := ⟨174, by decide +kernel, rfl, dW_at 337 (by decide +kernel), by decide⟩
theorem aX3_goOnOnce_49 : dAl mX3_goOnOnce 49 1 50 := Or.inl ⟨1, by decide +kernel, rfl, rfl⟩
theorem aX3_goOnOnce_50 : dAl mX3_goOnOnce 50 0 51 := Or.inl ⟨0, by decide +kernel, rfl, rfl⟩
theorem aX3_goOnOnce_51 : dG mX3_goOnOnce 51 3 0 54 := ⟨12, by decide +kernel, rfl, dW_at 171 (by decide +kernel), by decide⟩
theorem aX3_goOnOnce_54 : dG mX3_goOnOnce 54 2 1 57 := ⟨177, by decide +kernel, rfl, dW_at 54 (by decide +kernel), by decide⟩
theorem aX3_goOnOnce_57 : dIl mX3_goOnOnce 57 4 59 := Or.inr ⟨by decide +kernel, rfl⟩
theorem aX3_goOnOnce_59 : dk mX3_goOnOnce 59 .iaload 1 60 := ⟨by decide +kernel, rfl⟩
theorem aX3_goOnOnce_60 : dLl mX3_goOnOnce 60 5 62 := Or.inr ⟨by decide +kernel, rfl⟩
theorem aX3_goOnOnce_62 : dV mX3_goOnOnce 62 mX0_addEnded 65 := ⟨180, by decide +kernel, rfl, dW_at 344 (by decide +kernel), by decide⟩
theorem aX3_goOnOnce_65 : dJ mX3_goOnOnce 65 175 := ⟨110, by decide +kernel, by decide⟩
theorem aX3_goOnOnce_68 : dAl mX3_goOnOnce 68 1 69 := Or.inl ⟨1, by decide +kernel, rfl, rfl⟩
theorem aX3_goOnOnce_69 : dG mX3_goOnOnce 69 0 4 72 := ⟨138, by decide +kernel, rfl, dW_at 142 (by decide +kernel), by decide⟩
theorem aX3_goOnOnce_72 : dIl mX3_goOnOnce 72 3 73 := Or.inl ⟨3, by decide +kernel, rfl, rfl⟩
theorem aX3_goOnOnce_73 : dk mX3_goOnOnce 73 .iaload 1 74 := ⟨by decide +kernel, rfl⟩
theorem aX3_goOnOnce_74 : dKi mX3_goOnOnce 74 (nI 40) 76 := Or.inr (Or.inl ⟨40, by decide +kernel, by decide +kernel, rfl⟩)
theorem aX3_goOnOnce_76 : dC mX3_goOnOnce 76 .lt 79 95 := ⟨19, by decide +kernel, by decide, rfl⟩
theorem aX3_goOnOnce_79 : dAl mX3_goOnOnce 79 1 80 := Or.inl ⟨1, by decide +kernel, rfl, rfl⟩
theorem aX3_goOnOnce_80 : dIl mX3_goOnOnce 80 3 81 := Or.inl ⟨3, by decide +kernel, rfl, rfl⟩
theorem aX3_goOnOnce_81 : dV mX3_goOnOnce 81 mX0_takeOut 84 := ⟨174, by decide +kernel, rfl, dW_at 337 (by decide +kernel), by decide⟩
theorem aX3_goOnOnce_84 : dAl mX3_goOnOnce 84 1 85 := Or.inl ⟨1, by decide +kernel, rfl, rfl⟩
theorem aX3_goOnOnce_85 : dIl mX3_goOnOnce 85 4 87 := Or.inr ⟨by decide +kernel, rfl⟩
theorem aX3_goOnOnce_87 : dLl mX3_goOnOnce 87 5 89 := Or.inr ⟨by decide +kernel, rfl⟩
theorem aX3_goOnOnce_89 : dV mX3_goOnOnce 89 mX0_addLeft 92 := ⟨184, by decide +kernel, rfl, dW_at 348 (by decide +kernel), by decide⟩
theorem aX3_goOnOnce_92 : dJ mX3_goOnOnce 92 175 := ⟨83, by decide +kernel, by decide⟩
theorem aX3_goOnOnce_95 : dAl mX3_goOnOnce 95 0 96 := Or.inl ⟨0, by decide +kernel, rfl, rfl⟩
theorem aX3_goOnOnce_96 : dG mX3_goOnOnce 96 3 1 99 := ⟨19, by decide +kernel, rfl, dW_at 172 (by decide +kernel), by decide⟩
theorem aX3_goOnOnce_99 : dAl mX3_goOnOnce 99 0 100 := Or.inl ⟨0, by decide +kernel, rfl, rfl⟩
theorem aX3_goOnOnce_100 : dG mX3_goOnOnce 100 3 0 103 := ⟨12, by decide +kernel, rfl, dW_at 171 (by decide +kernel), by decide⟩
theorem aX3_goOnOnce_103 : dIl mX3_goOnOnce 103 4 105 := Or.inr ⟨by decide +kernel, rfl⟩
theorem aX3_goOnOnce_105 : dAl mX3_goOnOnce 105 1 106 := Or.inl ⟨1, by decide +kernel, rfl, rfl⟩
theorem aX3_goOnOnce_106 : dG mX3_goOnOnce 106 0 4 109 := ⟨138, by decide +kernel, rfl, dW_at 142 (by decide +kernel), by decide⟩
theorem aX3_goOnOnce_109 : dIl mX3_goOnOnce 109 3 110 := Or.inl ⟨3, by decide +kernel, rfl, rfl⟩
theorem aX3_goOnOnce_110 : dk mX3_goOnOnce 110 .iaload 1 111 := ⟨by decide +kernel, rfl⟩
theorem aX3_goOnOnce_111 : dLl mX3_goOnOnce 111 5 113 := Or.inr ⟨by decide +kernel, rfl⟩
theorem aX3_goOnOnce_113 : dV mX3_goOnOnce 113 mX1_divide 116 := ⟨187, by decide +kernel, rfl, dW_at 352 (by decide +kernel), by decide⟩
theorem aX3_goOnOnce_116 : dAl mX3_goOnOnce 116 1 117 := Or.inl ⟨1, by decide +kernel, rfl, rfl⟩
theorem aX3_goOnOnce_117 : dG mX3_goOnOnce 117 0 2 120 := ⟨158, by decide +kernel, rfl, dW_at 138 (by decide +kernel), by decide⟩
theorem aX3_goOnOnce_120 : dKi mX3_goOnOnce 120 (nI 1) 121 := Or.inl ⟨1, by decide +kernel, by decide +kernel, rfl⟩
theorem aX3_goOnOnce_121 : dk mX3_goOnOnce 121 .isub 1 122 := ⟨by decide +kernel, rfl⟩
theorem aX3_goOnOnce_122 : dAl mX3_goOnOnce 122 1 123 := Or.inl ⟨1, by decide +kernel, rfl, rfl⟩
theorem aX3_goOnOnce_123 : dAl mX3_goOnOnce 123 0 124 := Or.inl ⟨0, by decide +kernel, rfl, rfl⟩
theorem aX3_goOnOnce_124 : dG mX3_goOnOnce 124 3 1 127 := ⟨19, by decide +kernel, rfl, dW_at 172 (by decide +kernel), by decide⟩
theorem aX3_goOnOnce_127 : dAl mX3_goOnOnce 127 0 128 := Or.inl ⟨0, by decide +kernel, rfl, rfl⟩
theorem aX3_goOnOnce_128 : dG mX3_goOnOnce 128 3 6 131 := ⟨41, by decide +kernel, rfl, dW_at 177 (by decide +kernel), by decide⟩
theorem aX3_goOnOnce_131 : dV mX3_goOnOnce 131 mX0_countNew 134 := ⟨191, by decide +kernel, rfl, dW_at 372 (by decide +kernel), by decide⟩
theorem aX3_goOnOnce_134 : dk mX3_goOnOnce 134 .iadd 1 135 := ⟨by decide +kernel, rfl⟩
theorem aX3_goOnOnce_135 : dKi mX3_goOnOnce 135 (nI 60) 137 := Or.inr (Or.inl ⟨60, by decide +kernel, by decide +kernel, rfl⟩)
theorem aX3_goOnOnce_137 : dC mX3_goOnOnce 137 .le 140 142 := ⟨5, by decide +kernel, by decide, rfl⟩
theorem aX3_goOnOnce_140 : dKi mX3_goOnOnce 140 (nI 0) 141 := Or.inl ⟨0, by decide +kernel, by decide +kernel, rfl⟩
theorem aX3_goOnOnce_141 : dk mX3_goOnOnce 141 .ireturn 1 142 := ⟨by decide +kernel, rfl⟩
theorem aX3_goOnOnce_142 : dAl mX3_goOnOnce 142 1 143 := Or.inl ⟨1, by decide +kernel, rfl, rfl⟩
theorem aX3_goOnOnce_143 : dIl mX3_goOnOnce 143 3 144 := Or.inl ⟨3, by decide +kernel, rfl, rfl⟩
theorem aX3_goOnOnce_144 : dV mX3_goOnOnce 144 mX0_takeOut 147 := ⟨174, by decide +kernel, rfl, dW_at 337 (by decide +kernel), by decide⟩
theorem aX3_goOnOnce_147 : dAl mX3_goOnOnce 147 1 148 := Or.inl ⟨1, by decide +kernel, rfl, rfl⟩
theorem aX3_goOnOnce_148 : dAl mX3_goOnOnce 148 0 149 := Or.inl ⟨0, by decide +kernel, rfl, rfl⟩
theorem aX3_goOnOnce_149 : dG mX3_goOnOnce 149 3 1 152 := ⟨19, by decide +kernel, rfl, dW_at 172 (by decide +kernel), by decide⟩
theorem aX3_goOnOnce_152 : dAl mX3_goOnOnce 152 0 153 := Or.inl ⟨0, by decide +kernel, rfl, rfl⟩
theorem aX3_goOnOnce_153 : dG mX3_goOnOnce 153 3 6 156 := ⟨41, by decide +kernel, rfl, dW_at 177 (by decide +kernel), by decide⟩
theorem aX3_goOnOnce_156 : dV mX3_goOnOnce 156 mX0_putShares 159 := ⟨195, by decide +kernel, rfl, dW_at 384 (by decide +kernel), by decide⟩
theorem aX3_goOnOnce_159 : dAl mX3_goOnOnce 159 1 160 := Or.inl ⟨1, by decide +kernel, rfl, rfl⟩
theorem aX3_goOnOnce_160 : dIl mX3_goOnOnce 160 4 162 := Or.inr ⟨by decide +kernel, rfl⟩
theorem aX3_goOnOnce_162 : dLl mX3_goOnOnce 162 5 164 := Or.inr ⟨by decide +kernel, rfl⟩
theorem aX3_goOnOnce_164 : dAl mX3_goOnOnce 164 0 165 := Or.inl ⟨0, by decide +kernel, rfl, rfl⟩
theorem aX3_goOnOnce_165 : dG mX3_goOnOnce 165 3 1 168 := ⟨19, by decide +kernel, rfl, dW_at 172 (by decide +kernel), by decide⟩
theorem aX3_goOnOnce_168 : dG mX3_goOnOnce 168 1 1 171 := ⟨199, by decide +kernel, rfl, dW_at 102 (by decide +kernel), by decide⟩
theorem aX3_goOnOnce_171 : dk mX3_goOnOnce 171 .lsub 1 172 := ⟨by decide +kernel, rfl⟩
theorem aX3_goOnOnce_172 : dV mX3_goOnOnce 172 mX0_addLeft 175 := ⟨184, by decide +kernel, rfl, dW_at 348 (by decide +kernel), by decide⟩
theorem aX3_goOnOnce_175 : dAl mX3_goOnOnce 175 1 176 := Or.inl ⟨1, by decide +kernel, rfl, rfl⟩
theorem aX3_goOnOnce_176 : dk mX3_goOnOnce 176 .dup 1 177 := ⟨by decide +kernel, rfl⟩
theorem aX3_goOnOnce_177 : dG mX3_goOnOnce 177 0 1 180 := ⟨159, by decide +kernel, rfl, dW_at 136 (by decide +kernel), by decide⟩
theorem aX3_goOnOnce_180 : dKi mX3_goOnOnce 180 (nI 1) 181 := Or.inl ⟨1, by decide +kernel, by decide +kernel, rfl⟩
theorem aX3_goOnOnce_181 : dk mX3_goOnOnce 181 .iadd 1 182 := ⟨by decide +kernel, rfl⟩
theorem aX3_goOnOnce_182 : dP mX3_goOnOnce 182 0 1 185 := ⟨159, by decide +kernel, rfl, dW_at 136 (by decide +kernel), by decide⟩
theorem aX3_goOnOnce_185 : dKi mX3_goOnOnce 185 (nI 1) 186 := Or.inl ⟨1, by decide +kernel, by decide +kernel, rfl⟩
theorem aX3_goOnOnce_186 : dk mX3_goOnOnce 186 .ireturn 1 187 := ⟨by decide +kernel, rfl⟩
theorem okX3_low : okM mX3_low := ⟨dW_at 410 (by decide +kernel), dW_at 27 (by decide +kernel), by decide +kernel, by decide +kernel, by decide +kernel, Or.inl ⟨dW_at 409 (by decide +kernel), dW_at 5 (by decide +kernel)⟩⟩
theorem aX3_low_0 : dAl mX3_low 0 1 1 := Or.inl ⟨1, by decide +kernel, rfl, rfl⟩
theorem aX3_low_1 : dIl mX3_low 1 2 2 := Or.inl ⟨2, by decide +kernel, rfl, rfl⟩
theorem aX3_low_2 : dV mX3_low 2 mX0_endedIn 5 := ⟨203, by decide +kernel, rfl, dW_at 403 (by decide +kernel), by decide⟩
theorem aX3_low_5 : dLs mX3_low 5 3 6 := ⟨Or.inl ⟨3, by decide +kernel, rfl, rfl⟩, by decide⟩
theorem aX3_low_6 : dKi mX3_low 6 (nI 0) 7 := Or.inl ⟨0, by decide +kernel, by decide +kernel, rfl⟩
theorem aX3_low_7 : dIs mX3_low 7 5 9 := ⟨Or.inr ⟨by decide +kernel, rfl⟩, by decide⟩
theorem aX3_low_9 : dIl mX3_low 9 5 11 := Or.inr ⟨by decide +kernel, rfl⟩
theorem aX3_low_11 : dAl mX3_low 11 0 12 := Or.inl ⟨0, by decide +kernel, rfl, rfl⟩
theorem aX3_low_12 : dG mX3_low 12 3 0 15 := ⟨12, by decide +kernel, rfl, dW_at 171 (by decide +kernel), by decide⟩
theorem aX3_low_15 : dG mX3_low 15 2 0 18 := ⟨49, by decide +kernel, rfl, dW_at 52 (by decide +kernel), by decide⟩
theorem aX3_low_18 : dC mX3_low 18 .ge 21 50 := ⟨32, by decide +kernel, by decide, rfl⟩
theorem aX3_low_21 : dAl mX3_low 21 0 22 := Or.inl ⟨0, by decide +kernel, rfl, rfl⟩
theorem aX3_low_22 : dG mX3_low 22 3 0 25 := ⟨12, by decide +kernel, rfl, dW_at 171 (by decide +kernel), by decide⟩
theorem aX3_low_25 : dIl mX3_low 25 5 27 := Or.inr ⟨by decide +kernel, rfl⟩
theorem aX3_low_27 : dIl mX3_low 27 2 28 := Or.inl ⟨2, by decide +kernel, rfl, rfl⟩
theorem aX3_low_28 : dV mX3_low 28 mX2_endsWithin 31 := ⟨207, by decide +kernel, rfl, dW_at 411 (by decide +kernel), by decide⟩
theorem aX3_low_31 : dZ mX3_low 31 .eq 34 44 := ⟨13, by decide +kernel, by decide, rfl⟩
theorem aX3_low_34 : dLl mX3_low 34 3 35 := Or.inl ⟨3, by decide +kernel, rfl, rfl⟩
theorem aX3_low_35 : dAl mX3_low 35 1 36 := Or.inl ⟨1, by decide +kernel, rfl, rfl⟩
theorem aX3_low_36 : dG mX3_low 36 0 8 39 := ⟨210, by decide +kernel, rfl, dW_at 150 (by decide +kernel), by decide⟩
theorem aX3_low_39 : dIl mX3_low 39 5 41 := Or.inr ⟨by decide +kernel, rfl⟩
theorem aX3_low_41 : dk mX3_low 41 .laload 1 42 := ⟨by decide +kernel, rfl⟩
theorem aX3_low_42 : dk mX3_low 42 .ladd 1 43 := ⟨by decide +kernel, rfl⟩
theorem aX3_low_43 : dLs mX3_low 43 3 44 := ⟨Or.inl ⟨3, by decide +kernel, rfl, rfl⟩, by decide⟩
theorem aX3_low_44 : dIn mX3_low 44 5 (nI 1) 47 := ⟨1, by decide +kernel, by decide +kernel, rfl, by decide⟩
theorem aX3_low_47 : dJ mX3_low 47 9 := ⟨-38, by decide +kernel, by decide⟩
theorem aX3_low_50 : dLl mX3_low 50 3 51 := Or.inl ⟨3, by decide +kernel, rfl, rfl⟩
theorem aX3_low_51 : dk mX3_low 51 .lreturn 1 52 := ⟨by decide +kernel, rfl⟩
theorem okX3_high : okM mX3_high := ⟨dW_at 402 (by decide +kernel), dW_at 27 (by decide +kernel), by decide +kernel, by decide +kernel, by decide +kernel, Or.inl ⟨dW_at 401 (by decide +kernel), dW_at 4 (by decide +kernel)⟩⟩
theorem aX3_high_0 : dAl mX3_high 0 1 1 := Or.inl ⟨1, by decide +kernel, rfl, rfl⟩
theorem aX3_high_1 : dIl mX3_high 1 2 2 := Or.inl ⟨2, by decide +kernel, rfl, rfl⟩
theorem aX3_high_2 : dV mX3_high 2 mX0_endedIn 5 := ⟨203, by decide +kernel, rfl, dW_at 403 (by decide +kernel), by decide⟩
theorem aX3_high_5 : dLs mX3_high 5 3 6 := ⟨Or.inl ⟨3, by decide +kernel, rfl, rfl⟩, by decide⟩
theorem aX3_high_6 : dKi mX3_high 6 (nI 0) 7 := Or.inl ⟨0, by decide +kernel, by decide +kernel, rfl⟩
theorem aX3_high_7 : dIs mX3_high 7 5 9 := ⟨Or.inr ⟨by decide +kernel, rfl⟩, by decide⟩
theorem aX3_high_9 : dIl mX3_high 9 5 11 := Or.inr ⟨by decide +kernel, rfl⟩
theorem aX3_high_11 : dAl mX3_high 11 0 12 := Or.inl ⟨0, by decide +kernel, rfl, rfl⟩
theorem aX3_high_12 : dG mX3_high 12 3 0 15 := ⟨12, by decide +kernel, rfl, dW_at 171 (by decide +kernel), by decide⟩
theorem aX3_high_15 : dG mX3_high 15 2 0 18 := ⟨49, by decide +kernel, rfl, dW_at 52 (by decide +kernel), by decide⟩
theorem aX3_high_18 : dC mX3_high 18 .ge 21 52 := ⟨34, by decide +kernel, by decide, rfl⟩
theorem aX3_high_21 : dAl mX3_high 21 0 22 := Or.inl ⟨0, by decide +kernel, rfl, rfl⟩
theorem aX3_high_22 : dG mX3_high 22 3 0 25 := ⟨12, by decide +kernel, rfl, dW_at 171 (by decide +kernel), by decide⟩
theorem aX3_high_25 : dG mX3_high 25 2 8 28 := ⟨90, by decide +kernel, rfl, dW_at 68 (by decide +kernel), by decide⟩
theorem aX3_high_28 : dIl mX3_high 28 5 30 := Or.inr ⟨by decide +kernel, rfl⟩
theorem aX3_high_30 : dk mX3_high 30 .iaload 1 31 := ⟨by decide +kernel, rfl⟩
theorem aX3_high_31 : dIl mX3_high 31 2 32 := Or.inl ⟨2, by decide +kernel, rfl, rfl⟩
theorem aX3_high_32 : dk mX3_high 32 .iand 1 33 := ⟨by decide +kernel, rfl⟩
theorem aX3_high_33 : dZ mX3_high 33 .eq 36 46 := ⟨13, by decide +kernel, by decide, rfl⟩
theorem aX3_high_36 : dLl mX3_high 36 3 37 := Or.inl ⟨3, by decide +kernel, rfl, rfl⟩
theorem aX3_high_37 : dAl mX3_high 37 1 38 := Or.inl ⟨1, by decide +kernel, rfl, rfl⟩
theorem aX3_high_38 : dG mX3_high 38 0 8 41 := ⟨210, by decide +kernel, rfl, dW_at 150 (by decide +kernel), by decide⟩
theorem aX3_high_41 : dIl mX3_high 41 5 43 := Or.inr ⟨by decide +kernel, rfl⟩
theorem aX3_high_43 : dk mX3_high 43 .laload 1 44 := ⟨by decide +kernel, rfl⟩
theorem aX3_high_44 : dk mX3_high 44 .ladd 1 45 := ⟨by decide +kernel, rfl⟩
theorem aX3_high_45 : dLs mX3_high 45 3 46 := ⟨Or.inl ⟨3, by decide +kernel, rfl, rfl⟩, by decide⟩
theorem aX3_high_46 : dIn mX3_high 46 5 (nI 1) 49 := ⟨1, by decide +kernel, by decide +kernel, rfl, by decide⟩
theorem aX3_high_49 : dJ mX3_high 49 9 := ⟨-40, by decide +kernel, by decide⟩
theorem aX3_high_52 : dLl mX3_high 52 3 53 := Or.inl ⟨3, by decide +kernel, rfl, rfl⟩
theorem aX3_high_53 : dk mX3_high 53 .lreturn 1 54 := ⟨by decide +kernel, rfl⟩
theorem okX3_width : okM mX3_width := ⟨dW_at 398 (by decide +kernel), dW_at 27 (by decide +kernel), by decide +kernel, by decide +kernel, by decide +kernel, Or.inl ⟨dW_at 397 (by decide +kernel), dW_at 3 (by decide +kernel)⟩⟩
theorem aX3_width_0 : dAl mX3_width 0 0 1 := Or.inl ⟨0, by decide +kernel, rfl, rfl⟩
theorem aX3_width_1 : dAl mX3_width 1 1 2 := Or.inl ⟨1, by decide +kernel, rfl, rfl⟩
theorem aX3_width_2 : dIl mX3_width 2 2 3 := Or.inl ⟨2, by decide +kernel, rfl, rfl⟩
theorem aX3_width_3 : dV mX3_width 3 mX3_high 6 := ⟨118, by decide +kernel, rfl, dW_at 399 (by decide +kernel), by decide⟩
theorem aX3_width_6 : dAl mX3_width 6 0 7 := Or.inl ⟨0, by decide +kernel, rfl, rfl⟩
theorem aX3_width_7 : dAl mX3_width 7 1 8 := Or.inl ⟨1, by decide +kernel, rfl, rfl⟩
theorem aX3_width_8 : dIl mX3_width 8 2 9 := Or.inl ⟨2, by decide +kernel, rfl, rfl⟩
theorem aX3_width_9 : dV mX3_width 9 mX3_low 12 := ⟨115, by decide +kernel, rfl, dW_at 407 (by decide +kernel), by decide⟩
theorem aX3_width_12 : dk mX3_width 12 .lsub 1 13 := ⟨by decide +kernel, rfl⟩
theorem aX3_width_13 : dk mX3_width 13 .lreturn 1 14 := ⟨by decide +kernel, rfl⟩
theorem okX3_trialWidth : okM mX3_trialWidth := ⟨dW_at 443 (by decide +kernel), dW_at 27 (by decide +kernel), by decide +kernel, by decide +kernel, by decide +kernel, Or.inl ⟨dW_at 442 (by decide +kernel), dW_at 6 (by decide +kernel)⟩⟩
theorem aX3_trialWidth_0 : dAl mX3_trialWidth 0 0 1 := Or.inl ⟨0, by decide +kernel, rfl, rfl⟩
theorem aX3_trialWidth_1 : dG mX3_trialWidth 1 3 3 4 := ⟨30, by decide +kernel, rfl, dW_at 174 (by decide +kernel), by decide⟩
theorem aX3_trialWidth_4 : dAl mX3_trialWidth 4 0 5 := Or.inl ⟨0, by decide +kernel, rfl, rfl⟩
theorem aX3_trialWidth_5 : dG mX3_trialWidth 5 3 2 8 := ⟨26, by decide +kernel, rfl, dW_at 173 (by decide +kernel), by decide⟩
theorem aX3_trialWidth_8 : dG mX3_trialWidth 8 0 0 11 := ⟨162, by decide +kernel, rfl, dW_at 134 (by decide +kernel), by decide⟩
theorem aX3_trialWidth_11 : dV mX3_trialWidth 11 mX0_beginAt 14 := ⟨86, by decide +kernel, rfl, dW_at 301 (by decide +kernel), by decide⟩
theorem aX3_trialWidth_14 : dAl mX3_trialWidth 14 0 15 := Or.inl ⟨0, by decide +kernel, rfl, rfl⟩
theorem aX3_trialWidth_15 : dAl mX3_trialWidth 15 0 16 := Or.inl ⟨0, by decide +kernel, rfl, rfl⟩
theorem aX3_trialWidth_16 : dG mX3_trialWidth 16 3 3 19 := ⟨30, by decide +kernel, rfl, dW_at 174 (by decide +kernel), by decide⟩
theorem aX3_trialWidth_19 : dIl mX3_trialWidth 19 1 20 := Or.inl ⟨1, by decide +kernel, rfl, rfl⟩
theorem aX3_trialWidth_20 : dIl mX3_trialWidth 20 3 21 := Or.inl ⟨3, by decide +kernel, rfl, rfl⟩
theorem aX3_trialWidth_21 : dV mX3_trialWidth 21 mX3_goOnTimes 24 := ⟨97, by decide +kernel, rfl, dW_at 321 (by decide +kernel), by decide⟩
theorem aX3_trialWidth_24 : dk mX3_trialWidth 24 .pop 1 25 := ⟨by decide +kernel, rfl⟩
theorem aX3_trialWidth_25 : dAl mX3_trialWidth 25 0 26 := Or.inl ⟨0, by decide +kernel, rfl, rfl⟩
theorem aX3_trialWidth_26 : dAl mX3_trialWidth 26 0 27 := Or.inl ⟨0, by decide +kernel, rfl, rfl⟩
theorem aX3_trialWidth_27 : dG mX3_trialWidth 27 3 3 30 := ⟨30, by decide +kernel, rfl, dW_at 174 (by decide +kernel), by decide⟩
theorem aX3_trialWidth_30 : dIl mX3_trialWidth 30 2 31 := Or.inl ⟨2, by decide +kernel, rfl, rfl⟩
theorem aX3_trialWidth_31 : dV mX3_trialWidth 31 mX3_width 34 := ⟨104, by decide +kernel, rfl, dW_at 395 (by decide +kernel), by decide⟩
theorem aX3_trialWidth_34 : dk mX3_trialWidth 34 .lreturn 1 35 := ⟨by decide +kernel, rfl⟩
theorem okX3_leastPart : okM mX3_leastPart := ⟨dW_at 428 (by decide +kernel), dW_at 27 (by decide +kernel), by decide +kernel, by decide +kernel, by decide +kernel, Or.inr (dW_at 427 (by decide +kernel))⟩
theorem aX3_leastPart_0 : dLl mX3_leastPart 0 0 1 := Or.inl ⟨0, by decide +kernel, rfl, rfl⟩
theorem aX3_leastPart_1 : dLl mX3_leastPart 1 2 2 := Or.inl ⟨2, by decide +kernel, rfl, rfl⟩
theorem aX3_leastPart_2 : dk mX3_leastPart 2 .ladd 1 3 := ⟨by decide +kernel, rfl⟩
theorem aX3_leastPart_3 : dLs mX3_leastPart 3 4 5 := ⟨Or.inr ⟨by decide +kernel, rfl⟩, by decide⟩
theorem aX3_leastPart_5 : dLl mX3_leastPart 5 4 7 := Or.inr ⟨by decide +kernel, rfl⟩
theorem aX3_leastPart_7 : dKl mX3_leastPart 7 (lN 0) 8 := Or.inl ⟨0, by decide +kernel, rfl, rfl⟩
theorem aX3_leastPart_8 : dk mX3_leastPart 8 .lcmp 1 9 := ⟨by decide +kernel, rfl⟩
theorem aX3_leastPart_9 : dZ mX3_leastPart 9 .gt 12 16 := ⟨7, by decide +kernel, by decide, rfl⟩
theorem aX3_leastPart_12 : dKi mX3_leastPart 12 (nI 0) 13 := Or.inl ⟨0, by decide +kernel, by decide +kernel, rfl⟩
theorem aX3_leastPart_13 : dJ mX3_leastPart 13 23 := ⟨10, by decide +kernel, by decide⟩
theorem aX3_leastPart_16 : dLl mX3_leastPart 16 0 17 := Or.inl ⟨0, by decide +kernel, rfl, rfl⟩
theorem aX3_leastPart_17 : dLl mX3_leastPart 17 4 19 := Or.inr ⟨by decide +kernel, rfl⟩
theorem aX3_leastPart_19 : dKi mX3_leastPart 19 (nI 0) 20 := Or.inl ⟨0, by decide +kernel, by decide +kernel, rfl⟩
theorem aX3_leastPart_20 : dS mX3_leastPart 20 mX3_partOf 23 := ⟨213, by decide +kernel, rfl, dW_at 429 (by decide +kernel), by decide⟩
theorem aX3_leastPart_23 : dk mX3_leastPart 23 .ireturn 1 24 := ⟨by decide +kernel, rfl⟩
theorem okX3_greatestPart : okM mX3_greatestPart := ⟨dW_at 435 (by decide +kernel), dW_at 27 (by decide +kernel), by decide +kernel, by decide +kernel, by decide +kernel, Or.inr (dW_at 434 (by decide +kernel))⟩
theorem aX3_greatestPart_0 : dLl mX3_greatestPart 0 0 1 := Or.inl ⟨0, by decide +kernel, rfl, rfl⟩
theorem aX3_greatestPart_1 : dLl mX3_greatestPart 1 2 2 := Or.inl ⟨2, by decide +kernel, rfl, rfl⟩
theorem aX3_greatestPart_2 : dk mX3_greatestPart 2 .ladd 1 3 := ⟨by decide +kernel, rfl⟩
theorem aX3_greatestPart_3 : dLs mX3_greatestPart 3 4 5 := ⟨Or.inr ⟨by decide +kernel, rfl⟩, by decide⟩
theorem aX3_greatestPart_5 : dLl mX3_greatestPart 5 4 7 := Or.inr ⟨by decide +kernel, rfl⟩
theorem aX3_greatestPart_7 : dKl mX3_greatestPart 7 (lN 0) 8 := Or.inl ⟨0, by decide +kernel, rfl, rfl⟩
theorem aX3_greatestPart_8 : dk mX3_greatestPart 8 .lcmp 1 9 := ⟨by decide +kernel, rfl⟩
theorem aX3_greatestPart_9 : dZ mX3_greatestPart 9 .gt 12 17 := ⟨8, by decide +kernel, by decide, rfl⟩
theorem aX3_greatestPart_12 : dKi mX3_greatestPart 12 (nI 1073741824) 14 := Or.inr (Or.inr (Or.inr ⟨217, by decide +kernel, dW_at 432 (by decide +kernel), rfl⟩))
theorem aX3_greatestPart_14 : dJ mX3_greatestPart 14 24 := ⟨10, by decide +kernel, by decide⟩
theorem aX3_greatestPart_17 : dLl mX3_greatestPart 17 0 18 := Or.inl ⟨0, by decide +kernel, rfl, rfl⟩
theorem aX3_greatestPart_18 : dLl mX3_greatestPart 18 4 20 := Or.inr ⟨by decide +kernel, rfl⟩
theorem aX3_greatestPart_20 : dKi mX3_greatestPart 20 (nI 1) 21 := Or.inl ⟨1, by decide +kernel, by decide +kernel, rfl⟩
theorem aX3_greatestPart_21 : dS mX3_greatestPart 21 mX3_partOf 24 := ⟨213, by decide +kernel, rfl, dW_at 429 (by decide +kernel), by decide⟩
theorem aX3_greatestPart_24 : dk mX3_greatestPart 24 .ireturn 1 25 := ⟨by decide +kernel, rfl⟩
theorem okX3_partOf : okM mX3_partOf := ⟨dW_at 431 (by decide +kernel), dW_at 27 (by decide +kernel), by decide +kernel, by decide +kernel, by decide +kernel, Or.inr (dW_at 430 (by decide +kernel))⟩
theorem aX3_partOf_0 : dLl mX3_partOf 0 0 1 := Or.inl ⟨0, by decide +kernel, rfl, rfl⟩
theorem aX3_partOf_1 : dLl mX3_partOf 1 2 2 := Or.inl ⟨2, by decide +kernel, rfl, rfl⟩
theorem aX3_partOf_2 : dk mX3_partOf 2 .lcmp 1 3 := ⟨by decide +kernel, rfl⟩
theorem aX3_partOf_3 : dZ mX3_partOf 3 .lt 6 9 := ⟨6, by decide +kernel, by decide, rfl⟩
theorem aX3_partOf_6 : dKi mX3_partOf 6 (nI 1073741824) 8 := Or.inr (Or.inr (Or.inr ⟨217, by decide +kernel, dW_at 432 (by decide +kernel), rfl⟩))
theorem aX3_partOf_8 : dk mX3_partOf 8 .ireturn 1 9 := ⟨by decide +kernel, rfl⟩
theorem aX3_partOf_9 : dKi mX3_partOf 9 (nI 0) 10 := Or.inl ⟨0, by decide +kernel, by decide +kernel, rfl⟩
theorem aX3_partOf_10 : dIs mX3_partOf 10 5 12 := ⟨Or.inr ⟨by decide +kernel, rfl⟩, by decide⟩
theorem aX3_partOf_12 : dLl mX3_partOf 12 0 13 := Or.inl ⟨0, by decide +kernel, rfl, rfl⟩
theorem aX3_partOf_13 : dLs mX3_partOf 13 6 15 := ⟨Or.inr ⟨by decide +kernel, rfl⟩, by decide⟩
theorem aX3_partOf_15 : dKi mX3_partOf 15 (nI 0) 16 := Or.inl ⟨0, by decide +kernel, by decide +kernel, rfl⟩
theorem aX3_partOf_16 : dIs mX3_partOf 16 8 18 := ⟨Or.inr ⟨by decide +kernel, rfl⟩, by decide⟩
theorem aX3_partOf_18 : dIl mX3_partOf 18 8 20 := Or.inr ⟨by decide +kernel, rfl⟩
theorem aX3_partOf_20 : dKi mX3_partOf 20 (nI 30) 22 := Or.inr (Or.inl ⟨30, by decide +kernel, by decide +kernel, rfl⟩)
theorem aX3_partOf_22 : dC mX3_partOf 22 .ge 25 59 := ⟨37, by decide +kernel, by decide, rfl⟩
theorem aX3_partOf_25 : dLl mX3_partOf 25 6 27 := Or.inr ⟨by decide +kernel, rfl⟩
theorem aX3_partOf_27 : dKi mX3_partOf 27 (nI 1) 28 := Or.inl ⟨1, by decide +kernel, by decide +kernel, rfl⟩
theorem aX3_partOf_28 : dk mX3_partOf 28 .lshl 1 29 := ⟨by decide +kernel, rfl⟩
theorem aX3_partOf_29 : dLs mX3_partOf 29 6 31 := ⟨Or.inr ⟨by decide +kernel, rfl⟩, by decide⟩
theorem aX3_partOf_31 : dIl mX3_partOf 31 5 33 := Or.inr ⟨by decide +kernel, rfl⟩
theorem aX3_partOf_33 : dKi mX3_partOf 33 (nI 1) 34 := Or.inl ⟨1, by decide +kernel, by decide +kernel, rfl⟩
theorem aX3_partOf_34 : dk mX3_partOf 34 .ishl 1 35 := ⟨by decide +kernel, rfl⟩
theorem aX3_partOf_35 : dIs mX3_partOf 35 5 37 := ⟨Or.inr ⟨by decide +kernel, rfl⟩, by decide⟩
theorem aX3_partOf_37 : dLl mX3_partOf 37 6 39 := Or.inr ⟨by decide +kernel, rfl⟩
theorem aX3_partOf_39 : dLl mX3_partOf 39 2 40 := Or.inl ⟨2, by decide +kernel, rfl, rfl⟩
theorem aX3_partOf_40 : dk mX3_partOf 40 .lcmp 1 41 := ⟨by decide +kernel, rfl⟩
theorem aX3_partOf_41 : dZ mX3_partOf 41 .lt 44 53 := ⟨12, by decide +kernel, by decide, rfl⟩
theorem aX3_partOf_44 : dLl mX3_partOf 44 6 46 := Or.inr ⟨by decide +kernel, rfl⟩
theorem aX3_partOf_46 : dLl mX3_partOf 46 2 47 := Or.inl ⟨2, by decide +kernel, rfl, rfl⟩
theorem aX3_partOf_47 : dk mX3_partOf 47 .lsub 1 48 := ⟨by decide +kernel, rfl⟩
theorem aX3_partOf_48 : dLs mX3_partOf 48 6 50 := ⟨Or.inr ⟨by decide +kernel, rfl⟩, by decide⟩
theorem aX3_partOf_50 : dIn mX3_partOf 50 5 (nI 1) 53 := ⟨1, by decide +kernel, by decide +kernel, rfl, by decide⟩
theorem aX3_partOf_53 : dIn mX3_partOf 53 8 (nI 1) 56 := ⟨1, by decide +kernel, by decide +kernel, rfl, by decide⟩
theorem aX3_partOf_56 : dJ mX3_partOf 56 18 := ⟨-38, by decide +kernel, by decide⟩
theorem aX3_partOf_59 : dIl mX3_partOf 59 4 61 := Or.inr ⟨by decide +kernel, rfl⟩
theorem aX3_partOf_61 : dZ mX3_partOf 61 .eq 64 78 := ⟨17, by decide +kernel, by decide, rfl⟩
theorem aX3_partOf_64 : dLl mX3_partOf 64 6 66 := Or.inr ⟨by decide +kernel, rfl⟩
theorem aX3_partOf_66 : dKl mX3_partOf 66 (lN 0) 67 := Or.inl ⟨0, by decide +kernel, rfl, rfl⟩
theorem aX3_partOf_67 : dk mX3_partOf 67 .lcmp 1 68 := ⟨by decide +kernel, rfl⟩
theorem aX3_partOf_68 : dZ mX3_partOf 68 .le 71 78 := ⟨10, by decide +kernel, by decide, rfl⟩
theorem aX3_partOf_71 : dIl mX3_partOf 71 5 73 := Or.inr ⟨by decide +kernel, rfl⟩
theorem aX3_partOf_73 : dKi mX3_partOf 73 (nI 1) 74 := Or.inl ⟨1, by decide +kernel, by decide +kernel, rfl⟩
theorem aX3_partOf_74 : dk mX3_partOf 74 .iadd 1 75 := ⟨by decide +kernel, rfl⟩
theorem aX3_partOf_75 : dJ mX3_partOf 75 80 := ⟨5, by decide +kernel, by decide⟩
theorem aX3_partOf_78 : dIl mX3_partOf 78 5 80 := Or.inr ⟨by decide +kernel, rfl⟩
theorem aX3_partOf_80 : dk mX3_partOf 80 .ireturn 1 81 := ⟨by decide +kernel, rfl⟩
end
section
theorem aX4_init_0 : dAl mX4_init 0 0 1 := Or.inl ⟨0, by decide +kernel, rfl, rfl⟩
theorem aX4_init_4 : dAl mX4_init 4 0 5 := Or.inl ⟨0, by decide +kernel, rfl, rfl⟩
theorem aX4_init_5 : dKi mX4_init 5 (nI 20) 7 := Or.inr (Or.inl ⟨20, by decide +kernel, by decide +kernel, rfl⟩)
theorem aX4_init_9 : dP mX4_init 9 4 1 12 := ⟨7, by decide +kernel, rfl, dW_at 486 (by decide +kernel), by decide⟩
theorem aX4_init_12 : dAl mX4_init 12 0 13 := Or.inl ⟨0, by decide +kernel, rfl, rfl⟩
theorem aX4_init_13 : dKi mX4_init 13 (nI 20) 15 := Or.inr (Or.inl ⟨20, by decide +kernel, by decide +kernel, rfl⟩)
theorem aX4_init_17 : dP mX4_init 17 4 2 20 := ⟨13, by decide +kernel, rfl, dW_at 487 (by decide +kernel), by decide⟩
theorem aX4_init_20 : dAl mX4_init 20 0 21 := Or.inl ⟨0, by decide +kernel, rfl, rfl⟩
theorem aX4_init_21 : dKi mX4_init 21 (nI 400) 24 := Or.inr (Or.inr (Or.inl ⟨400, by decide +kernel, by decide +kernel, rfl⟩))
theorem aX4_init_26 : dP mX4_init 26 4 3 29 := ⟨16, by decide +kernel, rfl, dW_at 488 (by decide +kernel), by decide⟩
theorem aX4_init_29 : dAl mX4_init 29 0 30 := Or.inl ⟨0, by decide +kernel, rfl, rfl⟩
theorem aX4_init_30 : dKi mX4_init 30 (nI 400) 33 := Or.inr (Or.inr (Or.inl ⟨400, by decide +kernel, by decide +kernel, rfl⟩))
theorem aX4_init_35 : dP mX4_init 35 4 4 38 := ⟨19, by decide +kernel, rfl, dW_at 489 (by decide +kernel), by decide⟩
theorem aX4_init_38 : dAl mX4_init 38 0 39 := Or.inl ⟨0, by decide +kernel, rfl, rfl⟩
theorem aX4_init_39 : dKi mX4_init 39 (nI 20) 41 := Or.inr (Or.inl ⟨20, by decide +kernel, by decide +kernel, rfl⟩)
theorem aX4_init_43 : dP mX4_init 43 4 5 46 := ⟨22, by decide +kernel, rfl, dW_at 490 (by decide +kernel), by decide⟩
theorem aX4_init_46 : dAl mX4_init 46 0 47 := Or.inl ⟨0, by decide +kernel, rfl, rfl⟩
theorem aX4_init_47 : dKi mX4_init 47 (nI 20) 49 := Or.inr (Or.inl ⟨20, by decide +kernel, by decide +kernel, rfl⟩)
theorem aX4_init_51 : dP mX4_init 51 4 6 54 := ⟨25, by decide +kernel, rfl, dW_at 491 (by decide +kernel), by decide⟩
theorem aX4_init_54 : dAl mX4_init 54 0 55 := Or.inl ⟨0, by decide +kernel, rfl, rfl⟩
theorem aX4_init_55 : dKi mX4_init 55 (nI 5) 56 := Or.inl ⟨5, by decide +kernel, by decide +kernel, rfl⟩
theorem aX4_init_58 : dP mX4_init 58 4 9 61 := ⟨28, by decide +kernel, rfl, dW_at 494 (by decide +kernel), by decide⟩
theorem aX4_init_61 : dAl mX4_init 61 0 62 := Or.inl ⟨0, by decide +kernel, rfl, rfl⟩
theorem aX4_init_62 : dKi mX4_init 62 (nI 5) 63 := Or.inl ⟨5, by decide +kernel, by decide +kernel, rfl⟩
theorem aX4_init_65 : dP mX4_init 65 4 10 68 := ⟨32, by decide +kernel, rfl, dW_at 495 (by decide +kernel), by decide⟩
theorem aX4_init_68 : dAl mX4_init 68 0 69 := Or.inl ⟨0, by decide +kernel, rfl, rfl⟩
theorem aX4_init_69 : dKi mX4_init 69 (nI 5) 70 := Or.inl ⟨5, by decide +kernel, by decide +kernel, rfl⟩
theorem aX4_init_72 : dP mX4_init 72 4 11 75 := ⟨35, by decide +kernel, rfl, dW_at 496 (by decide +kernel), by decide⟩
theorem aX4_init_75 : dAl mX4_init 75 0 76 := Or.inl ⟨0, by decide +kernel, rfl, rfl⟩
theorem aX4_init_76 : dKi mX4_init 76 (nI 5) 77 := Or.inl ⟨5, by decide +kernel, by decide +kernel, rfl⟩
theorem aX4_init_79 : dP mX4_init 79 4 12 82 := ⟨38, by decide +kernel, rfl, dW_at 497 (by decide +kernel), by decide⟩
theorem aX4_init_82 : dAl mX4_init 82 0 83 := Or.inl ⟨0, by decide +kernel, rfl, rfl⟩
theorem aX4_init_83 : dKi mX4_init 83 (nI 300) 86 := Or.inr (Or.inr (Or.inl ⟨300, by decide +kernel, by decide +kernel, rfl⟩))
theorem aX4_init_88 : dP mX4_init 88 4 13 91 := ⟨41, by decide +kernel, rfl, dW_at 498 (by decide +kernel), by decide⟩
theorem aX4_init_91 : dAl mX4_init 91 0 92 := Or.inl ⟨0, by decide +kernel, rfl, rfl⟩
theorem aX4_init_92 : dKi mX4_init 92 (nI 300) 95 := Or.inr (Or.inr (Or.inl ⟨300, by decide +kernel, by decide +kernel, rfl⟩))
theorem aX4_init_97 : dP mX4_init 97 4 14 100 := ⟨44, by decide +kernel, rfl, dW_at 499 (by decide +kernel), by decide⟩
theorem aX4_init_100 : dAl mX4_init 100 0 101 := Or.inl ⟨0, by decide +kernel, rfl, rfl⟩
theorem aX4_init_101 : dKi mX4_init 101 (nI 300) 104 := Or.inr (Or.inr (Or.inl ⟨300, by decide +kernel, by decide +kernel, rfl⟩))
theorem aX4_init_106 : dP mX4_init 106 4 15 109 := ⟨47, by decide +kernel, rfl, dW_at 500 (by decide +kernel), by decide⟩
theorem aX4_init_109 : dAl mX4_init 109 0 110 := Or.inl ⟨0, by decide +kernel, rfl, rfl⟩
theorem aX4_init_110 : dKi mX4_init 110 (nI 40) 112 := Or.inr (Or.inl ⟨40, by decide +kernel, by decide +kernel, rfl⟩)
theorem aX4_init_114 : dP mX4_init 114 4 16 117 := ⟨51, by decide +kernel, rfl, dW_at 501 (by decide +kernel), by decide⟩
theorem aX4_init_117 : dAl mX4_init 117 0 118 := Or.inl ⟨0, by decide +kernel, rfl, rfl⟩
theorem aX4_init_118 : dKi mX4_init 118 (nI 100) 120 := Or.inr (Or.inl ⟨100, by decide +kernel, by decide +kernel, rfl⟩)
theorem aX4_init_122 : dP mX4_init 122 4 17 125 := ⟨54, by decide +kernel, rfl, dW_at 502 (by decide +kernel), by decide⟩
theorem aX4_init_125 : dAl mX4_init 125 0 126 := Or.inl ⟨0, by decide +kernel, rfl, rfl⟩
theorem aX4_init_126 : dKi mX4_init 126 (nI 20) 128 := Or.inr (Or.inl ⟨20, by decide +kernel, by decide +kernel, rfl⟩)
theorem aX4_init_130 : dP mX4_init 130 4 19 133 := ⟨57, by decide +kernel, rfl, dW_at 504 (by decide +kernel), by decide⟩
theorem aX4_init_133 : dAl mX4_init 133 0 134 := Or.inl ⟨0, by decide +kernel, rfl, rfl⟩
theorem aX4_init_134 : dKi mX4_init 134 (nI 20) 136 := Or.inr (Or.inl ⟨20, by decide +kernel, by decide +kernel, rfl⟩)
theorem aX4_init_138 : dP mX4_init 138 4 20 141 := ⟨60, by decide +kernel, rfl, dW_at 505 (by decide +kernel), by decide⟩
theorem aX4_init_141 : dAl mX4_init 141 0 142 := Or.inl ⟨0, by decide +kernel, rfl, rfl⟩
theorem aX4_init_142 : dKi mX4_init 142 (nI 40) 144 := Or.inr (Or.inl ⟨40, by decide +kernel, by decide +kernel, rfl⟩)
theorem aX4_init_146 : dP mX4_init 146 4 22 149 := ⟨63, by decide +kernel, rfl, dW_at 507 (by decide +kernel), by decide⟩
theorem aX4_init_149 : dAl mX4_init 149 0 150 := Or.inl ⟨0, by decide +kernel, rfl, rfl⟩
theorem aX4_init_150 : dKi mX4_init 150 (nI 40) 152 := Or.inr (Or.inl ⟨40, by decide +kernel, by decide +kernel, rfl⟩)
theorem aX4_init_154 : dP mX4_init 154 4 23 157 := ⟨66, by decide +kernel, rfl, dW_at 508 (by decide +kernel), by decide⟩
theorem aX4_init_157 : dAl mX4_init 157 0 158 := Or.inl ⟨0, by decide +kernel, rfl, rfl⟩
theorem aX4_init_158 : dKi mX4_init 158 (nI 40) 160 := Or.inr (Or.inl ⟨40, by decide +kernel, by decide +kernel, rfl⟩)
theorem aX4_init_162 : dP mX4_init 162 4 24 165 := ⟨69, by decide +kernel, rfl, dW_at 509 (by decide +kernel), by decide⟩
theorem aX4_init_165 : dk mX4_init 165 .return_ 1 166 := ⟨by decide +kernel, rfl⟩
theorem okX4_in : okM mX4_in := ⟨dW_at 567 (by decide +kernel), dW_at 31 (by decide +kernel), by decide +kernel, by decide +kernel, by decide +kernel, Or.inr (dW_at 566 (by decide +kernel))⟩
theorem aX4_in_0 : dIl mX4_in 0 0 1 := Or.inl ⟨0, by decide +kernel, rfl, rfl⟩
theorem aX4_in_1 : dIl mX4_in 1 1 2 := Or.inl ⟨1, by decide +kernel, rfl, rfl⟩
theorem aX4_in_2 : dC mX4_in 2 .lt 5 14 := ⟨12, by decide +kernel, by decide, rfl⟩
theorem aX4_in_5 : dIl mX4_in 5 0 6 := Or.inl ⟨0, by decide +kernel, rfl, rfl⟩
theorem aX4_in_6 : dIl mX4_in 6 2 7 := Or.inl ⟨2, by decide +kernel, rfl, rfl⟩
theorem aX4_in_7 : dC mX4_in 7 .gt 10 14 := ⟨7, by decide +kernel, by decide, rfl⟩
theorem aX4_in_10 : dKi mX4_in 10 (nI 1) 11 := Or.inl ⟨1, by decide +kernel, by decide +kernel, rfl⟩
theorem aX4_in_11 : dJ mX4_in 11 15 := ⟨4, by decide +kernel, by decide⟩
theorem aX4_in_14 : dKi mX4_in 14 (nI 0) 15 := Or.inl ⟨0, by decide +kernel, by decide +kernel, rfl⟩
theorem aX4_in_15 : dk mX4_in 15 .ireturn 1 16 := ⟨by decide +kernel, rfl⟩
theorem okX4_isState : okM mX4_isState := ⟨dW_at 579 (by decide +kernel), dW_at 31 (by decide +kernel), by decide +kernel, by decide +kernel, by decide +kernel, Or.inl ⟨dW_at 578 (by decide +kernel), dW_at 8 (by decide +kernel)⟩⟩
theorem aX4_isState_0 : dIl mX4_isState 0 1 1 := Or.inl ⟨1, by decide +kernel, rfl, rfl⟩
theorem aX4_isState_1 : dKi mX4_isState 1 (nI 0) 2 := Or.inl ⟨0, by decide +kernel, by decide +kernel, rfl⟩
theorem aX4_isState_2 : dAl mX4_isState 2 0 3 := Or.inl ⟨0, by decide +kernel, rfl, rfl⟩
theorem aX4_isState_3 : dG mX4_isState 3 4 0 6 := ⟨72, by decide +kernel, rfl, dW_at 485 (by decide +kernel), by decide⟩
theorem aX4_isState_6 : dKi mX4_isState 6 (nI 1) 7 := Or.inl ⟨1, by decide +kernel, by decide +kernel, rfl⟩
theorem aX4_isState_7 : dk mX4_isState 7 .isub 1 8 := ⟨by decide +kernel, rfl⟩
theorem aX4_isState_8 : dS mX4_isState 8 mX4_in 11 := ⟨76, by decide +kernel, rfl, dW_at 565 (by decide +kernel), by decide⟩
theorem aX4_isState_11 : dk mX4_isState 11 .ireturn 1 12 := ⟨by decide +kernel, rfl⟩
theorem okX4_forget : okM mX4_forget := ⟨dW_at 571 (by decide +kernel), dW_at 31 (by decide +kernel), by decide +kernel, by decide +kernel, by decide +kernel, Or.inl ⟨dW_at 570 (by decide +kernel), dW_at 7 (by decide +kernel)⟩⟩
theorem aX4_forget_0 : dAl mX4_forget 0 0 1 := Or.inl ⟨0, by decide +kernel, rfl, rfl⟩
theorem aX4_forget_1 : dKi mX4_forget 1 (nI 0) 2 := Or.inl ⟨0, by decide +kernel, by decide +kernel, rfl⟩
theorem aX4_forget_2 : dP mX4_forget 2 4 18 5 := ⟨80, by decide +kernel, rfl, dW_at 503 (by decide +kernel), by decide⟩
theorem aX4_forget_5 : dKi mX4_forget 5 (nI 0) 6 := Or.inl ⟨0, by decide +kernel, by decide +kernel, rfl⟩
theorem aX4_forget_6 : dIs mX4_forget 6 1 7 := ⟨Or.inl ⟨1, by decide +kernel, rfl, rfl⟩, by decide⟩
theorem aX4_forget_7 : dIl mX4_forget 7 1 8 := Or.inl ⟨1, by decide +kernel, rfl, rfl⟩
theorem aX4_forget_8 : dKi mX4_forget 8 (nI 5) 9 := Or.inl ⟨5, by decide +kernel, by decide +kernel, rfl⟩
theorem aX4_forget_9 : dC mX4_forget 9 .ge 12 25 := ⟨16, by decide +kernel, by decide, rfl⟩
theorem aX4_forget_12 : dAl mX4_forget 12 0 13 := Or.inl ⟨0, by decide +kernel, rfl, rfl⟩
theorem aX4_forget_13 : dG mX4_forget 13 4 9 16 := ⟨28, by decide +kernel, rfl, dW_at 494 (by decide +kernel), by decide⟩
theorem aX4_forget_16 : dIl mX4_forget 16 1 17 := Or.inl ⟨1, by decide +kernel, rfl, rfl⟩
theorem aX4_forget_17 : dKi mX4_forget 17 (nI 0) 18 := Or.inl ⟨0, by decide +kernel, by decide +kernel, rfl⟩
theorem aX4_forget_18 : dk mX4_forget 18 .bastore 1 19 := ⟨by decide +kernel, rfl⟩
theorem aX4_forget_19 : dIn mX4_forget 19 1 (nI 1) 22 := ⟨1, by decide +kernel, by decide +kernel, rfl, by decide⟩
theorem aX4_forget_22 : dJ mX4_forget 22 7 := ⟨-15, by decide +kernel, by decide⟩
theorem aX4_forget_25 : dKi mX4_forget 25 (nI 0) 26 := Or.inl ⟨0, by decide +kernel, by decide +kernel, rfl⟩
theorem aX4_forget_26 : dIs mX4_forget 26 1 27 := ⟨Or.inl ⟨1, by decide +kernel, rfl, rfl⟩, by decide⟩
theorem aX4_forget_27 : dIl mX4_forget 27 1 28 := Or.inl ⟨1, by decide +kernel, rfl, rfl⟩
theorem aX4_forget_28 : dKi mX4_forget 28 (nI 20) 30 := Or.inr (Or.inl ⟨20, by decide +kernel, by decide +kernel, rfl⟩)
theorem aX4_forget_30 : dC mX4_forget 30 .ge 33 46 := ⟨16, by decide +kernel, by decide, rfl⟩
theorem aX4_forget_33 : dAl mX4_forget 33 0 34 := Or.inl ⟨0, by decide +kernel, rfl, rfl⟩
theorem aX4_forget_34 : dG mX4_forget 34 4 6 37 := ⟨25, by decide +kernel, rfl, dW_at 491 (by decide +kernel), by decide⟩
theorem aX4_forget_37 : dIl mX4_forget 37 1 38 := Or.inl ⟨1, by decide +kernel, rfl, rfl⟩
theorem aX4_forget_38 : dKi mX4_forget 38 ((-1)) 39 := Or.inl ⟨-1, by decide +kernel, by decide +kernel, rfl⟩
theorem aX4_forget_39 : dk mX4_forget 39 .iastore 1 40 := ⟨by decide +kernel, rfl⟩
theorem aX4_forget_40 : dIn mX4_forget 40 1 (nI 1) 43 := ⟨1, by decide +kernel, by decide +kernel, rfl, by decide⟩
theorem aX4_forget_43 : dJ mX4_forget 43 27 := ⟨-16, by decide +kernel, by decide⟩
theorem aX4_forget_46 : dk mX4_forget 46 .return_ 1 47 := ⟨by decide +kernel, rfl⟩
theorem okX4_state : okM mX4_state := ⟨dW_at 564 (by decide +kernel), dW_at 31 (by decide +kernel), by decide +kernel, by decide +kernel, by decide +kernel, Or.inl ⟨dW_at 562 (by decide +kernel), dW_at 563 (by decide +kernel)⟩⟩
theorem aX4_state_0 : dIl mX4_state 0 1 1 := Or.inl ⟨1, by decide +kernel, rfl, rfl⟩
theorem aX4_state_1 : dKi mX4_state 1 ((-1)) 2 := Or.inl ⟨-1, by decide +kernel, by decide +kernel, rfl⟩
theorem aX4_state_2 : dKi mX4_state 2 (nI 7) 4 := Or.inr (Or.inl ⟨7, by decide +kernel, by decide +kernel, rfl⟩)
theorem aX4_state_4 : dS mX4_state 4 mX4_in 7 := ⟨76, by decide +kernel, rfl, dW_at 565 (by decide +kernel), by decide⟩
theorem aX4_state_7 : dZ mX4_state 7 .ne 10 12 := ⟨5, by decide +kernel, by decide, rfl⟩
theorem aX4_state_10 : dKi mX4_state 10 ((-1)) 11 := Or.inl ⟨-1, by decide +kernel, by decide +kernel, rfl⟩
theorem aX4_state_11 : dk mX4_state 11 .ireturn 1 12 := ⟨by decide +kernel, rfl⟩
theorem aX4_state_12 : dAl mX4_state 12 0 13 := Or.inl ⟨0, by decide +kernel, rfl, rfl⟩
theorem aX4_state_13 : dG mX4_state 13 4 0 16 := ⟨72, by decide +kernel, rfl, dW_at 485 (by decide +kernel), by decide⟩
theorem aX4_state_16 : dKi mX4_state 16 (nI 20) 18 := Or.inr (Or.inl ⟨20, by decide +kernel, by decide +kernel, rfl⟩)
theorem aX4_state_18 : dC mX4_state 18 .ne 21 24 := ⟨6, by decide +kernel, by decide, rfl⟩
theorem aX4_state_21 : dKi mX4_state 21 ((-3)) 23 := Or.inr (Or.inl ⟨-3, by decide +kernel, by decide +kernel, rfl⟩)
theorem aX4_state_23 : dk mX4_state 23 .ireturn 1 24 := ⟨by decide +kernel, rfl⟩
theorem aX4_state_24 : dAl mX4_state 24 0 25 := Or.inl ⟨0, by decide +kernel, rfl, rfl⟩
theorem aX4_state_25 : dV mX4_state 25 mX4_forget 28 := ⟨84, by decide +kernel, rfl, dW_at 568 (by decide +kernel), by decide⟩
theorem aX4_state_28 : dAl mX4_state 28 0 29 := Or.inl ⟨0, by decide +kernel, rfl, rfl⟩
theorem aX4_state_29 : dG mX4_state 29 4 1 32 := ⟨7, by decide +kernel, rfl, dW_at 486 (by decide +kernel), by decide⟩
theorem aX4_state_32 : dAl mX4_state 32 0 33 := Or.inl ⟨0, by decide +kernel, rfl, rfl⟩
theorem aX4_state_33 : dG mX4_state 33 4 0 36 := ⟨72, by decide +kernel, rfl, dW_at 485 (by decide +kernel), by decide⟩
theorem aX4_state_36 : dIl mX4_state 36 1 37 := Or.inl ⟨1, by decide +kernel, rfl, rfl⟩
theorem aX4_state_37 : dk mX4_state 37 .iastore 1 38 := ⟨by decide +kernel, rfl⟩
theorem aX4_state_38 : dAl mX4_state 38 0 39 := Or.inl ⟨0, by decide +kernel, rfl, rfl⟩
theorem aX4_state_39 : dG mX4_state 39 4 2 42 := ⟨13, by decide +kernel, rfl, dW_at 487 (by decide +kernel), by decide⟩
theorem aX4_state_42 : dAl mX4_state 42 0 43 := Or.inl ⟨0, by decide +kernel, rfl, rfl⟩
theorem aX4_state_43 : dG mX4_state 43 4 0 46 := ⟨72, by decide +kernel, rfl, dW_at 485 (by decide +kernel), by decide⟩
theorem aX4_state_46 : dKi mX4_state 46 (nI 0) 47 := Or.inl ⟨0, by decide +kernel, by decide +kernel, rfl⟩
theorem aX4_state_47 : dk mX4_state 47 .iastore 1 48 := ⟨by decide +kernel, rfl⟩
theorem aX4_state_48 : dAl mX4_state 48 0 49 := Or.inl ⟨0, by decide +kernel, rfl, rfl⟩
theorem aX4_state_49 : dG mX4_state 49 4 5 52 := ⟨22, by decide +kernel, rfl, dW_at 490 (by decide +kernel), by decide⟩
theorem aX4_state_52 : dAl mX4_state 52 0 53 := Or.inl ⟨0, by decide +kernel, rfl, rfl⟩
theorem aX4_state_53 : dG mX4_state 53 4 0 56 := ⟨72, by decide +kernel, rfl, dW_at 485 (by decide +kernel), by decide⟩
theorem aX4_state_56 : dKi mX4_state 56 (nI 0) 57 := Or.inl ⟨0, by decide +kernel, by decide +kernel, rfl⟩
theorem aX4_state_57 : dk mX4_state 57 .iastore 1 58 := ⟨by decide +kernel, rfl⟩
theorem aX4_state_58 : dAl mX4_state 58 0 59 := Or.inl ⟨0, by decide +kernel, rfl, rfl⟩
theorem aX4_state_59 : dk mX4_state 59 .dup 1 60 := ⟨by decide +kernel, rfl⟩
theorem aX4_state_60 : dG mX4_state 60 4 0 63 := ⟨72, by decide +kernel, rfl, dW_at 485 (by decide +kernel), by decide⟩
theorem aX4_state_63 : dKi mX4_state 63 (nI 1) 64 := Or.inl ⟨1, by decide +kernel, by decide +kernel, rfl⟩
theorem aX4_state_64 : dk mX4_state 64 .iadd 1 65 := ⟨by decide +kernel, rfl⟩
theorem aX4_state_65 : dP mX4_state 65 4 0 68 := ⟨72, by decide +kernel, rfl, dW_at 485 (by decide +kernel), by decide⟩
theorem aX4_state_68 : dAl mX4_state 68 0 69 := Or.inl ⟨0, by decide +kernel, rfl, rfl⟩
theorem aX4_state_69 : dG mX4_state 69 4 0 72 := ⟨72, by decide +kernel, rfl, dW_at 485 (by decide +kernel), by decide⟩
theorem aX4_state_72 : dKi mX4_state 72 (nI 1) 73 := Or.inl ⟨1, by decide +kernel, by decide +kernel, rfl⟩
theorem aX4_state_73 : dk mX4_state 73 .isub 1 74 := ⟨by decide +kernel, rfl⟩
theorem aX4_state_74 : dk mX4_state 74 .ireturn 1 75 := ⟨by decide +kernel, rfl⟩
theorem okX4_arrowOf : okM mX4_arrowOf := ⟨dW_at 583 (by decide +kernel), dW_at 31 (by decide +kernel), by decide +kernel, by decide +kernel, by decide +kernel, Or.inl ⟨dW_at 582 (by decide +kernel), dW_at 9 (by decide +kernel)⟩⟩
theorem aX4_arrowOf_0 : dKi mX4_arrowOf 0 (nI 0) 1 := Or.inl ⟨0, by decide +kernel, by decide +kernel, rfl⟩
theorem aX4_arrowOf_1 : dIs mX4_arrowOf 1 3 2 := ⟨Or.inl ⟨3, by decide +kernel, rfl, rfl⟩, by decide⟩
theorem aX4_arrowOf_2 : dIl mX4_arrowOf 2 3 3 := Or.inl ⟨3, by decide +kernel, rfl, rfl⟩
theorem aX4_arrowOf_3 : dAl mX4_arrowOf 3 0 4 := Or.inl ⟨0, by decide +kernel, rfl, rfl⟩
theorem aX4_arrowOf_4 : dG mX4_arrowOf 4 4 2 7 := ⟨13, by decide +kernel, rfl, dW_at 487 (by decide +kernel), by decide⟩
theorem aX4_arrowOf_7 : dIl mX4_arrowOf 7 1 8 := Or.inl ⟨1, by decide +kernel, rfl, rfl⟩
theorem aX4_arrowOf_8 : dk mX4_arrowOf 8 .iaload 1 9 := ⟨by decide +kernel, rfl⟩
theorem aX4_arrowOf_9 : dC mX4_arrowOf 9 .ge 12 40 := ⟨31, by decide +kernel, by decide, rfl⟩
theorem aX4_arrowOf_12 : dAl mX4_arrowOf 12 0 13 := Or.inl ⟨0, by decide +kernel, rfl, rfl⟩
theorem aX4_arrowOf_13 : dG mX4_arrowOf 13 4 3 16 := ⟨16, by decide +kernel, rfl, dW_at 488 (by decide +kernel), by decide⟩
theorem aX4_arrowOf_16 : dKi mX4_arrowOf 16 (nI 20) 18 := Or.inr (Or.inl ⟨20, by decide +kernel, by decide +kernel, rfl⟩)
theorem aX4_arrowOf_18 : dIl mX4_arrowOf 18 1 19 := Or.inl ⟨1, by decide +kernel, rfl, rfl⟩
theorem aX4_arrowOf_19 : dk mX4_arrowOf 19 .imul 1 20 := ⟨by decide +kernel, rfl⟩
theorem aX4_arrowOf_20 : dIl mX4_arrowOf 20 3 21 := Or.inl ⟨3, by decide +kernel, rfl, rfl⟩
theorem aX4_arrowOf_21 : dk mX4_arrowOf 21 .iadd 1 22 := ⟨by decide +kernel, rfl⟩
theorem aX4_arrowOf_22 : dk mX4_arrowOf 22 .iaload 1 23 := ⟨by decide +kernel, rfl⟩
theorem aX4_arrowOf_23 : dIl mX4_arrowOf 23 2 24 := Or.inl ⟨2, by decide +kernel, rfl, rfl⟩
theorem aX4_arrowOf_24 : dC mX4_arrowOf 24 .ne 27 34 := ⟨10, by decide +kernel, by decide, rfl⟩
theorem aX4_arrowOf_27 : dKi mX4_arrowOf 27 (nI 20) 29 := Or.inr (Or.inl ⟨20, by decide +kernel, by decide +kernel, rfl⟩)
theorem aX4_arrowOf_29 : dIl mX4_arrowOf 29 1 30 := Or.inl ⟨1, by decide +kernel, rfl, rfl⟩
theorem aX4_arrowOf_30 : dk mX4_arrowOf 30 .imul 1 31 := ⟨by decide +kernel, rfl⟩
theorem aX4_arrowOf_31 : dIl mX4_arrowOf 31 3 32 := Or.inl ⟨3, by decide +kernel, rfl, rfl⟩
theorem aX4_arrowOf_32 : dk mX4_arrowOf 32 .iadd 1 33 := ⟨by decide +kernel, rfl⟩
theorem aX4_arrowOf_33 : dk mX4_arrowOf 33 .ireturn 1 34 := ⟨by decide +kernel, rfl⟩
theorem aX4_arrowOf_34 : dIn mX4_arrowOf 34 3 (nI 1) 37 := ⟨1, by decide +kernel, by decide +kernel, rfl, by decide⟩
theorem aX4_arrowOf_37 : dJ mX4_arrowOf 37 2 := ⟨-35, by decide +kernel, by decide⟩
theorem aX4_arrowOf_40 : dKi mX4_arrowOf 40 ((-1)) 41 := Or.inl ⟨-1, by decide +kernel, by decide +kernel, rfl⟩
theorem aX4_arrowOf_41 : dk mX4_arrowOf 41 .ireturn 1 42 := ⟨by decide +kernel, rfl⟩
theorem okX4_arrow : okM mX4_arrow := ⟨dW_at 575 (by decide +kernel), dW_at 31 (by decide +kernel), by decide +kernel, by decide +kernel, by decide +kernel, Or.inl ⟨dW_at 573 (by decide +kernel), dW_at 574 (by decide +kernel)⟩⟩
theorem aX4_arrow_0 : dAl mX4_arrow 0 0 1 := Or.inl ⟨0, by decide +kernel, rfl, rfl⟩
theorem aX4_arrow_1 : dIl mX4_arrow 1 1 2 := Or.inl ⟨1, by decide +kernel, rfl, rfl⟩
theorem aX4_arrow_2 : dV mX4_arrow 2 mX4_isState 5 := ⟨87, by decide +kernel, rfl, dW_at 576 (by decide +kernel), by decide⟩
theorem aX4_arrow_5 : dZ mX4_arrow 5 .eq 8 36 := ⟨31, by decide +kernel, by decide, rfl⟩
theorem aX4_arrow_8 : dAl mX4_arrow 8 0 9 := Or.inl ⟨0, by decide +kernel, rfl, rfl⟩
theorem aX4_arrow_9 : dIl mX4_arrow 9 2 10 := Or.inl ⟨2, by decide +kernel, rfl, rfl⟩
theorem aX4_arrow_10 : dV mX4_arrow 10 mX4_isState 13 := ⟨87, by decide +kernel, rfl, dW_at 576 (by decide +kernel), by decide⟩
theorem aX4_arrow_13 : dZ mX4_arrow 13 .eq 16 36 := ⟨23, by decide +kernel, by decide, rfl⟩
theorem aX4_arrow_16 : dAl mX4_arrow 16 0 17 := Or.inl ⟨0, by decide +kernel, rfl, rfl⟩
theorem aX4_arrow_17 : dG mX4_arrow 17 4 1 20 := ⟨7, by decide +kernel, rfl, dW_at 486 (by decide +kernel), by decide⟩
theorem aX4_arrow_20 : dIl mX4_arrow 20 1 21 := Or.inl ⟨1, by decide +kernel, rfl, rfl⟩
theorem aX4_arrow_21 : dk mX4_arrow 21 .iaload 1 22 := ⟨by decide +kernel, rfl⟩
theorem aX4_arrow_22 : dKi mX4_arrow 22 ((-1)) 23 := Or.inl ⟨-1, by decide +kernel, by decide +kernel, rfl⟩
theorem aX4_arrow_23 : dC mX4_arrow 23 .ne 26 36 := ⟨13, by decide +kernel, by decide, rfl⟩
theorem aX4_arrow_26 : dIl mX4_arrow 26 3 27 := Or.inl ⟨3, by decide +kernel, rfl, rfl⟩
theorem aX4_arrow_27 : dKi mX4_arrow 27 (nI 1) 28 := Or.inl ⟨1, by decide +kernel, by decide +kernel, rfl⟩
theorem aX4_arrow_28 : dKi mX4_arrow 28 (nI 16) 30 := Or.inr (Or.inl ⟨16, by decide +kernel, by decide +kernel, rfl⟩)
theorem aX4_arrow_30 : dS mX4_arrow 30 mX4_in 33 := ⟨76, by decide +kernel, rfl, dW_at 565 (by decide +kernel), by decide⟩
theorem aX4_arrow_33 : dZ mX4_arrow 33 .ne 36 38 := ⟨5, by decide +kernel, by decide, rfl⟩
theorem aX4_arrow_36 : dKi mX4_arrow 36 ((-1)) 37 := Or.inl ⟨-1, by decide +kernel, by decide +kernel, rfl⟩
theorem aX4_arrow_37 : dk mX4_arrow 37 .ireturn 1 38 := ⟨by decide +kernel, rfl⟩
theorem aX4_arrow_38 : dAl mX4_arrow 38 0 39 := Or.inl ⟨0, by decide +kernel, rfl, rfl⟩
theorem aX4_arrow_39 : dG mX4_arrow 39 4 5 42 := ⟨22, by decide +kernel, rfl, dW_at 490 (by decide +kernel), by decide⟩
theorem aX4_arrow_42 : dIl mX4_arrow 42 1 43 := Or.inl ⟨1, by decide +kernel, rfl, rfl⟩
theorem aX4_arrow_43 : dk mX4_arrow 43 .iaload 1 44 := ⟨by decide +kernel, rfl⟩
theorem aX4_arrow_44 : dIl mX4_arrow 44 3 45 := Or.inl ⟨3, by decide +kernel, rfl, rfl⟩
theorem aX4_arrow_45 : dk mX4_arrow 45 .iadd 1 46 := ⟨by decide +kernel, rfl⟩
theorem aX4_arrow_46 : dKi mX4_arrow 46 (nI 16) 48 := Or.inr (Or.inl ⟨16, by decide +kernel, by decide +kernel, rfl⟩)
theorem aX4_arrow_48 : dC mX4_arrow 48 .le 51 54 := ⟨6, by decide +kernel, by decide, rfl⟩
theorem aX4_arrow_51 : dKi mX4_arrow 51 ((-3)) 53 := Or.inr (Or.inl ⟨-3, by decide +kernel, by decide +kernel, rfl⟩)
theorem aX4_arrow_53 : dk mX4_arrow 53 .ireturn 1 54 := ⟨by decide +kernel, rfl⟩
theorem aX4_arrow_54 : dAl mX4_arrow 54 0 55 := Or.inl ⟨0, by decide +kernel, rfl, rfl⟩
theorem aX4_arrow_55 : dV mX4_arrow 55 mX4_forget 58 := ⟨84, by decide +kernel, rfl, dW_at 568 (by decide +kernel), by decide⟩
theorem aX4_arrow_58 : dAl mX4_arrow 58 0 59 := Or.inl ⟨0, by decide +kernel, rfl, rfl⟩
theorem aX4_arrow_59 : dIl mX4_arrow 59 1 60 := Or.inl ⟨1, by decide +kernel, rfl, rfl⟩
theorem aX4_arrow_60 : dIl mX4_arrow 60 2 61 := Or.inl ⟨2, by decide +kernel, rfl, rfl⟩
theorem aX4_arrow_61 : dV mX4_arrow 61 mX4_arrowOf 64 := ⟨91, by decide +kernel, rfl, dW_at 580 (by decide +kernel), by decide⟩
theorem aX4_arrow_64 : dIs mX4_arrow 64 4 66 := ⟨Or.inr ⟨by decide +kernel, rfl⟩, by decide⟩
theorem aX4_arrow_66 : dIl mX4_arrow 66 4 68 := Or.inr ⟨by decide +kernel, rfl⟩
theorem aX4_arrow_68 : dKi mX4_arrow 68 ((-1)) 69 := Or.inl ⟨-1, by decide +kernel, by decide +kernel, rfl⟩
theorem aX4_arrow_69 : dC mX4_arrow 69 .ne 72 111 := ⟨42, by decide +kernel, by decide, rfl⟩
theorem aX4_arrow_72 : dKi mX4_arrow 72 (nI 20) 74 := Or.inr (Or.inl ⟨20, by decide +kernel, by decide +kernel, rfl⟩)
theorem aX4_arrow_74 : dIl mX4_arrow 74 1 75 := Or.inl ⟨1, by decide +kernel, rfl, rfl⟩
theorem aX4_arrow_75 : dk mX4_arrow 75 .imul 1 76 := ⟨by decide +kernel, rfl⟩
theorem aX4_arrow_76 : dAl mX4_arrow 76 0 77 := Or.inl ⟨0, by decide +kernel, rfl, rfl⟩
theorem aX4_arrow_77 : dG mX4_arrow 77 4 2 80 := ⟨13, by decide +kernel, rfl, dW_at 487 (by decide +kernel), by decide⟩
theorem aX4_arrow_80 : dIl mX4_arrow 80 1 81 := Or.inl ⟨1, by decide +kernel, rfl, rfl⟩
theorem aX4_arrow_81 : dk mX4_arrow 81 .iaload 1 82 := ⟨by decide +kernel, rfl⟩
theorem aX4_arrow_82 : dk mX4_arrow 82 .iadd 1 83 := ⟨by decide +kernel, rfl⟩
theorem aX4_arrow_83 : dIs mX4_arrow 83 4 85 := ⟨Or.inr ⟨by decide +kernel, rfl⟩, by decide⟩
theorem aX4_arrow_85 : dAl mX4_arrow 85 0 86 := Or.inl ⟨0, by decide +kernel, rfl, rfl⟩
theorem aX4_arrow_86 : dG mX4_arrow 86 4 3 89 := ⟨16, by decide +kernel, rfl, dW_at 488 (by decide +kernel), by decide⟩
theorem aX4_arrow_89 : dIl mX4_arrow 89 4 91 := Or.inr ⟨by decide +kernel, rfl⟩
theorem aX4_arrow_91 : dIl mX4_arrow 91 2 92 := Or.inl ⟨2, by decide +kernel, rfl, rfl⟩
theorem aX4_arrow_92 : dk mX4_arrow 92 .iastore 1 93 := ⟨by decide +kernel, rfl⟩
theorem aX4_arrow_93 : dAl mX4_arrow 93 0 94 := Or.inl ⟨0, by decide +kernel, rfl, rfl⟩
theorem aX4_arrow_94 : dG mX4_arrow 94 4 4 97 := ⟨19, by decide +kernel, rfl, dW_at 489 (by decide +kernel), by decide⟩
theorem aX4_arrow_97 : dIl mX4_arrow 97 4 99 := Or.inr ⟨by decide +kernel, rfl⟩
theorem aX4_arrow_99 : dKi mX4_arrow 99 (nI 0) 100 := Or.inl ⟨0, by decide +kernel, by decide +kernel, rfl⟩
theorem aX4_arrow_100 : dk mX4_arrow 100 .iastore 1 101 := ⟨by decide +kernel, rfl⟩
theorem aX4_arrow_101 : dAl mX4_arrow 101 0 102 := Or.inl ⟨0, by decide +kernel, rfl, rfl⟩
theorem aX4_arrow_102 : dG mX4_arrow 102 4 2 105 := ⟨13, by decide +kernel, rfl, dW_at 487 (by decide +kernel), by decide⟩
theorem aX4_arrow_105 : dIl mX4_arrow 105 1 106 := Or.inl ⟨1, by decide +kernel, rfl, rfl⟩
theorem aX4_arrow_106 : dk mX4_arrow 106 .dup2 1 107 := ⟨by decide +kernel, rfl⟩
theorem aX4_arrow_107 : dk mX4_arrow 107 .iaload 1 108 := ⟨by decide +kernel, rfl⟩
theorem aX4_arrow_108 : dKi mX4_arrow 108 (nI 1) 109 := Or.inl ⟨1, by decide +kernel, by decide +kernel, rfl⟩
theorem aX4_arrow_109 : dk mX4_arrow 109 .iadd 1 110 := ⟨by decide +kernel, rfl⟩
theorem aX4_arrow_110 : dk mX4_arrow 110 .iastore 1 111 := ⟨by decide +kernel, rfl⟩
theorem aX4_arrow_111 : dAl mX4_arrow 111 0 112 := Or.inl ⟨0, by decide +kernel, rfl, rfl⟩
theorem aX4_arrow_112 : dG mX4_arrow 112 4 4 115 := ⟨19, by decide +kernel, rfl, dW_at 489 (by decide +kernel), by decide⟩
theorem aX4_arrow_115 : dIl mX4_arrow 115 4 117 := Or.inr ⟨by decide +kernel, rfl⟩
theorem aX4_arrow_117 : dk mX4_arrow 117 .dup2 1 118 := ⟨by decide +kernel, rfl⟩
theorem aX4_arrow_118 : dk mX4_arrow 118 .iaload 1 119 := ⟨by decide +kernel, rfl⟩
theorem aX4_arrow_119 : dIl mX4_arrow 119 3 120 := Or.inl ⟨3, by decide +kernel, rfl, rfl⟩
theorem aX4_arrow_120 : dk mX4_arrow 120 .iadd 1 121 := ⟨by decide +kernel, rfl⟩
theorem aX4_arrow_121 : dk mX4_arrow 121 .iastore 1 122 := ⟨by decide +kernel, rfl⟩
theorem aX4_arrow_122 : dAl mX4_arrow 122 0 123 := Or.inl ⟨0, by decide +kernel, rfl, rfl⟩
theorem aX4_arrow_123 : dG mX4_arrow 123 4 5 126 := ⟨22, by decide +kernel, rfl, dW_at 490 (by decide +kernel), by decide⟩
theorem aX4_arrow_126 : dIl mX4_arrow 126 1 127 := Or.inl ⟨1, by decide +kernel, rfl, rfl⟩
theorem aX4_arrow_127 : dk mX4_arrow 127 .dup2 1 128 := ⟨by decide +kernel, rfl⟩
theorem aX4_arrow_128 : dk mX4_arrow 128 .iaload 1 129 := ⟨by decide +kernel, rfl⟩
theorem aX4_arrow_129 : dIl mX4_arrow 129 3 130 := Or.inl ⟨3, by decide +kernel, rfl, rfl⟩
theorem aX4_arrow_130 : dk mX4_arrow 130 .iadd 1 131 := ⟨by decide +kernel, rfl⟩
theorem aX4_arrow_131 : dk mX4_arrow 131 .iastore 1 132 := ⟨by decide +kernel, rfl⟩
theorem aX4_arrow_132 : dAl mX4_arrow 132 0 133 := Or.inl ⟨0, by decide +kernel, rfl, rfl⟩
theorem aX4_arrow_133 : dG mX4_arrow 133 4 5 136 := ⟨22, by decide +kernel, rfl, dW_at 490 (by decide +kernel), by decide⟩
theorem aX4_arrow_136 : dIl mX4_arrow 136 1 137 := Or.inl ⟨1, by decide +kernel, rfl, rfl⟩
theorem aX4_arrow_137 : dk mX4_arrow 137 .iaload 1 138 := ⟨by decide +kernel, rfl⟩
theorem aX4_arrow_138 : dk mX4_arrow 138 .ireturn 1 139 := ⟨by decide +kernel, rfl⟩
theorem okX4_law : okM mX4_law := ⟨dW_at 587 (by decide +kernel), dW_at 31 (by decide +kernel), by decide +kernel, by decide +kernel, by decide +kernel, Or.inl ⟨dW_at 585 (by decide +kernel), dW_at 586 (by decide +kernel)⟩⟩
theorem aX4_law_0 : dAl mX4_law 0 0 1 := Or.inl ⟨0, by decide +kernel, rfl, rfl⟩
theorem aX4_law_1 : dIl mX4_law 1 1 2 := Or.inl ⟨1, by decide +kernel, rfl, rfl⟩
theorem aX4_law_2 : dV mX4_law 2 mX4_isState 5 := ⟨87, by decide +kernel, rfl, dW_at 576 (by decide +kernel), by decide⟩
theorem aX4_law_5 : dZ mX4_law 5 .eq 8 31 := ⟨26, by decide +kernel, by decide, rfl⟩
theorem aX4_law_8 : dIl mX4_law 8 2 9 := Or.inl ⟨2, by decide +kernel, rfl, rfl⟩
theorem aX4_law_9 : dKi mX4_law 9 ((-1)) 10 := Or.inl ⟨-1, by decide +kernel, by decide +kernel, rfl⟩
theorem aX4_law_10 : dC mX4_law 10 .eq 13 21 := ⟨11, by decide +kernel, by decide, rfl⟩
theorem aX4_law_13 : dAl mX4_law 13 0 14 := Or.inl ⟨0, by decide +kernel, rfl, rfl⟩
theorem aX4_law_14 : dIl mX4_law 14 2 15 := Or.inl ⟨2, by decide +kernel, rfl, rfl⟩
theorem aX4_law_15 : dV mX4_law 15 mX4_isState 18 := ⟨87, by decide +kernel, rfl, dW_at 576 (by decide +kernel), by decide⟩
theorem aX4_law_18 : dZ mX4_law 18 .eq 21 31 := ⟨13, by decide +kernel, by decide, rfl⟩
theorem aX4_law_21 : dAl mX4_law 21 0 22 := Or.inl ⟨0, by decide +kernel, rfl, rfl⟩
theorem aX4_law_22 : dG mX4_law 22 4 1 25 := ⟨7, by decide +kernel, rfl, dW_at 486 (by decide +kernel), by decide⟩
theorem aX4_law_25 : dIl mX4_law 25 1 26 := Or.inl ⟨1, by decide +kernel, rfl, rfl⟩
theorem aX4_law_26 : dk mX4_law 26 .iaload 1 27 := ⟨by decide +kernel, rfl⟩
theorem aX4_law_27 : dKi mX4_law 27 ((-1)) 28 := Or.inl ⟨-1, by decide +kernel, by decide +kernel, rfl⟩
theorem aX4_law_28 : dC mX4_law 28 .eq 31 33 := ⟨5, by decide +kernel, by decide, rfl⟩
theorem aX4_law_31 : dKi mX4_law 31 ((-1)) 32 := Or.inl ⟨-1, by decide +kernel, by decide +kernel, rfl⟩
theorem aX4_law_32 : dk mX4_law 32 .ireturn 1 33 := ⟨by decide +kernel, rfl⟩
theorem aX4_law_33 : dIl mX4_law 33 2 34 := Or.inl ⟨2, by decide +kernel, rfl, rfl⟩
theorem aX4_law_34 : dKi mX4_law 34 ((-1)) 35 := Or.inl ⟨-1, by decide +kernel, by decide +kernel, rfl⟩
theorem aX4_law_35 : dC mX4_law 35 .eq 38 168 := ⟨133, by decide +kernel, by decide, rfl⟩
theorem aX4_law_38 : dAl mX4_law 38 0 39 := Or.inl ⟨0, by decide +kernel, rfl, rfl⟩
theorem aX4_law_39 : dIl mX4_law 39 1 40 := Or.inl ⟨1, by decide +kernel, rfl, rfl⟩
theorem aX4_law_40 : dIl mX4_law 40 2 41 := Or.inl ⟨2, by decide +kernel, rfl, rfl⟩
theorem aX4_law_41 : dV mX4_law 41 mX4_arrowOf 44 := ⟨91, by decide +kernel, rfl, dW_at 580 (by decide +kernel), by decide⟩
theorem aX4_law_44 : dIs mX4_law 44 3 45 := ⟨Or.inl ⟨3, by decide +kernel, rfl, rfl⟩, by decide⟩
theorem aX4_law_45 : dAl mX4_law 45 0 46 := Or.inl ⟨0, by decide +kernel, rfl, rfl⟩
theorem aX4_law_46 : dIl mX4_law 46 2 47 := Or.inl ⟨2, by decide +kernel, rfl, rfl⟩
theorem aX4_law_47 : dIl mX4_law 47 1 48 := Or.inl ⟨1, by decide +kernel, rfl, rfl⟩
theorem aX4_law_48 : dV mX4_law 48 mX4_arrowOf 51 := ⟨91, by decide +kernel, rfl, dW_at 580 (by decide +kernel), by decide⟩
theorem aX4_law_51 : dIs mX4_law 51 4 53 := ⟨Or.inr ⟨by decide +kernel, rfl⟩, by decide⟩
theorem aX4_law_53 : dIl mX4_law 53 3 54 := Or.inl ⟨3, by decide +kernel, rfl, rfl⟩
theorem aX4_law_54 : dKi mX4_law 54 ((-1)) 55 := Or.inl ⟨-1, by decide +kernel, by decide +kernel, rfl⟩
theorem aX4_law_55 : dC mX4_law 55 .eq 58 86 := ⟨31, by decide +kernel, by decide, rfl⟩
theorem aX4_law_58 : dIl mX4_law 58 4 60 := Or.inr ⟨by decide +kernel, rfl⟩
theorem aX4_law_60 : dKi mX4_law 60 ((-1)) 61 := Or.inl ⟨-1, by decide +kernel, by decide +kernel, rfl⟩
theorem aX4_law_61 : dC mX4_law 61 .eq 64 86 := ⟨25, by decide +kernel, by decide, rfl⟩
theorem aX4_law_64 : dAl mX4_law 64 0 65 := Or.inl ⟨0, by decide +kernel, rfl, rfl⟩
theorem aX4_law_65 : dG mX4_law 65 4 5 68 := ⟨22, by decide +kernel, rfl, dW_at 490 (by decide +kernel), by decide⟩
theorem aX4_law_68 : dIl mX4_law 68 1 69 := Or.inl ⟨1, by decide +kernel, rfl, rfl⟩
theorem aX4_law_69 : dk mX4_law 69 .iaload 1 70 := ⟨by decide +kernel, rfl⟩
theorem aX4_law_70 : dKi mX4_law 70 (nI 16) 72 := Or.inr (Or.inl ⟨16, by decide +kernel, by decide +kernel, rfl⟩)
theorem aX4_law_72 : dC mX4_law 72 .lt 75 86 := ⟨14, by decide +kernel, by decide, rfl⟩
theorem aX4_law_75 : dAl mX4_law 75 0 76 := Or.inl ⟨0, by decide +kernel, rfl, rfl⟩
theorem aX4_law_76 : dG mX4_law 76 4 5 79 := ⟨22, by decide +kernel, rfl, dW_at 490 (by decide +kernel), by decide⟩
theorem aX4_law_79 : dIl mX4_law 79 2 80 := Or.inl ⟨2, by decide +kernel, rfl, rfl⟩
theorem aX4_law_80 : dk mX4_law 80 .iaload 1 81 := ⟨by decide +kernel, rfl⟩
theorem aX4_law_81 : dKi mX4_law 81 (nI 16) 83 := Or.inr (Or.inl ⟨16, by decide +kernel, by decide +kernel, rfl⟩)
theorem aX4_law_83 : dC mX4_law 83 .ge 86 89 := ⟨6, by decide +kernel, by decide, rfl⟩
theorem aX4_law_86 : dKi mX4_law 86 ((-2)) 88 := Or.inr (Or.inl ⟨-2, by decide +kernel, by decide +kernel, rfl⟩)
theorem aX4_law_88 : dk mX4_law 88 .ireturn 1 89 := ⟨by decide +kernel, rfl⟩
theorem aX4_law_89 : dIl mX4_law 89 2 90 := Or.inl ⟨2, by decide +kernel, rfl, rfl⟩
theorem aX4_law_90 : dIl mX4_law 90 1 91 := Or.inl ⟨1, by decide +kernel, rfl, rfl⟩
theorem aX4_law_91 : dC mX4_law 91 .ne 94 113 := ⟨22, by decide +kernel, by decide, rfl⟩
theorem aX4_law_94 : dAl mX4_law 94 0 95 := Or.inl ⟨0, by decide +kernel, rfl, rfl⟩
theorem aX4_law_95 : dG mX4_law 95 4 4 98 := ⟨19, by decide +kernel, rfl, dW_at 489 (by decide +kernel), by decide⟩
theorem aX4_law_98 : dIl mX4_law 98 3 99 := Or.inl ⟨3, by decide +kernel, rfl, rfl⟩
theorem aX4_law_99 : dk mX4_law 99 .iaload 1 100 := ⟨by decide +kernel, rfl⟩
theorem aX4_law_100 : dKi mX4_law 100 (nI 16) 102 := Or.inr (Or.inl ⟨16, by decide +kernel, by decide +kernel, rfl⟩)
theorem aX4_law_102 : dC mX4_law 102 .ne 105 109 := ⟨7, by decide +kernel, by decide, rfl⟩
theorem aX4_law_105 : dKi mX4_law 105 (nI 1) 106 := Or.inl ⟨1, by decide +kernel, by decide +kernel, rfl⟩
theorem aX4_law_106 : dJ mX4_law 106 158 := ⟨52, by decide +kernel, by decide⟩
theorem aX4_law_109 : dKi mX4_law 109 (nI 0) 110 := Or.inl ⟨0, by decide +kernel, by decide +kernel, rfl⟩
theorem aX4_law_110 : dJ mX4_law 110 158 := ⟨48, by decide +kernel, by decide⟩
theorem aX4_law_113 : dAl mX4_law 113 0 114 := Or.inl ⟨0, by decide +kernel, rfl, rfl⟩
theorem aX4_law_114 : dIl mX4_law 114 1 115 := Or.inl ⟨1, by decide +kernel, rfl, rfl⟩
theorem aX4_law_115 : dIl mX4_law 115 1 116 := Or.inl ⟨1, by decide +kernel, rfl, rfl⟩
theorem aX4_law_116 : dV mX4_law 116 mX4_arrowOf 119 := ⟨91, by decide +kernel, rfl, dW_at 580 (by decide +kernel), by decide⟩
theorem aX4_law_119 : dKi mX4_law 119 ((-1)) 120 := Or.inl ⟨-1, by decide +kernel, by decide +kernel, rfl⟩
theorem aX4_law_120 : dC mX4_law 120 .ne 123 153 := ⟨33, by decide +kernel, by decide, rfl⟩
theorem aX4_law_123 : dAl mX4_law 123 0 124 := Or.inl ⟨0, by decide +kernel, rfl, rfl⟩
theorem aX4_law_124 : dIl mX4_law 124 2 125 := Or.inl ⟨2, by decide +kernel, rfl, rfl⟩
theorem aX4_law_125 : dIl mX4_law 125 2 126 := Or.inl ⟨2, by decide +kernel, rfl, rfl⟩
theorem aX4_law_126 : dV mX4_law 126 mX4_arrowOf 129 := ⟨91, by decide +kernel, rfl, dW_at 580 (by decide +kernel), by decide⟩
theorem aX4_law_129 : dKi mX4_law 129 ((-1)) 130 := Or.inl ⟨-1, by decide +kernel, by decide +kernel, rfl⟩
theorem aX4_law_130 : dC mX4_law 130 .ne 133 153 := ⟨23, by decide +kernel, by decide, rfl⟩
theorem aX4_law_133 : dAl mX4_law 133 0 134 := Or.inl ⟨0, by decide +kernel, rfl, rfl⟩
theorem aX4_law_134 : dG mX4_law 134 4 4 137 := ⟨19, by decide +kernel, rfl, dW_at 489 (by decide +kernel), by decide⟩
theorem aX4_law_137 : dIl mX4_law 137 3 138 := Or.inl ⟨3, by decide +kernel, rfl, rfl⟩
theorem aX4_law_138 : dk mX4_law 138 .iaload 1 139 := ⟨by decide +kernel, rfl⟩
theorem aX4_law_139 : dAl mX4_law 139 0 140 := Or.inl ⟨0, by decide +kernel, rfl, rfl⟩
theorem aX4_law_140 : dG mX4_law 140 4 4 143 := ⟨19, by decide +kernel, rfl, dW_at 489 (by decide +kernel), by decide⟩
theorem aX4_law_143 : dIl mX4_law 143 4 145 := Or.inr ⟨by decide +kernel, rfl⟩
theorem aX4_law_145 : dk mX4_law 145 .iaload 1 146 := ⟨by decide +kernel, rfl⟩
theorem aX4_law_146 : dk mX4_law 146 .imul 1 147 := ⟨by decide +kernel, rfl⟩
theorem aX4_law_147 : dKi mX4_law 147 (nI 256) 150 := Or.inr (Or.inr (Or.inl ⟨256, by decide +kernel, by decide +kernel, rfl⟩))
theorem aX4_law_150 : dC mX4_law 150 .ne 153 157 := ⟨7, by decide +kernel, by decide, rfl⟩
theorem aX4_law_153 : dKi mX4_law 153 (nI 1) 154 := Or.inl ⟨1, by decide +kernel, by decide +kernel, rfl⟩
theorem aX4_law_154 : dJ mX4_law 154 158 := ⟨4, by decide +kernel, by decide⟩
theorem aX4_law_157 : dKi mX4_law 157 (nI 0) 158 := Or.inl ⟨0, by decide +kernel, by decide +kernel, rfl⟩
theorem aX4_law_158 : dIs mX4_law 158 5 160 := ⟨Or.inr ⟨by decide +kernel, rfl⟩, by decide⟩
theorem aX4_law_160 : dIl mX4_law 160 5 162 := Or.inr ⟨by decide +kernel, rfl⟩
theorem aX4_law_162 : dZ mX4_law 162 .eq 165 168 := ⟨6, by decide +kernel, by decide, rfl⟩
theorem aX4_law_165 : dKi mX4_law 165 ((-2)) 167 := Or.inr (Or.inl ⟨-2, by decide +kernel, by decide +kernel, rfl⟩)
theorem aX4_law_167 : dk mX4_law 167 .ireturn 1 168 := ⟨by decide +kernel, rfl⟩
theorem aX4_law_168 : dAl mX4_law 168 0 169 := Or.inl ⟨0, by decide +kernel, rfl, rfl⟩
theorem aX4_law_169 : dG mX4_law 169 4 6 172 := ⟨25, by decide +kernel, rfl, dW_at 491 (by decide +kernel), by decide⟩
theorem aX4_law_172 : dIl mX4_law 172 1 173 := Or.inl ⟨1, by decide +kernel, rfl, rfl⟩
theorem aX4_law_173 : dIl mX4_law 173 2 174 := Or.inl ⟨2, by decide +kernel, rfl, rfl⟩
theorem aX4_law_174 : dk mX4_law 174 .iastore 1 175 := ⟨by decide +kernel, rfl⟩
theorem aX4_law_175 : dKi mX4_law 175 (nI 1) 176 := Or.inl ⟨1, by decide +kernel, by decide +kernel, rfl⟩
theorem aX4_law_176 : dk mX4_law 176 .ireturn 1 177 := ⟨by decide +kernel, rfl⟩
theorem okX4_order : okM mX4_order := ⟨dW_at 591 (by decide +kernel), dW_at 31 (by decide +kernel), by decide +kernel, by decide +kernel, by decide +kernel, Or.inl ⟨dW_at 589 (by decide +kernel), dW_at 590 (by decide +kernel)⟩⟩
theorem aX4_order_0 : dIl mX4_order 0 1 1 := Or.inl ⟨1, by decide +kernel, rfl, rfl⟩
theorem aX4_order_1 : dKi mX4_order 1 (nI 0) 2 := Or.inl ⟨0, by decide +kernel, by decide +kernel, rfl⟩
theorem aX4_order_2 : dKi mX4_order 2 (nI 2) 3 := Or.inl ⟨2, by decide +kernel, by decide +kernel, rfl⟩
theorem aX4_order_3 : dS mX4_order 3 mX4_in 6 := ⟨76, by decide +kernel, rfl, dW_at 565 (by decide +kernel), by decide⟩
theorem aX4_order_6 : dZ mX4_order 6 .ne 9 11 := ⟨5, by decide +kernel, by decide, rfl⟩
theorem aX4_order_9 : dKi mX4_order 9 ((-1)) 10 := Or.inl ⟨-1, by decide +kernel, by decide +kernel, rfl⟩
theorem aX4_order_10 : dk mX4_order 10 .ireturn 1 11 := ⟨by decide +kernel, rfl⟩
theorem aX4_order_11 : dAl mX4_order 11 0 12 := Or.inl ⟨0, by decide +kernel, rfl, rfl⟩
theorem aX4_order_12 : dG mX4_order 12 4 7 15 := ⟨95, by decide +kernel, rfl, dW_at 492 (by decide +kernel), by decide⟩
theorem aX4_order_15 : dIs mX4_order 15 2 16 := ⟨Or.inl ⟨2, by decide +kernel, rfl, rfl⟩, by decide⟩
theorem aX4_order_16 : dAl mX4_order 16 0 17 := Or.inl ⟨0, by decide +kernel, rfl, rfl⟩
theorem aX4_order_17 : dIl mX4_order 17 1 18 := Or.inl ⟨1, by decide +kernel, rfl, rfl⟩
theorem aX4_order_18 : dP mX4_order 18 4 7 21 := ⟨95, by decide +kernel, rfl, dW_at 492 (by decide +kernel), by decide⟩
theorem aX4_order_21 : dIl mX4_order 21 2 22 := Or.inl ⟨2, by decide +kernel, rfl, rfl⟩
theorem aX4_order_22 : dk mX4_order 22 .ireturn 1 23 := ⟨by decide +kernel, rfl⟩
theorem okX4_joined : okM mX4_joined := ⟨dW_at 595 (by decide +kernel), dW_at 31 (by decide +kernel), by decide +kernel, by decide +kernel, by decide +kernel, Or.inl ⟨dW_at 593 (by decide +kernel), dW_at 594 (by decide +kernel)⟩⟩
theorem aX4_joined_0 : dAl mX4_joined 0 0 1 := Or.inl ⟨0, by decide +kernel, rfl, rfl⟩
theorem aX4_joined_1 : dG mX4_joined 1 4 8 4 := ⟨98, by decide +kernel, rfl, dW_at 493 (by decide +kernel), by decide⟩
theorem aX4_joined_4 : dZ mX4_joined 4 .eq 7 11 := ⟨7, by decide +kernel, by decide, rfl⟩
theorem aX4_joined_7 : dKi mX4_joined 7 (nI 1) 8 := Or.inl ⟨1, by decide +kernel, by decide +kernel, rfl⟩
theorem aX4_joined_8 : dJ mX4_joined 8 12 := ⟨4, by decide +kernel, by decide⟩
theorem aX4_joined_11 : dKi mX4_joined 11 (nI 0) 12 := Or.inl ⟨0, by decide +kernel, by decide +kernel, rfl⟩
theorem aX4_joined_12 : dIs mX4_joined 12 2 13 := ⟨Or.inl ⟨2, by decide +kernel, rfl, rfl⟩, by decide⟩
theorem aX4_joined_13 : dAl mX4_joined 13 0 14 := Or.inl ⟨0, by decide +kernel, rfl, rfl⟩
theorem aX4_joined_14 : dIl mX4_joined 14 1 15 := Or.inl ⟨1, by decide +kernel, rfl, rfl⟩
theorem aX4_joined_15 : dP mX4_joined 15 4 8 18 := ⟨98, by decide +kernel, rfl, dW_at 493 (by decide +kernel), by decide⟩
theorem aX4_joined_18 : dIl mX4_joined 18 2 19 := Or.inl ⟨2, by decide +kernel, rfl, rfl⟩
theorem aX4_joined_19 : dk mX4_joined 19 .ireturn 1 20 := ⟨by decide +kernel, rfl⟩
theorem okX4_comes : okM mX4_comes := ⟨dW_at 603 (by decide +kernel), dW_at 31 (by decide +kernel), by decide +kernel, by decide +kernel, by decide +kernel, Or.inl ⟨dW_at 602 (by decide +kernel), dW_at 10 (by decide +kernel)⟩⟩
theorem aX4_comes_0 : dKi mX4_comes 0 (nI 1) 1 := Or.inl ⟨1, by decide +kernel, by decide +kernel, rfl⟩
theorem aX4_comes_1 : dIl mX4_comes 1 1 2 := Or.inl ⟨1, by decide +kernel, rfl, rfl⟩
theorem aX4_comes_2 : dk mX4_comes 2 .ishl 1 3 := ⟨by decide +kernel, rfl⟩
theorem aX4_comes_3 : dIs mX4_comes 3 2 4 := ⟨Or.inl ⟨2, by decide +kernel, rfl, rfl⟩, by decide⟩
theorem aX4_comes_4 : dKi mX4_comes 4 (nI 0) 5 := Or.inl ⟨0, by decide +kernel, by decide +kernel, rfl⟩
theorem aX4_comes_5 : dIs mX4_comes 5 3 6 := ⟨Or.inl ⟨3, by decide +kernel, rfl, rfl⟩, by decide⟩
theorem aX4_comes_6 : dIl mX4_comes 6 3 7 := Or.inl ⟨3, by decide +kernel, rfl, rfl⟩
theorem aX4_comes_7 : dIl mX4_comes 7 2 8 := Or.inl ⟨2, by decide +kernel, rfl, rfl⟩
theorem aX4_comes_8 : dC mX4_comes 8 .eq 11 83 := ⟨75, by decide +kernel, by decide, rfl⟩
theorem aX4_comes_11 : dIl mX4_comes 11 2 12 := Or.inl ⟨2, by decide +kernel, rfl, rfl⟩
theorem aX4_comes_12 : dIs mX4_comes 12 3 13 := ⟨Or.inl ⟨3, by decide +kernel, rfl, rfl⟩, by decide⟩
theorem aX4_comes_13 : dKi mX4_comes 13 (nI 0) 14 := Or.inl ⟨0, by decide +kernel, by decide +kernel, rfl⟩
theorem aX4_comes_14 : dIs mX4_comes 14 4 16 := ⟨Or.inr ⟨by decide +kernel, rfl⟩, by decide⟩
theorem aX4_comes_16 : dIl mX4_comes 16 4 18 := Or.inr ⟨by decide +kernel, rfl⟩
theorem aX4_comes_18 : dAl mX4_comes 18 0 19 := Or.inl ⟨0, by decide +kernel, rfl, rfl⟩
theorem aX4_comes_19 : dG mX4_comes 19 4 0 22 := ⟨72, by decide +kernel, rfl, dW_at 485 (by decide +kernel), by decide⟩
theorem aX4_comes_22 : dC mX4_comes 22 .ge 25 80 := ⟨58, by decide +kernel, by decide, rfl⟩
theorem aX4_comes_25 : dKi mX4_comes 25 (nI 0) 26 := Or.inl ⟨0, by decide +kernel, by decide +kernel, rfl⟩
theorem aX4_comes_26 : dIs mX4_comes 26 5 28 := ⟨Or.inr ⟨by decide +kernel, rfl⟩, by decide⟩
theorem aX4_comes_28 : dIl mX4_comes 28 3 29 := Or.inl ⟨3, by decide +kernel, rfl, rfl⟩
theorem aX4_comes_29 : dIl mX4_comes 29 4 31 := Or.inr ⟨by decide +kernel, rfl⟩
theorem aX4_comes_31 : dk mX4_comes 31 .ishr 1 32 := ⟨by decide +kernel, rfl⟩
theorem aX4_comes_32 : dKi mX4_comes 32 (nI 1) 33 := Or.inl ⟨1, by decide +kernel, by decide +kernel, rfl⟩
theorem aX4_comes_33 : dk mX4_comes 33 .iand 1 34 := ⟨by decide +kernel, rfl⟩
theorem aX4_comes_34 : dKi mX4_comes 34 (nI 1) 35 := Or.inl ⟨1, by decide +kernel, by decide +kernel, rfl⟩
theorem aX4_comes_35 : dC mX4_comes 35 .ne 38 74 := ⟨39, by decide +kernel, by decide, rfl⟩
theorem aX4_comes_38 : dIl mX4_comes 38 5 40 := Or.inr ⟨by decide +kernel, rfl⟩
theorem aX4_comes_40 : dAl mX4_comes 40 0 41 := Or.inl ⟨0, by decide +kernel, rfl, rfl⟩
theorem aX4_comes_41 : dG mX4_comes 41 4 2 44 := ⟨13, by decide +kernel, rfl, dW_at 487 (by decide +kernel), by decide⟩
theorem aX4_comes_44 : dIl mX4_comes 44 4 46 := Or.inr ⟨by decide +kernel, rfl⟩
theorem aX4_comes_46 : dk mX4_comes 46 .iaload 1 47 := ⟨by decide +kernel, rfl⟩
theorem aX4_comes_47 : dC mX4_comes 47 .ge 50 74 := ⟨27, by decide +kernel, by decide, rfl⟩
theorem aX4_comes_50 : dIl mX4_comes 50 2 51 := Or.inl ⟨2, by decide +kernel, rfl, rfl⟩
theorem aX4_comes_51 : dKi mX4_comes 51 (nI 1) 52 := Or.inl ⟨1, by decide +kernel, by decide +kernel, rfl⟩
theorem aX4_comes_52 : dAl mX4_comes 52 0 53 := Or.inl ⟨0, by decide +kernel, rfl, rfl⟩
theorem aX4_comes_53 : dG mX4_comes 53 4 3 56 := ⟨16, by decide +kernel, rfl, dW_at 488 (by decide +kernel), by decide⟩
theorem aX4_comes_56 : dKi mX4_comes 56 (nI 20) 58 := Or.inr (Or.inl ⟨20, by decide +kernel, by decide +kernel, rfl⟩)
theorem aX4_comes_58 : dIl mX4_comes 58 4 60 := Or.inr ⟨by decide +kernel, rfl⟩
theorem aX4_comes_60 : dk mX4_comes 60 .imul 1 61 := ⟨by decide +kernel, rfl⟩
theorem aX4_comes_61 : dIl mX4_comes 61 5 63 := Or.inr ⟨by decide +kernel, rfl⟩
theorem aX4_comes_63 : dk mX4_comes 63 .iadd 1 64 := ⟨by decide +kernel, rfl⟩
theorem aX4_comes_64 : dk mX4_comes 64 .iaload 1 65 := ⟨by decide +kernel, rfl⟩
theorem aX4_comes_65 : dk mX4_comes 65 .ishl 1 66 := ⟨by decide +kernel, rfl⟩
theorem aX4_comes_66 : dk mX4_comes 66 .ior 1 67 := ⟨by decide +kernel, rfl⟩
theorem aX4_comes_67 : dIs mX4_comes 67 2 68 := ⟨Or.inl ⟨2, by decide +kernel, rfl, rfl⟩, by decide⟩
theorem aX4_comes_68 : dIn mX4_comes 68 5 (nI 1) 71 := ⟨1, by decide +kernel, by decide +kernel, rfl, by decide⟩
theorem aX4_comes_71 : dJ mX4_comes 71 28 := ⟨-43, by decide +kernel, by decide⟩
theorem aX4_comes_74 : dIn mX4_comes 74 4 (nI 1) 77 := ⟨1, by decide +kernel, by decide +kernel, rfl, by decide⟩
theorem aX4_comes_77 : dJ mX4_comes 77 16 := ⟨-61, by decide +kernel, by decide⟩
theorem aX4_comes_80 : dJ mX4_comes 80 6 := ⟨-74, by decide +kernel, by decide⟩
theorem aX4_comes_83 : dIl mX4_comes 83 2 84 := Or.inl ⟨2, by decide +kernel, rfl, rfl⟩
theorem aX4_comes_84 : dk mX4_comes 84 .ireturn 1 85 := ⟨by decide +kernel, rfl⟩
theorem okX4_look : okM mX4_look := ⟨dW_at 616 (by decide +kernel), dW_at 31 (by decide +kernel), by decide +kernel, by decide +kernel, by decide +kernel, Or.inl ⟨dW_at 615 (by decide +kernel), dW_at 13 (by decide +kernel)⟩⟩
theorem aX4_look_0 : dAl mX4_look 0 0 1 := Or.inl ⟨0, by decide +kernel, rfl, rfl⟩
theorem aX4_look_1 : dG mX4_look 1 4 18 4 := ⟨80, by decide +kernel, rfl, dW_at 503 (by decide +kernel), by decide⟩
theorem aX4_look_4 : dZ mX4_look 4 .eq 7 8 := ⟨4, by decide +kernel, by decide, rfl⟩
theorem aX4_look_7 : dk mX4_look 7 .return_ 1 8 := ⟨by decide +kernel, rfl⟩
theorem aX4_look_8 : dAl mX4_look 8 0 9 := Or.inl ⟨0, by decide +kernel, rfl, rfl⟩
theorem aX4_look_9 : dKi mX4_look 9 (nI 1) 10 := Or.inl ⟨1, by decide +kernel, by decide +kernel, rfl⟩
theorem aX4_look_10 : dP mX4_look 10 4 18 13 := ⟨80, by decide +kernel, rfl, dW_at 503 (by decide +kernel), by decide⟩
theorem aX4_look_13 : dKi mX4_look 13 (nI 0) 14 := Or.inl ⟨0, by decide +kernel, by decide +kernel, rfl⟩
theorem aX4_look_14 : dIs mX4_look 14 1 15 := ⟨Or.inl ⟨1, by decide +kernel, rfl, rfl⟩, by decide⟩
theorem aX4_look_15 : dIl mX4_look 15 1 16 := Or.inl ⟨1, by decide +kernel, rfl, rfl⟩
theorem aX4_look_16 : dAl mX4_look 16 0 17 := Or.inl ⟨0, by decide +kernel, rfl, rfl⟩
theorem aX4_look_17 : dG mX4_look 17 4 0 20 := ⟨72, by decide +kernel, rfl, dW_at 485 (by decide +kernel), by decide⟩
theorem aX4_look_20 : dC mX4_look 20 .ge 23 98 := ⟨78, by decide +kernel, by decide, rfl⟩
theorem aX4_look_23 : dAl mX4_look 23 0 24 := Or.inl ⟨0, by decide +kernel, rfl, rfl⟩
theorem aX4_look_24 : dIl mX4_look 24 1 25 := Or.inl ⟨1, by decide +kernel, rfl, rfl⟩
theorem aX4_look_25 : dV mX4_look 25 mX4_comes 28 := ⟨101, by decide +kernel, rfl, dW_at 600 (by decide +kernel), by decide⟩
theorem aX4_look_28 : dIs mX4_look 28 2 29 := ⟨Or.inl ⟨2, by decide +kernel, rfl, rfl⟩, by decide⟩
theorem aX4_look_29 : dAl mX4_look 29 0 30 := Or.inl ⟨0, by decide +kernel, rfl, rfl⟩
theorem aX4_look_30 : dG mX4_look 30 4 19 33 := ⟨57, by decide +kernel, rfl, dW_at 504 (by decide +kernel), by decide⟩
theorem aX4_look_33 : dIl mX4_look 33 1 34 := Or.inl ⟨1, by decide +kernel, rfl, rfl⟩
theorem aX4_look_34 : dKi mX4_look 34 (nI 0) 35 := Or.inl ⟨0, by decide +kernel, by decide +kernel, rfl⟩
theorem aX4_look_35 : dk mX4_look 35 .iastore 1 36 := ⟨by decide +kernel, rfl⟩
theorem aX4_look_36 : dKi mX4_look 36 (nI 0) 37 := Or.inl ⟨0, by decide +kernel, by decide +kernel, rfl⟩
theorem aX4_look_37 : dIs mX4_look 37 3 38 := ⟨Or.inl ⟨3, by decide +kernel, rfl, rfl⟩, by decide⟩
theorem aX4_look_38 : dIl mX4_look 38 3 39 := Or.inl ⟨3, by decide +kernel, rfl, rfl⟩
theorem aX4_look_39 : dAl mX4_look 39 0 40 := Or.inl ⟨0, by decide +kernel, rfl, rfl⟩
theorem aX4_look_40 : dG mX4_look 40 4 0 43 := ⟨72, by decide +kernel, rfl, dW_at 485 (by decide +kernel), by decide⟩
theorem aX4_look_43 : dC mX4_look 43 .ge 46 92 := ⟨49, by decide +kernel, by decide, rfl⟩
theorem aX4_look_46 : dAl mX4_look 46 0 47 := Or.inl ⟨0, by decide +kernel, rfl, rfl⟩
theorem aX4_look_47 : dG mX4_look 47 4 19 50 := ⟨57, by decide +kernel, rfl, dW_at 504 (by decide +kernel), by decide⟩
theorem aX4_look_50 : dIl mX4_look 50 1 51 := Or.inl ⟨1, by decide +kernel, rfl, rfl⟩
theorem aX4_look_51 : dk mX4_look 51 .dup2 1 52 := ⟨by decide +kernel, rfl⟩
theorem aX4_look_52 : dk mX4_look 52 .iaload 1 53 := ⟨by decide +kernel, rfl⟩
theorem aX4_look_53 : dIl mX4_look 53 2 54 := Or.inl ⟨2, by decide +kernel, rfl, rfl⟩
theorem aX4_look_54 : dIl mX4_look 54 3 55 := Or.inl ⟨3, by decide +kernel, rfl, rfl⟩
theorem aX4_look_55 : dk mX4_look 55 .ishr 1 56 := ⟨by decide +kernel, rfl⟩
theorem aX4_look_56 : dKi mX4_look 56 (nI 1) 57 := Or.inl ⟨1, by decide +kernel, by decide +kernel, rfl⟩
theorem aX4_look_57 : dk mX4_look 57 .iand 1 58 := ⟨by decide +kernel, rfl⟩
theorem aX4_look_58 : dKi mX4_look 58 (nI 1) 59 := Or.inl ⟨1, by decide +kernel, by decide +kernel, rfl⟩
theorem aX4_look_59 : dC mX4_look 59 .ne 62 83 := ⟨24, by decide +kernel, by decide, rfl⟩
theorem aX4_look_62 : dAl mX4_look 62 0 63 := Or.inl ⟨0, by decide +kernel, rfl, rfl⟩
theorem aX4_look_63 : dG mX4_look 63 4 1 66 := ⟨7, by decide +kernel, rfl, dW_at 486 (by decide +kernel), by decide⟩
theorem aX4_look_66 : dIl mX4_look 66 3 67 := Or.inl ⟨3, by decide +kernel, rfl, rfl⟩
theorem aX4_look_67 : dk mX4_look 67 .iaload 1 68 := ⟨by decide +kernel, rfl⟩
theorem aX4_look_68 : dKi mX4_look 68 ((-1)) 69 := Or.inl ⟨-1, by decide +kernel, by decide +kernel, rfl⟩
theorem aX4_look_69 : dC mX4_look 69 .eq 72 83 := ⟨14, by decide +kernel, by decide, rfl⟩
theorem aX4_look_72 : dKi mX4_look 72 (nI 1) 73 := Or.inl ⟨1, by decide +kernel, by decide +kernel, rfl⟩
theorem aX4_look_73 : dAl mX4_look 73 0 74 := Or.inl ⟨0, by decide +kernel, rfl, rfl⟩
theorem aX4_look_74 : dG mX4_look 74 4 1 77 := ⟨7, by decide +kernel, rfl, dW_at 486 (by decide +kernel), by decide⟩
theorem aX4_look_77 : dIl mX4_look 77 3 78 := Or.inl ⟨3, by decide +kernel, rfl, rfl⟩
theorem aX4_look_78 : dk mX4_look 78 .iaload 1 79 := ⟨by decide +kernel, rfl⟩
theorem aX4_look_79 : dk mX4_look 79 .ishl 1 80 := ⟨by decide +kernel, rfl⟩
theorem aX4_look_80 : dJ mX4_look 80 84 := ⟨4, by decide +kernel, by decide⟩
theorem aX4_look_83 : dKi mX4_look 83 (nI 0) 84 := Or.inl ⟨0, by decide +kernel, by decide +kernel, rfl⟩
theorem aX4_look_84 : dk mX4_look 84 .ior 1 85 := ⟨by decide +kernel, rfl⟩
theorem aX4_look_85 : dk mX4_look 85 .iastore 1 86 := ⟨by decide +kernel, rfl⟩
theorem aX4_look_86 : dIn mX4_look 86 3 (nI 1) 89 := ⟨1, by decide +kernel, by decide +kernel, rfl, by decide⟩
theorem aX4_look_89 : dJ mX4_look 89 38 := ⟨-51, by decide +kernel, by decide⟩
theorem aX4_look_92 : dIn mX4_look 92 1 (nI 1) 95 := ⟨1, by decide +kernel, by decide +kernel, rfl, by decide⟩
theorem aX4_look_95 : dJ mX4_look 95 15 := ⟨-80, by decide +kernel, by decide⟩
theorem aX4_look_98 : dKi mX4_look 98 (nI 0) 99 := Or.inl ⟨0, by decide +kernel, by decide +kernel, rfl⟩
theorem aX4_look_99 : dIs mX4_look 99 1 100 := ⟨Or.inl ⟨1, by decide +kernel, rfl, rfl⟩, by decide⟩
theorem aX4_look_100 : dIl mX4_look 100 1 101 := Or.inl ⟨1, by decide +kernel, rfl, rfl⟩
theorem aX4_look_101 : dAl mX4_look 101 0 102 := Or.inl ⟨0, by decide +kernel, rfl, rfl⟩
theorem aX4_look_102 : dG mX4_look 102 4 0 105 := ⟨72, by decide +kernel, rfl, dW_at 485 (by decide +kernel), by decide⟩
theorem aX4_look_105 : dC mX4_look 105 .ge 108 180 := ⟨75, by decide +kernel, by decide, rfl⟩
theorem aX4_look_108 : dAl mX4_look 108 0 109 := Or.inl ⟨0, by decide +kernel, rfl, rfl⟩
theorem aX4_look_109 : dIl mX4_look 109 1 110 := Or.inl ⟨1, by decide +kernel, rfl, rfl⟩
theorem aX4_look_110 : dV mX4_look 110 mX4_comes 113 := ⟨101, by decide +kernel, rfl, dW_at 600 (by decide +kernel), by decide⟩
theorem aX4_look_113 : dIs mX4_look 113 2 114 := ⟨Or.inl ⟨2, by decide +kernel, rfl, rfl⟩, by decide⟩
theorem aX4_look_114 : dAl mX4_look 114 0 115 := Or.inl ⟨0, by decide +kernel, rfl, rfl⟩
theorem aX4_look_115 : dG mX4_look 115 4 20 118 := ⟨60, by decide +kernel, rfl, dW_at 505 (by decide +kernel), by decide⟩
theorem aX4_look_118 : dIl mX4_look 118 1 119 := Or.inl ⟨1, by decide +kernel, rfl, rfl⟩
theorem aX4_look_119 : dKi mX4_look 119 (nI 1) 120 := Or.inl ⟨1, by decide +kernel, by decide +kernel, rfl⟩
theorem aX4_look_120 : dk mX4_look 120 .bastore 1 121 := ⟨by decide +kernel, rfl⟩
theorem aX4_look_121 : dKi mX4_look 121 (nI 0) 122 := Or.inl ⟨0, by decide +kernel, by decide +kernel, rfl⟩
theorem aX4_look_122 : dIs mX4_look 122 3 123 := ⟨Or.inl ⟨3, by decide +kernel, rfl, rfl⟩, by decide⟩
theorem aX4_look_123 : dIl mX4_look 123 3 124 := Or.inl ⟨3, by decide +kernel, rfl, rfl⟩
theorem aX4_look_124 : dAl mX4_look 124 0 125 := Or.inl ⟨0, by decide +kernel, rfl, rfl⟩
theorem aX4_look_125 : dG mX4_look 125 4 0 128 := ⟨72, by decide +kernel, rfl, dW_at 485 (by decide +kernel), by decide⟩
theorem aX4_look_128 : dC mX4_look 128 .ge 131 174 := ⟨46, by decide +kernel, by decide, rfl⟩
theorem aX4_look_131 : dAl mX4_look 131 0 132 := Or.inl ⟨0, by decide +kernel, rfl, rfl⟩
theorem aX4_look_132 : dG mX4_look 132 4 20 135 := ⟨60, by decide +kernel, rfl, dW_at 505 (by decide +kernel), by decide⟩
theorem aX4_look_135 : dIl mX4_look 135 1 136 := Or.inl ⟨1, by decide +kernel, rfl, rfl⟩
theorem aX4_look_136 : dAl mX4_look 136 0 137 := Or.inl ⟨0, by decide +kernel, rfl, rfl⟩
theorem aX4_look_137 : dG mX4_look 137 4 20 140 := ⟨60, by decide +kernel, rfl, dW_at 505 (by decide +kernel), by decide⟩
theorem aX4_look_140 : dIl mX4_look 140 1 141 := Or.inl ⟨1, by decide +kernel, rfl, rfl⟩
theorem aX4_look_141 : dk mX4_look 141 .baload 1 142 := ⟨by decide +kernel, rfl⟩
theorem aX4_look_142 : dZ mX4_look 142 .eq 145 166 := ⟨24, by decide +kernel, by decide, rfl⟩
theorem aX4_look_145 : dIl mX4_look 145 2 146 := Or.inl ⟨2, by decide +kernel, rfl, rfl⟩
theorem aX4_look_146 : dIl mX4_look 146 3 147 := Or.inl ⟨3, by decide +kernel, rfl, rfl⟩
theorem aX4_look_147 : dk mX4_look 147 .ishr 1 148 := ⟨by decide +kernel, rfl⟩
theorem aX4_look_148 : dKi mX4_look 148 (nI 1) 149 := Or.inl ⟨1, by decide +kernel, by decide +kernel, rfl⟩
theorem aX4_look_149 : dk mX4_look 149 .iand 1 150 := ⟨by decide +kernel, rfl⟩
theorem aX4_look_150 : dZ mX4_look 150 .eq 153 162 := ⟨12, by decide +kernel, by decide, rfl⟩
theorem aX4_look_153 : dAl mX4_look 153 0 154 := Or.inl ⟨0, by decide +kernel, rfl, rfl⟩
theorem aX4_look_154 : dG mX4_look 154 4 19 157 := ⟨57, by decide +kernel, rfl, dW_at 504 (by decide +kernel), by decide⟩
theorem aX4_look_157 : dIl mX4_look 157 3 158 := Or.inl ⟨3, by decide +kernel, rfl, rfl⟩
theorem aX4_look_158 : dk mX4_look 158 .iaload 1 159 := ⟨by decide +kernel, rfl⟩
theorem aX4_look_159 : dZ mX4_look 159 .eq 162 166 := ⟨7, by decide +kernel, by decide, rfl⟩
theorem aX4_look_162 : dKi mX4_look 162 (nI 1) 163 := Or.inl ⟨1, by decide +kernel, by decide +kernel, rfl⟩
theorem aX4_look_163 : dJ mX4_look 163 167 := ⟨4, by decide +kernel, by decide⟩
theorem aX4_look_166 : dKi mX4_look 166 (nI 0) 167 := Or.inl ⟨0, by decide +kernel, by decide +kernel, rfl⟩
theorem aX4_look_167 : dk mX4_look 167 .bastore 1 168 := ⟨by decide +kernel, rfl⟩
theorem aX4_look_168 : dIn mX4_look 168 3 (nI 1) 171 := ⟨1, by decide +kernel, by decide +kernel, rfl, by decide⟩
theorem aX4_look_171 : dJ mX4_look 171 123 := ⟨-48, by decide +kernel, by decide⟩
theorem aX4_look_174 : dIn mX4_look 174 1 (nI 1) 177 := ⟨1, by decide +kernel, by decide +kernel, rfl, by decide⟩
theorem aX4_look_177 : dJ mX4_look 177 100 := ⟨-77, by decide +kernel, by decide⟩
theorem aX4_look_180 : dk mX4_look 180 .return_ 1 181 := ⟨by decide +kernel, rfl⟩
theorem okX4_reach : okM mX4_reach := ⟨dW_at 612 (by decide +kernel), dW_at 31 (by decide +kernel), by decide +kernel, by decide +kernel, by decide +kernel, Or.inl ⟨dW_at 611 (by decide +kernel), dW_at 12 (by decide +kernel)⟩⟩
theorem aX4_reach_0 : dAl mX4_reach 0 0 1 := Or.inl ⟨0, by decide +kernel, rfl, rfl⟩
theorem aX4_reach_1 : dV mX4_reach 1 mX4_look 4 := ⟨105, by decide +kernel, rfl, dW_at 613 (by decide +kernel), by decide⟩
theorem aX4_reach_4 : dAl mX4_reach 4 0 5 := Or.inl ⟨0, by decide +kernel, rfl, rfl⟩
theorem aX4_reach_5 : dG mX4_reach 5 4 19 8 := ⟨57, by decide +kernel, rfl, dW_at 504 (by decide +kernel), by decide⟩
theorem aX4_reach_8 : dIl mX4_reach 8 1 9 := Or.inl ⟨1, by decide +kernel, rfl, rfl⟩
theorem aX4_reach_9 : dk mX4_reach 9 .iaload 1 10 := ⟨by decide +kernel, rfl⟩
theorem aX4_reach_10 : dk mX4_reach 10 .ireturn 1 11 := ⟨by decide +kernel, rfl⟩
theorem okX4_isSure : okM mX4_isSure := ⟨dW_at 673 (by decide +kernel), dW_at 31 (by decide +kernel), by decide +kernel, by decide +kernel, by decide +kernel, Or.inl ⟨dW_at 672 (by decide +kernel), dW_at 24 (by decide +kernel)⟩⟩
theorem aX4_isSure_0 : dAl mX4_isSure 0 0 1 := Or.inl ⟨0, by decide +kernel, rfl, rfl⟩
theorem aX4_isSure_1 : dV mX4_isSure 1 mX4_look 4 := ⟨105, by decide +kernel, rfl, dW_at 613 (by decide +kernel), by decide⟩
theorem aX4_isSure_4 : dAl mX4_isSure 4 0 5 := Or.inl ⟨0, by decide +kernel, rfl, rfl⟩
theorem aX4_isSure_5 : dG mX4_isSure 5 4 20 8 := ⟨60, by decide +kernel, rfl, dW_at 505 (by decide +kernel), by decide⟩
theorem aX4_isSure_8 : dIl mX4_isSure 8 1 9 := Or.inl ⟨1, by decide +kernel, rfl, rfl⟩
theorem aX4_isSure_9 : dk mX4_isSure 9 .baload 1 10 := ⟨by decide +kernel, rfl⟩
theorem aX4_isSure_10 : dk mX4_isSure 10 .ireturn 1 11 := ⟨by decide +kernel, rfl⟩
theorem okX4_open : okM mX4_open := ⟨dW_at 607 (by decide +kernel), dW_at 31 (by decide +kernel), by decide +kernel, by decide +kernel, by decide +kernel, Or.inl ⟨dW_at 606 (by decide +kernel), dW_at 11 (by decide +kernel)⟩⟩
theorem aX4_open_0 : dAl mX4_open 0 0 1 := Or.inl ⟨0, by decide +kernel, rfl, rfl⟩
theorem aX4_open_1 : dG mX4_open 1 4 9 4 := ⟨28, by decide +kernel, rfl, dW_at 494 (by decide +kernel), by decide⟩
theorem aX4_open_4 : dIl mX4_open 4 1 5 := Or.inl ⟨1, by decide +kernel, rfl, rfl⟩
theorem aX4_open_5 : dKi mX4_open 5 (nI 1) 6 := Or.inl ⟨1, by decide +kernel, by decide +kernel, rfl⟩
theorem aX4_open_6 : dk mX4_open 6 .bastore 1 7 := ⟨by decide +kernel, rfl⟩
theorem aX4_open_7 : dAl mX4_open 7 0 8 := Or.inl ⟨0, by decide +kernel, rfl, rfl⟩
theorem aX4_open_8 : dG mX4_open 8 4 10 11 := ⟨32, by decide +kernel, rfl, dW_at 495 (by decide +kernel), by decide⟩
theorem aX4_open_11 : dIl mX4_open 11 1 12 := Or.inl ⟨1, by decide +kernel, rfl, rfl⟩
theorem aX4_open_12 : dIl mX4_open 12 2 13 := Or.inl ⟨2, by decide +kernel, rfl, rfl⟩
theorem aX4_open_13 : dk mX4_open 13 .iastore 1 14 := ⟨by decide +kernel, rfl⟩
theorem aX4_open_14 : dAl mX4_open 14 0 15 := Or.inl ⟨0, by decide +kernel, rfl, rfl⟩
theorem aX4_open_15 : dG mX4_open 15 4 11 18 := ⟨35, by decide +kernel, rfl, dW_at 496 (by decide +kernel), by decide⟩
theorem aX4_open_18 : dIl mX4_open 18 1 19 := Or.inl ⟨1, by decide +kernel, rfl, rfl⟩
theorem aX4_open_19 : dKi mX4_open 19 (nI 0) 20 := Or.inl ⟨0, by decide +kernel, by decide +kernel, rfl⟩
theorem aX4_open_20 : dk mX4_open 20 .iastore 1 21 := ⟨by decide +kernel, rfl⟩
theorem aX4_open_21 : dAl mX4_open 21 0 22 := Or.inl ⟨0, by decide +kernel, rfl, rfl⟩
theorem aX4_open_22 : dG mX4_open 22 4 12 25 := ⟨38, by decide +kernel, rfl, dW_at 497 (by decide +kernel), by decide⟩
theorem aX4_open_25 : dIl mX4_open 25 1 26 := Or.inl ⟨1, by decide +kernel, rfl, rfl⟩
theorem aX4_open_26 : dKi mX4_open 26 (nI 1) 27 := Or.inl ⟨1, by decide +kernel, by decide +kernel, rfl⟩
theorem aX4_open_27 : dk mX4_open 27 .iastore 1 28 := ⟨by decide +kernel, rfl⟩
theorem aX4_open_28 : dAl mX4_open 28 0 29 := Or.inl ⟨0, by decide +kernel, rfl, rfl⟩
theorem aX4_open_29 : dG mX4_open 29 4 13 32 := ⟨41, by decide +kernel, rfl, dW_at 498 (by decide +kernel), by decide⟩
theorem aX4_open_32 : dKi mX4_open 32 (nI 60) 34 := Or.inr (Or.inl ⟨60, by decide +kernel, by decide +kernel, rfl⟩)
theorem aX4_open_34 : dIl mX4_open 34 1 35 := Or.inl ⟨1, by decide +kernel, rfl, rfl⟩
theorem aX4_open_35 : dk mX4_open 35 .imul 1 36 := ⟨by decide +kernel, rfl⟩
theorem aX4_open_36 : dIl mX4_open 36 2 37 := Or.inl ⟨2, by decide +kernel, rfl, rfl⟩
theorem aX4_open_37 : dk mX4_open 37 .iastore 1 38 := ⟨by decide +kernel, rfl⟩
theorem aX4_open_38 : dAl mX4_open 38 0 39 := Or.inl ⟨0, by decide +kernel, rfl, rfl⟩
theorem aX4_open_39 : dG mX4_open 39 4 14 42 := ⟨44, by decide +kernel, rfl, dW_at 499 (by decide +kernel), by decide⟩
theorem aX4_open_42 : dKi mX4_open 42 (nI 60) 44 := Or.inr (Or.inl ⟨60, by decide +kernel, by decide +kernel, rfl⟩)
theorem aX4_open_44 : dIl mX4_open 44 1 45 := Or.inl ⟨1, by decide +kernel, rfl, rfl⟩
theorem aX4_open_45 : dk mX4_open 45 .imul 1 46 := ⟨by decide +kernel, rfl⟩
theorem aX4_open_46 : dKi mX4_open 46 (nI 0) 47 := Or.inl ⟨0, by decide +kernel, by decide +kernel, rfl⟩
theorem aX4_open_47 : dk mX4_open 47 .iastore 1 48 := ⟨by decide +kernel, rfl⟩
theorem aX4_open_48 : dAl mX4_open 48 0 49 := Or.inl ⟨0, by decide +kernel, rfl, rfl⟩
theorem aX4_open_49 : dG mX4_open 49 4 15 52 := ⟨47, by decide +kernel, rfl, dW_at 500 (by decide +kernel), by decide⟩
theorem aX4_open_52 : dKi mX4_open 52 (nI 60) 54 := Or.inr (Or.inl ⟨60, by decide +kernel, by decide +kernel, rfl⟩)
theorem aX4_open_54 : dIl mX4_open 54 1 55 := Or.inl ⟨1, by decide +kernel, rfl, rfl⟩
theorem aX4_open_55 : dk mX4_open 55 .imul 1 56 := ⟨by decide +kernel, rfl⟩
theorem aX4_open_56 : dKl mX4_open 56 (lN 1152921504606846976) 59 := Or.inr ⟨108, by decide +kernel, dW_at 608 (by decide +kernel), rfl⟩
theorem aX4_open_59 : dk mX4_open 59 .lastore 1 60 := ⟨by decide +kernel, rfl⟩
theorem aX4_open_60 : dKi mX4_open 60 (nI 0) 61 := Or.inl ⟨0, by decide +kernel, by decide +kernel, rfl⟩
theorem aX4_open_61 : dIs mX4_open 61 3 62 := ⟨Or.inl ⟨3, by decide +kernel, rfl, rfl⟩, by decide⟩
theorem aX4_open_62 : dIl mX4_open 62 3 63 := Or.inl ⟨3, by decide +kernel, rfl, rfl⟩
theorem aX4_open_63 : dKi mX4_open 63 (nI 8) 65 := Or.inr (Or.inl ⟨8, by decide +kernel, by decide +kernel, rfl⟩)
theorem aX4_open_65 : dC mX4_open 65 .ge 68 86 := ⟨21, by decide +kernel, by decide, rfl⟩
theorem aX4_open_68 : dAl mX4_open 68 0 69 := Or.inl ⟨0, by decide +kernel, rfl, rfl⟩
theorem aX4_open_69 : dG mX4_open 69 4 16 72 := ⟨51, by decide +kernel, rfl, dW_at 501 (by decide +kernel), by decide⟩
theorem aX4_open_72 : dKi mX4_open 72 (nI 8) 74 := Or.inr (Or.inl ⟨8, by decide +kernel, by decide +kernel, rfl⟩)
theorem aX4_open_74 : dIl mX4_open 74 1 75 := Or.inl ⟨1, by decide +kernel, rfl, rfl⟩
theorem aX4_open_75 : dk mX4_open 75 .imul 1 76 := ⟨by decide +kernel, rfl⟩
theorem aX4_open_76 : dIl mX4_open 76 3 77 := Or.inl ⟨3, by decide +kernel, rfl, rfl⟩
theorem aX4_open_77 : dk mX4_open 77 .iadd 1 78 := ⟨by decide +kernel, rfl⟩
theorem aX4_open_78 : dKl mX4_open 78 (lN 0) 79 := Or.inl ⟨0, by decide +kernel, rfl, rfl⟩
theorem aX4_open_79 : dk mX4_open 79 .lastore 1 80 := ⟨by decide +kernel, rfl⟩
theorem aX4_open_80 : dIn mX4_open 80 3 (nI 1) 83 := ⟨1, by decide +kernel, by decide +kernel, rfl, by decide⟩
theorem aX4_open_83 : dJ mX4_open 83 62 := ⟨-21, by decide +kernel, by decide⟩
theorem aX4_open_86 : dKi mX4_open 86 (nI 0) 87 := Or.inl ⟨0, by decide +kernel, by decide +kernel, rfl⟩
theorem aX4_open_87 : dIs mX4_open 87 3 88 := ⟨Or.inl ⟨3, by decide +kernel, rfl, rfl⟩, by decide⟩
theorem aX4_open_88 : dIl mX4_open 88 3 89 := Or.inl ⟨3, by decide +kernel, rfl, rfl⟩
theorem aX4_open_89 : dKi mX4_open 89 (nI 20) 91 := Or.inr (Or.inl ⟨20, by decide +kernel, by decide +kernel, rfl⟩)
theorem aX4_open_91 : dC mX4_open 91 .ge 94 112 := ⟨21, by decide +kernel, by decide, rfl⟩
theorem aX4_open_94 : dAl mX4_open 94 0 95 := Or.inl ⟨0, by decide +kernel, rfl, rfl⟩
theorem aX4_open_95 : dG mX4_open 95 4 17 98 := ⟨54, by decide +kernel, rfl, dW_at 502 (by decide +kernel), by decide⟩
theorem aX4_open_98 : dKi mX4_open 98 (nI 20) 100 := Or.inr (Or.inl ⟨20, by decide +kernel, by decide +kernel, rfl⟩)
theorem aX4_open_100 : dIl mX4_open 100 1 101 := Or.inl ⟨1, by decide +kernel, rfl, rfl⟩
theorem aX4_open_101 : dk mX4_open 101 .imul 1 102 := ⟨by decide +kernel, rfl⟩
theorem aX4_open_102 : dIl mX4_open 102 3 103 := Or.inl ⟨3, by decide +kernel, rfl, rfl⟩
theorem aX4_open_103 : dk mX4_open 103 .iadd 1 104 := ⟨by decide +kernel, rfl⟩
theorem aX4_open_104 : dKl mX4_open 104 (lN 0) 105 := Or.inl ⟨0, by decide +kernel, rfl, rfl⟩
theorem aX4_open_105 : dk mX4_open 105 .lastore 1 106 := ⟨by decide +kernel, rfl⟩
theorem aX4_open_106 : dIn mX4_open 106 3 (nI 1) 109 := ⟨1, by decide +kernel, by decide +kernel, rfl, by decide⟩
theorem aX4_open_109 : dJ mX4_open 109 88 := ⟨-21, by decide +kernel, by decide⟩
theorem aX4_open_112 : dk mX4_open 112 .return_ 1 113 := ⟨by decide +kernel, rfl⟩
theorem okX4_begin : okM mX4_begin := ⟨dW_at 599 (by decide +kernel), dW_at 31 (by decide +kernel), by decide +kernel, by decide +kernel, by decide +kernel, Or.inl ⟨dW_at 597 (by decide +kernel), dW_at 598 (by decide +kernel)⟩⟩
theorem aX4_begin_0 : dAl mX4_begin 0 0 1 := Or.inl ⟨0, by decide +kernel, rfl, rfl⟩
theorem aX4_begin_1 : dIl mX4_begin 1 1 2 := Or.inl ⟨1, by decide +kernel, rfl, rfl⟩
theorem aX4_begin_2 : dV mX4_begin 2 mX4_isState 5 := ⟨87, by decide +kernel, rfl, dW_at 576 (by decide +kernel), by decide⟩
theorem aX4_begin_5 : dZ mX4_begin 5 .ne 8 10 := ⟨5, by decide +kernel, by decide, rfl⟩
theorem aX4_begin_8 : dKi mX4_begin 8 ((-1)) 9 := Or.inl ⟨-1, by decide +kernel, by decide +kernel, rfl⟩
theorem aX4_begin_9 : dk mX4_begin 9 .ireturn 1 10 := ⟨by decide +kernel, rfl⟩
theorem aX4_begin_10 : dAl mX4_begin 10 0 11 := Or.inl ⟨0, by decide +kernel, rfl, rfl⟩
theorem aX4_begin_11 : dIl mX4_begin 11 1 12 := Or.inl ⟨1, by decide +kernel, rfl, rfl⟩
theorem aX4_begin_12 : dV mX4_begin 12 mX4_comes 15 := ⟨101, by decide +kernel, rfl, dW_at 600 (by decide +kernel), by decide⟩
theorem aX4_begin_15 : dIs mX4_begin 15 2 16 := ⟨Or.inl ⟨2, by decide +kernel, rfl, rfl⟩, by decide⟩
theorem aX4_begin_16 : dKi mX4_begin 16 (nI 0) 17 := Or.inl ⟨0, by decide +kernel, by decide +kernel, rfl⟩
theorem aX4_begin_17 : dIs mX4_begin 17 3 18 := ⟨Or.inl ⟨3, by decide +kernel, rfl, rfl⟩, by decide⟩
theorem aX4_begin_18 : dIl mX4_begin 18 3 19 := Or.inl ⟨3, by decide +kernel, rfl, rfl⟩
theorem aX4_begin_19 : dAl mX4_begin 19 0 20 := Or.inl ⟨0, by decide +kernel, rfl, rfl⟩
theorem aX4_begin_20 : dG mX4_begin 20 4 0 23 := ⟨72, by decide +kernel, rfl, dW_at 485 (by decide +kernel), by decide⟩
theorem aX4_begin_23 : dC mX4_begin 23 .ge 26 65 := ⟨42, by decide +kernel, by decide, rfl⟩
theorem aX4_begin_26 : dIl mX4_begin 26 2 27 := Or.inl ⟨2, by decide +kernel, rfl, rfl⟩
theorem aX4_begin_27 : dIl mX4_begin 27 3 28 := Or.inl ⟨3, by decide +kernel, rfl, rfl⟩
theorem aX4_begin_28 : dk mX4_begin 28 .ishr 1 29 := ⟨by decide +kernel, rfl⟩
theorem aX4_begin_29 : dKi mX4_begin 29 (nI 1) 30 := Or.inl ⟨1, by decide +kernel, by decide +kernel, rfl⟩
theorem aX4_begin_30 : dk mX4_begin 30 .iand 1 31 := ⟨by decide +kernel, rfl⟩
theorem aX4_begin_31 : dKi mX4_begin 31 (nI 1) 32 := Or.inl ⟨1, by decide +kernel, by decide +kernel, rfl⟩
theorem aX4_begin_32 : dC mX4_begin 32 .ne 35 59 := ⟨27, by decide +kernel, by decide, rfl⟩
theorem aX4_begin_35 : dAl mX4_begin 35 0 36 := Or.inl ⟨0, by decide +kernel, rfl, rfl⟩
theorem aX4_begin_36 : dG mX4_begin 36 4 1 39 := ⟨7, by decide +kernel, rfl, dW_at 486 (by decide +kernel), by decide⟩
theorem aX4_begin_39 : dIl mX4_begin 39 3 40 := Or.inl ⟨3, by decide +kernel, rfl, rfl⟩
theorem aX4_begin_40 : dk mX4_begin 40 .iaload 1 41 := ⟨by decide +kernel, rfl⟩
theorem aX4_begin_41 : dKi mX4_begin 41 ((-1)) 42 := Or.inl ⟨-1, by decide +kernel, by decide +kernel, rfl⟩
theorem aX4_begin_42 : dC mX4_begin 42 .ne 45 59 := ⟨17, by decide +kernel, by decide, rfl⟩
theorem aX4_begin_45 : dAl mX4_begin 45 0 46 := Or.inl ⟨0, by decide +kernel, rfl, rfl⟩
theorem aX4_begin_46 : dG mX4_begin 46 4 5 49 := ⟨22, by decide +kernel, rfl, dW_at 490 (by decide +kernel), by decide⟩
theorem aX4_begin_49 : dIl mX4_begin 49 3 50 := Or.inl ⟨3, by decide +kernel, rfl, rfl⟩
theorem aX4_begin_50 : dk mX4_begin 50 .iaload 1 51 := ⟨by decide +kernel, rfl⟩
theorem aX4_begin_51 : dKi mX4_begin 51 (nI 16) 53 := Or.inr (Or.inl ⟨16, by decide +kernel, by decide +kernel, rfl⟩)
theorem aX4_begin_53 : dC mX4_begin 53 .ge 56 59 := ⟨6, by decide +kernel, by decide, rfl⟩
theorem aX4_begin_56 : dKi mX4_begin 56 ((-2)) 58 := Or.inr (Or.inl ⟨-2, by decide +kernel, by decide +kernel, rfl⟩)
theorem aX4_begin_58 : dk mX4_begin 58 .ireturn 1 59 := ⟨by decide +kernel, rfl⟩
theorem aX4_begin_59 : dIn mX4_begin 59 3 (nI 1) 62 := ⟨1, by decide +kernel, by decide +kernel, rfl, by decide⟩
theorem aX4_begin_62 : dJ mX4_begin 62 18 := ⟨-44, by decide +kernel, by decide⟩
theorem aX4_begin_65 : dAl mX4_begin 65 0 66 := Or.inl ⟨0, by decide +kernel, rfl, rfl⟩
theorem aX4_begin_66 : dKi mX4_begin 66 (nI 0) 67 := Or.inl ⟨0, by decide +kernel, by decide +kernel, rfl⟩
theorem aX4_begin_67 : dIl mX4_begin 67 1 68 := Or.inl ⟨1, by decide +kernel, rfl, rfl⟩
theorem aX4_begin_68 : dV mX4_begin 68 mX4_open 71 := ⟨110, by decide +kernel, rfl, dW_at 604 (by decide +kernel), by decide⟩
theorem aX4_begin_71 : dAl mX4_begin 71 0 72 := Or.inl ⟨0, by decide +kernel, rfl, rfl⟩
theorem aX4_begin_72 : dIl mX4_begin 72 1 73 := Or.inl ⟨1, by decide +kernel, rfl, rfl⟩
theorem aX4_begin_73 : dV mX4_begin 73 mX4_reach 76 := ⟨114, by decide +kernel, rfl, dW_at 609 (by decide +kernel), by decide⟩
theorem aX4_begin_76 : dk mX4_begin 76 .ireturn 1 77 := ⟨by decide +kernel, rfl⟩
theorem okX4_next : okM mX4_next := ⟨dW_at 628 (by decide +kernel), dW_at 31 (by decide +kernel), by decide +kernel, by decide +kernel, by decide +kernel, Or.inl ⟨dW_at 627 (by decide +kernel), dW_at 15 (by decide +kernel)⟩⟩
theorem aX4_next_0 : dKi mX4_next 0 ((-1)) 1 := Or.inl ⟨-1, by decide +kernel, by decide +kernel, rfl⟩
theorem aX4_next_1 : dIs mX4_next 1 3 2 := ⟨Or.inl ⟨3, by decide +kernel, rfl, rfl⟩, by decide⟩
theorem aX4_next_2 : dKi mX4_next 2 (nI 0) 3 := Or.inl ⟨0, by decide +kernel, by decide +kernel, rfl⟩
theorem aX4_next_3 : dIs mX4_next 3 4 5 := ⟨Or.inr ⟨by decide +kernel, rfl⟩, by decide⟩
theorem aX4_next_5 : dIl mX4_next 5 4 7 := Or.inr ⟨by decide +kernel, rfl⟩
theorem aX4_next_7 : dAl mX4_next 7 0 8 := Or.inl ⟨0, by decide +kernel, rfl, rfl⟩
theorem aX4_next_8 : dG mX4_next 8 4 12 11 := ⟨38, by decide +kernel, rfl, dW_at 497 (by decide +kernel), by decide⟩
theorem aX4_next_11 : dIl mX4_next 11 1 12 := Or.inl ⟨1, by decide +kernel, rfl, rfl⟩
theorem aX4_next_12 : dk mX4_next 12 .iaload 1 13 := ⟨by decide +kernel, rfl⟩
theorem aX4_next_13 : dC mX4_next 13 .ge 16 112 := ⟨99, by decide +kernel, by decide, rfl⟩
theorem aX4_next_16 : dKi mX4_next 16 (nI 60) 18 := Or.inr (Or.inl ⟨60, by decide +kernel, by decide +kernel, rfl⟩)
theorem aX4_next_18 : dIl mX4_next 18 1 19 := Or.inl ⟨1, by decide +kernel, rfl, rfl⟩
theorem aX4_next_19 : dk mX4_next 19 .imul 1 20 := ⟨by decide +kernel, rfl⟩
theorem aX4_next_20 : dIl mX4_next 20 4 22 := Or.inr ⟨by decide +kernel, rfl⟩
theorem aX4_next_22 : dk mX4_next 22 .iadd 1 23 := ⟨by decide +kernel, rfl⟩
theorem aX4_next_23 : dIs mX4_next 23 5 25 := ⟨Or.inr ⟨by decide +kernel, rfl⟩, by decide⟩
theorem aX4_next_25 : dKi mX4_next 25 (nI 60) 27 := Or.inr (Or.inl ⟨60, by decide +kernel, by decide +kernel, rfl⟩)
theorem aX4_next_27 : dIl mX4_next 27 1 28 := Or.inl ⟨1, by decide +kernel, rfl, rfl⟩
theorem aX4_next_28 : dk mX4_next 28 .imul 1 29 := ⟨by decide +kernel, rfl⟩
theorem aX4_next_29 : dIl mX4_next 29 3 30 := Or.inl ⟨3, by decide +kernel, rfl, rfl⟩
theorem aX4_next_30 : dk mX4_next 30 .iadd 1 31 := ⟨by decide +kernel, rfl⟩
theorem aX4_next_31 : dIs mX4_next 31 6 33 := ⟨Or.inr ⟨by decide +kernel, rfl⟩, by decide⟩
theorem aX4_next_33 : dIl mX4_next 33 3 34 := Or.inl ⟨3, by decide +kernel, rfl, rfl⟩
theorem aX4_next_34 : dKi mX4_next 34 ((-1)) 35 := Or.inl ⟨-1, by decide +kernel, by decide +kernel, rfl⟩
theorem aX4_next_35 : dC mX4_next 35 .eq 38 87 := ⟨52, by decide +kernel, by decide, rfl⟩
theorem aX4_next_38 : dIl mX4_next 38 2 39 := Or.inl ⟨2, by decide +kernel, rfl, rfl⟩
theorem aX4_next_39 : dKi mX4_next 39 (nI 2) 40 := Or.inl ⟨2, by decide +kernel, by decide +kernel, rfl⟩
theorem aX4_next_40 : dC mX4_next 40 .eq 43 87 := ⟨47, by decide +kernel, by decide, rfl⟩
theorem aX4_next_43 : dIl mX4_next 43 2 44 := Or.inl ⟨2, by decide +kernel, rfl, rfl⟩
theorem aX4_next_44 : dZ mX4_next 44 .ne 47 64 := ⟨20, by decide +kernel, by decide, rfl⟩
theorem aX4_next_47 : dAl mX4_next 47 0 48 := Or.inl ⟨0, by decide +kernel, rfl, rfl⟩
theorem aX4_next_48 : dG mX4_next 48 4 14 51 := ⟨44, by decide +kernel, rfl, dW_at 499 (by decide +kernel), by decide⟩
theorem aX4_next_51 : dIl mX4_next 51 5 53 := Or.inr ⟨by decide +kernel, rfl⟩
theorem aX4_next_53 : dk mX4_next 53 .iaload 1 54 := ⟨by decide +kernel, rfl⟩
theorem aX4_next_54 : dAl mX4_next 54 0 55 := Or.inl ⟨0, by decide +kernel, rfl, rfl⟩
theorem aX4_next_55 : dG mX4_next 55 4 14 58 := ⟨44, by decide +kernel, rfl, dW_at 499 (by decide +kernel), by decide⟩
theorem aX4_next_58 : dIl mX4_next 58 6 60 := Or.inr ⟨by decide +kernel, rfl⟩
theorem aX4_next_60 : dk mX4_next 60 .iaload 1 61 := ⟨by decide +kernel, rfl⟩
theorem aX4_next_61 : dC mX4_next 61 .lt 64 87 := ⟨26, by decide +kernel, by decide, rfl⟩
theorem aX4_next_64 : dIl mX4_next 64 2 65 := Or.inl ⟨2, by decide +kernel, rfl, rfl⟩
theorem aX4_next_65 : dKi mX4_next 65 (nI 1) 66 := Or.inl ⟨1, by decide +kernel, by decide +kernel, rfl⟩
theorem aX4_next_66 : dC mX4_next 66 .ne 69 91 := ⟨25, by decide +kernel, by decide, rfl⟩
theorem aX4_next_69 : dAl mX4_next 69 0 70 := Or.inl ⟨0, by decide +kernel, rfl, rfl⟩
theorem aX4_next_70 : dG mX4_next 70 4 15 73 := ⟨47, by decide +kernel, rfl, dW_at 500 (by decide +kernel), by decide⟩
theorem aX4_next_73 : dIl mX4_next 73 5 75 := Or.inr ⟨by decide +kernel, rfl⟩
theorem aX4_next_75 : dk mX4_next 75 .laload 1 76 := ⟨by decide +kernel, rfl⟩
theorem aX4_next_76 : dAl mX4_next 76 0 77 := Or.inl ⟨0, by decide +kernel, rfl, rfl⟩
theorem aX4_next_77 : dG mX4_next 77 4 15 80 := ⟨47, by decide +kernel, rfl, dW_at 500 (by decide +kernel), by decide⟩
theorem aX4_next_80 : dIl mX4_next 80 6 82 := Or.inr ⟨by decide +kernel, rfl⟩
theorem aX4_next_82 : dk mX4_next 82 .laload 1 83 := ⟨by decide +kernel, rfl⟩
theorem aX4_next_83 : dk mX4_next 83 .lcmp 1 84 := ⟨by decide +kernel, rfl⟩
theorem aX4_next_84 : dZ mX4_next 84 .le 87 91 := ⟨7, by decide +kernel, by decide, rfl⟩
theorem aX4_next_87 : dKi mX4_next 87 (nI 1) 88 := Or.inl ⟨1, by decide +kernel, by decide +kernel, rfl⟩
theorem aX4_next_88 : dJ mX4_next 88 92 := ⟨4, by decide +kernel, by decide⟩
theorem aX4_next_91 : dKi mX4_next 91 (nI 0) 92 := Or.inl ⟨0, by decide +kernel, by decide +kernel, rfl⟩
theorem aX4_next_92 : dIs mX4_next 92 7 94 := ⟨Or.inr ⟨by decide +kernel, rfl⟩, by decide⟩
theorem aX4_next_94 : dIl mX4_next 94 7 96 := Or.inr ⟨by decide +kernel, rfl⟩
theorem aX4_next_96 : dZ mX4_next 96 .eq 99 104 := ⟨8, by decide +kernel, by decide, rfl⟩
theorem aX4_next_99 : dIl mX4_next 99 4 101 := Or.inr ⟨by decide +kernel, rfl⟩
theorem aX4_next_101 : dJ mX4_next 101 105 := ⟨4, by decide +kernel, by decide⟩
theorem aX4_next_104 : dIl mX4_next 104 3 105 := Or.inl ⟨3, by decide +kernel, rfl, rfl⟩
theorem aX4_next_105 : dIs mX4_next 105 3 106 := ⟨Or.inl ⟨3, by decide +kernel, rfl, rfl⟩, by decide⟩
theorem aX4_next_106 : dIn mX4_next 106 4 (nI 1) 109 := ⟨1, by decide +kernel, by decide +kernel, rfl, by decide⟩
theorem aX4_next_109 : dJ mX4_next 109 5 := ⟨-104, by decide +kernel, by decide⟩
theorem aX4_next_112 : dIl mX4_next 112 3 113 := Or.inl ⟨3, by decide +kernel, rfl, rfl⟩
theorem aX4_next_113 : dk mX4_next 113 .ireturn 1 114 := ⟨by decide +kernel, rfl⟩
theorem okX4_share : okM mX4_share := ⟨dW_at 638 (by decide +kernel), dW_at 31 (by decide +kernel), by decide +kernel, by decide +kernel, by decide +kernel, Or.inl ⟨dW_at 637 (by decide +kernel), dW_at 17 (by decide +kernel)⟩⟩
theorem aX4_share_0 : dLl mX4_share 0 3 1 := Or.inl ⟨3, by decide +kernel, rfl, rfl⟩
theorem aX4_share_1 : dLl mX4_share 1 7 3 := Or.inr ⟨by decide +kernel, rfl⟩
theorem aX4_share_3 : dk mX4_share 3 .ldiv 1 4 := ⟨by decide +kernel, rfl⟩
theorem aX4_share_4 : dLl mX4_share 4 5 6 := Or.inr ⟨by decide +kernel, rfl⟩
theorem aX4_share_6 : dk mX4_share 6 .lmul 1 7 := ⟨by decide +kernel, rfl⟩
theorem aX4_share_7 : dLl mX4_share 7 3 8 := Or.inl ⟨3, by decide +kernel, rfl, rfl⟩
theorem aX4_share_8 : dLl mX4_share 8 7 10 := Or.inr ⟨by decide +kernel, rfl⟩
theorem aX4_share_10 : dk mX4_share 10 .lrem 1 11 := ⟨by decide +kernel, rfl⟩
theorem aX4_share_11 : dLl mX4_share 11 5 13 := Or.inr ⟨by decide +kernel, rfl⟩
theorem aX4_share_13 : dk mX4_share 13 .lmul 1 14 := ⟨by decide +kernel, rfl⟩
theorem aX4_share_14 : dLl mX4_share 14 7 16 := Or.inr ⟨by decide +kernel, rfl⟩
theorem aX4_share_16 : dk mX4_share 16 .ldiv 1 17 := ⟨by decide +kernel, rfl⟩
theorem aX4_share_17 : dk mX4_share 17 .ladd 1 18 := ⟨by decide +kernel, rfl⟩
theorem aX4_share_18 : dLs mX4_share 18 9 20 := ⟨Or.inr ⟨by decide +kernel, rfl⟩, by decide⟩
theorem aX4_share_20 : dLl mX4_share 20 9 22 := Or.inr ⟨by decide +kernel, rfl⟩
theorem aX4_share_22 : dKl mX4_share 22 (lN 0) 23 := Or.inl ⟨0, by decide +kernel, rfl, rfl⟩
theorem aX4_share_23 : dk mX4_share 23 .lcmp 1 24 := ⟨by decide +kernel, rfl⟩
theorem aX4_share_24 : dZ mX4_share 24 .le 27 68 := ⟨44, by decide +kernel, by decide, rfl⟩
theorem aX4_share_27 : dAl mX4_share 27 0 28 := Or.inl ⟨0, by decide +kernel, rfl, rfl⟩
theorem aX4_share_28 : dG mX4_share 28 4 22 31 := ⟨63, by decide +kernel, rfl, dW_at 507 (by decide +kernel), by decide⟩
theorem aX4_share_31 : dAl mX4_share 31 0 32 := Or.inl ⟨0, by decide +kernel, rfl, rfl⟩
theorem aX4_share_32 : dG mX4_share 32 4 21 35 := ⟨117, by decide +kernel, rfl, dW_at 506 (by decide +kernel), by decide⟩
theorem aX4_share_35 : dIl mX4_share 35 1 36 := Or.inl ⟨1, by decide +kernel, rfl, rfl⟩
theorem aX4_share_36 : dk mX4_share 36 .iastore 1 37 := ⟨by decide +kernel, rfl⟩
theorem aX4_share_37 : dAl mX4_share 37 0 38 := Or.inl ⟨0, by decide +kernel, rfl, rfl⟩
theorem aX4_share_38 : dG mX4_share 38 4 23 41 := ⟨66, by decide +kernel, rfl, dW_at 508 (by decide +kernel), by decide⟩
theorem aX4_share_41 : dAl mX4_share 41 0 42 := Or.inl ⟨0, by decide +kernel, rfl, rfl⟩
theorem aX4_share_42 : dG mX4_share 42 4 21 45 := ⟨117, by decide +kernel, rfl, dW_at 506 (by decide +kernel), by decide⟩
theorem aX4_share_45 : dIl mX4_share 45 2 46 := Or.inl ⟨2, by decide +kernel, rfl, rfl⟩
theorem aX4_share_46 : dk mX4_share 46 .iastore 1 47 := ⟨by decide +kernel, rfl⟩
theorem aX4_share_47 : dAl mX4_share 47 0 48 := Or.inl ⟨0, by decide +kernel, rfl, rfl⟩
theorem aX4_share_48 : dG mX4_share 48 4 24 51 := ⟨69, by decide +kernel, rfl, dW_at 509 (by decide +kernel), by decide⟩
theorem aX4_share_51 : dAl mX4_share 51 0 52 := Or.inl ⟨0, by decide +kernel, rfl, rfl⟩
theorem aX4_share_52 : dG mX4_share 52 4 21 55 := ⟨117, by decide +kernel, rfl, dW_at 506 (by decide +kernel), by decide⟩
theorem aX4_share_55 : dLl mX4_share 55 9 57 := Or.inr ⟨by decide +kernel, rfl⟩
theorem aX4_share_57 : dk mX4_share 57 .lastore 1 58 := ⟨by decide +kernel, rfl⟩
theorem aX4_share_58 : dAl mX4_share 58 0 59 := Or.inl ⟨0, by decide +kernel, rfl, rfl⟩
theorem aX4_share_59 : dk mX4_share 59 .dup 1 60 := ⟨by decide +kernel, rfl⟩
theorem aX4_share_60 : dG mX4_share 60 4 21 63 := ⟨117, by decide +kernel, rfl, dW_at 506 (by decide +kernel), by decide⟩
theorem aX4_share_63 : dKi mX4_share 63 (nI 1) 64 := Or.inl ⟨1, by decide +kernel, by decide +kernel, rfl⟩
theorem aX4_share_64 : dk mX4_share 64 .iadd 1 65 := ⟨by decide +kernel, rfl⟩
theorem aX4_share_65 : dP mX4_share 65 4 21 68 := ⟨117, by decide +kernel, rfl, dW_at 506 (by decide +kernel), by decide⟩
theorem aX4_share_68 : dk mX4_share 68 .return_ 1 69 := ⟨by decide +kernel, rfl⟩
theorem okX4_lay : okM mX4_lay := ⟨dW_at 632 (by decide +kernel), dW_at 31 (by decide +kernel), by decide +kernel, by decide +kernel, by decide +kernel, Or.inl ⟨dW_at 631 (by decide +kernel), dW_at 16 (by decide +kernel)⟩⟩
theorem aX4_lay_0 : dAl mX4_lay 0 0 1 := Or.inl ⟨0, by decide +kernel, rfl, rfl⟩
theorem aX4_lay_1 : dKi mX4_lay 1 (nI 0) 2 := Or.inl ⟨0, by decide +kernel, by decide +kernel, rfl⟩
theorem aX4_lay_2 : dP mX4_lay 2 4 21 5 := ⟨117, by decide +kernel, rfl, dW_at 506 (by decide +kernel), by decide⟩
theorem aX4_lay_5 : dAl mX4_lay 5 0 6 := Or.inl ⟨0, by decide +kernel, rfl, rfl⟩
theorem aX4_lay_6 : dG mX4_lay 6 4 6 9 := ⟨25, by decide +kernel, rfl, dW_at 491 (by decide +kernel), by decide⟩
theorem aX4_lay_9 : dIl mX4_lay 9 1 10 := Or.inl ⟨1, by decide +kernel, rfl, rfl⟩
theorem aX4_lay_10 : dk mX4_lay 10 .iaload 1 11 := ⟨by decide +kernel, rfl⟩
theorem aX4_lay_11 : dIs mX4_lay 11 5 13 := ⟨Or.inr ⟨by decide +kernel, rfl⟩, by decide⟩
theorem aX4_lay_13 : dIl mX4_lay 13 5 15 := Or.inr ⟨by decide +kernel, rfl⟩
theorem aX4_lay_15 : dKi mX4_lay 15 ((-1)) 16 := Or.inl ⟨-1, by decide +kernel, by decide +kernel, rfl⟩
theorem aX4_lay_16 : dC mX4_lay 16 .ne 19 23 := ⟨7, by decide +kernel, by decide, rfl⟩
theorem aX4_lay_19 : dKi mX4_lay 19 (nI 0) 20 := Or.inl ⟨0, by decide +kernel, by decide +kernel, rfl⟩
theorem aX4_lay_20 : dJ mX4_lay 20 35 := ⟨15, by decide +kernel, by decide⟩
theorem aX4_lay_23 : dAl mX4_lay 23 0 24 := Or.inl ⟨0, by decide +kernel, rfl, rfl⟩
theorem aX4_lay_24 : dG mX4_lay 24 4 4 27 := ⟨19, by decide +kernel, rfl, dW_at 489 (by decide +kernel), by decide⟩
theorem aX4_lay_27 : dAl mX4_lay 27 0 28 := Or.inl ⟨0, by decide +kernel, rfl, rfl⟩
theorem aX4_lay_28 : dIl mX4_lay 28 1 29 := Or.inl ⟨1, by decide +kernel, rfl, rfl⟩
theorem aX4_lay_29 : dIl mX4_lay 29 5 31 := Or.inr ⟨by decide +kernel, rfl⟩
theorem aX4_lay_31 : dV mX4_lay 31 mX4_arrowOf 34 := ⟨91, by decide +kernel, rfl, dW_at 580 (by decide +kernel), by decide⟩
theorem aX4_lay_34 : dk mX4_lay 34 .iaload 1 35 := ⟨by decide +kernel, rfl⟩
theorem aX4_lay_35 : dIs mX4_lay 35 6 37 := ⟨Or.inr ⟨by decide +kernel, rfl⟩, by decide⟩
theorem aX4_lay_37 : dIl mX4_lay 37 5 39 := Or.inr ⟨by decide +kernel, rfl⟩
theorem aX4_lay_39 : dKi mX4_lay 39 ((-1)) 40 := Or.inl ⟨-1, by decide +kernel, by decide +kernel, rfl⟩
theorem aX4_lay_40 : dC mX4_lay 40 .eq 43 53 := ⟨13, by decide +kernel, by decide, rfl⟩
theorem aX4_lay_43 : dIl mX4_lay 43 5 45 := Or.inr ⟨by decide +kernel, rfl⟩
theorem aX4_lay_45 : dIl mX4_lay 45 1 46 := Or.inl ⟨1, by decide +kernel, rfl, rfl⟩
theorem aX4_lay_46 : dC mX4_lay 46 .eq 49 53 := ⟨7, by decide +kernel, by decide, rfl⟩
theorem aX4_lay_49 : dKi mX4_lay 49 (nI 1) 50 := Or.inl ⟨1, by decide +kernel, by decide +kernel, rfl⟩
theorem aX4_lay_50 : dJ mX4_lay 50 54 := ⟨4, by decide +kernel, by decide⟩
theorem aX4_lay_53 : dKi mX4_lay 53 (nI 0) 54 := Or.inl ⟨0, by decide +kernel, by decide +kernel, rfl⟩
theorem aX4_lay_54 : dIs mX4_lay 54 7 56 := ⟨Or.inr ⟨by decide +kernel, rfl⟩, by decide⟩
theorem aX4_lay_56 : dIl mX4_lay 56 7 58 := Or.inr ⟨by decide +kernel, rfl⟩
theorem aX4_lay_58 : dZ mX4_lay 58 .eq 61 76 := ⟨18, by decide +kernel, by decide, rfl⟩
theorem aX4_lay_61 : dAl mX4_lay 61 0 62 := Or.inl ⟨0, by decide +kernel, rfl, rfl⟩
theorem aX4_lay_62 : dG mX4_lay 62 4 4 65 := ⟨19, by decide +kernel, rfl, dW_at 489 (by decide +kernel), by decide⟩
theorem aX4_lay_65 : dAl mX4_lay 65 0 66 := Or.inl ⟨0, by decide +kernel, rfl, rfl⟩
theorem aX4_lay_66 : dIl mX4_lay 66 5 68 := Or.inr ⟨by decide +kernel, rfl⟩
theorem aX4_lay_68 : dIl mX4_lay 68 1 69 := Or.inl ⟨1, by decide +kernel, rfl, rfl⟩
theorem aX4_lay_69 : dV mX4_lay 69 mX4_arrowOf 72 := ⟨91, by decide +kernel, rfl, dW_at 580 (by decide +kernel), by decide⟩
theorem aX4_lay_72 : dk mX4_lay 72 .iaload 1 73 := ⟨by decide +kernel, rfl⟩
theorem aX4_lay_73 : dJ mX4_lay 73 77 := ⟨4, by decide +kernel, by decide⟩
theorem aX4_lay_76 : dKi mX4_lay 76 (nI 0) 77 := Or.inl ⟨0, by decide +kernel, by decide +kernel, rfl⟩
theorem aX4_lay_77 : dIs mX4_lay 77 8 79 := ⟨Or.inr ⟨by decide +kernel, rfl⟩, by decide⟩
theorem aX4_lay_79 : dIl mX4_lay 79 7 81 := Or.inr ⟨by decide +kernel, rfl⟩
theorem aX4_lay_81 : dZ mX4_lay 81 .eq 84 97 := ⟨16, by decide +kernel, by decide, rfl⟩
theorem aX4_lay_84 : dKl mX4_lay 84 (lN 256) 87 := Or.inr ⟨120, by decide +kernel, dW_at 633 (by decide +kernel), rfl⟩
theorem aX4_lay_87 : dIl mX4_lay 87 6 89 := Or.inr ⟨by decide +kernel, rfl⟩
theorem aX4_lay_89 : dIl mX4_lay 89 8 91 := Or.inr ⟨by decide +kernel, rfl⟩
theorem aX4_lay_91 : dk mX4_lay 91 .imul 1 92 := ⟨by decide +kernel, rfl⟩
theorem aX4_lay_92 : dk mX4_lay 92 .i2l 1 93 := ⟨by decide +kernel, rfl⟩
theorem aX4_lay_93 : dk mX4_lay 93 .lsub 1 94 := ⟨by decide +kernel, rfl⟩
theorem aX4_lay_94 : dJ mX4_lay 94 104 := ⟨10, by decide +kernel, by decide⟩
theorem aX4_lay_97 : dKl mX4_lay 97 (lN 16) 100 := Or.inr ⟨122, by decide +kernel, dW_at 634 (by decide +kernel), rfl⟩
theorem aX4_lay_100 : dIl mX4_lay 100 6 102 := Or.inr ⟨by decide +kernel, rfl⟩
theorem aX4_lay_102 : dk mX4_lay 102 .i2l 1 103 := ⟨by decide +kernel, rfl⟩
theorem aX4_lay_103 : dk mX4_lay 103 .lsub 1 104 := ⟨by decide +kernel, rfl⟩
theorem aX4_lay_104 : dLs mX4_lay 104 9 106 := ⟨Or.inr ⟨by decide +kernel, rfl⟩, by decide⟩
theorem aX4_lay_106 : dKi mX4_lay 106 (nI 0) 107 := Or.inl ⟨0, by decide +kernel, by decide +kernel, rfl⟩
theorem aX4_lay_107 : dIs mX4_lay 107 11 109 := ⟨Or.inr ⟨by decide +kernel, rfl⟩, by decide⟩
theorem aX4_lay_109 : dIl mX4_lay 109 11 111 := Or.inr ⟨by decide +kernel, rfl⟩
theorem aX4_lay_111 : dAl mX4_lay 111 0 112 := Or.inl ⟨0, by decide +kernel, rfl, rfl⟩
theorem aX4_lay_112 : dG mX4_lay 112 4 2 115 := ⟨13, by decide +kernel, rfl, dW_at 487 (by decide +kernel), by decide⟩
theorem aX4_lay_115 : dIl mX4_lay 115 1 116 := Or.inl ⟨1, by decide +kernel, rfl, rfl⟩
theorem aX4_lay_116 : dk mX4_lay 116 .iaload 1 117 := ⟨by decide +kernel, rfl⟩
theorem aX4_lay_117 : dC mX4_lay 117 .ge 120 185 := ⟨68, by decide +kernel, by decide, rfl⟩
theorem aX4_lay_120 : dAl mX4_lay 120 0 121 := Or.inl ⟨0, by decide +kernel, rfl, rfl⟩
theorem aX4_lay_121 : dG mX4_lay 121 4 3 124 := ⟨16, by decide +kernel, rfl, dW_at 488 (by decide +kernel), by decide⟩
theorem aX4_lay_124 : dKi mX4_lay 124 (nI 20) 126 := Or.inr (Or.inl ⟨20, by decide +kernel, by decide +kernel, rfl⟩)
theorem aX4_lay_126 : dIl mX4_lay 126 1 127 := Or.inl ⟨1, by decide +kernel, rfl, rfl⟩
theorem aX4_lay_127 : dk mX4_lay 127 .imul 1 128 := ⟨by decide +kernel, rfl⟩
theorem aX4_lay_128 : dIl mX4_lay 128 11 130 := Or.inr ⟨by decide +kernel, rfl⟩
theorem aX4_lay_130 : dk mX4_lay 130 .iadd 1 131 := ⟨by decide +kernel, rfl⟩
theorem aX4_lay_131 : dk mX4_lay 131 .iaload 1 132 := ⟨by decide +kernel, rfl⟩
theorem aX4_lay_132 : dIs mX4_lay 132 12 134 := ⟨Or.inr ⟨by decide +kernel, rfl⟩, by decide⟩
theorem aX4_lay_134 : dIl mX4_lay 134 12 136 := Or.inr ⟨by decide +kernel, rfl⟩
theorem aX4_lay_136 : dIl mX4_lay 136 5 138 := Or.inr ⟨by decide +kernel, rfl⟩
theorem aX4_lay_138 : dC mX4_lay 138 .eq 141 179 := ⟨41, by decide +kernel, by decide, rfl⟩
theorem aX4_lay_141 : dAl mX4_lay 141 0 142 := Or.inl ⟨0, by decide +kernel, rfl, rfl⟩
theorem aX4_lay_142 : dIl mX4_lay 142 12 144 := Or.inr ⟨by decide +kernel, rfl⟩
theorem aX4_lay_144 : dIl mX4_lay 144 2 145 := Or.inl ⟨2, by decide +kernel, rfl, rfl⟩
theorem aX4_lay_145 : dKi mX4_lay 145 (nI 1) 146 := Or.inl ⟨1, by decide +kernel, by decide +kernel, rfl⟩
theorem aX4_lay_146 : dk mX4_lay 146 .iadd 1 147 := ⟨by decide +kernel, rfl⟩
theorem aX4_lay_147 : dLl mX4_lay 147 3 148 := Or.inl ⟨3, by decide +kernel, rfl, rfl⟩
theorem aX4_lay_148 : dIl mX4_lay 148 7 150 := Or.inr ⟨by decide +kernel, rfl⟩
theorem aX4_lay_150 : dZ mX4_lay 150 .eq 153 159 := ⟨9, by decide +kernel, by decide, rfl⟩
theorem aX4_lay_153 : dKl mX4_lay 153 (lN 16) 156 := Or.inr ⟨122, by decide +kernel, dW_at 634 (by decide +kernel), rfl⟩
theorem aX4_lay_156 : dJ mX4_lay 156 160 := ⟨4, by decide +kernel, by decide⟩
theorem aX4_lay_159 : dKl mX4_lay 159 (lN 1) 160 := Or.inl ⟨1, by decide +kernel, rfl, rfl⟩
theorem aX4_lay_160 : dAl mX4_lay 160 0 161 := Or.inl ⟨0, by decide +kernel, rfl, rfl⟩
theorem aX4_lay_161 : dG mX4_lay 161 4 4 164 := ⟨19, by decide +kernel, rfl, dW_at 489 (by decide +kernel), by decide⟩
theorem aX4_lay_164 : dKi mX4_lay 164 (nI 20) 166 := Or.inr (Or.inl ⟨20, by decide +kernel, by decide +kernel, rfl⟩)
theorem aX4_lay_166 : dIl mX4_lay 166 1 167 := Or.inl ⟨1, by decide +kernel, rfl, rfl⟩
theorem aX4_lay_167 : dk mX4_lay 167 .imul 1 168 := ⟨by decide +kernel, rfl⟩
theorem aX4_lay_168 : dIl mX4_lay 168 11 170 := Or.inr ⟨by decide +kernel, rfl⟩
theorem aX4_lay_170 : dk mX4_lay 170 .iadd 1 171 := ⟨by decide +kernel, rfl⟩
theorem aX4_lay_171 : dk mX4_lay 171 .iaload 1 172 := ⟨by decide +kernel, rfl⟩
theorem aX4_lay_172 : dk mX4_lay 172 .i2l 1 173 := ⟨by decide +kernel, rfl⟩
theorem aX4_lay_173 : dk mX4_lay 173 .lmul 1 174 := ⟨by decide +kernel, rfl⟩
theorem aX4_lay_174 : dLl mX4_lay 174 9 176 := Or.inr ⟨by decide +kernel, rfl⟩
theorem aX4_lay_176 : dV mX4_lay 176 mX4_share 179 := ⟨124, by decide +kernel, rfl, dW_at 635 (by decide +kernel), by decide⟩
theorem aX4_lay_179 : dIn mX4_lay 179 11 (nI 1) 182 := ⟨1, by decide +kernel, by decide +kernel, rfl, by decide⟩
theorem aX4_lay_182 : dJ mX4_lay 182 109 := ⟨-73, by decide +kernel, by decide⟩
theorem aX4_lay_185 : dKi mX4_lay 185 (nI 0) 186 := Or.inl ⟨0, by decide +kernel, by decide +kernel, rfl⟩
theorem aX4_lay_186 : dIs mX4_lay 186 11 188 := ⟨Or.inr ⟨by decide +kernel, rfl⟩, by decide⟩
theorem aX4_lay_188 : dIl mX4_lay 188 7 190 := Or.inr ⟨by decide +kernel, rfl⟩
theorem aX4_lay_190 : dZ mX4_lay 190 .eq 193 275 := ⟨85, by decide +kernel, by decide, rfl⟩
theorem aX4_lay_193 : dIl mX4_lay 193 11 195 := Or.inr ⟨by decide +kernel, rfl⟩
theorem aX4_lay_195 : dAl mX4_lay 195 0 196 := Or.inl ⟨0, by decide +kernel, rfl, rfl⟩
theorem aX4_lay_196 : dG mX4_lay 196 4 2 199 := ⟨13, by decide +kernel, rfl, dW_at 487 (by decide +kernel), by decide⟩
theorem aX4_lay_199 : dIl mX4_lay 199 5 201 := Or.inr ⟨by decide +kernel, rfl⟩
theorem aX4_lay_201 : dk mX4_lay 201 .iaload 1 202 := ⟨by decide +kernel, rfl⟩
theorem aX4_lay_202 : dC mX4_lay 202 .ge 205 275 := ⟨73, by decide +kernel, by decide, rfl⟩
theorem aX4_lay_205 : dAl mX4_lay 205 0 206 := Or.inl ⟨0, by decide +kernel, rfl, rfl⟩
theorem aX4_lay_206 : dG mX4_lay 206 4 3 209 := ⟨16, by decide +kernel, rfl, dW_at 488 (by decide +kernel), by decide⟩
theorem aX4_lay_209 : dKi mX4_lay 209 (nI 20) 211 := Or.inr (Or.inl ⟨20, by decide +kernel, by decide +kernel, rfl⟩)
theorem aX4_lay_211 : dIl mX4_lay 211 5 213 := Or.inr ⟨by decide +kernel, rfl⟩
theorem aX4_lay_213 : dk mX4_lay 213 .imul 1 214 := ⟨by decide +kernel, rfl⟩
theorem aX4_lay_214 : dIl mX4_lay 214 11 216 := Or.inr ⟨by decide +kernel, rfl⟩
theorem aX4_lay_216 : dk mX4_lay 216 .iadd 1 217 := ⟨by decide +kernel, rfl⟩
theorem aX4_lay_217 : dk mX4_lay 217 .iaload 1 218 := ⟨by decide +kernel, rfl⟩
theorem aX4_lay_218 : dIs mX4_lay 218 12 220 := ⟨Or.inr ⟨by decide +kernel, rfl⟩, by decide⟩
theorem aX4_lay_220 : dIl mX4_lay 220 12 222 := Or.inr ⟨by decide +kernel, rfl⟩
theorem aX4_lay_222 : dIl mX4_lay 222 1 223 := Or.inl ⟨1, by decide +kernel, rfl, rfl⟩
theorem aX4_lay_223 : dC mX4_lay 223 .eq 226 269 := ⟨46, by decide +kernel, by decide, rfl⟩
theorem aX4_lay_226 : dAl mX4_lay 226 0 227 := Or.inl ⟨0, by decide +kernel, rfl, rfl⟩
theorem aX4_lay_227 : dIl mX4_lay 227 12 229 := Or.inr ⟨by decide +kernel, rfl⟩
theorem aX4_lay_229 : dIl mX4_lay 229 2 230 := Or.inl ⟨2, by decide +kernel, rfl, rfl⟩
theorem aX4_lay_230 : dKi mX4_lay 230 (nI 2) 231 := Or.inl ⟨2, by decide +kernel, by decide +kernel, rfl⟩
theorem aX4_lay_231 : dk mX4_lay 231 .iadd 1 232 := ⟨by decide +kernel, rfl⟩
theorem aX4_lay_232 : dKi mX4_lay 232 (nI 40) 234 := Or.inr (Or.inl ⟨40, by decide +kernel, by decide +kernel, rfl⟩)
theorem aX4_lay_234 : dC mX4_lay 234 .le 237 242 := ⟨8, by decide +kernel, by decide, rfl⟩
theorem aX4_lay_237 : dKi mX4_lay 237 (nI 40) 239 := Or.inr (Or.inl ⟨40, by decide +kernel, by decide +kernel, rfl⟩)
theorem aX4_lay_239 : dJ mX4_lay 239 245 := ⟨6, by decide +kernel, by decide⟩
theorem aX4_lay_242 : dIl mX4_lay 242 2 243 := Or.inl ⟨2, by decide +kernel, rfl, rfl⟩
theorem aX4_lay_243 : dKi mX4_lay 243 (nI 2) 244 := Or.inl ⟨2, by decide +kernel, by decide +kernel, rfl⟩
theorem aX4_lay_244 : dk mX4_lay 244 .iadd 1 245 := ⟨by decide +kernel, rfl⟩
theorem aX4_lay_245 : dLl mX4_lay 245 3 246 := Or.inl ⟨3, by decide +kernel, rfl, rfl⟩
theorem aX4_lay_246 : dIl mX4_lay 246 6 248 := Or.inr ⟨by decide +kernel, rfl⟩
theorem aX4_lay_248 : dk mX4_lay 248 .i2l 1 249 := ⟨by decide +kernel, rfl⟩
theorem aX4_lay_249 : dAl mX4_lay 249 0 250 := Or.inl ⟨0, by decide +kernel, rfl, rfl⟩
theorem aX4_lay_250 : dG mX4_lay 250 4 4 253 := ⟨19, by decide +kernel, rfl, dW_at 489 (by decide +kernel), by decide⟩
theorem aX4_lay_253 : dKi mX4_lay 253 (nI 20) 255 := Or.inr (Or.inl ⟨20, by decide +kernel, by decide +kernel, rfl⟩)
theorem aX4_lay_255 : dIl mX4_lay 255 5 257 := Or.inr ⟨by decide +kernel, rfl⟩
theorem aX4_lay_257 : dk mX4_lay 257 .imul 1 258 := ⟨by decide +kernel, rfl⟩
theorem aX4_lay_258 : dIl mX4_lay 258 11 260 := Or.inr ⟨by decide +kernel, rfl⟩
theorem aX4_lay_260 : dk mX4_lay 260 .iadd 1 261 := ⟨by decide +kernel, rfl⟩
theorem aX4_lay_261 : dk mX4_lay 261 .iaload 1 262 := ⟨by decide +kernel, rfl⟩
theorem aX4_lay_262 : dk mX4_lay 262 .i2l 1 263 := ⟨by decide +kernel, rfl⟩
theorem aX4_lay_263 : dk mX4_lay 263 .lmul 1 264 := ⟨by decide +kernel, rfl⟩
theorem aX4_lay_264 : dLl mX4_lay 264 9 266 := Or.inr ⟨by decide +kernel, rfl⟩
theorem aX4_lay_266 : dV mX4_lay 266 mX4_share 269 := ⟨124, by decide +kernel, rfl, dW_at 635 (by decide +kernel), by decide⟩
theorem aX4_lay_269 : dIn mX4_lay 269 11 (nI 1) 272 := ⟨1, by decide +kernel, by decide +kernel, rfl, by decide⟩
theorem aX4_lay_272 : dJ mX4_lay 272 188 := ⟨-84, by decide +kernel, by decide⟩
theorem aX4_lay_275 : dk mX4_lay 275 .return_ 1 276 := ⟨by decide +kernel, rfl⟩
theorem okX4_alike : okM mX4_alike := ⟨dW_at 646 (by decide +kernel), dW_at 31 (by decide +kernel), by decide +kernel, by decide +kernel, by decide +kernel, Or.inl ⟨dW_at 645 (by decide +kernel), dW_at 19 (by decide +kernel)⟩⟩
theorem aX4_alike_0 : dKi mX4_alike 0 (nI 0) 1 := Or.inl ⟨0, by decide +kernel, by decide +kernel, rfl⟩
theorem aX4_alike_1 : dIs mX4_alike 1 5 3 := ⟨Or.inr ⟨by decide +kernel, rfl⟩, by decide⟩
theorem aX4_alike_3 : dAl mX4_alike 3 0 4 := Or.inl ⟨0, by decide +kernel, rfl, rfl⟩
theorem aX4_alike_4 : dG mX4_alike 4 4 8 7 := ⟨98, by decide +kernel, rfl, dW_at 493 (by decide +kernel), by decide⟩
theorem aX4_alike_7 : dZ mX4_alike 7 .eq 10 74 := ⟨67, by decide +kernel, by decide, rfl⟩
theorem aX4_alike_10 : dIl mX4_alike 10 5 12 := Or.inr ⟨by decide +kernel, rfl⟩
theorem aX4_alike_12 : dAl mX4_alike 12 0 13 := Or.inl ⟨0, by decide +kernel, rfl, rfl⟩
theorem aX4_alike_13 : dG mX4_alike 13 4 12 16 := ⟨38, by decide +kernel, rfl, dW_at 497 (by decide +kernel), by decide⟩
theorem aX4_alike_16 : dIl mX4_alike 16 1 17 := Or.inl ⟨1, by decide +kernel, rfl, rfl⟩
theorem aX4_alike_17 : dk mX4_alike 17 .iaload 1 18 := ⟨by decide +kernel, rfl⟩
theorem aX4_alike_18 : dC mX4_alike 18 .ge 21 74 := ⟨56, by decide +kernel, by decide, rfl⟩
theorem aX4_alike_21 : dIl mX4_alike 21 5 23 := Or.inr ⟨by decide +kernel, rfl⟩
theorem aX4_alike_23 : dIl mX4_alike 23 4 25 := Or.inr ⟨by decide +kernel, rfl⟩
theorem aX4_alike_25 : dC mX4_alike 25 .eq 28 68 := ⟨43, by decide +kernel, by decide, rfl⟩
theorem aX4_alike_28 : dAl mX4_alike 28 0 29 := Or.inl ⟨0, by decide +kernel, rfl, rfl⟩
theorem aX4_alike_29 : dG mX4_alike 29 4 13 32 := ⟨41, by decide +kernel, rfl, dW_at 498 (by decide +kernel), by decide⟩
theorem aX4_alike_32 : dKi mX4_alike 32 (nI 60) 34 := Or.inr (Or.inl ⟨60, by decide +kernel, by decide +kernel, rfl⟩)
theorem aX4_alike_34 : dIl mX4_alike 34 1 35 := Or.inl ⟨1, by decide +kernel, rfl, rfl⟩
theorem aX4_alike_35 : dk mX4_alike 35 .imul 1 36 := ⟨by decide +kernel, rfl⟩
theorem aX4_alike_36 : dIl mX4_alike 36 5 38 := Or.inr ⟨by decide +kernel, rfl⟩
theorem aX4_alike_38 : dk mX4_alike 38 .iadd 1 39 := ⟨by decide +kernel, rfl⟩
theorem aX4_alike_39 : dk mX4_alike 39 .iaload 1 40 := ⟨by decide +kernel, rfl⟩
theorem aX4_alike_40 : dIl mX4_alike 40 2 41 := Or.inl ⟨2, by decide +kernel, rfl, rfl⟩
theorem aX4_alike_41 : dC mX4_alike 41 .ne 44 68 := ⟨27, by decide +kernel, by decide, rfl⟩
theorem aX4_alike_44 : dAl mX4_alike 44 0 45 := Or.inl ⟨0, by decide +kernel, rfl, rfl⟩
theorem aX4_alike_45 : dG mX4_alike 45 4 14 48 := ⟨44, by decide +kernel, rfl, dW_at 499 (by decide +kernel), by decide⟩
theorem aX4_alike_48 : dKi mX4_alike 48 (nI 60) 50 := Or.inr (Or.inl ⟨60, by decide +kernel, by decide +kernel, rfl⟩)
theorem aX4_alike_50 : dIl mX4_alike 50 1 51 := Or.inl ⟨1, by decide +kernel, rfl, rfl⟩
theorem aX4_alike_51 : dk mX4_alike 51 .imul 1 52 := ⟨by decide +kernel, rfl⟩
theorem aX4_alike_52 : dIl mX4_alike 52 5 54 := Or.inr ⟨by decide +kernel, rfl⟩
theorem aX4_alike_54 : dk mX4_alike 54 .iadd 1 55 := ⟨by decide +kernel, rfl⟩
theorem aX4_alike_55 : dk mX4_alike 55 .iaload 1 56 := ⟨by decide +kernel, rfl⟩
theorem aX4_alike_56 : dIl mX4_alike 56 3 57 := Or.inl ⟨3, by decide +kernel, rfl, rfl⟩
theorem aX4_alike_57 : dC mX4_alike 57 .ne 60 68 := ⟨11, by decide +kernel, by decide, rfl⟩
theorem aX4_alike_60 : dKi mX4_alike 60 (nI 60) 62 := Or.inr (Or.inl ⟨60, by decide +kernel, by decide +kernel, rfl⟩)
theorem aX4_alike_62 : dIl mX4_alike 62 1 63 := Or.inl ⟨1, by decide +kernel, rfl, rfl⟩
theorem aX4_alike_63 : dk mX4_alike 63 .imul 1 64 := ⟨by decide +kernel, rfl⟩
theorem aX4_alike_64 : dIl mX4_alike 64 5 66 := Or.inr ⟨by decide +kernel, rfl⟩
theorem aX4_alike_66 : dk mX4_alike 66 .iadd 1 67 := ⟨by decide +kernel, rfl⟩
theorem aX4_alike_67 : dk mX4_alike 67 .ireturn 1 68 := ⟨by decide +kernel, rfl⟩
theorem aX4_alike_68 : dIn mX4_alike 68 5 (nI 1) 71 := ⟨1, by decide +kernel, by decide +kernel, rfl, by decide⟩
theorem aX4_alike_71 : dJ mX4_alike 71 3 := ⟨-68, by decide +kernel, by decide⟩
theorem aX4_alike_74 : dKi mX4_alike 74 ((-1)) 75 := Or.inl ⟨-1, by decide +kernel, by decide +kernel, rfl⟩
theorem aX4_alike_75 : dk mX4_alike 75 .ireturn 1 76 := ⟨by decide +kernel, rfl⟩
theorem okX4_newItems : okM mX4_newItems := ⟨dW_at 642 (by decide +kernel), dW_at 31 (by decide +kernel), by decide +kernel, by decide +kernel, by decide +kernel, Or.inl ⟨dW_at 641 (by decide +kernel), dW_at 18 (by decide +kernel)⟩⟩
theorem aX4_newItems_0 : dKi mX4_newItems 0 (nI 0) 1 := Or.inl ⟨0, by decide +kernel, by decide +kernel, rfl⟩
theorem aX4_newItems_1 : dIs mX4_newItems 1 3 2 := ⟨Or.inl ⟨3, by decide +kernel, rfl, rfl⟩, by decide⟩
theorem aX4_newItems_2 : dKi mX4_newItems 2 (nI 0) 3 := Or.inl ⟨0, by decide +kernel, by decide +kernel, rfl⟩
theorem aX4_newItems_3 : dIs mX4_newItems 3 4 5 := ⟨Or.inr ⟨by decide +kernel, rfl⟩, by decide⟩
theorem aX4_newItems_5 : dIl mX4_newItems 5 4 7 := Or.inr ⟨by decide +kernel, rfl⟩
theorem aX4_newItems_7 : dAl mX4_newItems 7 0 8 := Or.inl ⟨0, by decide +kernel, rfl, rfl⟩
theorem aX4_newItems_8 : dG mX4_newItems 8 4 21 11 := ⟨117, by decide +kernel, rfl, dW_at 506 (by decide +kernel), by decide⟩
theorem aX4_newItems_11 : dC mX4_newItems 11 .ge 14 133 := ⟨122, by decide +kernel, by decide, rfl⟩
theorem aX4_newItems_14 : dAl mX4_newItems 14 0 15 := Or.inl ⟨0, by decide +kernel, rfl, rfl⟩
theorem aX4_newItems_15 : dIl mX4_newItems 15 1 16 := Or.inl ⟨1, by decide +kernel, rfl, rfl⟩
theorem aX4_newItems_16 : dAl mX4_newItems 16 0 17 := Or.inl ⟨0, by decide +kernel, rfl, rfl⟩
theorem aX4_newItems_17 : dG mX4_newItems 17 4 22 20 := ⟨63, by decide +kernel, rfl, dW_at 507 (by decide +kernel), by decide⟩
theorem aX4_newItems_20 : dIl mX4_newItems 20 4 22 := Or.inr ⟨by decide +kernel, rfl⟩
theorem aX4_newItems_22 : dk mX4_newItems 22 .iaload 1 23 := ⟨by decide +kernel, rfl⟩
theorem aX4_newItems_23 : dAl mX4_newItems 23 0 24 := Or.inl ⟨0, by decide +kernel, rfl, rfl⟩
theorem aX4_newItems_24 : dG mX4_newItems 24 4 23 27 := ⟨66, by decide +kernel, rfl, dW_at 508 (by decide +kernel), by decide⟩
theorem aX4_newItems_27 : dIl mX4_newItems 27 4 29 := Or.inr ⟨by decide +kernel, rfl⟩
theorem aX4_newItems_29 : dk mX4_newItems 29 .iaload 1 30 := ⟨by decide +kernel, rfl⟩
theorem aX4_newItems_30 : dIl mX4_newItems 30 2 31 := Or.inl ⟨2, by decide +kernel, rfl, rfl⟩
theorem aX4_newItems_31 : dV mX4_newItems 31 mX4_alike 34 := ⟨128, by decide +kernel, rfl, dW_at 643 (by decide +kernel), by decide⟩
theorem aX4_newItems_34 : dKi mX4_newItems 34 ((-1)) 35 := Or.inl ⟨-1, by decide +kernel, by decide +kernel, rfl⟩
theorem aX4_newItems_35 : dC mX4_newItems 35 .ne 38 42 := ⟨7, by decide +kernel, by decide, rfl⟩
theorem aX4_newItems_38 : dKi mX4_newItems 38 (nI 1) 39 := Or.inl ⟨1, by decide +kernel, by decide +kernel, rfl⟩
theorem aX4_newItems_39 : dJ mX4_newItems 39 43 := ⟨4, by decide +kernel, by decide⟩
theorem aX4_newItems_42 : dKi mX4_newItems 42 (nI 0) 43 := Or.inl ⟨0, by decide +kernel, by decide +kernel, rfl⟩
theorem aX4_newItems_43 : dIs mX4_newItems 43 5 45 := ⟨Or.inr ⟨by decide +kernel, rfl⟩, by decide⟩
theorem aX4_newItems_45 : dKi mX4_newItems 45 (nI 0) 46 := Or.inl ⟨0, by decide +kernel, by decide +kernel, rfl⟩
theorem aX4_newItems_46 : dIs mX4_newItems 46 6 48 := ⟨Or.inr ⟨by decide +kernel, rfl⟩, by decide⟩
theorem aX4_newItems_48 : dIl mX4_newItems 48 6 50 := Or.inr ⟨by decide +kernel, rfl⟩
theorem aX4_newItems_50 : dIl mX4_newItems 50 4 52 := Or.inr ⟨by decide +kernel, rfl⟩
theorem aX4_newItems_52 : dC mX4_newItems 52 .ge 55 114 := ⟨62, by decide +kernel, by decide, rfl⟩
theorem aX4_newItems_55 : dAl mX4_newItems 55 0 56 := Or.inl ⟨0, by decide +kernel, rfl, rfl⟩
theorem aX4_newItems_56 : dG mX4_newItems 56 4 8 59 := ⟨98, by decide +kernel, rfl, dW_at 493 (by decide +kernel), by decide⟩
theorem aX4_newItems_59 : dZ mX4_newItems 59 .eq 62 114 := ⟨55, by decide +kernel, by decide, rfl⟩
theorem aX4_newItems_62 : dIl mX4_newItems 62 5 64 := Or.inr ⟨by decide +kernel, rfl⟩
theorem aX4_newItems_64 : dZ mX4_newItems 64 .eq 67 105 := ⟨41, by decide +kernel, by decide, rfl⟩
theorem aX4_newItems_67 : dAl mX4_newItems 67 0 68 := Or.inl ⟨0, by decide +kernel, rfl, rfl⟩
theorem aX4_newItems_68 : dG mX4_newItems 68 4 22 71 := ⟨63, by decide +kernel, rfl, dW_at 507 (by decide +kernel), by decide⟩
theorem aX4_newItems_71 : dIl mX4_newItems 71 6 73 := Or.inr ⟨by decide +kernel, rfl⟩
theorem aX4_newItems_73 : dk mX4_newItems 73 .iaload 1 74 := ⟨by decide +kernel, rfl⟩
theorem aX4_newItems_74 : dAl mX4_newItems 74 0 75 := Or.inl ⟨0, by decide +kernel, rfl, rfl⟩
theorem aX4_newItems_75 : dG mX4_newItems 75 4 22 78 := ⟨63, by decide +kernel, rfl, dW_at 507 (by decide +kernel), by decide⟩
theorem aX4_newItems_78 : dIl mX4_newItems 78 4 80 := Or.inr ⟨by decide +kernel, rfl⟩
theorem aX4_newItems_80 : dk mX4_newItems 80 .iaload 1 81 := ⟨by decide +kernel, rfl⟩
theorem aX4_newItems_81 : dC mX4_newItems 81 .ne 84 101 := ⟨20, by decide +kernel, by decide, rfl⟩
theorem aX4_newItems_84 : dAl mX4_newItems 84 0 85 := Or.inl ⟨0, by decide +kernel, rfl, rfl⟩
theorem aX4_newItems_85 : dG mX4_newItems 85 4 23 88 := ⟨66, by decide +kernel, rfl, dW_at 508 (by decide +kernel), by decide⟩
theorem aX4_newItems_88 : dIl mX4_newItems 88 6 90 := Or.inr ⟨by decide +kernel, rfl⟩
theorem aX4_newItems_90 : dk mX4_newItems 90 .iaload 1 91 := ⟨by decide +kernel, rfl⟩
theorem aX4_newItems_91 : dAl mX4_newItems 91 0 92 := Or.inl ⟨0, by decide +kernel, rfl, rfl⟩
theorem aX4_newItems_92 : dG mX4_newItems 92 4 23 95 := ⟨66, by decide +kernel, rfl, dW_at 508 (by decide +kernel), by decide⟩
theorem aX4_newItems_95 : dIl mX4_newItems 95 4 97 := Or.inr ⟨by decide +kernel, rfl⟩
theorem aX4_newItems_97 : dk mX4_newItems 97 .iaload 1 98 := ⟨by decide +kernel, rfl⟩
theorem aX4_newItems_98 : dC mX4_newItems 98 .eq 101 105 := ⟨7, by decide +kernel, by decide, rfl⟩
theorem aX4_newItems_101 : dKi mX4_newItems 101 (nI 1) 102 := Or.inl ⟨1, by decide +kernel, by decide +kernel, rfl⟩
theorem aX4_newItems_102 : dJ mX4_newItems 102 106 := ⟨4, by decide +kernel, by decide⟩
theorem aX4_newItems_105 : dKi mX4_newItems 105 (nI 0) 106 := Or.inl ⟨0, by decide +kernel, by decide +kernel, rfl⟩
theorem aX4_newItems_106 : dIs mX4_newItems 106 5 108 := ⟨Or.inr ⟨by decide +kernel, rfl⟩, by decide⟩
theorem aX4_newItems_108 : dIn mX4_newItems 108 6 (nI 1) 111 := ⟨1, by decide +kernel, by decide +kernel, rfl, by decide⟩
theorem aX4_newItems_111 : dJ mX4_newItems 111 48 := ⟨-63, by decide +kernel, by decide⟩
theorem aX4_newItems_114 : dIl mX4_newItems 114 3 115 := Or.inl ⟨3, by decide +kernel, rfl, rfl⟩
theorem aX4_newItems_115 : dIl mX4_newItems 115 5 117 := Or.inr ⟨by decide +kernel, rfl⟩
theorem aX4_newItems_117 : dZ mX4_newItems 117 .eq 120 124 := ⟨7, by decide +kernel, by decide, rfl⟩
theorem aX4_newItems_120 : dKi mX4_newItems 120 (nI 1) 121 := Or.inl ⟨1, by decide +kernel, by decide +kernel, rfl⟩
theorem aX4_newItems_121 : dJ mX4_newItems 121 125 := ⟨4, by decide +kernel, by decide⟩
theorem aX4_newItems_124 : dKi mX4_newItems 124 (nI 0) 125 := Or.inl ⟨0, by decide +kernel, by decide +kernel, rfl⟩
theorem aX4_newItems_125 : dk mX4_newItems 125 .iadd 1 126 := ⟨by decide +kernel, rfl⟩
theorem aX4_newItems_126 : dIs mX4_newItems 126 3 127 := ⟨Or.inl ⟨3, by decide +kernel, rfl, rfl⟩, by decide⟩
theorem aX4_newItems_127 : dIn mX4_newItems 127 4 (nI 1) 130 := ⟨1, by decide +kernel, by decide +kernel, rfl, by decide⟩
theorem aX4_newItems_130 : dJ mX4_newItems 130 5 := ⟨-125, by decide +kernel, by decide⟩
theorem aX4_newItems_133 : dIl mX4_newItems 133 3 134 := Or.inl ⟨3, by decide +kernel, rfl, rfl⟩
theorem aX4_newItems_134 : dk mX4_newItems 134 .ireturn 1 135 := ⟨by decide +kernel, rfl⟩
theorem okX4_goOn : okM mX4_goOn := ⟨dW_at 624 (by decide +kernel), dW_at 31 (by decide +kernel), by decide +kernel, by decide +kernel, by decide +kernel, Or.inl ⟨dW_at 623 (by decide +kernel), dW_at 14 (by decide +kernel)⟩⟩
theorem aX4_goOn_0 : dAl mX4_goOn 0 0 1 := Or.inl ⟨0, by decide +kernel, rfl, rfl⟩
theorem aX4_goOn_1 : dIl mX4_goOn 1 1 2 := Or.inl ⟨1, by decide +kernel, rfl, rfl⟩
theorem aX4_goOn_2 : dIl mX4_goOn 2 2 3 := Or.inl ⟨2, by decide +kernel, rfl, rfl⟩
theorem aX4_goOn_3 : dV mX4_goOn 3 mX4_next 6 := ⟨132, by decide +kernel, rfl, dW_at 625 (by decide +kernel), by decide⟩
theorem aX4_goOn_6 : dIs mX4_goOn 6 3 7 := ⟨Or.inl ⟨3, by decide +kernel, rfl, rfl⟩, by decide⟩
theorem aX4_goOn_7 : dIl mX4_goOn 7 3 8 := Or.inl ⟨3, by decide +kernel, rfl, rfl⟩
theorem aX4_goOn_8 : dKi mX4_goOn 8 ((-1)) 9 := Or.inl ⟨-1, by decide +kernel, by decide +kernel, rfl⟩
theorem aX4_goOn_9 : dC mX4_goOn 9 .ne 12 14 := ⟨5, by decide +kernel, by decide, rfl⟩
theorem aX4_goOn_12 : dKi mX4_goOn 12 (nI 0) 13 := Or.inl ⟨0, by decide +kernel, by decide +kernel, rfl⟩
theorem aX4_goOn_13 : dk mX4_goOn 13 .ireturn 1 14 := ⟨by decide +kernel, rfl⟩
theorem aX4_goOn_14 : dKi mX4_goOn 14 (nI 60) 16 := Or.inr (Or.inl ⟨60, by decide +kernel, by decide +kernel, rfl⟩)
theorem aX4_goOn_16 : dIl mX4_goOn 16 1 17 := Or.inl ⟨1, by decide +kernel, rfl, rfl⟩
theorem aX4_goOn_17 : dk mX4_goOn 17 .imul 1 18 := ⟨by decide +kernel, rfl⟩
theorem aX4_goOn_18 : dIl mX4_goOn 18 3 19 := Or.inl ⟨3, by decide +kernel, rfl, rfl⟩
theorem aX4_goOn_19 : dk mX4_goOn 19 .iadd 1 20 := ⟨by decide +kernel, rfl⟩
theorem aX4_goOn_20 : dIs mX4_goOn 20 4 22 := ⟨Or.inr ⟨by decide +kernel, rfl⟩, by decide⟩
theorem aX4_goOn_22 : dAl mX4_goOn 22 0 23 := Or.inl ⟨0, by decide +kernel, rfl, rfl⟩
theorem aX4_goOn_23 : dG mX4_goOn 23 4 13 26 := ⟨41, by decide +kernel, rfl, dW_at 498 (by decide +kernel), by decide⟩
theorem aX4_goOn_26 : dIl mX4_goOn 26 4 28 := Or.inr ⟨by decide +kernel, rfl⟩
theorem aX4_goOn_28 : dk mX4_goOn 28 .iaload 1 29 := ⟨by decide +kernel, rfl⟩
theorem aX4_goOn_29 : dIs mX4_goOn 29 5 31 := ⟨Or.inr ⟨by decide +kernel, rfl⟩, by decide⟩
theorem aX4_goOn_31 : dAl mX4_goOn 31 0 32 := Or.inl ⟨0, by decide +kernel, rfl, rfl⟩
theorem aX4_goOn_32 : dG mX4_goOn 32 4 15 35 := ⟨47, by decide +kernel, rfl, dW_at 500 (by decide +kernel), by decide⟩
theorem aX4_goOn_35 : dIl mX4_goOn 35 4 37 := Or.inr ⟨by decide +kernel, rfl⟩
theorem aX4_goOn_37 : dk mX4_goOn 37 .laload 1 38 := ⟨by decide +kernel, rfl⟩
theorem aX4_goOn_38 : dLs mX4_goOn 38 6 40 := ⟨Or.inr ⟨by decide +kernel, rfl⟩, by decide⟩
theorem aX4_goOn_40 : dAl mX4_goOn 40 0 41 := Or.inl ⟨0, by decide +kernel, rfl, rfl⟩
theorem aX4_goOn_41 : dG mX4_goOn 41 4 1 44 := ⟨7, by decide +kernel, rfl, dW_at 486 (by decide +kernel), by decide⟩
theorem aX4_goOn_44 : dIl mX4_goOn 44 5 46 := Or.inr ⟨by decide +kernel, rfl⟩
theorem aX4_goOn_46 : dk mX4_goOn 46 .iaload 1 47 := ⟨by decide +kernel, rfl⟩
theorem aX4_goOn_47 : dKi mX4_goOn 47 ((-1)) 48 := Or.inl ⟨-1, by decide +kernel, by decide +kernel, rfl⟩
theorem aX4_goOn_48 : dC mX4_goOn 48 .ne 51 67 := ⟨19, by decide +kernel, by decide, rfl⟩
theorem aX4_goOn_51 : dAl mX4_goOn 51 0 52 := Or.inl ⟨0, by decide +kernel, rfl, rfl⟩
theorem aX4_goOn_52 : dG mX4_goOn 52 4 14 55 := ⟨44, by decide +kernel, rfl, dW_at 499 (by decide +kernel), by decide⟩
theorem aX4_goOn_55 : dIl mX4_goOn 55 4 57 := Or.inr ⟨by decide +kernel, rfl⟩
theorem aX4_goOn_57 : dk mX4_goOn 57 .iaload 1 58 := ⟨by decide +kernel, rfl⟩
theorem aX4_goOn_58 : dKi mX4_goOn 58 (nI 40) 60 := Or.inr (Or.inl ⟨40, by decide +kernel, by decide +kernel, rfl⟩)
theorem aX4_goOn_60 : dC mX4_goOn 60 .ge 63 67 := ⟨7, by decide +kernel, by decide, rfl⟩
theorem aX4_goOn_63 : dKi mX4_goOn 63 (nI 1) 64 := Or.inl ⟨1, by decide +kernel, by decide +kernel, rfl⟩
theorem aX4_goOn_64 : dJ mX4_goOn 64 68 := ⟨4, by decide +kernel, by decide⟩
theorem aX4_goOn_67 : dKi mX4_goOn 67 (nI 0) 68 := Or.inl ⟨0, by decide +kernel, by decide +kernel, rfl⟩
theorem aX4_goOn_68 : dIs mX4_goOn 68 8 70 := ⟨Or.inr ⟨by decide +kernel, rfl⟩, by decide⟩
theorem aX4_goOn_70 : dAl mX4_goOn 70 0 71 := Or.inl ⟨0, by decide +kernel, rfl, rfl⟩
theorem aX4_goOn_71 : dKi mX4_goOn 71 (nI 0) 72 := Or.inl ⟨0, by decide +kernel, by decide +kernel, rfl⟩
theorem aX4_goOn_72 : dP mX4_goOn 72 4 21 75 := ⟨117, by decide +kernel, rfl, dW_at 506 (by decide +kernel), by decide⟩
theorem aX4_goOn_75 : dIl mX4_goOn 75 8 77 := Or.inr ⟨by decide +kernel, rfl⟩
theorem aX4_goOn_77 : dZ mX4_goOn 77 .eq 80 117 := ⟨40, by decide +kernel, by decide, rfl⟩
theorem aX4_goOn_80 : dAl mX4_goOn 80 0 81 := Or.inl ⟨0, by decide +kernel, rfl, rfl⟩
theorem aX4_goOn_81 : dIl mX4_goOn 81 5 83 := Or.inr ⟨by decide +kernel, rfl⟩
theorem aX4_goOn_83 : dAl mX4_goOn 83 0 84 := Or.inl ⟨0, by decide +kernel, rfl, rfl⟩
theorem aX4_goOn_84 : dG mX4_goOn 84 4 14 87 := ⟨44, by decide +kernel, rfl, dW_at 499 (by decide +kernel), by decide⟩
theorem aX4_goOn_87 : dIl mX4_goOn 87 4 89 := Or.inr ⟨by decide +kernel, rfl⟩
theorem aX4_goOn_89 : dk mX4_goOn 89 .iaload 1 90 := ⟨by decide +kernel, rfl⟩
theorem aX4_goOn_90 : dLl mX4_goOn 90 6 92 := Or.inr ⟨by decide +kernel, rfl⟩
theorem aX4_goOn_92 : dV mX4_goOn 92 mX4_lay 95 := ⟨135, by decide +kernel, rfl, dW_at 629 (by decide +kernel), by decide⟩
theorem aX4_goOn_95 : dAl mX4_goOn 95 0 96 := Or.inl ⟨0, by decide +kernel, rfl, rfl⟩
theorem aX4_goOn_96 : dG mX4_goOn 96 4 12 99 := ⟨38, by decide +kernel, rfl, dW_at 497 (by decide +kernel), by decide⟩
theorem aX4_goOn_99 : dIl mX4_goOn 99 1 100 := Or.inl ⟨1, by decide +kernel, rfl, rfl⟩
theorem aX4_goOn_100 : dk mX4_goOn 100 .iaload 1 101 := ⟨by decide +kernel, rfl⟩
theorem aX4_goOn_101 : dKi mX4_goOn 101 (nI 1) 102 := Or.inl ⟨1, by decide +kernel, by decide +kernel, rfl⟩
theorem aX4_goOn_102 : dk mX4_goOn 102 .isub 1 103 := ⟨by decide +kernel, rfl⟩
theorem aX4_goOn_103 : dAl mX4_goOn 103 0 104 := Or.inl ⟨0, by decide +kernel, rfl, rfl⟩
theorem aX4_goOn_104 : dIl mX4_goOn 104 1 105 := Or.inl ⟨1, by decide +kernel, rfl, rfl⟩
theorem aX4_goOn_105 : dIl mX4_goOn 105 3 106 := Or.inl ⟨3, by decide +kernel, rfl, rfl⟩
theorem aX4_goOn_106 : dV mX4_goOn 106 mX4_newItems 109 := ⟨139, by decide +kernel, rfl, dW_at 639 (by decide +kernel), by decide⟩
theorem aX4_goOn_109 : dk mX4_goOn 109 .iadd 1 110 := ⟨by decide +kernel, rfl⟩
theorem aX4_goOn_110 : dKi mX4_goOn 110 (nI 60) 112 := Or.inr (Or.inl ⟨60, by decide +kernel, by decide +kernel, rfl⟩)
theorem aX4_goOn_112 : dC mX4_goOn 112 .le 115 117 := ⟨5, by decide +kernel, by decide, rfl⟩
theorem aX4_goOn_115 : dKi mX4_goOn 115 (nI 0) 116 := Or.inl ⟨0, by decide +kernel, by decide +kernel, rfl⟩
theorem aX4_goOn_116 : dk mX4_goOn 116 .ireturn 1 117 := ⟨by decide +kernel, rfl⟩
theorem aX4_goOn_117 : dAl mX4_goOn 117 0 118 := Or.inl ⟨0, by decide +kernel, rfl, rfl⟩
theorem aX4_goOn_118 : dG mX4_goOn 118 4 12 121 := ⟨38, by decide +kernel, rfl, dW_at 497 (by decide +kernel), by decide⟩
theorem aX4_goOn_121 : dIl mX4_goOn 121 1 122 := Or.inl ⟨1, by decide +kernel, rfl, rfl⟩
theorem aX4_goOn_122 : dk mX4_goOn 122 .dup2 1 123 := ⟨by decide +kernel, rfl⟩
theorem aX4_goOn_123 : dk mX4_goOn 123 .iaload 1 124 := ⟨by decide +kernel, rfl⟩
theorem aX4_goOn_124 : dKi mX4_goOn 124 (nI 1) 125 := Or.inl ⟨1, by decide +kernel, by decide +kernel, rfl⟩
theorem aX4_goOn_125 : dk mX4_goOn 125 .isub 1 126 := ⟨by decide +kernel, rfl⟩
theorem aX4_goOn_126 : dk mX4_goOn 126 .iastore 1 127 := ⟨by decide +kernel, rfl⟩
theorem aX4_goOn_127 : dIl mX4_goOn 127 4 129 := Or.inr ⟨by decide +kernel, rfl⟩
theorem aX4_goOn_129 : dIs mX4_goOn 129 9 131 := ⟨Or.inr ⟨by decide +kernel, rfl⟩, by decide⟩
theorem aX4_goOn_131 : dIl mX4_goOn 131 9 133 := Or.inr ⟨by decide +kernel, rfl⟩
theorem aX4_goOn_133 : dKi mX4_goOn 133 (nI 60) 135 := Or.inr (Or.inl ⟨60, by decide +kernel, by decide +kernel, rfl⟩)
theorem aX4_goOn_135 : dIl mX4_goOn 135 1 136 := Or.inl ⟨1, by decide +kernel, rfl, rfl⟩
theorem aX4_goOn_136 : dk mX4_goOn 136 .imul 1 137 := ⟨by decide +kernel, rfl⟩
theorem aX4_goOn_137 : dAl mX4_goOn 137 0 138 := Or.inl ⟨0, by decide +kernel, rfl, rfl⟩
theorem aX4_goOn_138 : dG mX4_goOn 138 4 12 141 := ⟨38, by decide +kernel, rfl, dW_at 497 (by decide +kernel), by decide⟩
theorem aX4_goOn_141 : dIl mX4_goOn 141 1 142 := Or.inl ⟨1, by decide +kernel, rfl, rfl⟩
theorem aX4_goOn_142 : dk mX4_goOn 142 .iaload 1 143 := ⟨by decide +kernel, rfl⟩
theorem aX4_goOn_143 : dk mX4_goOn 143 .iadd 1 144 := ⟨by decide +kernel, rfl⟩
theorem aX4_goOn_144 : dC mX4_goOn 144 .ge 147 201 := ⟨57, by decide +kernel, by decide, rfl⟩
theorem aX4_goOn_147 : dAl mX4_goOn 147 0 148 := Or.inl ⟨0, by decide +kernel, rfl, rfl⟩
theorem aX4_goOn_148 : dG mX4_goOn 148 4 13 151 := ⟨41, by decide +kernel, rfl, dW_at 498 (by decide +kernel), by decide⟩
theorem aX4_goOn_151 : dIl mX4_goOn 151 9 153 := Or.inr ⟨by decide +kernel, rfl⟩
theorem aX4_goOn_153 : dAl mX4_goOn 153 0 154 := Or.inl ⟨0, by decide +kernel, rfl, rfl⟩
theorem aX4_goOn_154 : dG mX4_goOn 154 4 13 157 := ⟨41, by decide +kernel, rfl, dW_at 498 (by decide +kernel), by decide⟩
theorem aX4_goOn_157 : dIl mX4_goOn 157 9 159 := Or.inr ⟨by decide +kernel, rfl⟩
theorem aX4_goOn_159 : dKi mX4_goOn 159 (nI 1) 160 := Or.inl ⟨1, by decide +kernel, by decide +kernel, rfl⟩
theorem aX4_goOn_160 : dk mX4_goOn 160 .iadd 1 161 := ⟨by decide +kernel, rfl⟩
theorem aX4_goOn_161 : dk mX4_goOn 161 .iaload 1 162 := ⟨by decide +kernel, rfl⟩
theorem aX4_goOn_162 : dk mX4_goOn 162 .iastore 1 163 := ⟨by decide +kernel, rfl⟩
theorem aX4_goOn_163 : dAl mX4_goOn 163 0 164 := Or.inl ⟨0, by decide +kernel, rfl, rfl⟩
theorem aX4_goOn_164 : dG mX4_goOn 164 4 14 167 := ⟨44, by decide +kernel, rfl, dW_at 499 (by decide +kernel), by decide⟩
theorem aX4_goOn_167 : dIl mX4_goOn 167 9 169 := Or.inr ⟨by decide +kernel, rfl⟩
theorem aX4_goOn_169 : dAl mX4_goOn 169 0 170 := Or.inl ⟨0, by decide +kernel, rfl, rfl⟩
theorem aX4_goOn_170 : dG mX4_goOn 170 4 14 173 := ⟨44, by decide +kernel, rfl, dW_at 499 (by decide +kernel), by decide⟩
theorem aX4_goOn_173 : dIl mX4_goOn 173 9 175 := Or.inr ⟨by decide +kernel, rfl⟩
theorem aX4_goOn_175 : dKi mX4_goOn 175 (nI 1) 176 := Or.inl ⟨1, by decide +kernel, by decide +kernel, rfl⟩
theorem aX4_goOn_176 : dk mX4_goOn 176 .iadd 1 177 := ⟨by decide +kernel, rfl⟩
theorem aX4_goOn_177 : dk mX4_goOn 177 .iaload 1 178 := ⟨by decide +kernel, rfl⟩
theorem aX4_goOn_178 : dk mX4_goOn 178 .iastore 1 179 := ⟨by decide +kernel, rfl⟩
theorem aX4_goOn_179 : dAl mX4_goOn 179 0 180 := Or.inl ⟨0, by decide +kernel, rfl, rfl⟩
theorem aX4_goOn_180 : dG mX4_goOn 180 4 15 183 := ⟨47, by decide +kernel, rfl, dW_at 500 (by decide +kernel), by decide⟩
theorem aX4_goOn_183 : dIl mX4_goOn 183 9 185 := Or.inr ⟨by decide +kernel, rfl⟩
theorem aX4_goOn_185 : dAl mX4_goOn 185 0 186 := Or.inl ⟨0, by decide +kernel, rfl, rfl⟩
theorem aX4_goOn_186 : dG mX4_goOn 186 4 15 189 := ⟨47, by decide +kernel, rfl, dW_at 500 (by decide +kernel), by decide⟩
theorem aX4_goOn_189 : dIl mX4_goOn 189 9 191 := Or.inr ⟨by decide +kernel, rfl⟩
theorem aX4_goOn_191 : dKi mX4_goOn 191 (nI 1) 192 := Or.inl ⟨1, by decide +kernel, by decide +kernel, rfl⟩
theorem aX4_goOn_192 : dk mX4_goOn 192 .iadd 1 193 := ⟨by decide +kernel, rfl⟩
theorem aX4_goOn_193 : dk mX4_goOn 193 .laload 1 194 := ⟨by decide +kernel, rfl⟩
theorem aX4_goOn_194 : dk mX4_goOn 194 .lastore 1 195 := ⟨by decide +kernel, rfl⟩
theorem aX4_goOn_195 : dIn mX4_goOn 195 9 (nI 1) 198 := ⟨1, by decide +kernel, by decide +kernel, rfl, by decide⟩
theorem aX4_goOn_198 : dJ mX4_goOn 198 131 := ⟨-67, by decide +kernel, by decide⟩
theorem aX4_goOn_201 : dKi mX4_goOn 201 (nI 0) 202 := Or.inl ⟨0, by decide +kernel, by decide +kernel, rfl⟩
theorem aX4_goOn_202 : dIs mX4_goOn 202 9 204 := ⟨Or.inr ⟨by decide +kernel, rfl⟩, by decide⟩
theorem aX4_goOn_204 : dIl mX4_goOn 204 9 206 := Or.inr ⟨by decide +kernel, rfl⟩
theorem aX4_goOn_206 : dAl mX4_goOn 206 0 207 := Or.inl ⟨0, by decide +kernel, rfl, rfl⟩
theorem aX4_goOn_207 : dG mX4_goOn 207 4 21 210 := ⟨117, by decide +kernel, rfl, dW_at 506 (by decide +kernel), by decide⟩
theorem aX4_goOn_210 : dC mX4_goOn 210 .ge 213 335 := ⟨125, by decide +kernel, by decide, rfl⟩
theorem aX4_goOn_213 : dLl mX4_goOn 213 6 215 := Or.inr ⟨by decide +kernel, rfl⟩
theorem aX4_goOn_215 : dAl mX4_goOn 215 0 216 := Or.inl ⟨0, by decide +kernel, rfl, rfl⟩
theorem aX4_goOn_216 : dG mX4_goOn 216 4 24 219 := ⟨69, by decide +kernel, rfl, dW_at 509 (by decide +kernel), by decide⟩
theorem aX4_goOn_219 : dIl mX4_goOn 219 9 221 := Or.inr ⟨by decide +kernel, rfl⟩
theorem aX4_goOn_221 : dk mX4_goOn 221 .laload 1 222 := ⟨by decide +kernel, rfl⟩
theorem aX4_goOn_222 : dk mX4_goOn 222 .lsub 1 223 := ⟨by decide +kernel, rfl⟩
theorem aX4_goOn_223 : dLs mX4_goOn 223 6 225 := ⟨Or.inr ⟨by decide +kernel, rfl⟩, by decide⟩
theorem aX4_goOn_225 : dAl mX4_goOn 225 0 226 := Or.inl ⟨0, by decide +kernel, rfl, rfl⟩
theorem aX4_goOn_226 : dIl mX4_goOn 226 1 227 := Or.inl ⟨1, by decide +kernel, rfl, rfl⟩
theorem aX4_goOn_227 : dAl mX4_goOn 227 0 228 := Or.inl ⟨0, by decide +kernel, rfl, rfl⟩
theorem aX4_goOn_228 : dG mX4_goOn 228 4 22 231 := ⟨63, by decide +kernel, rfl, dW_at 507 (by decide +kernel), by decide⟩
theorem aX4_goOn_231 : dIl mX4_goOn 231 9 233 := Or.inr ⟨by decide +kernel, rfl⟩
theorem aX4_goOn_233 : dk mX4_goOn 233 .iaload 1 234 := ⟨by decide +kernel, rfl⟩
theorem aX4_goOn_234 : dAl mX4_goOn 234 0 235 := Or.inl ⟨0, by decide +kernel, rfl, rfl⟩
theorem aX4_goOn_235 : dG mX4_goOn 235 4 23 238 := ⟨66, by decide +kernel, rfl, dW_at 508 (by decide +kernel), by decide⟩
theorem aX4_goOn_238 : dIl mX4_goOn 238 9 240 := Or.inr ⟨by decide +kernel, rfl⟩
theorem aX4_goOn_240 : dk mX4_goOn 240 .iaload 1 241 := ⟨by decide +kernel, rfl⟩
theorem aX4_goOn_241 : dKi mX4_goOn 241 ((-1)) 242 := Or.inl ⟨-1, by decide +kernel, by decide +kernel, rfl⟩
theorem aX4_goOn_242 : dV mX4_goOn 242 mX4_alike 245 := ⟨128, by decide +kernel, rfl, dW_at 643 (by decide +kernel), by decide⟩
theorem aX4_goOn_245 : dIs mX4_goOn 245 10 247 := ⟨Or.inr ⟨by decide +kernel, rfl⟩, by decide⟩
theorem aX4_goOn_247 : dIl mX4_goOn 247 10 249 := Or.inr ⟨by decide +kernel, rfl⟩
theorem aX4_goOn_249 : dKi mX4_goOn 249 ((-1)) 250 := Or.inl ⟨-1, by decide +kernel, by decide +kernel, rfl⟩
theorem aX4_goOn_250 : dC mX4_goOn 250 .ne 253 312 := ⟨62, by decide +kernel, by decide, rfl⟩
theorem aX4_goOn_253 : dKi mX4_goOn 253 (nI 60) 255 := Or.inr (Or.inl ⟨60, by decide +kernel, by decide +kernel, rfl⟩)
theorem aX4_goOn_255 : dIl mX4_goOn 255 1 256 := Or.inl ⟨1, by decide +kernel, rfl, rfl⟩
theorem aX4_goOn_256 : dk mX4_goOn 256 .imul 1 257 := ⟨by decide +kernel, rfl⟩
theorem aX4_goOn_257 : dAl mX4_goOn 257 0 258 := Or.inl ⟨0, by decide +kernel, rfl, rfl⟩
theorem aX4_goOn_258 : dG mX4_goOn 258 4 12 261 := ⟨38, by decide +kernel, rfl, dW_at 497 (by decide +kernel), by decide⟩
theorem aX4_goOn_261 : dIl mX4_goOn 261 1 262 := Or.inl ⟨1, by decide +kernel, rfl, rfl⟩
theorem aX4_goOn_262 : dk mX4_goOn 262 .iaload 1 263 := ⟨by decide +kernel, rfl⟩
theorem aX4_goOn_263 : dk mX4_goOn 263 .iadd 1 264 := ⟨by decide +kernel, rfl⟩
theorem aX4_goOn_264 : dIs mX4_goOn 264 10 266 := ⟨Or.inr ⟨by decide +kernel, rfl⟩, by decide⟩
theorem aX4_goOn_266 : dAl mX4_goOn 266 0 267 := Or.inl ⟨0, by decide +kernel, rfl, rfl⟩
theorem aX4_goOn_267 : dG mX4_goOn 267 4 12 270 := ⟨38, by decide +kernel, rfl, dW_at 497 (by decide +kernel), by decide⟩
theorem aX4_goOn_270 : dIl mX4_goOn 270 1 271 := Or.inl ⟨1, by decide +kernel, rfl, rfl⟩
theorem aX4_goOn_271 : dk mX4_goOn 271 .dup2 1 272 := ⟨by decide +kernel, rfl⟩
theorem aX4_goOn_272 : dk mX4_goOn 272 .iaload 1 273 := ⟨by decide +kernel, rfl⟩
theorem aX4_goOn_273 : dKi mX4_goOn 273 (nI 1) 274 := Or.inl ⟨1, by decide +kernel, by decide +kernel, rfl⟩
theorem aX4_goOn_274 : dk mX4_goOn 274 .iadd 1 275 := ⟨by decide +kernel, rfl⟩
theorem aX4_goOn_275 : dk mX4_goOn 275 .iastore 1 276 := ⟨by decide +kernel, rfl⟩
theorem aX4_goOn_276 : dAl mX4_goOn 276 0 277 := Or.inl ⟨0, by decide +kernel, rfl, rfl⟩
theorem aX4_goOn_277 : dG mX4_goOn 277 4 13 280 := ⟨41, by decide +kernel, rfl, dW_at 498 (by decide +kernel), by decide⟩
theorem aX4_goOn_280 : dIl mX4_goOn 280 10 282 := Or.inr ⟨by decide +kernel, rfl⟩
theorem aX4_goOn_282 : dAl mX4_goOn 282 0 283 := Or.inl ⟨0, by decide +kernel, rfl, rfl⟩
theorem aX4_goOn_283 : dG mX4_goOn 283 4 22 286 := ⟨63, by decide +kernel, rfl, dW_at 507 (by decide +kernel), by decide⟩
theorem aX4_goOn_286 : dIl mX4_goOn 286 9 288 := Or.inr ⟨by decide +kernel, rfl⟩
theorem aX4_goOn_288 : dk mX4_goOn 288 .iaload 1 289 := ⟨by decide +kernel, rfl⟩
theorem aX4_goOn_289 : dk mX4_goOn 289 .iastore 1 290 := ⟨by decide +kernel, rfl⟩
theorem aX4_goOn_290 : dAl mX4_goOn 290 0 291 := Or.inl ⟨0, by decide +kernel, rfl, rfl⟩
theorem aX4_goOn_291 : dG mX4_goOn 291 4 14 294 := ⟨44, by decide +kernel, rfl, dW_at 499 (by decide +kernel), by decide⟩
theorem aX4_goOn_294 : dIl mX4_goOn 294 10 296 := Or.inr ⟨by decide +kernel, rfl⟩
theorem aX4_goOn_296 : dAl mX4_goOn 296 0 297 := Or.inl ⟨0, by decide +kernel, rfl, rfl⟩
theorem aX4_goOn_297 : dG mX4_goOn 297 4 23 300 := ⟨66, by decide +kernel, rfl, dW_at 508 (by decide +kernel), by decide⟩
theorem aX4_goOn_300 : dIl mX4_goOn 300 9 302 := Or.inr ⟨by decide +kernel, rfl⟩
theorem aX4_goOn_302 : dk mX4_goOn 302 .iaload 1 303 := ⟨by decide +kernel, rfl⟩
theorem aX4_goOn_303 : dk mX4_goOn 303 .iastore 1 304 := ⟨by decide +kernel, rfl⟩
theorem aX4_goOn_304 : dAl mX4_goOn 304 0 305 := Or.inl ⟨0, by decide +kernel, rfl, rfl⟩
theorem aX4_goOn_305 : dG mX4_goOn 305 4 15 308 := ⟨47, by decide +kernel, rfl, dW_at 500 (by decide +kernel), by decide⟩
theorem aX4_goOn_308 : dIl mX4_goOn 308 10 310 := Or.inr ⟨by decide +kernel, rfl⟩
theorem aX4_goOn_310 : dKl mX4_goOn 310 (lN 0) 311 := Or.inl ⟨0, by decide +kernel, rfl, rfl⟩
theorem aX4_goOn_311 : dk mX4_goOn 311 .lastore 1 312 := ⟨by decide +kernel, rfl⟩
theorem aX4_goOn_312 : dAl mX4_goOn 312 0 313 := Or.inl ⟨0, by decide +kernel, rfl, rfl⟩
theorem aX4_goOn_313 : dG mX4_goOn 313 4 15 316 := ⟨47, by decide +kernel, rfl, dW_at 500 (by decide +kernel), by decide⟩
theorem aX4_goOn_316 : dIl mX4_goOn 316 10 318 := Or.inr ⟨by decide +kernel, rfl⟩
theorem aX4_goOn_318 : dk mX4_goOn 318 .dup2 1 319 := ⟨by decide +kernel, rfl⟩
theorem aX4_goOn_319 : dk mX4_goOn 319 .laload 1 320 := ⟨by decide +kernel, rfl⟩
theorem aX4_goOn_320 : dAl mX4_goOn 320 0 321 := Or.inl ⟨0, by decide +kernel, rfl, rfl⟩
theorem aX4_goOn_321 : dG mX4_goOn 321 4 24 324 := ⟨69, by decide +kernel, rfl, dW_at 509 (by decide +kernel), by decide⟩
theorem aX4_goOn_324 : dIl mX4_goOn 324 9 326 := Or.inr ⟨by decide +kernel, rfl⟩
theorem aX4_goOn_326 : dk mX4_goOn 326 .laload 1 327 := ⟨by decide +kernel, rfl⟩
theorem aX4_goOn_327 : dk mX4_goOn 327 .ladd 1 328 := ⟨by decide +kernel, rfl⟩
theorem aX4_goOn_328 : dk mX4_goOn 328 .lastore 1 329 := ⟨by decide +kernel, rfl⟩
theorem aX4_goOn_329 : dIn mX4_goOn 329 9 (nI 1) 332 := ⟨1, by decide +kernel, by decide +kernel, rfl, by decide⟩
theorem aX4_goOn_332 : dJ mX4_goOn 332 204 := ⟨-128, by decide +kernel, by decide⟩
theorem aX4_goOn_335 : dAl mX4_goOn 335 0 336 := Or.inl ⟨0, by decide +kernel, rfl, rfl⟩
theorem aX4_goOn_336 : dG mX4_goOn 336 4 1 339 := ⟨7, by decide +kernel, rfl, dW_at 486 (by decide +kernel), by decide⟩
theorem aX4_goOn_339 : dIl mX4_goOn 339 5 341 := Or.inr ⟨by decide +kernel, rfl⟩
theorem aX4_goOn_341 : dk mX4_goOn 341 .iaload 1 342 := ⟨by decide +kernel, rfl⟩
theorem aX4_goOn_342 : dKi mX4_goOn 342 ((-1)) 343 := Or.inl ⟨-1, by decide +kernel, by decide +kernel, rfl⟩
theorem aX4_goOn_343 : dC mX4_goOn 343 .eq 346 371 := ⟨28, by decide +kernel, by decide, rfl⟩
theorem aX4_goOn_346 : dAl mX4_goOn 346 0 347 := Or.inl ⟨0, by decide +kernel, rfl, rfl⟩
theorem aX4_goOn_347 : dG mX4_goOn 347 4 16 350 := ⟨51, by decide +kernel, rfl, dW_at 501 (by decide +kernel), by decide⟩
theorem aX4_goOn_350 : dKi mX4_goOn 350 (nI 8) 352 := Or.inr (Or.inl ⟨8, by decide +kernel, by decide +kernel, rfl⟩)
theorem aX4_goOn_352 : dIl mX4_goOn 352 1 353 := Or.inl ⟨1, by decide +kernel, rfl, rfl⟩
theorem aX4_goOn_353 : dk mX4_goOn 353 .imul 1 354 := ⟨by decide +kernel, rfl⟩
theorem aX4_goOn_354 : dAl mX4_goOn 354 0 355 := Or.inl ⟨0, by decide +kernel, rfl, rfl⟩
theorem aX4_goOn_355 : dG mX4_goOn 355 4 1 358 := ⟨7, by decide +kernel, rfl, dW_at 486 (by decide +kernel), by decide⟩
theorem aX4_goOn_358 : dIl mX4_goOn 358 5 360 := Or.inr ⟨by decide +kernel, rfl⟩
theorem aX4_goOn_360 : dk mX4_goOn 360 .iaload 1 361 := ⟨by decide +kernel, rfl⟩
theorem aX4_goOn_361 : dk mX4_goOn 361 .iadd 1 362 := ⟨by decide +kernel, rfl⟩
theorem aX4_goOn_362 : dk mX4_goOn 362 .dup2 1 363 := ⟨by decide +kernel, rfl⟩
theorem aX4_goOn_363 : dk mX4_goOn 363 .laload 1 364 := ⟨by decide +kernel, rfl⟩
theorem aX4_goOn_364 : dLl mX4_goOn 364 6 366 := Or.inr ⟨by decide +kernel, rfl⟩
theorem aX4_goOn_366 : dk mX4_goOn 366 .ladd 1 367 := ⟨by decide +kernel, rfl⟩
theorem aX4_goOn_367 : dk mX4_goOn 367 .lastore 1 368 := ⟨by decide +kernel, rfl⟩
theorem aX4_goOn_368 : dJ mX4_goOn 368 388 := ⟨20, by decide +kernel, by decide⟩
theorem aX4_goOn_371 : dAl mX4_goOn 371 0 372 := Or.inl ⟨0, by decide +kernel, rfl, rfl⟩
theorem aX4_goOn_372 : dG mX4_goOn 372 4 17 375 := ⟨54, by decide +kernel, rfl, dW_at 502 (by decide +kernel), by decide⟩
theorem aX4_goOn_375 : dKi mX4_goOn 375 (nI 20) 377 := Or.inr (Or.inl ⟨20, by decide +kernel, by decide +kernel, rfl⟩)
theorem aX4_goOn_377 : dIl mX4_goOn 377 1 378 := Or.inl ⟨1, by decide +kernel, rfl, rfl⟩
theorem aX4_goOn_378 : dk mX4_goOn 378 .imul 1 379 := ⟨by decide +kernel, rfl⟩
theorem aX4_goOn_379 : dIl mX4_goOn 379 5 381 := Or.inr ⟨by decide +kernel, rfl⟩
theorem aX4_goOn_381 : dk mX4_goOn 381 .iadd 1 382 := ⟨by decide +kernel, rfl⟩
theorem aX4_goOn_382 : dk mX4_goOn 382 .dup2 1 383 := ⟨by decide +kernel, rfl⟩
theorem aX4_goOn_383 : dk mX4_goOn 383 .laload 1 384 := ⟨by decide +kernel, rfl⟩
theorem aX4_goOn_384 : dLl mX4_goOn 384 6 386 := Or.inr ⟨by decide +kernel, rfl⟩
theorem aX4_goOn_386 : dk mX4_goOn 386 .ladd 1 387 := ⟨by decide +kernel, rfl⟩
theorem aX4_goOn_387 : dk mX4_goOn 387 .lastore 1 388 := ⟨by decide +kernel, rfl⟩
theorem aX4_goOn_388 : dAl mX4_goOn 388 0 389 := Or.inl ⟨0, by decide +kernel, rfl, rfl⟩
theorem aX4_goOn_389 : dG mX4_goOn 389 4 11 392 := ⟨35, by decide +kernel, rfl, dW_at 496 (by decide +kernel), by decide⟩
theorem aX4_goOn_392 : dIl mX4_goOn 392 1 393 := Or.inl ⟨1, by decide +kernel, rfl, rfl⟩
theorem aX4_goOn_393 : dk mX4_goOn 393 .dup2 1 394 := ⟨by decide +kernel, rfl⟩
theorem aX4_goOn_394 : dk mX4_goOn 394 .iaload 1 395 := ⟨by decide +kernel, rfl⟩
theorem aX4_goOn_395 : dKi mX4_goOn 395 (nI 1) 396 := Or.inl ⟨1, by decide +kernel, by decide +kernel, rfl⟩
theorem aX4_goOn_396 : dk mX4_goOn 396 .iadd 1 397 := ⟨by decide +kernel, rfl⟩
theorem aX4_goOn_397 : dk mX4_goOn 397 .iastore 1 398 := ⟨by decide +kernel, rfl⟩
theorem aX4_goOn_398 : dKi mX4_goOn 398 (nI 1) 399 := Or.inl ⟨1, by decide +kernel, by decide +kernel, rfl⟩
theorem aX4_goOn_399 : dk mX4_goOn 399 .ireturn 1 400 := ⟨by decide +kernel, rfl⟩
theorem okX4_grow : okM mX4_grow := ⟨dW_at 620 (by decide +kernel), dW_at 31 (by decide +kernel), by decide +kernel, by decide +kernel, by decide +kernel, Or.inl ⟨dW_at 618 (by decide +kernel), dW_at 619 (by decide +kernel)⟩⟩
theorem aX4_grow_0 : dIl mX4_grow 0 1 1 := Or.inl ⟨1, by decide +kernel, rfl, rfl⟩
theorem aX4_grow_1 : dKi mX4_grow 1 (nI 0) 2 := Or.inl ⟨0, by decide +kernel, by decide +kernel, rfl⟩
theorem aX4_grow_2 : dKi mX4_grow 2 (nI 500) 5 := Or.inr (Or.inr (Or.inl ⟨500, by decide +kernel, by decide +kernel, rfl⟩))
theorem aX4_grow_5 : dS mX4_grow 5 mX4_in 8 := ⟨76, by decide +kernel, rfl, dW_at 565 (by decide +kernel), by decide⟩
theorem aX4_grow_8 : dZ mX4_grow 8 .ne 11 13 := ⟨5, by decide +kernel, by decide, rfl⟩
theorem aX4_grow_11 : dKi mX4_grow 11 ((-1)) 12 := Or.inl ⟨-1, by decide +kernel, by decide +kernel, rfl⟩
theorem aX4_grow_12 : dk mX4_grow 12 .ireturn 1 13 := ⟨by decide +kernel, rfl⟩
theorem aX4_grow_13 : dAl mX4_grow 13 0 14 := Or.inl ⟨0, by decide +kernel, rfl, rfl⟩
theorem aX4_grow_14 : dG mX4_grow 14 4 9 17 := ⟨28, by decide +kernel, rfl, dW_at 494 (by decide +kernel), by decide⟩
theorem aX4_grow_17 : dKi mX4_grow 17 (nI 0) 18 := Or.inl ⟨0, by decide +kernel, by decide +kernel, rfl⟩
theorem aX4_grow_18 : dk mX4_grow 18 .baload 1 19 := ⟨by decide +kernel, rfl⟩
theorem aX4_grow_19 : dZ mX4_grow 19 .ne 22 25 := ⟨6, by decide +kernel, by decide, rfl⟩
theorem aX4_grow_22 : dKi mX4_grow 22 ((-2)) 24 := Or.inr (Or.inl ⟨-2, by decide +kernel, by decide +kernel, rfl⟩)
theorem aX4_grow_24 : dk mX4_grow 24 .ireturn 1 25 := ⟨by decide +kernel, rfl⟩
theorem aX4_grow_25 : dKi mX4_grow 25 (nI 0) 26 := Or.inl ⟨0, by decide +kernel, by decide +kernel, rfl⟩
theorem aX4_grow_26 : dIs mX4_grow 26 2 27 := ⟨Or.inl ⟨2, by decide +kernel, rfl, rfl⟩, by decide⟩
theorem aX4_grow_27 : dIl mX4_grow 27 2 28 := Or.inl ⟨2, by decide +kernel, rfl, rfl⟩
theorem aX4_grow_28 : dIl mX4_grow 28 1 29 := Or.inl ⟨1, by decide +kernel, rfl, rfl⟩
theorem aX4_grow_29 : dC mX4_grow 29 .ge 32 50 := ⟨21, by decide +kernel, by decide, rfl⟩
theorem aX4_grow_32 : dAl mX4_grow 32 0 33 := Or.inl ⟨0, by decide +kernel, rfl, rfl⟩
theorem aX4_grow_33 : dKi mX4_grow 33 (nI 0) 34 := Or.inl ⟨0, by decide +kernel, by decide +kernel, rfl⟩
theorem aX4_grow_34 : dAl mX4_grow 34 0 35 := Or.inl ⟨0, by decide +kernel, rfl, rfl⟩
theorem aX4_grow_35 : dG mX4_grow 35 4 7 38 := ⟨95, by decide +kernel, rfl, dW_at 492 (by decide +kernel), by decide⟩
theorem aX4_grow_38 : dV mX4_grow 38 mX4_goOn 41 := ⟨142, by decide +kernel, rfl, dW_at 621 (by decide +kernel), by decide⟩
theorem aX4_grow_41 : dZ mX4_grow 41 .eq 44 50 := ⟨9, by decide +kernel, by decide, rfl⟩
theorem aX4_grow_44 : dIn mX4_grow 44 2 (nI 1) 47 := ⟨1, by decide +kernel, by decide +kernel, rfl, by decide⟩
theorem aX4_grow_47 : dJ mX4_grow 47 27 := ⟨-20, by decide +kernel, by decide⟩
theorem aX4_grow_50 : dIl mX4_grow 50 2 51 := Or.inl ⟨2, by decide +kernel, rfl, rfl⟩
theorem aX4_grow_51 : dk mX4_grow 51 .ireturn 1 52 := ⟨by decide +kernel, rfl⟩
theorem okX4_isSet : okM mX4_isSet := ⟨dW_at 653 (by decide +kernel), dW_at 31 (by decide +kernel), by decide +kernel, by decide +kernel, by decide +kernel, Or.inr (dW_at 652 (by decide +kernel))⟩
theorem aX4_isSet_0 : dIl mX4_isSet 0 0 1 := Or.inl ⟨0, by decide +kernel, rfl, rfl⟩
theorem aX4_isSet_1 : dKi mX4_isSet 1 (nI 0) 2 := Or.inl ⟨0, by decide +kernel, by decide +kernel, rfl⟩
theorem aX4_isSet_2 : dKi mX4_isSet 2 (nI 255) 5 := Or.inr (Or.inr (Or.inl ⟨255, by decide +kernel, by decide +kernel, rfl⟩))
theorem aX4_isSet_5 : dS mX4_isSet 5 mX4_in 8 := ⟨76, by decide +kernel, rfl, dW_at 565 (by decide +kernel), by decide⟩
theorem aX4_isSet_8 : dk mX4_isSet 8 .ireturn 1 9 := ⟨by decide +kernel, rfl⟩
theorem okX4_until : okM mX4_until := ⟨dW_at 650 (by decide +kernel), dW_at 31 (by decide +kernel), by decide +kernel, by decide +kernel, by decide +kernel, Or.inl ⟨dW_at 648 (by decide +kernel), dW_at 649 (by decide +kernel)⟩⟩
theorem aX4_until_0 : dIl mX4_until 0 1 1 := Or.inl ⟨1, by decide +kernel, rfl, rfl⟩
theorem aX4_until_1 : dS mX4_until 1 mX4_isSet 4 := ⟨146, by decide +kernel, rfl, dW_at 651 (by decide +kernel), by decide⟩
theorem aX4_until_4 : dZ mX4_until 4 .eq 7 28 := ⟨24, by decide +kernel, by decide, rfl⟩
theorem aX4_until_7 : dIl mX4_until 7 2 8 := Or.inl ⟨2, by decide +kernel, rfl, rfl⟩
theorem aX4_until_8 : dKi mX4_until 8 (nI 0) 9 := Or.inl ⟨0, by decide +kernel, by decide +kernel, rfl⟩
theorem aX4_until_9 : dKi mX4_until 9 (nI 60) 11 := Or.inr (Or.inl ⟨60, by decide +kernel, by decide +kernel, rfl⟩)
theorem aX4_until_11 : dS mX4_until 11 mX4_in 14 := ⟨76, by decide +kernel, rfl, dW_at 565 (by decide +kernel), by decide⟩
theorem aX4_until_14 : dZ mX4_until 14 .eq 17 28 := ⟨14, by decide +kernel, by decide, rfl⟩
theorem aX4_until_17 : dIl mX4_until 17 3 18 := Or.inl ⟨3, by decide +kernel, rfl, rfl⟩
theorem aX4_until_18 : dKi mX4_until 18 (nI 0) 19 := Or.inl ⟨0, by decide +kernel, by decide +kernel, rfl⟩
theorem aX4_until_19 : dKi mX4_until 19 (nI 500) 22 := Or.inr (Or.inr (Or.inl ⟨500, by decide +kernel, by decide +kernel, rfl⟩))
theorem aX4_until_22 : dS mX4_until 22 mX4_in 25 := ⟨76, by decide +kernel, rfl, dW_at 565 (by decide +kernel), by decide⟩
theorem aX4_until_25 : dZ mX4_until 25 .ne 28 30 := ⟨5, by decide +kernel, by decide, rfl⟩
theorem aX4_until_28 : dKi mX4_until 28 ((-1)) 29 := Or.inl ⟨-1, by decide +kernel, by decide +kernel, rfl⟩
theorem aX4_until_29 : dk mX4_until 29 .ireturn 1 30 := ⟨by decide +kernel, rfl⟩
theorem aX4_until_30 : dAl mX4_until 30 0 31 := Or.inl ⟨0, by decide +kernel, rfl, rfl⟩
theorem aX4_until_31 : dG mX4_until 31 4 9 34 := ⟨28, by decide +kernel, rfl, dW_at 494 (by decide +kernel), by decide⟩
theorem aX4_until_34 : dKi mX4_until 34 (nI 0) 35 := Or.inl ⟨0, by decide +kernel, by decide +kernel, rfl⟩
theorem aX4_until_35 : dk mX4_until 35 .baload 1 36 := ⟨by decide +kernel, rfl⟩
theorem aX4_until_36 : dZ mX4_until 36 .ne 39 42 := ⟨6, by decide +kernel, by decide, rfl⟩
theorem aX4_until_39 : dKi mX4_until 39 ((-2)) 41 := Or.inr (Or.inl ⟨-2, by decide +kernel, by decide +kernel, rfl⟩)
theorem aX4_until_41 : dk mX4_until 41 .ireturn 1 42 := ⟨by decide +kernel, rfl⟩
theorem aX4_until_42 : dKl mX4_until 42 (lN 1) 43 := Or.inl ⟨1, by decide +kernel, rfl, rfl⟩
theorem aX4_until_43 : dKi mX4_until 43 (nI 60) 45 := Or.inr (Or.inl ⟨60, by decide +kernel, by decide +kernel, rfl⟩)
theorem aX4_until_45 : dIl mX4_until 45 2 46 := Or.inl ⟨2, by decide +kernel, rfl, rfl⟩
theorem aX4_until_46 : dk mX4_until 46 .isub 1 47 := ⟨by decide +kernel, rfl⟩
theorem aX4_until_47 : dk mX4_until 47 .lshl 1 48 := ⟨by decide +kernel, rfl⟩
theorem aX4_until_48 : dLs mX4_until 48 4 50 := ⟨Or.inr ⟨by decide +kernel, rfl⟩, by decide⟩
theorem aX4_until_50 : dKi mX4_until 50 (nI 0) 51 := Or.inl ⟨0, by decide +kernel, by decide +kernel, rfl⟩
theorem aX4_until_51 : dIs mX4_until 51 6 53 := ⟨Or.inr ⟨by decide +kernel, rfl⟩, by decide⟩
theorem aX4_until_53 : dIl mX4_until 53 6 55 := Or.inr ⟨by decide +kernel, rfl⟩
theorem aX4_until_55 : dIl mX4_until 55 3 56 := Or.inl ⟨3, by decide +kernel, rfl, rfl⟩
theorem aX4_until_56 : dC mX4_until 56 .ge 59 96 := ⟨40, by decide +kernel, by decide, rfl⟩
theorem aX4_until_59 : dAl mX4_until 59 0 60 := Or.inl ⟨0, by decide +kernel, rfl, rfl⟩
theorem aX4_until_60 : dKi mX4_until 60 (nI 0) 61 := Or.inl ⟨0, by decide +kernel, by decide +kernel, rfl⟩
theorem aX4_until_61 : dIl mX4_until 61 1 62 := Or.inl ⟨1, by decide +kernel, rfl, rfl⟩
theorem aX4_until_62 : dV mX4_until 62 mX4_high 65 := ⟨149, by decide +kernel, rfl, dW_at 654 (by decide +kernel), by decide⟩
theorem aX4_until_65 : dAl mX4_until 65 0 66 := Or.inl ⟨0, by decide +kernel, rfl, rfl⟩
theorem aX4_until_66 : dKi mX4_until 66 (nI 0) 67 := Or.inl ⟨0, by decide +kernel, by decide +kernel, rfl⟩
theorem aX4_until_67 : dIl mX4_until 67 1 68 := Or.inl ⟨1, by decide +kernel, rfl, rfl⟩
theorem aX4_until_68 : dV mX4_until 68 mX4_low 71 := ⟨153, by decide +kernel, rfl, dW_at 666 (by decide +kernel), by decide⟩
theorem aX4_until_71 : dk mX4_until 71 .lsub 1 72 := ⟨by decide +kernel, rfl⟩
theorem aX4_until_72 : dLl mX4_until 72 4 74 := Or.inr ⟨by decide +kernel, rfl⟩
theorem aX4_until_74 : dk mX4_until 74 .lcmp 1 75 := ⟨by decide +kernel, rfl⟩
theorem aX4_until_75 : dZ mX4_until 75 .le 78 96 := ⟨21, by decide +kernel, by decide, rfl⟩
theorem aX4_until_78 : dAl mX4_until 78 0 79 := Or.inl ⟨0, by decide +kernel, rfl, rfl⟩
theorem aX4_until_79 : dKi mX4_until 79 (nI 0) 80 := Or.inl ⟨0, by decide +kernel, by decide +kernel, rfl⟩
theorem aX4_until_80 : dAl mX4_until 80 0 81 := Or.inl ⟨0, by decide +kernel, rfl, rfl⟩
theorem aX4_until_81 : dG mX4_until 81 4 7 84 := ⟨95, by decide +kernel, rfl, dW_at 492 (by decide +kernel), by decide⟩
theorem aX4_until_84 : dV mX4_until 84 mX4_goOn 87 := ⟨142, by decide +kernel, rfl, dW_at 621 (by decide +kernel), by decide⟩
theorem aX4_until_87 : dZ mX4_until 87 .eq 90 96 := ⟨9, by decide +kernel, by decide, rfl⟩
theorem aX4_until_90 : dIn mX4_until 90 6 (nI 1) 93 := ⟨1, by decide +kernel, by decide +kernel, rfl, by decide⟩
theorem aX4_until_93 : dJ mX4_until 93 53 := ⟨-40, by decide +kernel, by decide⟩
theorem aX4_until_96 : dIl mX4_until 96 6 98 := Or.inr ⟨by decide +kernel, rfl⟩
theorem aX4_until_98 : dk mX4_until 98 .ireturn 1 99 := ⟨by decide +kernel, rfl⟩
theorem okX4_unended : okM mX4_unended := ⟨dW_at 665 (by decide +kernel), dW_at 31 (by decide +kernel), by decide +kernel, by decide +kernel, by decide +kernel, Or.inl ⟨dW_at 664 (by decide +kernel), dW_at 22 (by decide +kernel)⟩⟩
theorem aX4_unended_0 : dAl mX4_unended 0 0 1 := Or.inl ⟨0, by decide +kernel, rfl, rfl⟩
theorem aX4_unended_1 : dG mX4_unended 1 4 17 4 := ⟨54, by decide +kernel, rfl, dW_at 502 (by decide +kernel), by decide⟩
theorem aX4_unended_4 : dKi mX4_unended 4 (nI 20) 6 := Or.inr (Or.inl ⟨20, by decide +kernel, by decide +kernel, rfl⟩)
theorem aX4_unended_6 : dIl mX4_unended 6 1 7 := Or.inl ⟨1, by decide +kernel, rfl, rfl⟩
theorem aX4_unended_7 : dk mX4_unended 7 .imul 1 8 := ⟨by decide +kernel, rfl⟩
theorem aX4_unended_8 : dIl mX4_unended 8 2 9 := Or.inl ⟨2, by decide +kernel, rfl, rfl⟩
theorem aX4_unended_9 : dk mX4_unended 9 .iadd 1 10 := ⟨by decide +kernel, rfl⟩
theorem aX4_unended_10 : dk mX4_unended 10 .laload 1 11 := ⟨by decide +kernel, rfl⟩
theorem aX4_unended_11 : dLs mX4_unended 11 3 12 := ⟨Or.inl ⟨3, by decide +kernel, rfl, rfl⟩, by decide⟩
theorem aX4_unended_12 : dKi mX4_unended 12 (nI 0) 13 := Or.inl ⟨0, by decide +kernel, by decide +kernel, rfl⟩
theorem aX4_unended_13 : dIs mX4_unended 13 5 15 := ⟨Or.inr ⟨by decide +kernel, rfl⟩, by decide⟩
theorem aX4_unended_15 : dIl mX4_unended 15 5 17 := Or.inr ⟨by decide +kernel, rfl⟩
theorem aX4_unended_17 : dAl mX4_unended 17 0 18 := Or.inl ⟨0, by decide +kernel, rfl, rfl⟩
theorem aX4_unended_18 : dG mX4_unended 18 4 12 21 := ⟨38, by decide +kernel, rfl, dW_at 497 (by decide +kernel), by decide⟩
theorem aX4_unended_21 : dIl mX4_unended 21 1 22 := Or.inl ⟨1, by decide +kernel, rfl, rfl⟩
theorem aX4_unended_22 : dk mX4_unended 22 .iaload 1 23 := ⟨by decide +kernel, rfl⟩
theorem aX4_unended_23 : dC mX4_unended 23 .ge 26 67 := ⟨44, by decide +kernel, by decide, rfl⟩
theorem aX4_unended_26 : dLl mX4_unended 26 3 27 := Or.inl ⟨3, by decide +kernel, rfl, rfl⟩
theorem aX4_unended_27 : dAl mX4_unended 27 0 28 := Or.inl ⟨0, by decide +kernel, rfl, rfl⟩
theorem aX4_unended_28 : dG mX4_unended 28 4 13 31 := ⟨41, by decide +kernel, rfl, dW_at 498 (by decide +kernel), by decide⟩
theorem aX4_unended_31 : dKi mX4_unended 31 (nI 60) 33 := Or.inr (Or.inl ⟨60, by decide +kernel, by decide +kernel, rfl⟩)
theorem aX4_unended_33 : dIl mX4_unended 33 1 34 := Or.inl ⟨1, by decide +kernel, rfl, rfl⟩
theorem aX4_unended_34 : dk mX4_unended 34 .imul 1 35 := ⟨by decide +kernel, rfl⟩
theorem aX4_unended_35 : dIl mX4_unended 35 5 37 := Or.inr ⟨by decide +kernel, rfl⟩
theorem aX4_unended_37 : dk mX4_unended 37 .iadd 1 38 := ⟨by decide +kernel, rfl⟩
theorem aX4_unended_38 : dk mX4_unended 38 .iaload 1 39 := ⟨by decide +kernel, rfl⟩
theorem aX4_unended_39 : dIl mX4_unended 39 2 40 := Or.inl ⟨2, by decide +kernel, rfl, rfl⟩
theorem aX4_unended_40 : dC mX4_unended 40 .ne 43 58 := ⟨18, by decide +kernel, by decide, rfl⟩
theorem aX4_unended_43 : dAl mX4_unended 43 0 44 := Or.inl ⟨0, by decide +kernel, rfl, rfl⟩
theorem aX4_unended_44 : dG mX4_unended 44 4 15 47 := ⟨47, by decide +kernel, rfl, dW_at 500 (by decide +kernel), by decide⟩
theorem aX4_unended_47 : dKi mX4_unended 47 (nI 60) 49 := Or.inr (Or.inl ⟨60, by decide +kernel, by decide +kernel, rfl⟩)
theorem aX4_unended_49 : dIl mX4_unended 49 1 50 := Or.inl ⟨1, by decide +kernel, rfl, rfl⟩
theorem aX4_unended_50 : dk mX4_unended 50 .imul 1 51 := ⟨by decide +kernel, rfl⟩
theorem aX4_unended_51 : dIl mX4_unended 51 5 53 := Or.inr ⟨by decide +kernel, rfl⟩
theorem aX4_unended_53 : dk mX4_unended 53 .iadd 1 54 := ⟨by decide +kernel, rfl⟩
theorem aX4_unended_54 : dk mX4_unended 54 .laload 1 55 := ⟨by decide +kernel, rfl⟩
theorem aX4_unended_55 : dJ mX4_unended 55 59 := ⟨4, by decide +kernel, by decide⟩
theorem aX4_unended_58 : dKl mX4_unended 58 (lN 0) 59 := Or.inl ⟨0, by decide +kernel, rfl, rfl⟩
theorem aX4_unended_59 : dk mX4_unended 59 .ladd 1 60 := ⟨by decide +kernel, rfl⟩
theorem aX4_unended_60 : dLs mX4_unended 60 3 61 := ⟨Or.inl ⟨3, by decide +kernel, rfl, rfl⟩, by decide⟩
theorem aX4_unended_61 : dIn mX4_unended 61 5 (nI 1) 64 := ⟨1, by decide +kernel, by decide +kernel, rfl, by decide⟩
theorem aX4_unended_64 : dJ mX4_unended 64 15 := ⟨-49, by decide +kernel, by decide⟩
theorem aX4_unended_67 : dLl mX4_unended 67 3 68 := Or.inl ⟨3, by decide +kernel, rfl, rfl⟩
theorem aX4_unended_68 : dk mX4_unended 68 .lreturn 1 69 := ⟨by decide +kernel, rfl⟩
theorem okX4_foundOf : okM mX4_foundOf := ⟨dW_at 661 (by decide +kernel), dW_at 31 (by decide +kernel), by decide +kernel, by decide +kernel, by decide +kernel, Or.inl ⟨dW_at 660 (by decide +kernel), dW_at 21 (by decide +kernel)⟩⟩
theorem aX4_foundOf_0 : dKl mX4_foundOf 0 (lN 0) 1 := Or.inl ⟨0, by decide +kernel, rfl, rfl⟩
theorem aX4_foundOf_1 : dLs mX4_foundOf 1 3 2 := ⟨Or.inl ⟨3, by decide +kernel, rfl, rfl⟩, by decide⟩
theorem aX4_foundOf_2 : dKi mX4_foundOf 2 (nI 0) 3 := Or.inl ⟨0, by decide +kernel, by decide +kernel, rfl⟩
theorem aX4_foundOf_3 : dIs mX4_foundOf 3 5 5 := ⟨Or.inr ⟨by decide +kernel, rfl⟩, by decide⟩
theorem aX4_foundOf_5 : dIl mX4_foundOf 5 5 7 := Or.inr ⟨by decide +kernel, rfl⟩
theorem aX4_foundOf_7 : dKi mX4_foundOf 7 (nI 8) 9 := Or.inr (Or.inl ⟨8, by decide +kernel, by decide +kernel, rfl⟩)
theorem aX4_foundOf_9 : dC mX4_foundOf 9 .ge 12 47 := ⟨38, by decide +kernel, by decide, rfl⟩
theorem aX4_foundOf_12 : dLl mX4_foundOf 12 3 13 := Or.inl ⟨3, by decide +kernel, rfl, rfl⟩
theorem aX4_foundOf_13 : dIl mX4_foundOf 13 2 14 := Or.inl ⟨2, by decide +kernel, rfl, rfl⟩
theorem aX4_foundOf_14 : dIl mX4_foundOf 14 5 16 := Or.inr ⟨by decide +kernel, rfl⟩
theorem aX4_foundOf_16 : dk mX4_foundOf 16 .ishr 1 17 := ⟨by decide +kernel, rfl⟩
theorem aX4_foundOf_17 : dKi mX4_foundOf 17 (nI 1) 18 := Or.inl ⟨1, by decide +kernel, by decide +kernel, rfl⟩
theorem aX4_foundOf_18 : dk mX4_foundOf 18 .iand 1 19 := ⟨by decide +kernel, rfl⟩
theorem aX4_foundOf_19 : dKi mX4_foundOf 19 (nI 1) 20 := Or.inl ⟨1, by decide +kernel, by decide +kernel, rfl⟩
theorem aX4_foundOf_20 : dC mX4_foundOf 20 .ne 23 38 := ⟨18, by decide +kernel, by decide, rfl⟩
theorem aX4_foundOf_23 : dAl mX4_foundOf 23 0 24 := Or.inl ⟨0, by decide +kernel, rfl, rfl⟩
theorem aX4_foundOf_24 : dG mX4_foundOf 24 4 16 27 := ⟨51, by decide +kernel, rfl, dW_at 501 (by decide +kernel), by decide⟩
theorem aX4_foundOf_27 : dKi mX4_foundOf 27 (nI 8) 29 := Or.inr (Or.inl ⟨8, by decide +kernel, by decide +kernel, rfl⟩)
theorem aX4_foundOf_29 : dIl mX4_foundOf 29 1 30 := Or.inl ⟨1, by decide +kernel, rfl, rfl⟩
theorem aX4_foundOf_30 : dk mX4_foundOf 30 .imul 1 31 := ⟨by decide +kernel, rfl⟩
theorem aX4_foundOf_31 : dIl mX4_foundOf 31 5 33 := Or.inr ⟨by decide +kernel, rfl⟩
theorem aX4_foundOf_33 : dk mX4_foundOf 33 .iadd 1 34 := ⟨by decide +kernel, rfl⟩
theorem aX4_foundOf_34 : dk mX4_foundOf 34 .laload 1 35 := ⟨by decide +kernel, rfl⟩
theorem aX4_foundOf_35 : dJ mX4_foundOf 35 39 := ⟨4, by decide +kernel, by decide⟩
theorem aX4_foundOf_38 : dKl mX4_foundOf 38 (lN 0) 39 := Or.inl ⟨0, by decide +kernel, rfl, rfl⟩
theorem aX4_foundOf_39 : dk mX4_foundOf 39 .ladd 1 40 := ⟨by decide +kernel, rfl⟩
theorem aX4_foundOf_40 : dLs mX4_foundOf 40 3 41 := ⟨Or.inl ⟨3, by decide +kernel, rfl, rfl⟩, by decide⟩
theorem aX4_foundOf_41 : dIn mX4_foundOf 41 5 (nI 1) 44 := ⟨1, by decide +kernel, by decide +kernel, rfl, by decide⟩
theorem aX4_foundOf_44 : dJ mX4_foundOf 44 5 := ⟨-39, by decide +kernel, by decide⟩
theorem aX4_foundOf_47 : dLl mX4_foundOf 47 3 48 := Or.inl ⟨3, by decide +kernel, rfl, rfl⟩
theorem aX4_foundOf_48 : dk mX4_foundOf 48 .lreturn 1 49 := ⟨by decide +kernel, rfl⟩
theorem okX4_low : okM mX4_low := ⟨dW_at 669 (by decide +kernel), dW_at 31 (by decide +kernel), by decide +kernel, by decide +kernel, by decide +kernel, Or.inl ⟨dW_at 668 (by decide +kernel), dW_at 23 (by decide +kernel)⟩⟩
theorem aX4_low_0 : dAl mX4_low 0 0 1 := Or.inl ⟨0, by decide +kernel, rfl, rfl⟩
theorem aX4_low_1 : dIl mX4_low 1 1 2 := Or.inl ⟨1, by decide +kernel, rfl, rfl⟩
theorem aX4_low_2 : dIl mX4_low 2 2 3 := Or.inl ⟨2, by decide +kernel, rfl, rfl⟩
theorem aX4_low_3 : dV mX4_low 3 mX4_foundOf 6 := ⟨156, by decide +kernel, rfl, dW_at 658 (by decide +kernel), by decide⟩
theorem aX4_low_6 : dLs mX4_low 6 3 7 := ⟨Or.inl ⟨3, by decide +kernel, rfl, rfl⟩, by decide⟩
theorem aX4_low_7 : dKi mX4_low 7 (nI 0) 8 := Or.inl ⟨0, by decide +kernel, by decide +kernel, rfl⟩
theorem aX4_low_8 : dIs mX4_low 8 5 10 := ⟨Or.inr ⟨by decide +kernel, rfl⟩, by decide⟩
theorem aX4_low_10 : dIl mX4_low 10 5 12 := Or.inr ⟨by decide +kernel, rfl⟩
theorem aX4_low_12 : dAl mX4_low 12 0 13 := Or.inl ⟨0, by decide +kernel, rfl, rfl⟩
theorem aX4_low_13 : dG mX4_low 13 4 0 16 := ⟨72, by decide +kernel, rfl, dW_at 485 (by decide +kernel), by decide⟩
theorem aX4_low_16 : dC mX4_low 16 .ge 19 61 := ⟨45, by decide +kernel, by decide, rfl⟩
theorem aX4_low_19 : dLl mX4_low 19 3 20 := Or.inl ⟨3, by decide +kernel, rfl, rfl⟩
theorem aX4_low_20 : dAl mX4_low 20 0 21 := Or.inl ⟨0, by decide +kernel, rfl, rfl⟩
theorem aX4_low_21 : dIl mX4_low 21 5 23 := Or.inr ⟨by decide +kernel, rfl⟩
theorem aX4_low_23 : dV mX4_low 23 mX4_isSure 26 := ⟨159, by decide +kernel, rfl, dW_at 670 (by decide +kernel), by decide⟩
theorem aX4_low_26 : dZ mX4_low 26 .eq 29 52 := ⟨26, by decide +kernel, by decide, rfl⟩
theorem aX4_low_29 : dAl mX4_low 29 0 30 := Or.inl ⟨0, by decide +kernel, rfl, rfl⟩
theorem aX4_low_30 : dIl mX4_low 30 5 32 := Or.inr ⟨by decide +kernel, rfl⟩
theorem aX4_low_32 : dV mX4_low 32 mX4_reach 35 := ⟨114, by decide +kernel, rfl, dW_at 609 (by decide +kernel), by decide⟩
theorem aX4_low_35 : dIl mX4_low 35 2 36 := Or.inl ⟨2, by decide +kernel, rfl, rfl⟩
theorem aX4_low_36 : dKi mX4_low 36 ((-1)) 37 := Or.inl ⟨-1, by decide +kernel, by decide +kernel, rfl⟩
theorem aX4_low_37 : dk mX4_low 37 .ixor 1 38 := ⟨by decide +kernel, rfl⟩
theorem aX4_low_38 : dk mX4_low 38 .iand 1 39 := ⟨by decide +kernel, rfl⟩
theorem aX4_low_39 : dZ mX4_low 39 .ne 42 52 := ⟨13, by decide +kernel, by decide, rfl⟩
theorem aX4_low_42 : dAl mX4_low 42 0 43 := Or.inl ⟨0, by decide +kernel, rfl, rfl⟩
theorem aX4_low_43 : dIl mX4_low 43 1 44 := Or.inl ⟨1, by decide +kernel, rfl, rfl⟩
theorem aX4_low_44 : dIl mX4_low 44 5 46 := Or.inr ⟨by decide +kernel, rfl⟩
theorem aX4_low_46 : dV mX4_low 46 mX4_unended 49 := ⟨162, by decide +kernel, rfl, dW_at 662 (by decide +kernel), by decide⟩
theorem aX4_low_49 : dJ mX4_low 49 53 := ⟨4, by decide +kernel, by decide⟩
theorem aX4_low_52 : dKl mX4_low 52 (lN 0) 53 := Or.inl ⟨0, by decide +kernel, rfl, rfl⟩
theorem aX4_low_53 : dk mX4_low 53 .ladd 1 54 := ⟨by decide +kernel, rfl⟩
theorem aX4_low_54 : dLs mX4_low 54 3 55 := ⟨Or.inl ⟨3, by decide +kernel, rfl, rfl⟩, by decide⟩
theorem aX4_low_55 : dIn mX4_low 55 5 (nI 1) 58 := ⟨1, by decide +kernel, by decide +kernel, rfl, by decide⟩
theorem aX4_low_58 : dJ mX4_low 58 10 := ⟨-48, by decide +kernel, by decide⟩
theorem aX4_low_61 : dLl mX4_low 61 3 62 := Or.inl ⟨3, by decide +kernel, rfl, rfl⟩
theorem aX4_low_62 : dk mX4_low 62 .lreturn 1 63 := ⟨by decide +kernel, rfl⟩
theorem okX4_high : okM mX4_high := ⟨dW_at 657 (by decide +kernel), dW_at 31 (by decide +kernel), by decide +kernel, by decide +kernel, by decide +kernel, Or.inl ⟨dW_at 656 (by decide +kernel), dW_at 20 (by decide +kernel)⟩⟩
theorem aX4_high_0 : dAl mX4_high 0 0 1 := Or.inl ⟨0, by decide +kernel, rfl, rfl⟩
theorem aX4_high_1 : dIl mX4_high 1 1 2 := Or.inl ⟨1, by decide +kernel, rfl, rfl⟩
theorem aX4_high_2 : dIl mX4_high 2 2 3 := Or.inl ⟨2, by decide +kernel, rfl, rfl⟩
theorem aX4_high_3 : dV mX4_high 3 mX4_foundOf 6 := ⟨156, by decide +kernel, rfl, dW_at 658 (by decide +kernel), by decide⟩
theorem aX4_high_6 : dLs mX4_high 6 3 7 := ⟨Or.inl ⟨3, by decide +kernel, rfl, rfl⟩, by decide⟩
theorem aX4_high_7 : dKi mX4_high 7 (nI 0) 8 := Or.inl ⟨0, by decide +kernel, by decide +kernel, rfl⟩
theorem aX4_high_8 : dIs mX4_high 8 5 10 := ⟨Or.inr ⟨by decide +kernel, rfl⟩, by decide⟩
theorem aX4_high_10 : dIl mX4_high 10 5 12 := Or.inr ⟨by decide +kernel, rfl⟩
theorem aX4_high_12 : dAl mX4_high 12 0 13 := Or.inl ⟨0, by decide +kernel, rfl, rfl⟩
theorem aX4_high_13 : dG mX4_high 13 4 0 16 := ⟨72, by decide +kernel, rfl, dW_at 485 (by decide +kernel), by decide⟩
theorem aX4_high_16 : dC mX4_high 16 .ge 19 50 := ⟨34, by decide +kernel, by decide, rfl⟩
theorem aX4_high_19 : dLl mX4_high 19 3 20 := Or.inl ⟨3, by decide +kernel, rfl, rfl⟩
theorem aX4_high_20 : dAl mX4_high 20 0 21 := Or.inl ⟨0, by decide +kernel, rfl, rfl⟩
theorem aX4_high_21 : dIl mX4_high 21 5 23 := Or.inr ⟨by decide +kernel, rfl⟩
theorem aX4_high_23 : dV mX4_high 23 mX4_reach 26 := ⟨114, by decide +kernel, rfl, dW_at 609 (by decide +kernel), by decide⟩
theorem aX4_high_26 : dIl mX4_high 26 2 27 := Or.inl ⟨2, by decide +kernel, rfl, rfl⟩
theorem aX4_high_27 : dk mX4_high 27 .iand 1 28 := ⟨by decide +kernel, rfl⟩
theorem aX4_high_28 : dZ mX4_high 28 .eq 31 41 := ⟨13, by decide +kernel, by decide, rfl⟩
theorem aX4_high_31 : dAl mX4_high 31 0 32 := Or.inl ⟨0, by decide +kernel, rfl, rfl⟩
theorem aX4_high_32 : dIl mX4_high 32 1 33 := Or.inl ⟨1, by decide +kernel, rfl, rfl⟩
theorem aX4_high_33 : dIl mX4_high 33 5 35 := Or.inr ⟨by decide +kernel, rfl⟩
theorem aX4_high_35 : dV mX4_high 35 mX4_unended 38 := ⟨162, by decide +kernel, rfl, dW_at 662 (by decide +kernel), by decide⟩
theorem aX4_high_38 : dJ mX4_high 38 42 := ⟨4, by decide +kernel, by decide⟩
theorem aX4_high_41 : dKl mX4_high 41 (lN 0) 42 := Or.inl ⟨0, by decide +kernel, rfl, rfl⟩
theorem aX4_high_42 : dk mX4_high 42 .ladd 1 43 := ⟨by decide +kernel, rfl⟩
theorem aX4_high_43 : dLs mX4_high 43 3 44 := ⟨Or.inl ⟨3, by decide +kernel, rfl, rfl⟩, by decide⟩
theorem aX4_high_44 : dIn mX4_high 44 5 (nI 1) 47 := ⟨1, by decide +kernel, by decide +kernel, rfl, by decide⟩
theorem aX4_high_47 : dJ mX4_high 47 10 := ⟨-37, by decide +kernel, by decide⟩
theorem aX4_high_50 : dLl mX4_high 50 3 51 := Or.inl ⟨3, by decide +kernel, rfl, rfl⟩
theorem aX4_high_51 : dk mX4_high 51 .lreturn 1 52 := ⟨by decide +kernel, rfl⟩
theorem okX4_end : okM mX4_end := ⟨dW_at 677 (by decide +kernel), dW_at 31 (by decide +kernel), by decide +kernel, by decide +kernel, by decide +kernel, Or.inl ⟨dW_at 675 (by decide +kernel), dW_at 676 (by decide +kernel)⟩⟩
theorem aX4_end_0 : dIl mX4_end 0 1 1 := Or.inl ⟨1, by decide +kernel, rfl, rfl⟩
theorem aX4_end_1 : dS mX4_end 1 mX4_isSet 4 := ⟨146, by decide +kernel, rfl, dW_at 651 (by decide +kernel), by decide⟩
theorem aX4_end_4 : dZ mX4_end 4 .eq 7 25 := ⟨21, by decide +kernel, by decide, rfl⟩
theorem aX4_end_7 : dIl mX4_end 7 2 8 := Or.inl ⟨2, by decide +kernel, rfl, rfl⟩
theorem aX4_end_8 : dKi mX4_end 8 (nI 0) 9 := Or.inl ⟨0, by decide +kernel, by decide +kernel, rfl⟩
theorem aX4_end_9 : dKi mX4_end 9 (nI 1) 10 := Or.inl ⟨1, by decide +kernel, by decide +kernel, rfl⟩
theorem aX4_end_10 : dS mX4_end 10 mX4_in 13 := ⟨76, by decide +kernel, rfl, dW_at 565 (by decide +kernel), by decide⟩
theorem aX4_end_13 : dZ mX4_end 13 .eq 16 25 := ⟨12, by decide +kernel, by decide, rfl⟩
theorem aX4_end_16 : dAl mX4_end 16 0 17 := Or.inl ⟨0, by decide +kernel, rfl, rfl⟩
theorem aX4_end_17 : dG mX4_end 17 4 9 20 := ⟨28, by decide +kernel, rfl, dW_at 494 (by decide +kernel), by decide⟩
theorem aX4_end_20 : dKi mX4_end 20 (nI 0) 21 := Or.inl ⟨0, by decide +kernel, by decide +kernel, rfl⟩
theorem aX4_end_21 : dk mX4_end 21 .baload 1 22 := ⟨by decide +kernel, rfl⟩
theorem aX4_end_22 : dZ mX4_end 22 .ne 25 27 := ⟨5, by decide +kernel, by decide, rfl⟩
theorem aX4_end_25 : dKl mX4_end 25 (lN 0) 26 := Or.inl ⟨0, by decide +kernel, rfl, rfl⟩
theorem aX4_end_26 : dk mX4_end 26 .lreturn 1 27 := ⟨by decide +kernel, rfl⟩
theorem aX4_end_27 : dIl mX4_end 27 2 28 := Or.inl ⟨2, by decide +kernel, rfl, rfl⟩
theorem aX4_end_28 : dZ mX4_end 28 .ne 31 40 := ⟨12, by decide +kernel, by decide, rfl⟩
theorem aX4_end_31 : dAl mX4_end 31 0 32 := Or.inl ⟨0, by decide +kernel, rfl, rfl⟩
theorem aX4_end_32 : dKi mX4_end 32 (nI 0) 33 := Or.inl ⟨0, by decide +kernel, by decide +kernel, rfl⟩
theorem aX4_end_33 : dIl mX4_end 33 1 34 := Or.inl ⟨1, by decide +kernel, rfl, rfl⟩
theorem aX4_end_34 : dV mX4_end 34 mX4_low 37 := ⟨153, by decide +kernel, rfl, dW_at 666 (by decide +kernel), by decide⟩
theorem aX4_end_37 : dJ mX4_end 37 46 := ⟨9, by decide +kernel, by decide⟩
theorem aX4_end_40 : dAl mX4_end 40 0 41 := Or.inl ⟨0, by decide +kernel, rfl, rfl⟩
theorem aX4_end_41 : dKi mX4_end 41 (nI 0) 42 := Or.inl ⟨0, by decide +kernel, by decide +kernel, rfl⟩
theorem aX4_end_42 : dIl mX4_end 42 1 43 := Or.inl ⟨1, by decide +kernel, rfl, rfl⟩
theorem aX4_end_43 : dV mX4_end 43 mX4_high 46 := ⟨149, by decide +kernel, rfl, dW_at 654 (by decide +kernel), by decide⟩
theorem aX4_end_46 : dk mX4_end 46 .lreturn 1 47 := ⟨by decide +kernel, rfl⟩
theorem okX4_part : okM mX4_part := ⟨dW_at 685 (by decide +kernel), dW_at 31 (by decide +kernel), by decide +kernel, by decide +kernel, by decide +kernel, Or.inr (dW_at 684 (by decide +kernel))⟩
theorem aX4_part_0 : dLl mX4_part 0 0 1 := Or.inl ⟨0, by decide +kernel, rfl, rfl⟩
theorem aX4_part_1 : dLs mX4_part 1 5 3 := ⟨Or.inr ⟨by decide +kernel, rfl⟩, by decide⟩
theorem aX4_part_3 : dKi mX4_part 3 (nI 0) 4 := Or.inl ⟨0, by decide +kernel, by decide +kernel, rfl⟩
theorem aX4_part_4 : dIs mX4_part 4 7 6 := ⟨Or.inr ⟨by decide +kernel, rfl⟩, by decide⟩
theorem aX4_part_6 : dKi mX4_part 6 (nI 0) 7 := Or.inl ⟨0, by decide +kernel, by decide +kernel, rfl⟩
theorem aX4_part_7 : dIs mX4_part 7 8 9 := ⟨Or.inr ⟨by decide +kernel, rfl⟩, by decide⟩
theorem aX4_part_9 : dIl mX4_part 9 8 11 := Or.inr ⟨by decide +kernel, rfl⟩
theorem aX4_part_11 : dKi mX4_part 11 (nI 30) 13 := Or.inr (Or.inl ⟨30, by decide +kernel, by decide +kernel, rfl⟩)
theorem aX4_part_13 : dC mX4_part 13 .gt 16 60 := ⟨47, by decide +kernel, by decide, rfl⟩
theorem aX4_part_16 : dIl mX4_part 16 7 18 := Or.inr ⟨by decide +kernel, rfl⟩
theorem aX4_part_18 : dKi mX4_part 18 (nI 1) 19 := Or.inl ⟨1, by decide +kernel, by decide +kernel, rfl⟩
theorem aX4_part_19 : dk mX4_part 19 .ishl 1 20 := ⟨by decide +kernel, rfl⟩
theorem aX4_part_20 : dIs mX4_part 20 7 22 := ⟨Or.inr ⟨by decide +kernel, rfl⟩, by decide⟩
theorem aX4_part_22 : dLl mX4_part 22 5 24 := Or.inr ⟨by decide +kernel, rfl⟩
theorem aX4_part_24 : dLl mX4_part 24 2 25 := Or.inl ⟨2, by decide +kernel, rfl, rfl⟩
theorem aX4_part_25 : dk mX4_part 25 .lcmp 1 26 := ⟨by decide +kernel, rfl⟩
theorem aX4_part_26 : dZ mX4_part 26 .lt 29 41 := ⟨15, by decide +kernel, by decide, rfl⟩
theorem aX4_part_29 : dLl mX4_part 29 5 31 := Or.inr ⟨by decide +kernel, rfl⟩
theorem aX4_part_31 : dLl mX4_part 31 2 32 := Or.inl ⟨2, by decide +kernel, rfl, rfl⟩
theorem aX4_part_32 : dk mX4_part 32 .lsub 1 33 := ⟨by decide +kernel, rfl⟩
theorem aX4_part_33 : dLs mX4_part 33 5 35 := ⟨Or.inr ⟨by decide +kernel, rfl⟩, by decide⟩
theorem aX4_part_35 : dIl mX4_part 35 7 37 := Or.inr ⟨by decide +kernel, rfl⟩
theorem aX4_part_37 : dKi mX4_part 37 (nI 1) 38 := Or.inl ⟨1, by decide +kernel, by decide +kernel, rfl⟩
theorem aX4_part_38 : dk mX4_part 38 .ior 1 39 := ⟨by decide +kernel, rfl⟩
theorem aX4_part_39 : dIs mX4_part 39 7 41 := ⟨Or.inr ⟨by decide +kernel, rfl⟩, by decide⟩
theorem aX4_part_41 : dIl mX4_part 41 8 43 := Or.inr ⟨by decide +kernel, rfl⟩
theorem aX4_part_43 : dKi mX4_part 43 (nI 30) 45 := Or.inr (Or.inl ⟨30, by decide +kernel, by decide +kernel, rfl⟩)
theorem aX4_part_45 : dC mX4_part 45 .ge 48 54 := ⟨9, by decide +kernel, by decide, rfl⟩
theorem aX4_part_48 : dLl mX4_part 48 5 50 := Or.inr ⟨by decide +kernel, rfl⟩
theorem aX4_part_50 : dKi mX4_part 50 (nI 1) 51 := Or.inl ⟨1, by decide +kernel, by decide +kernel, rfl⟩
theorem aX4_part_51 : dk mX4_part 51 .lshl 1 52 := ⟨by decide +kernel, rfl⟩
theorem aX4_part_52 : dLs mX4_part 52 5 54 := ⟨Or.inr ⟨by decide +kernel, rfl⟩, by decide⟩
theorem aX4_part_54 : dIn mX4_part 54 8 (nI 1) 57 := ⟨1, by decide +kernel, by decide +kernel, rfl, by decide⟩
theorem aX4_part_57 : dJ mX4_part 57 9 := ⟨-48, by decide +kernel, by decide⟩
theorem aX4_part_60 : dIl mX4_part 60 4 62 := Or.inr ⟨by decide +kernel, rfl⟩
theorem aX4_part_62 : dZ mX4_part 62 .eq 65 79 := ⟨17, by decide +kernel, by decide, rfl⟩
theorem aX4_part_65 : dLl mX4_part 65 5 67 := Or.inr ⟨by decide +kernel, rfl⟩
theorem aX4_part_67 : dKl mX4_part 67 (lN 0) 68 := Or.inl ⟨0, by decide +kernel, rfl, rfl⟩
theorem aX4_part_68 : dk mX4_part 68 .lcmp 1 69 := ⟨by decide +kernel, rfl⟩
theorem aX4_part_69 : dZ mX4_part 69 .le 72 79 := ⟨10, by decide +kernel, by decide, rfl⟩
theorem aX4_part_72 : dIl mX4_part 72 7 74 := Or.inr ⟨by decide +kernel, rfl⟩
theorem aX4_part_74 : dKi mX4_part 74 (nI 1) 75 := Or.inl ⟨1, by decide +kernel, by decide +kernel, rfl⟩
theorem aX4_part_75 : dk mX4_part 75 .iadd 1 76 := ⟨by decide +kernel, rfl⟩
theorem aX4_part_76 : dJ mX4_part 76 81 := ⟨5, by decide +kernel, by decide⟩
theorem aX4_part_79 : dIl mX4_part 79 7 81 := Or.inr ⟨by decide +kernel, rfl⟩
theorem aX4_part_81 : dk mX4_part 81 .ireturn 1 82 := ⟨by decide +kernel, rfl⟩
theorem okX4_given : okM mX4_given := ⟨dW_at 681 (by decide +kernel), dW_at 31 (by decide +kernel), by decide +kernel, by decide +kernel, by decide +kernel, Or.inl ⟨dW_at 679 (by decide +kernel), dW_at 680 (by decide +kernel)⟩⟩
theorem aX4_given_0 : dIl mX4_given 0 1 1 := Or.inl ⟨1, by decide +kernel, rfl, rfl⟩
theorem aX4_given_1 : dS mX4_given 1 mX4_isSet 4 := ⟨146, by decide +kernel, rfl, dW_at 651 (by decide +kernel), by decide⟩
theorem aX4_given_4 : dZ mX4_given 4 .eq 7 23 := ⟨19, by decide +kernel, by decide, rfl⟩
theorem aX4_given_7 : dIl mX4_given 7 2 8 := Or.inl ⟨2, by decide +kernel, rfl, rfl⟩
theorem aX4_given_8 : dS mX4_given 8 mX4_isSet 11 := ⟨146, by decide +kernel, rfl, dW_at 651 (by decide +kernel), by decide⟩
theorem aX4_given_11 : dZ mX4_given 11 .eq 14 23 := ⟨12, by decide +kernel, by decide, rfl⟩
theorem aX4_given_14 : dIl mX4_given 14 3 15 := Or.inl ⟨3, by decide +kernel, rfl, rfl⟩
theorem aX4_given_15 : dKi mX4_given 15 (nI 0) 16 := Or.inl ⟨0, by decide +kernel, by decide +kernel, rfl⟩
theorem aX4_given_16 : dKi mX4_given 16 (nI 1) 17 := Or.inl ⟨1, by decide +kernel, by decide +kernel, rfl⟩
theorem aX4_given_17 : dS mX4_given 17 mX4_in 20 := ⟨76, by decide +kernel, rfl, dW_at 565 (by decide +kernel), by decide⟩
theorem aX4_given_20 : dZ mX4_given 20 .ne 23 25 := ⟨5, by decide +kernel, by decide, rfl⟩
theorem aX4_given_23 : dKi mX4_given 23 ((-1)) 24 := Or.inl ⟨-1, by decide +kernel, by decide +kernel, rfl⟩
theorem aX4_given_24 : dk mX4_given 24 .ireturn 1 25 := ⟨by decide +kernel, rfl⟩
theorem aX4_given_25 : dAl mX4_given 25 0 26 := Or.inl ⟨0, by decide +kernel, rfl, rfl⟩
theorem aX4_given_26 : dG mX4_given 26 4 9 29 := ⟨28, by decide +kernel, rfl, dW_at 494 (by decide +kernel), by decide⟩
theorem aX4_given_29 : dKi mX4_given 29 (nI 0) 30 := Or.inl ⟨0, by decide +kernel, by decide +kernel, rfl⟩
theorem aX4_given_30 : dk mX4_given 30 .baload 1 31 := ⟨by decide +kernel, rfl⟩
theorem aX4_given_31 : dZ mX4_given 31 .ne 34 37 := ⟨6, by decide +kernel, by decide, rfl⟩
theorem aX4_given_34 : dKi mX4_given 34 ((-2)) 36 := Or.inr (Or.inl ⟨-2, by decide +kernel, by decide +kernel, rfl⟩)
theorem aX4_given_36 : dk mX4_given 36 .ireturn 1 37 := ⟨by decide +kernel, rfl⟩
theorem aX4_given_37 : dIl mX4_given 37 1 38 := Or.inl ⟨1, by decide +kernel, rfl, rfl⟩
theorem aX4_given_38 : dIl mX4_given 38 2 39 := Or.inl ⟨2, by decide +kernel, rfl, rfl⟩
theorem aX4_given_39 : dk mX4_given 39 .iand 1 40 := ⟨by decide +kernel, rfl⟩
theorem aX4_given_40 : dIs mX4_given 40 4 42 := ⟨Or.inr ⟨by decide +kernel, rfl⟩, by decide⟩
theorem aX4_given_42 : dIl mX4_given 42 2 43 := Or.inl ⟨2, by decide +kernel, rfl, rfl⟩
theorem aX4_given_43 : dIl mX4_given 43 1 44 := Or.inl ⟨1, by decide +kernel, rfl, rfl⟩
theorem aX4_given_44 : dKi mX4_given 44 ((-1)) 45 := Or.inl ⟨-1, by decide +kernel, by decide +kernel, rfl⟩
theorem aX4_given_45 : dk mX4_given 45 .ixor 1 46 := ⟨by decide +kernel, rfl⟩
theorem aX4_given_46 : dk mX4_given 46 .iand 1 47 := ⟨by decide +kernel, rfl⟩
theorem aX4_given_47 : dIs mX4_given 47 5 49 := ⟨Or.inr ⟨by decide +kernel, rfl⟩, by decide⟩
theorem aX4_given_49 : dIl mX4_given 49 3 50 := Or.inl ⟨3, by decide +kernel, rfl, rfl⟩
theorem aX4_given_50 : dZ mX4_given 50 .ne 53 63 := ⟨13, by decide +kernel, by decide, rfl⟩
theorem aX4_given_53 : dAl mX4_given 53 0 54 := Or.inl ⟨0, by decide +kernel, rfl, rfl⟩
theorem aX4_given_54 : dKi mX4_given 54 (nI 0) 55 := Or.inl ⟨0, by decide +kernel, by decide +kernel, rfl⟩
theorem aX4_given_55 : dIl mX4_given 55 4 57 := Or.inr ⟨by decide +kernel, rfl⟩
theorem aX4_given_57 : dV mX4_given 57 mX4_low 60 := ⟨153, by decide +kernel, rfl, dW_at 666 (by decide +kernel), by decide⟩
theorem aX4_given_60 : dJ mX4_given 60 70 := ⟨10, by decide +kernel, by decide⟩
theorem aX4_given_63 : dAl mX4_given 63 0 64 := Or.inl ⟨0, by decide +kernel, rfl, rfl⟩
theorem aX4_given_64 : dKi mX4_given 64 (nI 0) 65 := Or.inl ⟨0, by decide +kernel, by decide +kernel, rfl⟩
theorem aX4_given_65 : dIl mX4_given 65 4 67 := Or.inr ⟨by decide +kernel, rfl⟩
theorem aX4_given_67 : dV mX4_given 67 mX4_high 70 := ⟨149, by decide +kernel, rfl, dW_at 654 (by decide +kernel), by decide⟩
theorem aX4_given_70 : dLs mX4_given 70 6 72 := ⟨Or.inr ⟨by decide +kernel, rfl⟩, by decide⟩
theorem aX4_given_72 : dLl mX4_given 72 6 74 := Or.inr ⟨by decide +kernel, rfl⟩
theorem aX4_given_74 : dIl mX4_given 74 3 75 := Or.inl ⟨3, by decide +kernel, rfl, rfl⟩
theorem aX4_given_75 : dZ mX4_given 75 .ne 78 88 := ⟨13, by decide +kernel, by decide, rfl⟩
theorem aX4_given_78 : dAl mX4_given 78 0 79 := Or.inl ⟨0, by decide +kernel, rfl, rfl⟩
theorem aX4_given_79 : dKi mX4_given 79 (nI 0) 80 := Or.inl ⟨0, by decide +kernel, by decide +kernel, rfl⟩
theorem aX4_given_80 : dIl mX4_given 80 5 82 := Or.inr ⟨by decide +kernel, rfl⟩
theorem aX4_given_82 : dV mX4_given 82 mX4_high 85 := ⟨149, by decide +kernel, rfl, dW_at 654 (by decide +kernel), by decide⟩
theorem aX4_given_85 : dJ mX4_given 85 95 := ⟨10, by decide +kernel, by decide⟩
theorem aX4_given_88 : dAl mX4_given 88 0 89 := Or.inl ⟨0, by decide +kernel, rfl, rfl⟩
theorem aX4_given_89 : dKi mX4_given 89 (nI 0) 90 := Or.inl ⟨0, by decide +kernel, by decide +kernel, rfl⟩
theorem aX4_given_90 : dIl mX4_given 90 5 92 := Or.inr ⟨by decide +kernel, rfl⟩
theorem aX4_given_92 : dV mX4_given 92 mX4_low 95 := ⟨153, by decide +kernel, rfl, dW_at 666 (by decide +kernel), by decide⟩
theorem aX4_given_95 : dk mX4_given 95 .ladd 1 96 := ⟨by decide +kernel, rfl⟩
theorem aX4_given_96 : dLs mX4_given 96 8 98 := ⟨Or.inr ⟨by decide +kernel, rfl⟩, by decide⟩
theorem aX4_given_98 : dLl mX4_given 98 8 100 := Or.inr ⟨by decide +kernel, rfl⟩
theorem aX4_given_100 : dKl mX4_given 100 (lN 0) 101 := Or.inl ⟨0, by decide +kernel, rfl, rfl⟩
theorem aX4_given_101 : dk mX4_given 101 .lcmp 1 102 := ⟨by decide +kernel, rfl⟩
theorem aX4_given_102 : dZ mX4_given 102 .ne 105 118 := ⟨16, by decide +kernel, by decide, rfl⟩
theorem aX4_given_105 : dIl mX4_given 105 3 106 := Or.inl ⟨3, by decide +kernel, rfl, rfl⟩
theorem aX4_given_106 : dZ mX4_given 106 .ne 109 113 := ⟨7, by decide +kernel, by decide, rfl⟩
theorem aX4_given_109 : dKi mX4_given 109 (nI 0) 110 := Or.inl ⟨0, by decide +kernel, by decide +kernel, rfl⟩
theorem aX4_given_110 : dJ mX4_given 110 135 := ⟨25, by decide +kernel, by decide⟩
theorem aX4_given_113 : dKi mX4_given 113 (nI 1073741824) 115 := Or.inr (Or.inr (Or.inr ⟨165, by decide +kernel, dW_at 682 (by decide +kernel), rfl⟩))
theorem aX4_given_115 : dJ mX4_given 115 135 := ⟨20, by decide +kernel, by decide⟩
theorem aX4_given_118 : dLl mX4_given 118 6 120 := Or.inr ⟨by decide +kernel, rfl⟩
theorem aX4_given_120 : dLl mX4_given 120 8 122 := Or.inr ⟨by decide +kernel, rfl⟩
theorem aX4_given_122 : dIl mX4_given 122 3 123 := Or.inl ⟨3, by decide +kernel, rfl, rfl⟩
theorem aX4_given_123 : dKi mX4_given 123 (nI 1) 124 := Or.inl ⟨1, by decide +kernel, by decide +kernel, rfl⟩
theorem aX4_given_124 : dC mX4_given 124 .ne 127 131 := ⟨7, by decide +kernel, by decide, rfl⟩
theorem aX4_given_127 : dKi mX4_given 127 (nI 1) 128 := Or.inl ⟨1, by decide +kernel, by decide +kernel, rfl⟩
theorem aX4_given_128 : dJ mX4_given 128 132 := ⟨4, by decide +kernel, by decide⟩
theorem aX4_given_131 : dKi mX4_given 131 (nI 0) 132 := Or.inl ⟨0, by decide +kernel, by decide +kernel, rfl⟩
theorem aX4_given_132 : dS mX4_given 132 mX4_part 135 := ⟨166, by decide +kernel, rfl, dW_at 683 (by decide +kernel), by decide⟩
theorem aX4_given_135 : dk mX4_given 135 .ireturn 1 136 := ⟨by decide +kernel, rfl⟩
theorem okX4_best : okM mX4_best := ⟨dW_at 689 (by decide +kernel), dW_at 31 (by decide +kernel), by decide +kernel, by decide +kernel, by decide +kernel, Or.inl ⟨dW_at 687 (by decide +kernel), dW_at 688 (by decide +kernel)⟩⟩
theorem aX4_best_0 : dIl mX4_best 0 1 1 := Or.inl ⟨1, by decide +kernel, rfl, rfl⟩
theorem aX4_best_1 : dS mX4_best 1 mX4_isSet 4 := ⟨146, by decide +kernel, rfl, dW_at 651 (by decide +kernel), by decide⟩
theorem aX4_best_4 : dZ mX4_best 4 .eq 7 18 := ⟨14, by decide +kernel, by decide, rfl⟩
theorem aX4_best_7 : dIl mX4_best 7 2 8 := Or.inl ⟨2, by decide +kernel, rfl, rfl⟩
theorem aX4_best_8 : dKi mX4_best 8 (nI 0) 9 := Or.inl ⟨0, by decide +kernel, by decide +kernel, rfl⟩
theorem aX4_best_9 : dKi mX4_best 9 (nI 200) 12 := Or.inr (Or.inr (Or.inl ⟨200, by decide +kernel, by decide +kernel, rfl⟩))
theorem aX4_best_12 : dS mX4_best 12 mX4_in 15 := ⟨76, by decide +kernel, rfl, dW_at 565 (by decide +kernel), by decide⟩
theorem aX4_best_15 : dZ mX4_best 15 .ne 18 20 := ⟨5, by decide +kernel, by decide, rfl⟩
theorem aX4_best_18 : dKi mX4_best 18 ((-1)) 19 := Or.inl ⟨-1, by decide +kernel, by decide +kernel, rfl⟩
theorem aX4_best_19 : dk mX4_best 19 .ireturn 1 20 := ⟨by decide +kernel, rfl⟩
theorem aX4_best_20 : dAl mX4_best 20 0 21 := Or.inl ⟨0, by decide +kernel, rfl, rfl⟩
theorem aX4_best_21 : dG mX4_best 21 4 9 24 := ⟨28, by decide +kernel, rfl, dW_at 494 (by decide +kernel), by decide⟩
theorem aX4_best_24 : dKi mX4_best 24 (nI 0) 25 := Or.inl ⟨0, by decide +kernel, by decide +kernel, rfl⟩
theorem aX4_best_25 : dk mX4_best 25 .baload 1 26 := ⟨by decide +kernel, rfl⟩
theorem aX4_best_26 : dZ mX4_best 26 .ne 29 32 := ⟨6, by decide +kernel, by decide, rfl⟩
theorem aX4_best_29 : dKi mX4_best 29 ((-2)) 31 := Or.inr (Or.inl ⟨-2, by decide +kernel, by decide +kernel, rfl⟩)
theorem aX4_best_31 : dk mX4_best 31 .ireturn 1 32 := ⟨by decide +kernel, rfl⟩
theorem aX4_best_32 : dKi mX4_best 32 ((-1)) 33 := Or.inl ⟨-1, by decide +kernel, by decide +kernel, rfl⟩
theorem aX4_best_33 : dIs mX4_best 33 3 34 := ⟨Or.inl ⟨3, by decide +kernel, rfl, rfl⟩, by decide⟩
theorem aX4_best_34 : dKl mX4_best 34 (lN 0) 35 := Or.inl ⟨0, by decide +kernel, rfl, rfl⟩
theorem aX4_best_35 : dLs mX4_best 35 4 37 := ⟨Or.inr ⟨by decide +kernel, rfl⟩, by decide⟩
theorem aX4_best_37 : dKi mX4_best 37 (nI 0) 38 := Or.inl ⟨0, by decide +kernel, by decide +kernel, rfl⟩
theorem aX4_best_38 : dIs mX4_best 38 6 40 := ⟨Or.inr ⟨by decide +kernel, rfl⟩, by decide⟩
theorem aX4_best_40 : dIl mX4_best 40 6 42 := Or.inr ⟨by decide +kernel, rfl⟩
theorem aX4_best_42 : dKi mX4_best 42 (nI 3) 43 := Or.inl ⟨3, by decide +kernel, by decide +kernel, rfl⟩
theorem aX4_best_43 : dC mX4_best 43 .ge 46 123 := ⟨80, by decide +kernel, by decide, rfl⟩
theorem aX4_best_46 : dAl mX4_best 46 0 47 := Or.inl ⟨0, by decide +kernel, rfl, rfl⟩
theorem aX4_best_47 : dKi mX4_best 47 (nI 4) 48 := Or.inl ⟨4, by decide +kernel, by decide +kernel, rfl⟩
theorem aX4_best_48 : dAl mX4_best 48 0 49 := Or.inl ⟨0, by decide +kernel, rfl, rfl⟩
theorem aX4_best_49 : dG mX4_best 49 4 10 52 := ⟨32, by decide +kernel, rfl, dW_at 495 (by decide +kernel), by decide⟩
theorem aX4_best_52 : dKi mX4_best 52 (nI 0) 53 := Or.inl ⟨0, by decide +kernel, by decide +kernel, rfl⟩
theorem aX4_best_53 : dk mX4_best 53 .iaload 1 54 := ⟨by decide +kernel, rfl⟩
theorem aX4_best_54 : dV mX4_best 54 mX4_open 57 := ⟨110, by decide +kernel, rfl, dW_at 604 (by decide +kernel), by decide⟩
theorem aX4_best_57 : dKi mX4_best 57 (nI 0) 58 := Or.inl ⟨0, by decide +kernel, by decide +kernel, rfl⟩
theorem aX4_best_58 : dIs mX4_best 58 7 60 := ⟨Or.inr ⟨by decide +kernel, rfl⟩, by decide⟩
theorem aX4_best_60 : dIl mX4_best 60 7 62 := Or.inr ⟨by decide +kernel, rfl⟩
theorem aX4_best_62 : dIl mX4_best 62 2 63 := Or.inl ⟨2, by decide +kernel, rfl, rfl⟩
theorem aX4_best_63 : dC mX4_best 63 .ge 66 82 := ⟨19, by decide +kernel, by decide, rfl⟩
theorem aX4_best_66 : dAl mX4_best 66 0 67 := Or.inl ⟨0, by decide +kernel, rfl, rfl⟩
theorem aX4_best_67 : dKi mX4_best 67 (nI 4) 68 := Or.inl ⟨4, by decide +kernel, by decide +kernel, rfl⟩
theorem aX4_best_68 : dIl mX4_best 68 6 70 := Or.inr ⟨by decide +kernel, rfl⟩
theorem aX4_best_70 : dV mX4_best 70 mX4_goOn 73 := ⟨142, by decide +kernel, rfl, dW_at 621 (by decide +kernel), by decide⟩
theorem aX4_best_73 : dZ mX4_best 73 .eq 76 82 := ⟨9, by decide +kernel, by decide, rfl⟩
theorem aX4_best_76 : dIn mX4_best 76 7 (nI 1) 79 := ⟨1, by decide +kernel, by decide +kernel, rfl, by decide⟩
theorem aX4_best_79 : dJ mX4_best 79 60 := ⟨-19, by decide +kernel, by decide⟩
theorem aX4_best_82 : dAl mX4_best 82 0 83 := Or.inl ⟨0, by decide +kernel, rfl, rfl⟩
theorem aX4_best_83 : dKi mX4_best 83 (nI 4) 84 := Or.inl ⟨4, by decide +kernel, by decide +kernel, rfl⟩
theorem aX4_best_84 : dIl mX4_best 84 1 85 := Or.inl ⟨1, by decide +kernel, rfl, rfl⟩
theorem aX4_best_85 : dV mX4_best 85 mX4_high 88 := ⟨149, by decide +kernel, rfl, dW_at 654 (by decide +kernel), by decide⟩
theorem aX4_best_88 : dAl mX4_best 88 0 89 := Or.inl ⟨0, by decide +kernel, rfl, rfl⟩
theorem aX4_best_89 : dKi mX4_best 89 (nI 4) 90 := Or.inl ⟨4, by decide +kernel, by decide +kernel, rfl⟩
theorem aX4_best_90 : dIl mX4_best 90 1 91 := Or.inl ⟨1, by decide +kernel, rfl, rfl⟩
theorem aX4_best_91 : dV mX4_best 91 mX4_low 94 := ⟨153, by decide +kernel, rfl, dW_at 666 (by decide +kernel), by decide⟩
theorem aX4_best_94 : dk mX4_best 94 .lsub 1 95 := ⟨by decide +kernel, rfl⟩
theorem aX4_best_95 : dLs mX4_best 95 8 97 := ⟨Or.inr ⟨by decide +kernel, rfl⟩, by decide⟩
theorem aX4_best_97 : dIl mX4_best 97 3 98 := Or.inl ⟨3, by decide +kernel, rfl, rfl⟩
theorem aX4_best_98 : dKi mX4_best 98 ((-1)) 99 := Or.inl ⟨-1, by decide +kernel, by decide +kernel, rfl⟩
theorem aX4_best_99 : dC mX4_best 99 .eq 102 110 := ⟨11, by decide +kernel, by decide, rfl⟩
theorem aX4_best_102 : dLl mX4_best 102 8 104 := Or.inr ⟨by decide +kernel, rfl⟩
theorem aX4_best_104 : dLl mX4_best 104 4 106 := Or.inr ⟨by decide +kernel, rfl⟩
theorem aX4_best_106 : dk mX4_best 106 .lcmp 1 107 := ⟨by decide +kernel, rfl⟩
theorem aX4_best_107 : dZ mX4_best 107 .ge 110 117 := ⟨10, by decide +kernel, by decide, rfl⟩
theorem aX4_best_110 : dIl mX4_best 110 6 112 := Or.inr ⟨by decide +kernel, rfl⟩
theorem aX4_best_112 : dIs mX4_best 112 3 113 := ⟨Or.inl ⟨3, by decide +kernel, rfl, rfl⟩, by decide⟩
theorem aX4_best_113 : dLl mX4_best 113 8 115 := Or.inr ⟨by decide +kernel, rfl⟩
theorem aX4_best_115 : dLs mX4_best 115 4 117 := ⟨Or.inr ⟨by decide +kernel, rfl⟩, by decide⟩
theorem aX4_best_117 : dIn mX4_best 117 6 (nI 1) 120 := ⟨1, by decide +kernel, by decide +kernel, rfl, by decide⟩
theorem aX4_best_120 : dJ mX4_best 120 40 := ⟨-80, by decide +kernel, by decide⟩
theorem aX4_best_123 : dIl mX4_best 123 3 124 := Or.inl ⟨3, by decide +kernel, rfl, rfl⟩
theorem aX4_best_124 : dk mX4_best 124 .ireturn 1 125 := ⟨by decide +kernel, rfl⟩
theorem okX4_item : okM mX4_item := ⟨dW_at 693 (by decide +kernel), dW_at 31 (by decide +kernel), by decide +kernel, by decide +kernel, by decide +kernel, Or.inl ⟨dW_at 691 (by decide +kernel), dW_at 692 (by decide +kernel)⟩⟩
theorem aX4_item_0 : dIl mX4_item 0 2 1 := Or.inl ⟨2, by decide +kernel, rfl, rfl⟩
theorem aX4_item_1 : dKi mX4_item 1 (nI 0) 2 := Or.inl ⟨0, by decide +kernel, by decide +kernel, rfl⟩
theorem aX4_item_2 : dKi mX4_item 2 (nI 1) 3 := Or.inl ⟨1, by decide +kernel, by decide +kernel, rfl⟩
theorem aX4_item_3 : dS mX4_item 3 mX4_in 6 := ⟨76, by decide +kernel, rfl, dW_at 565 (by decide +kernel), by decide⟩
theorem aX4_item_6 : dZ mX4_item 6 .ne 9 11 := ⟨5, by decide +kernel, by decide, rfl⟩
theorem aX4_item_9 : dKi mX4_item 9 ((-1)) 10 := Or.inl ⟨-1, by decide +kernel, by decide +kernel, rfl⟩
theorem aX4_item_10 : dk mX4_item 10 .ireturn 1 11 := ⟨by decide +kernel, rfl⟩
theorem aX4_item_11 : dAl mX4_item 11 0 12 := Or.inl ⟨0, by decide +kernel, rfl, rfl⟩
theorem aX4_item_12 : dG mX4_item 12 4 9 15 := ⟨28, by decide +kernel, rfl, dW_at 494 (by decide +kernel), by decide⟩
theorem aX4_item_15 : dKi mX4_item 15 (nI 0) 16 := Or.inl ⟨0, by decide +kernel, by decide +kernel, rfl⟩
theorem aX4_item_16 : dk mX4_item 16 .baload 1 17 := ⟨by decide +kernel, rfl⟩
theorem aX4_item_17 : dZ mX4_item 17 .ne 20 23 := ⟨6, by decide +kernel, by decide, rfl⟩
theorem aX4_item_20 : dKi mX4_item 20 ((-2)) 22 := Or.inr (Or.inl ⟨-2, by decide +kernel, by decide +kernel, rfl⟩)
theorem aX4_item_22 : dk mX4_item 22 .ireturn 1 23 := ⟨by decide +kernel, rfl⟩
theorem aX4_item_23 : dIl mX4_item 23 1 24 := Or.inl ⟨1, by decide +kernel, rfl, rfl⟩
theorem aX4_item_24 : dKi mX4_item 24 (nI 0) 25 := Or.inl ⟨0, by decide +kernel, by decide +kernel, rfl⟩
theorem aX4_item_25 : dAl mX4_item 25 0 26 := Or.inl ⟨0, by decide +kernel, rfl, rfl⟩
theorem aX4_item_26 : dG mX4_item 26 4 12 29 := ⟨38, by decide +kernel, rfl, dW_at 497 (by decide +kernel), by decide⟩
theorem aX4_item_29 : dKi mX4_item 29 (nI 0) 30 := Or.inl ⟨0, by decide +kernel, by decide +kernel, rfl⟩
theorem aX4_item_30 : dk mX4_item 30 .iaload 1 31 := ⟨by decide +kernel, rfl⟩
theorem aX4_item_31 : dKi mX4_item 31 (nI 1) 32 := Or.inl ⟨1, by decide +kernel, by decide +kernel, rfl⟩
theorem aX4_item_32 : dk mX4_item 32 .isub 1 33 := ⟨by decide +kernel, rfl⟩
theorem aX4_item_33 : dS mX4_item 33 mX4_in 36 := ⟨76, by decide +kernel, rfl, dW_at 565 (by decide +kernel), by decide⟩
theorem aX4_item_36 : dZ mX4_item 36 .ne 39 43 := ⟨7, by decide +kernel, by decide, rfl⟩
theorem aX4_item_39 : dKi mX4_item 39 ((-1)) 40 := Or.inl ⟨-1, by decide +kernel, by decide +kernel, rfl⟩
theorem aX4_item_40 : dJ mX4_item 40 62 := ⟨22, by decide +kernel, by decide⟩
theorem aX4_item_43 : dIl mX4_item 43 2 44 := Or.inl ⟨2, by decide +kernel, rfl, rfl⟩
theorem aX4_item_44 : dZ mX4_item 44 .ne 47 56 := ⟨12, by decide +kernel, by decide, rfl⟩
theorem aX4_item_47 : dAl mX4_item 47 0 48 := Or.inl ⟨0, by decide +kernel, rfl, rfl⟩
theorem aX4_item_48 : dG mX4_item 48 4 13 51 := ⟨41, by decide +kernel, rfl, dW_at 498 (by decide +kernel), by decide⟩
theorem aX4_item_51 : dIl mX4_item 51 1 52 := Or.inl ⟨1, by decide +kernel, rfl, rfl⟩
theorem aX4_item_52 : dk mX4_item 52 .iaload 1 53 := ⟨by decide +kernel, rfl⟩
theorem aX4_item_53 : dJ mX4_item 53 62 := ⟨9, by decide +kernel, by decide⟩
theorem aX4_item_56 : dAl mX4_item 56 0 57 := Or.inl ⟨0, by decide +kernel, rfl, rfl⟩
theorem aX4_item_57 : dG mX4_item 57 4 14 60 := ⟨44, by decide +kernel, rfl, dW_at 499 (by decide +kernel), by decide⟩
theorem aX4_item_60 : dIl mX4_item 60 1 61 := Or.inl ⟨1, by decide +kernel, rfl, rfl⟩
theorem aX4_item_61 : dk mX4_item 61 .iaload 1 62 := ⟨by decide +kernel, rfl⟩
theorem aX4_item_62 : dk mX4_item 62 .ireturn 1 63 := ⟨by decide +kernel, rfl⟩
theorem okX4_units : okM mX4_units := ⟨dW_at 697 (by decide +kernel), dW_at 31 (by decide +kernel), by decide +kernel, by decide +kernel, by decide +kernel, Or.inl ⟨dW_at 695 (by decide +kernel), dW_at 696 (by decide +kernel)⟩⟩
theorem aX4_units_0 : dAl mX4_units 0 0 1 := Or.inl ⟨0, by decide +kernel, rfl, rfl⟩
theorem aX4_units_1 : dG mX4_units 1 4 9 4 := ⟨28, by decide +kernel, rfl, dW_at 494 (by decide +kernel), by decide⟩
theorem aX4_units_4 : dKi mX4_units 4 (nI 0) 5 := Or.inl ⟨0, by decide +kernel, by decide +kernel, rfl⟩
theorem aX4_units_5 : dk mX4_units 5 .baload 1 6 := ⟨by decide +kernel, rfl⟩
theorem aX4_units_6 : dZ mX4_units 6 .eq 9 34 := ⟨28, by decide +kernel, by decide, rfl⟩
theorem aX4_units_9 : dIl mX4_units 9 1 10 := Or.inl ⟨1, by decide +kernel, rfl, rfl⟩
theorem aX4_units_10 : dKi mX4_units 10 (nI 0) 11 := Or.inl ⟨0, by decide +kernel, by decide +kernel, rfl⟩
theorem aX4_units_11 : dAl mX4_units 11 0 12 := Or.inl ⟨0, by decide +kernel, rfl, rfl⟩
theorem aX4_units_12 : dG mX4_units 12 4 12 15 := ⟨38, by decide +kernel, rfl, dW_at 497 (by decide +kernel), by decide⟩
theorem aX4_units_15 : dKi mX4_units 15 (nI 0) 16 := Or.inl ⟨0, by decide +kernel, by decide +kernel, rfl⟩
theorem aX4_units_16 : dk mX4_units 16 .iaload 1 17 := ⟨by decide +kernel, rfl⟩
theorem aX4_units_17 : dKi mX4_units 17 (nI 1) 18 := Or.inl ⟨1, by decide +kernel, by decide +kernel, rfl⟩
theorem aX4_units_18 : dk mX4_units 18 .isub 1 19 := ⟨by decide +kernel, rfl⟩
theorem aX4_units_19 : dS mX4_units 19 mX4_in 22 := ⟨76, by decide +kernel, rfl, dW_at 565 (by decide +kernel), by decide⟩
theorem aX4_units_22 : dZ mX4_units 22 .eq 25 34 := ⟨12, by decide +kernel, by decide, rfl⟩
theorem aX4_units_25 : dAl mX4_units 25 0 26 := Or.inl ⟨0, by decide +kernel, rfl, rfl⟩
theorem aX4_units_26 : dG mX4_units 26 4 15 29 := ⟨47, by decide +kernel, rfl, dW_at 500 (by decide +kernel), by decide⟩
theorem aX4_units_29 : dIl mX4_units 29 1 30 := Or.inl ⟨1, by decide +kernel, rfl, rfl⟩
theorem aX4_units_30 : dk mX4_units 30 .laload 1 31 := ⟨by decide +kernel, rfl⟩
theorem aX4_units_31 : dJ mX4_units 31 35 := ⟨4, by decide +kernel, by decide⟩
theorem aX4_units_34 : dKl mX4_units 34 (lN 0) 35 := Or.inl ⟨0, by decide +kernel, rfl, rfl⟩
theorem aX4_units_35 : dk mX4_units 35 .lreturn 1 36 := ⟨by decide +kernel, rfl⟩
theorem okX4_found : okM mX4_found := ⟨dW_at 701 (by decide +kernel), dW_at 31 (by decide +kernel), by decide +kernel, by decide +kernel, by decide +kernel, Or.inl ⟨dW_at 699 (by decide +kernel), dW_at 700 (by decide +kernel)⟩⟩
theorem aX4_found_0 : dAl mX4_found 0 0 1 := Or.inl ⟨0, by decide +kernel, rfl, rfl⟩
theorem aX4_found_1 : dG mX4_found 1 4 9 4 := ⟨28, by decide +kernel, rfl, dW_at 494 (by decide +kernel), by decide⟩
theorem aX4_found_4 : dKi mX4_found 4 (nI 0) 5 := Or.inl ⟨0, by decide +kernel, by decide +kernel, rfl⟩
theorem aX4_found_5 : dk mX4_found 5 .baload 1 6 := ⟨by decide +kernel, rfl⟩
theorem aX4_found_6 : dZ mX4_found 6 .eq 9 28 := ⟨22, by decide +kernel, by decide, rfl⟩
theorem aX4_found_9 : dIl mX4_found 9 1 10 := Or.inl ⟨1, by decide +kernel, rfl, rfl⟩
theorem aX4_found_10 : dKi mX4_found 10 (nI 0) 11 := Or.inl ⟨0, by decide +kernel, by decide +kernel, rfl⟩
theorem aX4_found_11 : dKi mX4_found 11 (nI 7) 13 := Or.inr (Or.inl ⟨7, by decide +kernel, by decide +kernel, rfl⟩)
theorem aX4_found_13 : dS mX4_found 13 mX4_in 16 := ⟨76, by decide +kernel, rfl, dW_at 565 (by decide +kernel), by decide⟩
theorem aX4_found_16 : dZ mX4_found 16 .eq 19 28 := ⟨12, by decide +kernel, by decide, rfl⟩
theorem aX4_found_19 : dAl mX4_found 19 0 20 := Or.inl ⟨0, by decide +kernel, rfl, rfl⟩
theorem aX4_found_20 : dG mX4_found 20 4 16 23 := ⟨51, by decide +kernel, rfl, dW_at 501 (by decide +kernel), by decide⟩
theorem aX4_found_23 : dIl mX4_found 23 1 24 := Or.inl ⟨1, by decide +kernel, rfl, rfl⟩
theorem aX4_found_24 : dk mX4_found 24 .laload 1 25 := ⟨by decide +kernel, rfl⟩
theorem aX4_found_25 : dJ mX4_found 25 29 := ⟨4, by decide +kernel, by decide⟩
theorem aX4_found_28 : dKl mX4_found 28 (lN 0) 29 := Or.inl ⟨0, by decide +kernel, rfl, rfl⟩
theorem aX4_found_29 : dk mX4_found 29 .lreturn 1 30 := ⟨by decide +kernel, rfl⟩
theorem okX4_rests : okM mX4_rests := ⟨dW_at 705 (by decide +kernel), dW_at 31 (by decide +kernel), by decide +kernel, by decide +kernel, by decide +kernel, Or.inl ⟨dW_at 703 (by decide +kernel), dW_at 704 (by decide +kernel)⟩⟩
theorem aX4_rests_0 : dAl mX4_rests 0 0 1 := Or.inl ⟨0, by decide +kernel, rfl, rfl⟩
theorem aX4_rests_1 : dG mX4_rests 1 4 9 4 := ⟨28, by decide +kernel, rfl, dW_at 494 (by decide +kernel), by decide⟩
theorem aX4_rests_4 : dKi mX4_rests 4 (nI 0) 5 := Or.inl ⟨0, by decide +kernel, by decide +kernel, rfl⟩
theorem aX4_rests_5 : dk mX4_rests 5 .baload 1 6 := ⟨by decide +kernel, rfl⟩
theorem aX4_rests_6 : dZ mX4_rests 6 .eq 9 26 := ⟨20, by decide +kernel, by decide, rfl⟩
theorem aX4_rests_9 : dAl mX4_rests 9 0 10 := Or.inl ⟨0, by decide +kernel, rfl, rfl⟩
theorem aX4_rests_10 : dIl mX4_rests 10 1 11 := Or.inl ⟨1, by decide +kernel, rfl, rfl⟩
theorem aX4_rests_11 : dV mX4_rests 11 mX4_isState 14 := ⟨87, by decide +kernel, rfl, dW_at 576 (by decide +kernel), by decide⟩
theorem aX4_rests_14 : dZ mX4_rests 14 .eq 17 26 := ⟨12, by decide +kernel, by decide, rfl⟩
theorem aX4_rests_17 : dAl mX4_rests 17 0 18 := Or.inl ⟨0, by decide +kernel, rfl, rfl⟩
theorem aX4_rests_18 : dG mX4_rests 18 4 17 21 := ⟨54, by decide +kernel, rfl, dW_at 502 (by decide +kernel), by decide⟩
theorem aX4_rests_21 : dIl mX4_rests 21 1 22 := Or.inl ⟨1, by decide +kernel, rfl, rfl⟩
theorem aX4_rests_22 : dk mX4_rests 22 .laload 1 23 := ⟨by decide +kernel, rfl⟩
theorem aX4_rests_23 : dJ mX4_rests 23 27 := ⟨4, by decide +kernel, by decide⟩
theorem aX4_rests_26 : dKl mX4_rests 26 (lN 0) 27 := Or.inl ⟨0, by decide +kernel, rfl, rfl⟩
theorem aX4_rests_27 : dk mX4_rests 27 .lreturn 1 28 := ⟨by decide +kernel, rfl⟩
theorem okX4_copy : okM mX4_copy := ⟨dW_at 713 (by decide +kernel), dW_at 31 (by decide +kernel), by decide +kernel, by decide +kernel, by decide +kernel, Or.inl ⟨dW_at 712 (by decide +kernel), dW_at 25 (by decide +kernel)⟩⟩
theorem aX4_copy_0 : dAl mX4_copy 0 0 1 := Or.inl ⟨0, by decide +kernel, rfl, rfl⟩
theorem aX4_copy_1 : dG mX4_copy 1 4 9 4 := ⟨28, by decide +kernel, rfl, dW_at 494 (by decide +kernel), by decide⟩
theorem aX4_copy_4 : dIl mX4_copy 4 2 5 := Or.inl ⟨2, by decide +kernel, rfl, rfl⟩
theorem aX4_copy_5 : dKi mX4_copy 5 (nI 1) 6 := Or.inl ⟨1, by decide +kernel, by decide +kernel, rfl⟩
theorem aX4_copy_6 : dk mX4_copy 6 .bastore 1 7 := ⟨by decide +kernel, rfl⟩
theorem aX4_copy_7 : dAl mX4_copy 7 0 8 := Or.inl ⟨0, by decide +kernel, rfl, rfl⟩
theorem aX4_copy_8 : dG mX4_copy 8 4 10 11 := ⟨32, by decide +kernel, rfl, dW_at 495 (by decide +kernel), by decide⟩
theorem aX4_copy_11 : dIl mX4_copy 11 2 12 := Or.inl ⟨2, by decide +kernel, rfl, rfl⟩
theorem aX4_copy_12 : dAl mX4_copy 12 0 13 := Or.inl ⟨0, by decide +kernel, rfl, rfl⟩
theorem aX4_copy_13 : dG mX4_copy 13 4 10 16 := ⟨32, by decide +kernel, rfl, dW_at 495 (by decide +kernel), by decide⟩
theorem aX4_copy_16 : dIl mX4_copy 16 1 17 := Or.inl ⟨1, by decide +kernel, rfl, rfl⟩
theorem aX4_copy_17 : dk mX4_copy 17 .iaload 1 18 := ⟨by decide +kernel, rfl⟩
theorem aX4_copy_18 : dk mX4_copy 18 .iastore 1 19 := ⟨by decide +kernel, rfl⟩
theorem aX4_copy_19 : dAl mX4_copy 19 0 20 := Or.inl ⟨0, by decide +kernel, rfl, rfl⟩
theorem aX4_copy_20 : dG mX4_copy 20 4 11 23 := ⟨35, by decide +kernel, rfl, dW_at 496 (by decide +kernel), by decide⟩
theorem aX4_copy_23 : dIl mX4_copy 23 2 24 := Or.inl ⟨2, by decide +kernel, rfl, rfl⟩
theorem aX4_copy_24 : dAl mX4_copy 24 0 25 := Or.inl ⟨0, by decide +kernel, rfl, rfl⟩
theorem aX4_copy_25 : dG mX4_copy 25 4 11 28 := ⟨35, by decide +kernel, rfl, dW_at 496 (by decide +kernel), by decide⟩
theorem aX4_copy_28 : dIl mX4_copy 28 1 29 := Or.inl ⟨1, by decide +kernel, rfl, rfl⟩
theorem aX4_copy_29 : dk mX4_copy 29 .iaload 1 30 := ⟨by decide +kernel, rfl⟩
theorem aX4_copy_30 : dk mX4_copy 30 .iastore 1 31 := ⟨by decide +kernel, rfl⟩
theorem aX4_copy_31 : dAl mX4_copy 31 0 32 := Or.inl ⟨0, by decide +kernel, rfl, rfl⟩
theorem aX4_copy_32 : dG mX4_copy 32 4 12 35 := ⟨38, by decide +kernel, rfl, dW_at 497 (by decide +kernel), by decide⟩
theorem aX4_copy_35 : dIl mX4_copy 35 2 36 := Or.inl ⟨2, by decide +kernel, rfl, rfl⟩
theorem aX4_copy_36 : dAl mX4_copy 36 0 37 := Or.inl ⟨0, by decide +kernel, rfl, rfl⟩
theorem aX4_copy_37 : dG mX4_copy 37 4 12 40 := ⟨38, by decide +kernel, rfl, dW_at 497 (by decide +kernel), by decide⟩
theorem aX4_copy_40 : dIl mX4_copy 40 1 41 := Or.inl ⟨1, by decide +kernel, rfl, rfl⟩
theorem aX4_copy_41 : dk mX4_copy 41 .iaload 1 42 := ⟨by decide +kernel, rfl⟩
theorem aX4_copy_42 : dk mX4_copy 42 .iastore 1 43 := ⟨by decide +kernel, rfl⟩
theorem aX4_copy_43 : dKi mX4_copy 43 (nI 0) 44 := Or.inl ⟨0, by decide +kernel, by decide +kernel, rfl⟩
theorem aX4_copy_44 : dIs mX4_copy 44 3 45 := ⟨Or.inl ⟨3, by decide +kernel, rfl, rfl⟩, by decide⟩
theorem aX4_copy_45 : dIl mX4_copy 45 3 46 := Or.inl ⟨3, by decide +kernel, rfl, rfl⟩
theorem aX4_copy_46 : dKi mX4_copy 46 (nI 60) 48 := Or.inr (Or.inl ⟨60, by decide +kernel, by decide +kernel, rfl⟩)
theorem aX4_copy_48 : dC mX4_copy 48 .ge 51 123 := ⟨75, by decide +kernel, by decide, rfl⟩
theorem aX4_copy_51 : dAl mX4_copy 51 0 52 := Or.inl ⟨0, by decide +kernel, rfl, rfl⟩
theorem aX4_copy_52 : dG mX4_copy 52 4 13 55 := ⟨41, by decide +kernel, rfl, dW_at 498 (by decide +kernel), by decide⟩
theorem aX4_copy_55 : dKi mX4_copy 55 (nI 60) 57 := Or.inr (Or.inl ⟨60, by decide +kernel, by decide +kernel, rfl⟩)
theorem aX4_copy_57 : dIl mX4_copy 57 2 58 := Or.inl ⟨2, by decide +kernel, rfl, rfl⟩
theorem aX4_copy_58 : dk mX4_copy 58 .imul 1 59 := ⟨by decide +kernel, rfl⟩
theorem aX4_copy_59 : dIl mX4_copy 59 3 60 := Or.inl ⟨3, by decide +kernel, rfl, rfl⟩
theorem aX4_copy_60 : dk mX4_copy 60 .iadd 1 61 := ⟨by decide +kernel, rfl⟩
theorem aX4_copy_61 : dAl mX4_copy 61 0 62 := Or.inl ⟨0, by decide +kernel, rfl, rfl⟩
theorem aX4_copy_62 : dG mX4_copy 62 4 13 65 := ⟨41, by decide +kernel, rfl, dW_at 498 (by decide +kernel), by decide⟩
theorem aX4_copy_65 : dKi mX4_copy 65 (nI 60) 67 := Or.inr (Or.inl ⟨60, by decide +kernel, by decide +kernel, rfl⟩)
theorem aX4_copy_67 : dIl mX4_copy 67 1 68 := Or.inl ⟨1, by decide +kernel, rfl, rfl⟩
theorem aX4_copy_68 : dk mX4_copy 68 .imul 1 69 := ⟨by decide +kernel, rfl⟩
theorem aX4_copy_69 : dIl mX4_copy 69 3 70 := Or.inl ⟨3, by decide +kernel, rfl, rfl⟩
theorem aX4_copy_70 : dk mX4_copy 70 .iadd 1 71 := ⟨by decide +kernel, rfl⟩
theorem aX4_copy_71 : dk mX4_copy 71 .iaload 1 72 := ⟨by decide +kernel, rfl⟩
theorem aX4_copy_72 : dk mX4_copy 72 .iastore 1 73 := ⟨by decide +kernel, rfl⟩
theorem aX4_copy_73 : dAl mX4_copy 73 0 74 := Or.inl ⟨0, by decide +kernel, rfl, rfl⟩
theorem aX4_copy_74 : dG mX4_copy 74 4 14 77 := ⟨44, by decide +kernel, rfl, dW_at 499 (by decide +kernel), by decide⟩
theorem aX4_copy_77 : dKi mX4_copy 77 (nI 60) 79 := Or.inr (Or.inl ⟨60, by decide +kernel, by decide +kernel, rfl⟩)
theorem aX4_copy_79 : dIl mX4_copy 79 2 80 := Or.inl ⟨2, by decide +kernel, rfl, rfl⟩
theorem aX4_copy_80 : dk mX4_copy 80 .imul 1 81 := ⟨by decide +kernel, rfl⟩
theorem aX4_copy_81 : dIl mX4_copy 81 3 82 := Or.inl ⟨3, by decide +kernel, rfl, rfl⟩
theorem aX4_copy_82 : dk mX4_copy 82 .iadd 1 83 := ⟨by decide +kernel, rfl⟩
theorem aX4_copy_83 : dAl mX4_copy 83 0 84 := Or.inl ⟨0, by decide +kernel, rfl, rfl⟩
theorem aX4_copy_84 : dG mX4_copy 84 4 14 87 := ⟨44, by decide +kernel, rfl, dW_at 499 (by decide +kernel), by decide⟩
theorem aX4_copy_87 : dKi mX4_copy 87 (nI 60) 89 := Or.inr (Or.inl ⟨60, by decide +kernel, by decide +kernel, rfl⟩)
theorem aX4_copy_89 : dIl mX4_copy 89 1 90 := Or.inl ⟨1, by decide +kernel, rfl, rfl⟩
theorem aX4_copy_90 : dk mX4_copy 90 .imul 1 91 := ⟨by decide +kernel, rfl⟩
theorem aX4_copy_91 : dIl mX4_copy 91 3 92 := Or.inl ⟨3, by decide +kernel, rfl, rfl⟩
theorem aX4_copy_92 : dk mX4_copy 92 .iadd 1 93 := ⟨by decide +kernel, rfl⟩
theorem aX4_copy_93 : dk mX4_copy 93 .iaload 1 94 := ⟨by decide +kernel, rfl⟩
theorem aX4_copy_94 : dk mX4_copy 94 .iastore 1 95 := ⟨by decide +kernel, rfl⟩
theorem aX4_copy_95 : dAl mX4_copy 95 0 96 := Or.inl ⟨0, by decide +kernel, rfl, rfl⟩
theorem aX4_copy_96 : dG mX4_copy 96 4 15 99 := ⟨47, by decide +kernel, rfl, dW_at 500 (by decide +kernel), by decide⟩
theorem aX4_copy_99 : dKi mX4_copy 99 (nI 60) 101 := Or.inr (Or.inl ⟨60, by decide +kernel, by decide +kernel, rfl⟩)
theorem aX4_copy_101 : dIl mX4_copy 101 2 102 := Or.inl ⟨2, by decide +kernel, rfl, rfl⟩
theorem aX4_copy_102 : dk mX4_copy 102 .imul 1 103 := ⟨by decide +kernel, rfl⟩
theorem aX4_copy_103 : dIl mX4_copy 103 3 104 := Or.inl ⟨3, by decide +kernel, rfl, rfl⟩
theorem aX4_copy_104 : dk mX4_copy 104 .iadd 1 105 := ⟨by decide +kernel, rfl⟩
theorem aX4_copy_105 : dAl mX4_copy 105 0 106 := Or.inl ⟨0, by decide +kernel, rfl, rfl⟩
theorem aX4_copy_106 : dG mX4_copy 106 4 15 109 := ⟨47, by decide +kernel, rfl, dW_at 500 (by decide +kernel), by decide⟩
theorem aX4_copy_109 : dKi mX4_copy 109 (nI 60) 111 := Or.inr (Or.inl ⟨60, by decide +kernel, by decide +kernel, rfl⟩)
theorem aX4_copy_111 : dIl mX4_copy 111 1 112 := Or.inl ⟨1, by decide +kernel, rfl, rfl⟩
theorem aX4_copy_112 : dk mX4_copy 112 .imul 1 113 := ⟨by decide +kernel, rfl⟩
theorem aX4_copy_113 : dIl mX4_copy 113 3 114 := Or.inl ⟨3, by decide +kernel, rfl, rfl⟩
theorem aX4_copy_114 : dk mX4_copy 114 .iadd 1 115 := ⟨by decide +kernel, rfl⟩
theorem aX4_copy_115 : dk mX4_copy 115 .laload 1 116 := ⟨by decide +kernel, rfl⟩
theorem aX4_copy_116 : dk mX4_copy 116 .lastore 1 117 := ⟨by decide +kernel, rfl⟩
theorem aX4_copy_117 : dIn mX4_copy 117 3 (nI 1) 120 := ⟨1, by decide +kernel, by decide +kernel, rfl, by decide⟩
theorem aX4_copy_120 : dJ mX4_copy 120 45 := ⟨-75, by decide +kernel, by decide⟩
theorem aX4_copy_123 : dKi mX4_copy 123 (nI 0) 124 := Or.inl ⟨0, by decide +kernel, by decide +kernel, rfl⟩
theorem aX4_copy_124 : dIs mX4_copy 124 3 125 := ⟨Or.inl ⟨3, by decide +kernel, rfl, rfl⟩, by decide⟩
theorem aX4_copy_125 : dIl mX4_copy 125 3 126 := Or.inl ⟨3, by decide +kernel, rfl, rfl⟩
theorem aX4_copy_126 : dKi mX4_copy 126 (nI 8) 128 := Or.inr (Or.inl ⟨8, by decide +kernel, by decide +kernel, rfl⟩)
theorem aX4_copy_128 : dC mX4_copy 128 .ge 131 159 := ⟨31, by decide +kernel, by decide, rfl⟩
theorem aX4_copy_131 : dAl mX4_copy 131 0 132 := Or.inl ⟨0, by decide +kernel, rfl, rfl⟩
theorem aX4_copy_132 : dG mX4_copy 132 4 16 135 := ⟨51, by decide +kernel, rfl, dW_at 501 (by decide +kernel), by decide⟩
theorem aX4_copy_135 : dKi mX4_copy 135 (nI 8) 137 := Or.inr (Or.inl ⟨8, by decide +kernel, by decide +kernel, rfl⟩)
theorem aX4_copy_137 : dIl mX4_copy 137 2 138 := Or.inl ⟨2, by decide +kernel, rfl, rfl⟩
theorem aX4_copy_138 : dk mX4_copy 138 .imul 1 139 := ⟨by decide +kernel, rfl⟩
theorem aX4_copy_139 : dIl mX4_copy 139 3 140 := Or.inl ⟨3, by decide +kernel, rfl, rfl⟩
theorem aX4_copy_140 : dk mX4_copy 140 .iadd 1 141 := ⟨by decide +kernel, rfl⟩
theorem aX4_copy_141 : dAl mX4_copy 141 0 142 := Or.inl ⟨0, by decide +kernel, rfl, rfl⟩
theorem aX4_copy_142 : dG mX4_copy 142 4 16 145 := ⟨51, by decide +kernel, rfl, dW_at 501 (by decide +kernel), by decide⟩
theorem aX4_copy_145 : dKi mX4_copy 145 (nI 8) 147 := Or.inr (Or.inl ⟨8, by decide +kernel, by decide +kernel, rfl⟩)
theorem aX4_copy_147 : dIl mX4_copy 147 1 148 := Or.inl ⟨1, by decide +kernel, rfl, rfl⟩
theorem aX4_copy_148 : dk mX4_copy 148 .imul 1 149 := ⟨by decide +kernel, rfl⟩
theorem aX4_copy_149 : dIl mX4_copy 149 3 150 := Or.inl ⟨3, by decide +kernel, rfl, rfl⟩
theorem aX4_copy_150 : dk mX4_copy 150 .iadd 1 151 := ⟨by decide +kernel, rfl⟩
theorem aX4_copy_151 : dk mX4_copy 151 .laload 1 152 := ⟨by decide +kernel, rfl⟩
theorem aX4_copy_152 : dk mX4_copy 152 .lastore 1 153 := ⟨by decide +kernel, rfl⟩
theorem aX4_copy_153 : dIn mX4_copy 153 3 (nI 1) 156 := ⟨1, by decide +kernel, by decide +kernel, rfl, by decide⟩
theorem aX4_copy_156 : dJ mX4_copy 156 125 := ⟨-31, by decide +kernel, by decide⟩
theorem aX4_copy_159 : dKi mX4_copy 159 (nI 0) 160 := Or.inl ⟨0, by decide +kernel, by decide +kernel, rfl⟩
theorem aX4_copy_160 : dIs mX4_copy 160 3 161 := ⟨Or.inl ⟨3, by decide +kernel, rfl, rfl⟩, by decide⟩
theorem aX4_copy_161 : dIl mX4_copy 161 3 162 := Or.inl ⟨3, by decide +kernel, rfl, rfl⟩
theorem aX4_copy_162 : dKi mX4_copy 162 (nI 20) 164 := Or.inr (Or.inl ⟨20, by decide +kernel, by decide +kernel, rfl⟩)
theorem aX4_copy_164 : dC mX4_copy 164 .ge 167 195 := ⟨31, by decide +kernel, by decide, rfl⟩
theorem aX4_copy_167 : dAl mX4_copy 167 0 168 := Or.inl ⟨0, by decide +kernel, rfl, rfl⟩
theorem aX4_copy_168 : dG mX4_copy 168 4 17 171 := ⟨54, by decide +kernel, rfl, dW_at 502 (by decide +kernel), by decide⟩
theorem aX4_copy_171 : dKi mX4_copy 171 (nI 20) 173 := Or.inr (Or.inl ⟨20, by decide +kernel, by decide +kernel, rfl⟩)
theorem aX4_copy_173 : dIl mX4_copy 173 2 174 := Or.inl ⟨2, by decide +kernel, rfl, rfl⟩
theorem aX4_copy_174 : dk mX4_copy 174 .imul 1 175 := ⟨by decide +kernel, rfl⟩
theorem aX4_copy_175 : dIl mX4_copy 175 3 176 := Or.inl ⟨3, by decide +kernel, rfl, rfl⟩
theorem aX4_copy_176 : dk mX4_copy 176 .iadd 1 177 := ⟨by decide +kernel, rfl⟩
theorem aX4_copy_177 : dAl mX4_copy 177 0 178 := Or.inl ⟨0, by decide +kernel, rfl, rfl⟩
theorem aX4_copy_178 : dG mX4_copy 178 4 17 181 := ⟨54, by decide +kernel, rfl, dW_at 502 (by decide +kernel), by decide⟩
theorem aX4_copy_181 : dKi mX4_copy 181 (nI 20) 183 := Or.inr (Or.inl ⟨20, by decide +kernel, by decide +kernel, rfl⟩)
theorem aX4_copy_183 : dIl mX4_copy 183 1 184 := Or.inl ⟨1, by decide +kernel, rfl, rfl⟩
theorem aX4_copy_184 : dk mX4_copy 184 .imul 1 185 := ⟨by decide +kernel, rfl⟩
theorem aX4_copy_185 : dIl mX4_copy 185 3 186 := Or.inl ⟨3, by decide +kernel, rfl, rfl⟩
theorem aX4_copy_186 : dk mX4_copy 186 .iadd 1 187 := ⟨by decide +kernel, rfl⟩
theorem aX4_copy_187 : dk mX4_copy 187 .laload 1 188 := ⟨by decide +kernel, rfl⟩
theorem aX4_copy_188 : dk mX4_copy 188 .lastore 1 189 := ⟨by decide +kernel, rfl⟩
theorem aX4_copy_189 : dIn mX4_copy 189 3 (nI 1) 192 := ⟨1, by decide +kernel, by decide +kernel, rfl, by decide⟩
theorem aX4_copy_192 : dJ mX4_copy 192 161 := ⟨-31, by decide +kernel, by decide⟩
theorem aX4_copy_195 : dk mX4_copy 195 .return_ 1 196 := ⟨by decide +kernel, rfl⟩
theorem okX4_save : okM mX4_save := ⟨dW_at 709 (by decide +kernel), dW_at 31 (by decide +kernel), by decide +kernel, by decide +kernel, by decide +kernel, Or.inl ⟨dW_at 707 (by decide +kernel), dW_at 708 (by decide +kernel)⟩⟩
theorem aX4_save_0 : dIl mX4_save 0 1 1 := Or.inl ⟨1, by decide +kernel, rfl, rfl⟩
theorem aX4_save_1 : dKi mX4_save 1 (nI 0) 2 := Or.inl ⟨0, by decide +kernel, by decide +kernel, rfl⟩
theorem aX4_save_2 : dKi mX4_save 2 (nI 2) 3 := Or.inl ⟨2, by decide +kernel, by decide +kernel, rfl⟩
theorem aX4_save_3 : dS mX4_save 3 mX4_in 6 := ⟨76, by decide +kernel, rfl, dW_at 565 (by decide +kernel), by decide⟩
theorem aX4_save_6 : dZ mX4_save 6 .ne 9 11 := ⟨5, by decide +kernel, by decide, rfl⟩
theorem aX4_save_9 : dKi mX4_save 9 ((-1)) 10 := Or.inl ⟨-1, by decide +kernel, by decide +kernel, rfl⟩
theorem aX4_save_10 : dk mX4_save 10 .ireturn 1 11 := ⟨by decide +kernel, rfl⟩
theorem aX4_save_11 : dAl mX4_save 11 0 12 := Or.inl ⟨0, by decide +kernel, rfl, rfl⟩
theorem aX4_save_12 : dG mX4_save 12 4 9 15 := ⟨28, by decide +kernel, rfl, dW_at 494 (by decide +kernel), by decide⟩
theorem aX4_save_15 : dKi mX4_save 15 (nI 0) 16 := Or.inl ⟨0, by decide +kernel, by decide +kernel, rfl⟩
theorem aX4_save_16 : dk mX4_save 16 .baload 1 17 := ⟨by decide +kernel, rfl⟩
theorem aX4_save_17 : dZ mX4_save 17 .ne 20 23 := ⟨6, by decide +kernel, by decide, rfl⟩
theorem aX4_save_20 : dKi mX4_save 20 ((-2)) 22 := Or.inr (Or.inl ⟨-2, by decide +kernel, by decide +kernel, rfl⟩)
theorem aX4_save_22 : dk mX4_save 22 .ireturn 1 23 := ⟨by decide +kernel, rfl⟩
theorem aX4_save_23 : dAl mX4_save 23 0 24 := Or.inl ⟨0, by decide +kernel, rfl, rfl⟩
theorem aX4_save_24 : dKi mX4_save 24 (nI 0) 25 := Or.inl ⟨0, by decide +kernel, by decide +kernel, rfl⟩
theorem aX4_save_25 : dKi mX4_save 25 (nI 1) 26 := Or.inl ⟨1, by decide +kernel, by decide +kernel, rfl⟩
theorem aX4_save_26 : dIl mX4_save 26 1 27 := Or.inl ⟨1, by decide +kernel, rfl, rfl⟩
theorem aX4_save_27 : dk mX4_save 27 .iadd 1 28 := ⟨by decide +kernel, rfl⟩
theorem aX4_save_28 : dV mX4_save 28 mX4_copy 31 := ⟨170, by decide +kernel, rfl, dW_at 710 (by decide +kernel), by decide⟩
theorem aX4_save_31 : dAl mX4_save 31 0 32 := Or.inl ⟨0, by decide +kernel, rfl, rfl⟩
theorem aX4_save_32 : dG mX4_save 32 4 12 35 := ⟨38, by decide +kernel, rfl, dW_at 497 (by decide +kernel), by decide⟩
theorem aX4_save_35 : dKi mX4_save 35 (nI 0) 36 := Or.inl ⟨0, by decide +kernel, by decide +kernel, rfl⟩
theorem aX4_save_36 : dk mX4_save 36 .iaload 1 37 := ⟨by decide +kernel, rfl⟩
theorem aX4_save_37 : dk mX4_save 37 .ireturn 1 38 := ⟨by decide +kernel, rfl⟩
theorem okX4_back : okM mX4_back := ⟨dW_at 717 (by decide +kernel), dW_at 31 (by decide +kernel), by decide +kernel, by decide +kernel, by decide +kernel, Or.inl ⟨dW_at 715 (by decide +kernel), dW_at 716 (by decide +kernel)⟩⟩
theorem aX4_back_0 : dIl mX4_back 0 1 1 := Or.inl ⟨1, by decide +kernel, rfl, rfl⟩
theorem aX4_back_1 : dKi mX4_back 1 (nI 0) 2 := Or.inl ⟨0, by decide +kernel, by decide +kernel, rfl⟩
theorem aX4_back_2 : dKi mX4_back 2 (nI 2) 3 := Or.inl ⟨2, by decide +kernel, by decide +kernel, rfl⟩
theorem aX4_back_3 : dS mX4_back 3 mX4_in 6 := ⟨76, by decide +kernel, rfl, dW_at 565 (by decide +kernel), by decide⟩
theorem aX4_back_6 : dZ mX4_back 6 .ne 9 11 := ⟨5, by decide +kernel, by decide, rfl⟩
theorem aX4_back_9 : dKi mX4_back 9 ((-1)) 10 := Or.inl ⟨-1, by decide +kernel, by decide +kernel, rfl⟩
theorem aX4_back_10 : dk mX4_back 10 .ireturn 1 11 := ⟨by decide +kernel, rfl⟩
theorem aX4_back_11 : dAl mX4_back 11 0 12 := Or.inl ⟨0, by decide +kernel, rfl, rfl⟩
theorem aX4_back_12 : dG mX4_back 12 4 9 15 := ⟨28, by decide +kernel, rfl, dW_at 494 (by decide +kernel), by decide⟩
theorem aX4_back_15 : dKi mX4_back 15 (nI 1) 16 := Or.inl ⟨1, by decide +kernel, by decide +kernel, rfl⟩
theorem aX4_back_16 : dIl mX4_back 16 1 17 := Or.inl ⟨1, by decide +kernel, rfl, rfl⟩
theorem aX4_back_17 : dk mX4_back 17 .iadd 1 18 := ⟨by decide +kernel, rfl⟩
theorem aX4_back_18 : dk mX4_back 18 .baload 1 19 := ⟨by decide +kernel, rfl⟩
theorem aX4_back_19 : dZ mX4_back 19 .ne 22 25 := ⟨6, by decide +kernel, by decide, rfl⟩
theorem aX4_back_22 : dKi mX4_back 22 ((-2)) 24 := Or.inr (Or.inl ⟨-2, by decide +kernel, by decide +kernel, rfl⟩)
theorem aX4_back_24 : dk mX4_back 24 .ireturn 1 25 := ⟨by decide +kernel, rfl⟩
theorem aX4_back_25 : dAl mX4_back 25 0 26 := Or.inl ⟨0, by decide +kernel, rfl, rfl⟩
theorem aX4_back_26 : dKi mX4_back 26 (nI 1) 27 := Or.inl ⟨1, by decide +kernel, by decide +kernel, rfl⟩
theorem aX4_back_27 : dIl mX4_back 27 1 28 := Or.inl ⟨1, by decide +kernel, rfl, rfl⟩
theorem aX4_back_28 : dk mX4_back 28 .iadd 1 29 := ⟨by decide +kernel, rfl⟩
theorem aX4_back_29 : dKi mX4_back 29 (nI 0) 30 := Or.inl ⟨0, by decide +kernel, by decide +kernel, rfl⟩
theorem aX4_back_30 : dV mX4_back 30 mX4_copy 33 := ⟨170, by decide +kernel, rfl, dW_at 710 (by decide +kernel), by decide⟩
theorem aX4_back_33 : dAl mX4_back 33 0 34 := Or.inl ⟨0, by decide +kernel, rfl, rfl⟩
theorem aX4_back_34 : dG mX4_back 34 4 12 37 := ⟨38, by decide +kernel, rfl, dW_at 497 (by decide +kernel), by decide⟩
theorem aX4_back_37 : dKi mX4_back 37 (nI 0) 38 := Or.inl ⟨0, by decide +kernel, by decide +kernel, rfl⟩
theorem aX4_back_38 : dk mX4_back 38 .iaload 1 39 := ⟨by decide +kernel, rfl⟩
theorem aX4_back_39 : dk mX4_back 39 .ireturn 1 40 := ⟨by decide +kernel, rfl⟩
theorem okX4_told : okM mX4_told := ⟨dW_at 721 (by decide +kernel), dW_at 31 (by decide +kernel), by decide +kernel, by decide +kernel, by decide +kernel, Or.inl ⟨dW_at 719 (by decide +kernel), dW_at 720 (by decide +kernel)⟩⟩
theorem aX4_told_0 : dIl mX4_told 0 1 1 := Or.inl ⟨1, by decide +kernel, rfl, rfl⟩
theorem aX4_told_36 : dAl mX4_told 36 0 37 := Or.inl ⟨0, by decide +kernel, rfl, rfl⟩
theorem aX4_told_37 : dG mX4_told 37 4 0 40 := ⟨72, by decide +kernel, rfl, dW_at 485 (by decide +kernel), by decide⟩
theorem aX4_told_40 : dk mX4_told 40 .ireturn 1 41 := ⟨by decide +kernel, rfl⟩
theorem aX4_told_41 : dAl mX4_told 41 0 42 := Or.inl ⟨0, by decide +kernel, rfl, rfl⟩
theorem aX4_told_42 : dG mX4_told 42 4 9 45 := ⟨28, by decide +kernel, rfl, dW_at 494 (by decide +kernel), by decide⟩
theorem aX4_told_45 : dKi mX4_told 45 (nI 0) 46 := Or.inl ⟨0, by decide +kernel, by decide +kernel, rfl⟩
theorem aX4_told_46 : dk mX4_told 46 .baload 1 47 := ⟨by decide +kernel, rfl⟩
theorem aX4_told_47 : dZ mX4_told 47 .eq 50 59 := ⟨12, by decide +kernel, by decide, rfl⟩
theorem aX4_told_50 : dAl mX4_told 50 0 51 := Or.inl ⟨0, by decide +kernel, rfl, rfl⟩
theorem aX4_told_51 : dG mX4_told 51 4 12 54 := ⟨38, by decide +kernel, rfl, dW_at 497 (by decide +kernel), by decide⟩
theorem aX4_told_54 : dKi mX4_told 54 (nI 0) 55 := Or.inl ⟨0, by decide +kernel, by decide +kernel, rfl⟩
theorem aX4_told_55 : dk mX4_told 55 .iaload 1 56 := ⟨by decide +kernel, rfl⟩
theorem aX4_told_56 : dJ mX4_told 56 60 := ⟨4, by decide +kernel, by decide⟩
theorem aX4_told_59 : dKi mX4_told 59 (nI 0) 60 := Or.inl ⟨0, by decide +kernel, by decide +kernel, rfl⟩
theorem aX4_told_60 : dk mX4_told 60 .ireturn 1 61 := ⟨by decide +kernel, rfl⟩
theorem aX4_told_61 : dAl mX4_told 61 0 62 := Or.inl ⟨0, by decide +kernel, rfl, rfl⟩
theorem aX4_told_62 : dG mX4_told 62 4 9 65 := ⟨28, by decide +kernel, rfl, dW_at 494 (by decide +kernel), by decide⟩
theorem aX4_told_65 : dKi mX4_told 65 (nI 0) 66 := Or.inl ⟨0, by decide +kernel, by decide +kernel, rfl⟩
theorem aX4_told_66 : dk mX4_told 66 .baload 1 67 := ⟨by decide +kernel, rfl⟩
theorem aX4_told_67 : dZ mX4_told 67 .eq 70 79 := ⟨12, by decide +kernel, by decide, rfl⟩
theorem aX4_told_70 : dAl mX4_told 70 0 71 := Or.inl ⟨0, by decide +kernel, rfl, rfl⟩
theorem aX4_told_71 : dG mX4_told 71 4 11 74 := ⟨35, by decide +kernel, rfl, dW_at 496 (by decide +kernel), by decide⟩
theorem aX4_told_74 : dKi mX4_told 74 (nI 0) 75 := Or.inl ⟨0, by decide +kernel, by decide +kernel, rfl⟩
theorem aX4_told_75 : dk mX4_told 75 .iaload 1 76 := ⟨by decide +kernel, rfl⟩
theorem aX4_told_76 : dJ mX4_told 76 80 := ⟨4, by decide +kernel, by decide⟩
theorem aX4_told_79 : dKi mX4_told 79 (nI 0) 80 := Or.inl ⟨0, by decide +kernel, by decide +kernel, rfl⟩
theorem aX4_told_80 : dk mX4_told 80 .ireturn 1 81 := ⟨by decide +kernel, rfl⟩
theorem aX4_told_81 : dAl mX4_told 81 0 82 := Or.inl ⟨0, by decide +kernel, rfl, rfl⟩
theorem aX4_told_82 : dG mX4_told 82 4 9 85 := ⟨28, by decide +kernel, rfl, dW_at 494 (by decide +kernel), by decide⟩
theorem aX4_told_85 : dKi mX4_told 85 (nI 0) 86 := Or.inl ⟨0, by decide +kernel, by decide +kernel, rfl⟩
theorem aX4_told_86 : dk mX4_told 86 .baload 1 87 := ⟨by decide +kernel, rfl⟩
theorem aX4_told_87 : dZ mX4_told 87 .eq 90 99 := ⟨12, by decide +kernel, by decide, rfl⟩
theorem aX4_told_90 : dAl mX4_told 90 0 91 := Or.inl ⟨0, by decide +kernel, rfl, rfl⟩
theorem aX4_told_91 : dG mX4_told 91 4 10 94 := ⟨32, by decide +kernel, rfl, dW_at 495 (by decide +kernel), by decide⟩
theorem aX4_told_94 : dKi mX4_told 94 (nI 0) 95 := Or.inl ⟨0, by decide +kernel, by decide +kernel, rfl⟩
theorem aX4_told_95 : dk mX4_told 95 .iaload 1 96 := ⟨by decide +kernel, rfl⟩
theorem aX4_told_96 : dJ mX4_told 96 100 := ⟨4, by decide +kernel, by decide⟩
theorem aX4_told_99 : dKi mX4_told 99 ((-1)) 100 := Or.inl ⟨-1, by decide +kernel, by decide +kernel, rfl⟩
theorem aX4_told_100 : dk mX4_told 100 .ireturn 1 101 := ⟨by decide +kernel, rfl⟩
theorem aX4_told_101 : dAl mX4_told 101 0 102 := Or.inl ⟨0, by decide +kernel, rfl, rfl⟩
theorem aX4_told_102 : dG mX4_told 102 4 7 105 := ⟨95, by decide +kernel, rfl, dW_at 492 (by decide +kernel), by decide⟩
theorem aX4_told_105 : dk mX4_told 105 .ireturn 1 106 := ⟨by decide +kernel, rfl⟩
theorem aX4_told_106 : dAl mX4_told 106 0 107 := Or.inl ⟨0, by decide +kernel, rfl, rfl⟩
theorem aX4_told_107 : dIl mX4_told 107 1 108 := Or.inl ⟨1, by decide +kernel, rfl, rfl⟩
theorem aX4_told_108 : dKi mX4_told 108 (nI 10) 110 := Or.inr (Or.inl ⟨10, by decide +kernel, by decide +kernel, rfl⟩)
theorem aX4_told_110 : dk mX4_told 110 .isub 1 111 := ⟨by decide +kernel, rfl⟩
theorem aX4_told_111 : dV mX4_told 111 mX4_isState 114 := ⟨87, by decide +kernel, rfl, dW_at 576 (by decide +kernel), by decide⟩
theorem aX4_told_114 : dZ mX4_told 114 .eq 117 129 := ⟨15, by decide +kernel, by decide, rfl⟩
theorem aX4_told_117 : dAl mX4_told 117 0 118 := Or.inl ⟨0, by decide +kernel, rfl, rfl⟩
theorem aX4_told_118 : dG mX4_told 118 4 6 121 := ⟨25, by decide +kernel, rfl, dW_at 491 (by decide +kernel), by decide⟩
theorem aX4_told_121 : dIl mX4_told 121 1 122 := Or.inl ⟨1, by decide +kernel, rfl, rfl⟩
theorem aX4_told_122 : dKi mX4_told 122 (nI 10) 124 := Or.inr (Or.inl ⟨10, by decide +kernel, by decide +kernel, rfl⟩)
theorem aX4_told_124 : dk mX4_told 124 .isub 1 125 := ⟨by decide +kernel, rfl⟩
theorem aX4_told_125 : dk mX4_told 125 .iaload 1 126 := ⟨by decide +kernel, rfl⟩
theorem aX4_told_126 : dJ mX4_told 126 130 := ⟨4, by decide +kernel, by decide⟩
theorem aX4_told_129 : dKi mX4_told 129 ((-1)) 130 := Or.inl ⟨-1, by decide +kernel, by decide +kernel, rfl⟩
theorem aX4_told_130 : dk mX4_told 130 .ireturn 1 131 := ⟨by decide +kernel, rfl⟩
end
section
theorem aL_law_3 : dk mL_law 3 .dup 1 4 := ⟨by decide +kernel, rfl⟩
theorem aL_law_7 : dAs mL_law 7 1 8 := ⟨Or.inl ⟨1, by decide +kernel, rfl, rfl⟩, by decide⟩
theorem aL_law_11 : dk mL_law 11 .dup 1 12 := ⟨by decide +kernel, rfl⟩
theorem aL_law_15 : dAs mL_law 15 2 16 := ⟨Or.inl ⟨2, by decide +kernel, rfl, rfl⟩, by decide⟩
theorem aL_law_16 : dKi mL_law 16 (nI 0) 17 := Or.inl ⟨0, by decide +kernel, by decide +kernel, rfl⟩
theorem aL_law_17 : dIs mL_law 17 3 18 := ⟨Or.inl ⟨3, by decide +kernel, rfl, rfl⟩, by decide⟩
theorem aL_law_18 : dIl mL_law 18 3 19 := Or.inl ⟨3, by decide +kernel, rfl, rfl⟩
theorem aL_law_19 : dAl mL_law 19 0 20 := Or.inl ⟨0, by decide +kernel, rfl, rfl⟩
theorem aL_law_20 : dk mL_law 20 .arraylength 1 21 := ⟨by decide +kernel, rfl⟩
theorem aL_law_21 : dKi mL_law 21 (nI 4) 22 := Or.inl ⟨4, by decide +kernel, by decide +kernel, rfl⟩
theorem aL_law_22 : dk mL_law 22 .isub 1 23 := ⟨by decide +kernel, rfl⟩
theorem aL_law_23 : dC mL_law 23 .gt 26 660 := ⟨637, by decide +kernel, by decide, rfl⟩
theorem aL_law_26 : dAl mL_law 26 0 27 := Or.inl ⟨0, by decide +kernel, rfl, rfl⟩
theorem aL_law_27 : dIl mL_law 27 3 28 := Or.inl ⟨3, by decide +kernel, rfl, rfl⟩
theorem aL_law_28 : dk mL_law 28 .iaload 1 29 := ⟨by decide +kernel, rfl⟩
theorem aL_law_29 : dKi mL_law 29 (nI 31) 31 := Or.inr (Or.inl ⟨31, by decide +kernel, by decide +kernel, rfl⟩)
theorem aL_law_31 : dk mL_law 31 .iand 1 32 := ⟨by decide +kernel, rfl⟩
theorem aL_law_120 : dAl mL_law 120 1 121 := Or.inl ⟨1, by decide +kernel, rfl, rfl⟩
theorem aL_law_121 : dAl mL_law 121 0 122 := Or.inl ⟨0, by decide +kernel, rfl, rfl⟩
theorem aL_law_122 : dIl mL_law 122 3 123 := Or.inl ⟨3, by decide +kernel, rfl, rfl⟩
theorem aL_law_123 : dKi mL_law 123 (nI 1) 124 := Or.inl ⟨1, by decide +kernel, by decide +kernel, rfl⟩
theorem aL_law_124 : dk mL_law 124 .iadd 1 125 := ⟨by decide +kernel, rfl⟩
theorem aL_law_125 : dk mL_law 125 .iaload 1 126 := ⟨by decide +kernel, rfl⟩
theorem aL_law_126 : dV mL_law 126 mX3_state 129 := ⟨13, by decide +kernel, rfl, dW_at 193 (by decide +kernel), by decide⟩
theorem aL_law_129 : dAl mL_law 129 2 130 := Or.inl ⟨2, by decide +kernel, rfl, rfl⟩
theorem aL_law_130 : dAl mL_law 130 0 131 := Or.inl ⟨0, by decide +kernel, rfl, rfl⟩
theorem aL_law_131 : dIl mL_law 131 3 132 := Or.inl ⟨3, by decide +kernel, rfl, rfl⟩
theorem aL_law_132 : dKi mL_law 132 (nI 1) 133 := Or.inl ⟨1, by decide +kernel, by decide +kernel, rfl⟩
theorem aL_law_133 : dk mL_law 133 .iadd 1 134 := ⟨by decide +kernel, rfl⟩
theorem aL_law_134 : dk mL_law 134 .iaload 1 135 := ⟨by decide +kernel, rfl⟩
theorem aL_law_135 : dV mL_law 135 mX4_state 138 := ⟨17, by decide +kernel, rfl, dW_at 561 (by decide +kernel), by decide⟩
theorem aL_law_138 : dC mL_law 138 .eq 141 654 := ⟨516, by decide +kernel, by decide, rfl⟩
theorem aL_law_141 : dKi mL_law 141 (nI 0) 142 := Or.inl ⟨0, by decide +kernel, by decide +kernel, rfl⟩
theorem aL_law_142 : dk mL_law 142 .ireturn 1 143 := ⟨by decide +kernel, rfl⟩
theorem aL_law_143 : dAl mL_law 143 1 144 := Or.inl ⟨1, by decide +kernel, rfl, rfl⟩
theorem aL_law_144 : dAl mL_law 144 0 145 := Or.inl ⟨0, by decide +kernel, rfl, rfl⟩
theorem aL_law_145 : dIl mL_law 145 3 146 := Or.inl ⟨3, by decide +kernel, rfl, rfl⟩
theorem aL_law_146 : dKi mL_law 146 (nI 1) 147 := Or.inl ⟨1, by decide +kernel, by decide +kernel, rfl⟩
theorem aL_law_147 : dk mL_law 147 .iadd 1 148 := ⟨by decide +kernel, rfl⟩
theorem aL_law_148 : dk mL_law 148 .iaload 1 149 := ⟨by decide +kernel, rfl⟩
theorem aL_law_149 : dAl mL_law 149 0 150 := Or.inl ⟨0, by decide +kernel, rfl, rfl⟩
theorem aL_law_150 : dIl mL_law 150 3 151 := Or.inl ⟨3, by decide +kernel, rfl, rfl⟩
theorem aL_law_151 : dKi mL_law 151 (nI 2) 152 := Or.inl ⟨2, by decide +kernel, by decide +kernel, rfl⟩
theorem aL_law_152 : dk mL_law 152 .iadd 1 153 := ⟨by decide +kernel, rfl⟩
theorem aL_law_153 : dk mL_law 153 .iaload 1 154 := ⟨by decide +kernel, rfl⟩
theorem aL_law_154 : dAl mL_law 154 0 155 := Or.inl ⟨0, by decide +kernel, rfl, rfl⟩
theorem aL_law_155 : dIl mL_law 155 3 156 := Or.inl ⟨3, by decide +kernel, rfl, rfl⟩
theorem aL_law_156 : dKi mL_law 156 (nI 3) 157 := Or.inl ⟨3, by decide +kernel, by decide +kernel, rfl⟩
theorem aL_law_157 : dk mL_law 157 .iadd 1 158 := ⟨by decide +kernel, rfl⟩
theorem aL_law_158 : dk mL_law 158 .iaload 1 159 := ⟨by decide +kernel, rfl⟩
theorem aL_law_159 : dV mL_law 159 mX3_arrow 162 := ⟨18, by decide +kernel, rfl, dW_at 219 (by decide +kernel), by decide⟩
theorem aL_law_162 : dAl mL_law 162 2 163 := Or.inl ⟨2, by decide +kernel, rfl, rfl⟩
theorem aL_law_163 : dAl mL_law 163 0 164 := Or.inl ⟨0, by decide +kernel, rfl, rfl⟩
theorem aL_law_164 : dIl mL_law 164 3 165 := Or.inl ⟨3, by decide +kernel, rfl, rfl⟩
theorem aL_law_165 : dKi mL_law 165 (nI 1) 166 := Or.inl ⟨1, by decide +kernel, by decide +kernel, rfl⟩
theorem aL_law_166 : dk mL_law 166 .iadd 1 167 := ⟨by decide +kernel, rfl⟩
theorem aL_law_167 : dk mL_law 167 .iaload 1 168 := ⟨by decide +kernel, rfl⟩
theorem aL_law_168 : dAl mL_law 168 0 169 := Or.inl ⟨0, by decide +kernel, rfl, rfl⟩
theorem aL_law_169 : dIl mL_law 169 3 170 := Or.inl ⟨3, by decide +kernel, rfl, rfl⟩
theorem aL_law_170 : dKi mL_law 170 (nI 2) 171 := Or.inl ⟨2, by decide +kernel, by decide +kernel, rfl⟩
theorem aL_law_171 : dk mL_law 171 .iadd 1 172 := ⟨by decide +kernel, rfl⟩
theorem aL_law_172 : dk mL_law 172 .iaload 1 173 := ⟨by decide +kernel, rfl⟩
theorem aL_law_173 : dAl mL_law 173 0 174 := Or.inl ⟨0, by decide +kernel, rfl, rfl⟩
theorem aL_law_174 : dIl mL_law 174 3 175 := Or.inl ⟨3, by decide +kernel, rfl, rfl⟩
theorem aL_law_175 : dKi mL_law 175 (nI 3) 176 := Or.inl ⟨3, by decide +kernel, by decide +kernel, rfl⟩
theorem aL_law_176 : dk mL_law 176 .iadd 1 177 := ⟨by decide +kernel, rfl⟩
theorem aL_law_177 : dk mL_law 177 .iaload 1 178 := ⟨by decide +kernel, rfl⟩
theorem aL_law_178 : dV mL_law 178 mX4_arrow 181 := ⟨22, by decide +kernel, rfl, dW_at 572 (by decide +kernel), by decide⟩
theorem aL_law_181 : dC mL_law 181 .eq 184 654 := ⟨473, by decide +kernel, by decide, rfl⟩
theorem aL_law_184 : dKi mL_law 184 (nI 0) 185 := Or.inl ⟨0, by decide +kernel, by decide +kernel, rfl⟩
theorem aL_law_185 : dk mL_law 185 .ireturn 1 186 := ⟨by decide +kernel, rfl⟩
theorem aL_law_186 : dAl mL_law 186 1 187 := Or.inl ⟨1, by decide +kernel, rfl, rfl⟩
theorem aL_law_187 : dAl mL_law 187 0 188 := Or.inl ⟨0, by decide +kernel, rfl, rfl⟩
theorem aL_law_188 : dIl mL_law 188 3 189 := Or.inl ⟨3, by decide +kernel, rfl, rfl⟩
theorem aL_law_189 : dKi mL_law 189 (nI 1) 190 := Or.inl ⟨1, by decide +kernel, by decide +kernel, rfl⟩
theorem aL_law_190 : dk mL_law 190 .iadd 1 191 := ⟨by decide +kernel, rfl⟩
theorem aL_law_191 : dk mL_law 191 .iaload 1 192 := ⟨by decide +kernel, rfl⟩
theorem aL_law_192 : dAl mL_law 192 0 193 := Or.inl ⟨0, by decide +kernel, rfl, rfl⟩
theorem aL_law_193 : dIl mL_law 193 3 194 := Or.inl ⟨3, by decide +kernel, rfl, rfl⟩
theorem aL_law_194 : dKi mL_law 194 (nI 2) 195 := Or.inl ⟨2, by decide +kernel, by decide +kernel, rfl⟩
theorem aL_law_195 : dk mL_law 195 .iadd 1 196 := ⟨by decide +kernel, rfl⟩
theorem aL_law_196 : dk mL_law 196 .iaload 1 197 := ⟨by decide +kernel, rfl⟩
theorem aL_law_197 : dV mL_law 197 mX3_law 200 := ⟨23, by decide +kernel, rfl, dW_at 240 (by decide +kernel), by decide⟩
theorem aL_law_200 : dAl mL_law 200 2 201 := Or.inl ⟨2, by decide +kernel, rfl, rfl⟩
theorem aL_law_201 : dAl mL_law 201 0 202 := Or.inl ⟨0, by decide +kernel, rfl, rfl⟩
theorem aL_law_202 : dIl mL_law 202 3 203 := Or.inl ⟨3, by decide +kernel, rfl, rfl⟩
theorem aL_law_203 : dKi mL_law 203 (nI 1) 204 := Or.inl ⟨1, by decide +kernel, by decide +kernel, rfl⟩
theorem aL_law_204 : dk mL_law 204 .iadd 1 205 := ⟨by decide +kernel, rfl⟩
theorem aL_law_205 : dk mL_law 205 .iaload 1 206 := ⟨by decide +kernel, rfl⟩
theorem aL_law_206 : dAl mL_law 206 0 207 := Or.inl ⟨0, by decide +kernel, rfl, rfl⟩
theorem aL_law_207 : dIl mL_law 207 3 208 := Or.inl ⟨3, by decide +kernel, rfl, rfl⟩
theorem aL_law_208 : dKi mL_law 208 (nI 2) 209 := Or.inl ⟨2, by decide +kernel, by decide +kernel, rfl⟩
theorem aL_law_209 : dk mL_law 209 .iadd 1 210 := ⟨by decide +kernel, rfl⟩
theorem aL_law_210 : dk mL_law 210 .iaload 1 211 := ⟨by decide +kernel, rfl⟩
theorem aL_law_211 : dV mL_law 211 mX4_law 214 := ⟨27, by decide +kernel, rfl, dW_at 584 (by decide +kernel), by decide⟩
theorem aL_law_214 : dC mL_law 214 .eq 217 654 := ⟨440, by decide +kernel, by decide, rfl⟩
theorem aL_law_217 : dKi mL_law 217 (nI 0) 218 := Or.inl ⟨0, by decide +kernel, by decide +kernel, rfl⟩
theorem aL_law_218 : dk mL_law 218 .ireturn 1 219 := ⟨by decide +kernel, rfl⟩
theorem aL_law_219 : dAl mL_law 219 1 220 := Or.inl ⟨1, by decide +kernel, rfl, rfl⟩
theorem aL_law_220 : dAl mL_law 220 0 221 := Or.inl ⟨0, by decide +kernel, rfl, rfl⟩
theorem aL_law_221 : dIl mL_law 221 3 222 := Or.inl ⟨3, by decide +kernel, rfl, rfl⟩
theorem aL_law_222 : dKi mL_law 222 (nI 1) 223 := Or.inl ⟨1, by decide +kernel, by decide +kernel, rfl⟩
theorem aL_law_223 : dk mL_law 223 .iadd 1 224 := ⟨by decide +kernel, rfl⟩
theorem aL_law_224 : dk mL_law 224 .iaload 1 225 := ⟨by decide +kernel, rfl⟩
theorem aL_law_225 : dV mL_law 225 mX3_order 228 := ⟨28, by decide +kernel, rfl, dW_at 264 (by decide +kernel), by decide⟩
theorem aL_law_228 : dAl mL_law 228 2 229 := Or.inl ⟨2, by decide +kernel, rfl, rfl⟩
theorem aL_law_229 : dAl mL_law 229 0 230 := Or.inl ⟨0, by decide +kernel, rfl, rfl⟩
theorem aL_law_230 : dIl mL_law 230 3 231 := Or.inl ⟨3, by decide +kernel, rfl, rfl⟩
theorem aL_law_231 : dKi mL_law 231 (nI 1) 232 := Or.inl ⟨1, by decide +kernel, by decide +kernel, rfl⟩
theorem aL_law_232 : dk mL_law 232 .iadd 1 233 := ⟨by decide +kernel, rfl⟩
theorem aL_law_233 : dk mL_law 233 .iaload 1 234 := ⟨by decide +kernel, rfl⟩
theorem aL_law_234 : dV mL_law 234 mX4_order 237 := ⟨31, by decide +kernel, rfl, dW_at 588 (by decide +kernel), by decide⟩
theorem aL_law_237 : dC mL_law 237 .eq 240 654 := ⟨417, by decide +kernel, by decide, rfl⟩
theorem aL_law_240 : dKi mL_law 240 (nI 0) 241 := Or.inl ⟨0, by decide +kernel, by decide +kernel, rfl⟩
theorem aL_law_241 : dk mL_law 241 .ireturn 1 242 := ⟨by decide +kernel, rfl⟩
theorem aL_law_242 : dAl mL_law 242 1 243 := Or.inl ⟨1, by decide +kernel, rfl, rfl⟩
theorem aL_law_243 : dAl mL_law 243 0 244 := Or.inl ⟨0, by decide +kernel, rfl, rfl⟩
theorem aL_law_244 : dIl mL_law 244 3 245 := Or.inl ⟨3, by decide +kernel, rfl, rfl⟩
theorem aL_law_245 : dKi mL_law 245 (nI 1) 246 := Or.inl ⟨1, by decide +kernel, by decide +kernel, rfl⟩
theorem aL_law_246 : dk mL_law 246 .iadd 1 247 := ⟨by decide +kernel, rfl⟩
theorem aL_law_247 : dk mL_law 247 .iaload 1 248 := ⟨by decide +kernel, rfl⟩
theorem aL_law_248 : dZ mL_law 248 .eq 251 255 := ⟨7, by decide +kernel, by decide, rfl⟩
theorem aL_law_251 : dKi mL_law 251 (nI 1) 252 := Or.inl ⟨1, by decide +kernel, by decide +kernel, rfl⟩
theorem aL_law_252 : dJ mL_law 252 256 := ⟨4, by decide +kernel, by decide⟩
theorem aL_law_255 : dKi mL_law 255 (nI 0) 256 := Or.inl ⟨0, by decide +kernel, by decide +kernel, rfl⟩
theorem aL_law_256 : dV mL_law 256 mX3_joined 259 := ⟨32, by decide +kernel, rfl, dW_at 268 (by decide +kernel), by decide⟩
theorem aL_law_259 : dAl mL_law 259 2 260 := Or.inl ⟨2, by decide +kernel, rfl, rfl⟩
theorem aL_law_260 : dAl mL_law 260 0 261 := Or.inl ⟨0, by decide +kernel, rfl, rfl⟩
theorem aL_law_261 : dIl mL_law 261 3 262 := Or.inl ⟨3, by decide +kernel, rfl, rfl⟩
theorem aL_law_262 : dKi mL_law 262 (nI 1) 263 := Or.inl ⟨1, by decide +kernel, by decide +kernel, rfl⟩
theorem aL_law_263 : dk mL_law 263 .iadd 1 264 := ⟨by decide +kernel, rfl⟩
theorem aL_law_264 : dk mL_law 264 .iaload 1 265 := ⟨by decide +kernel, rfl⟩
theorem aL_law_265 : dZ mL_law 265 .eq 268 272 := ⟨7, by decide +kernel, by decide, rfl⟩
theorem aL_law_268 : dKi mL_law 268 (nI 1) 269 := Or.inl ⟨1, by decide +kernel, by decide +kernel, rfl⟩
theorem aL_law_269 : dJ mL_law 269 273 := ⟨4, by decide +kernel, by decide⟩
theorem aL_law_272 : dKi mL_law 272 (nI 0) 273 := Or.inl ⟨0, by decide +kernel, by decide +kernel, rfl⟩
theorem aL_law_273 : dV mL_law 273 mX4_joined 276 := ⟨36, by decide +kernel, rfl, dW_at 592 (by decide +kernel), by decide⟩
theorem aL_law_276 : dC mL_law 276 .eq 279 654 := ⟨378, by decide +kernel, by decide, rfl⟩
theorem aL_law_279 : dKi mL_law 279 (nI 0) 280 := Or.inl ⟨0, by decide +kernel, by decide +kernel, rfl⟩
theorem aL_law_280 : dk mL_law 280 .ireturn 1 281 := ⟨by decide +kernel, rfl⟩
theorem aL_law_281 : dAl mL_law 281 1 282 := Or.inl ⟨1, by decide +kernel, rfl, rfl⟩
theorem aL_law_282 : dAl mL_law 282 0 283 := Or.inl ⟨0, by decide +kernel, rfl, rfl⟩
theorem aL_law_283 : dIl mL_law 283 3 284 := Or.inl ⟨3, by decide +kernel, rfl, rfl⟩
theorem aL_law_284 : dKi mL_law 284 (nI 1) 285 := Or.inl ⟨1, by decide +kernel, by decide +kernel, rfl⟩
theorem aL_law_285 : dk mL_law 285 .iadd 1 286 := ⟨by decide +kernel, rfl⟩
theorem aL_law_286 : dk mL_law 286 .iaload 1 287 := ⟨by decide +kernel, rfl⟩
theorem aL_law_287 : dV mL_law 287 mX3_begin 290 := ⟨37, by decide +kernel, rfl, dW_at 272 (by decide +kernel), by decide⟩
theorem aL_law_290 : dAl mL_law 290 2 291 := Or.inl ⟨2, by decide +kernel, rfl, rfl⟩
theorem aL_law_291 : dAl mL_law 291 0 292 := Or.inl ⟨0, by decide +kernel, rfl, rfl⟩
theorem aL_law_292 : dIl mL_law 292 3 293 := Or.inl ⟨3, by decide +kernel, rfl, rfl⟩
theorem aL_law_293 : dKi mL_law 293 (nI 1) 294 := Or.inl ⟨1, by decide +kernel, by decide +kernel, rfl⟩
theorem aL_law_294 : dk mL_law 294 .iadd 1 295 := ⟨by decide +kernel, rfl⟩
theorem aL_law_295 : dk mL_law 295 .iaload 1 296 := ⟨by decide +kernel, rfl⟩
theorem aL_law_296 : dV mL_law 296 mX4_begin 299 := ⟨40, by decide +kernel, rfl, dW_at 596 (by decide +kernel), by decide⟩
theorem aL_law_299 : dC mL_law 299 .eq 302 654 := ⟨355, by decide +kernel, by decide, rfl⟩
theorem aL_law_302 : dKi mL_law 302 (nI 0) 303 := Or.inl ⟨0, by decide +kernel, by decide +kernel, rfl⟩
theorem aL_law_303 : dk mL_law 303 .ireturn 1 304 := ⟨by decide +kernel, rfl⟩
theorem aL_law_304 : dAl mL_law 304 1 305 := Or.inl ⟨1, by decide +kernel, rfl, rfl⟩
theorem aL_law_305 : dAl mL_law 305 0 306 := Or.inl ⟨0, by decide +kernel, rfl, rfl⟩
theorem aL_law_306 : dIl mL_law 306 3 307 := Or.inl ⟨3, by decide +kernel, rfl, rfl⟩
theorem aL_law_307 : dKi mL_law 307 (nI 1) 308 := Or.inl ⟨1, by decide +kernel, by decide +kernel, rfl⟩
theorem aL_law_308 : dk mL_law 308 .iadd 1 309 := ⟨by decide +kernel, rfl⟩
theorem aL_law_309 : dk mL_law 309 .iaload 1 310 := ⟨by decide +kernel, rfl⟩
theorem aL_law_310 : dV mL_law 310 mX3_grow 313 := ⟨41, by decide +kernel, rfl, dW_at 313 (by decide +kernel), by decide⟩
theorem aL_law_313 : dAl mL_law 313 2 314 := Or.inl ⟨2, by decide +kernel, rfl, rfl⟩
theorem aL_law_314 : dAl mL_law 314 0 315 := Or.inl ⟨0, by decide +kernel, rfl, rfl⟩
theorem aL_law_315 : dIl mL_law 315 3 316 := Or.inl ⟨3, by decide +kernel, rfl, rfl⟩
theorem aL_law_316 : dKi mL_law 316 (nI 1) 317 := Or.inl ⟨1, by decide +kernel, by decide +kernel, rfl⟩
theorem aL_law_317 : dk mL_law 317 .iadd 1 318 := ⟨by decide +kernel, rfl⟩
theorem aL_law_318 : dk mL_law 318 .iaload 1 319 := ⟨by decide +kernel, rfl⟩
theorem aL_law_319 : dV mL_law 319 mX4_grow 322 := ⟨44, by decide +kernel, rfl, dW_at 617 (by decide +kernel), by decide⟩
theorem aL_law_322 : dC mL_law 322 .eq 325 654 := ⟨332, by decide +kernel, by decide, rfl⟩
theorem aL_law_325 : dKi mL_law 325 (nI 0) 326 := Or.inl ⟨0, by decide +kernel, by decide +kernel, rfl⟩
theorem aL_law_326 : dk mL_law 326 .ireturn 1 327 := ⟨by decide +kernel, rfl⟩
theorem aL_law_327 : dAl mL_law 327 1 328 := Or.inl ⟨1, by decide +kernel, rfl, rfl⟩
theorem aL_law_328 : dAl mL_law 328 0 329 := Or.inl ⟨0, by decide +kernel, rfl, rfl⟩
theorem aL_law_329 : dIl mL_law 329 3 330 := Or.inl ⟨3, by decide +kernel, rfl, rfl⟩
theorem aL_law_330 : dKi mL_law 330 (nI 1) 331 := Or.inl ⟨1, by decide +kernel, by decide +kernel, rfl⟩
theorem aL_law_331 : dk mL_law 331 .iadd 1 332 := ⟨by decide +kernel, rfl⟩
theorem aL_law_332 : dk mL_law 332 .iaload 1 333 := ⟨by decide +kernel, rfl⟩
theorem aL_law_333 : dAl mL_law 333 0 334 := Or.inl ⟨0, by decide +kernel, rfl, rfl⟩
theorem aL_law_334 : dIl mL_law 334 3 335 := Or.inl ⟨3, by decide +kernel, rfl, rfl⟩
theorem aL_law_335 : dKi mL_law 335 (nI 2) 336 := Or.inl ⟨2, by decide +kernel, by decide +kernel, rfl⟩
theorem aL_law_336 : dk mL_law 336 .iadd 1 337 := ⟨by decide +kernel, rfl⟩
theorem aL_law_337 : dk mL_law 337 .iaload 1 338 := ⟨by decide +kernel, rfl⟩
theorem aL_law_338 : dAl mL_law 338 0 339 := Or.inl ⟨0, by decide +kernel, rfl, rfl⟩
theorem aL_law_339 : dIl mL_law 339 3 340 := Or.inl ⟨3, by decide +kernel, rfl, rfl⟩
theorem aL_law_340 : dKi mL_law 340 (nI 3) 341 := Or.inl ⟨3, by decide +kernel, by decide +kernel, rfl⟩
theorem aL_law_341 : dk mL_law 341 .iadd 1 342 := ⟨by decide +kernel, rfl⟩
theorem aL_law_342 : dk mL_law 342 .iaload 1 343 := ⟨by decide +kernel, rfl⟩
theorem aL_law_343 : dV mL_law 343 mX3_until 346 := ⟨45, by decide +kernel, rfl, dW_at 388 (by decide +kernel), by decide⟩
theorem aL_law_346 : dAl mL_law 346 2 347 := Or.inl ⟨2, by decide +kernel, rfl, rfl⟩
theorem aL_law_347 : dAl mL_law 347 0 348 := Or.inl ⟨0, by decide +kernel, rfl, rfl⟩
theorem aL_law_348 : dIl mL_law 348 3 349 := Or.inl ⟨3, by decide +kernel, rfl, rfl⟩
theorem aL_law_349 : dKi mL_law 349 (nI 1) 350 := Or.inl ⟨1, by decide +kernel, by decide +kernel, rfl⟩
theorem aL_law_350 : dk mL_law 350 .iadd 1 351 := ⟨by decide +kernel, rfl⟩
theorem aL_law_351 : dk mL_law 351 .iaload 1 352 := ⟨by decide +kernel, rfl⟩
theorem aL_law_352 : dAl mL_law 352 0 353 := Or.inl ⟨0, by decide +kernel, rfl, rfl⟩
theorem aL_law_353 : dIl mL_law 353 3 354 := Or.inl ⟨3, by decide +kernel, rfl, rfl⟩
theorem aL_law_354 : dKi mL_law 354 (nI 2) 355 := Or.inl ⟨2, by decide +kernel, by decide +kernel, rfl⟩
theorem aL_law_355 : dk mL_law 355 .iadd 1 356 := ⟨by decide +kernel, rfl⟩
theorem aL_law_356 : dk mL_law 356 .iaload 1 357 := ⟨by decide +kernel, rfl⟩
theorem aL_law_357 : dAl mL_law 357 0 358 := Or.inl ⟨0, by decide +kernel, rfl, rfl⟩
theorem aL_law_358 : dIl mL_law 358 3 359 := Or.inl ⟨3, by decide +kernel, rfl, rfl⟩
theorem aL_law_359 : dKi mL_law 359 (nI 3) 360 := Or.inl ⟨3, by decide +kernel, by decide +kernel, rfl⟩
theorem aL_law_360 : dk mL_law 360 .iadd 1 361 := ⟨by decide +kernel, rfl⟩
theorem aL_law_361 : dk mL_law 361 .iaload 1 362 := ⟨by decide +kernel, rfl⟩
theorem aL_law_362 : dV mL_law 362 mX4_until 365 := ⟨48, by decide +kernel, rfl, dW_at 647 (by decide +kernel), by decide⟩
theorem aL_law_365 : dC mL_law 365 .eq 368 654 := ⟨289, by decide +kernel, by decide, rfl⟩
theorem aL_law_368 : dKi mL_law 368 (nI 0) 369 := Or.inl ⟨0, by decide +kernel, by decide +kernel, rfl⟩
theorem aL_law_369 : dk mL_law 369 .ireturn 1 370 := ⟨by decide +kernel, rfl⟩
theorem aL_law_370 : dAl mL_law 370 1 371 := Or.inl ⟨1, by decide +kernel, rfl, rfl⟩
theorem aL_law_371 : dAl mL_law 371 0 372 := Or.inl ⟨0, by decide +kernel, rfl, rfl⟩
theorem aL_law_372 : dIl mL_law 372 3 373 := Or.inl ⟨3, by decide +kernel, rfl, rfl⟩
theorem aL_law_373 : dKi mL_law 373 (nI 1) 374 := Or.inl ⟨1, by decide +kernel, by decide +kernel, rfl⟩
theorem aL_law_374 : dk mL_law 374 .iadd 1 375 := ⟨by decide +kernel, rfl⟩
theorem aL_law_375 : dk mL_law 375 .iaload 1 376 := ⟨by decide +kernel, rfl⟩
theorem aL_law_376 : dAl mL_law 376 0 377 := Or.inl ⟨0, by decide +kernel, rfl, rfl⟩
theorem aL_law_377 : dIl mL_law 377 3 378 := Or.inl ⟨3, by decide +kernel, rfl, rfl⟩
theorem aL_law_378 : dKi mL_law 378 (nI 2) 379 := Or.inl ⟨2, by decide +kernel, by decide +kernel, rfl⟩
theorem aL_law_379 : dk mL_law 379 .iadd 1 380 := ⟨by decide +kernel, rfl⟩
theorem aL_law_380 : dk mL_law 380 .iaload 1 381 := ⟨by decide +kernel, rfl⟩
theorem aL_law_381 : dV mL_law 381 mX3_end 384 := ⟨49, by decide +kernel, rfl, dW_at 415 (by decide +kernel), by decide⟩
theorem aL_law_384 : dAl mL_law 384 2 385 := Or.inl ⟨2, by decide +kernel, rfl, rfl⟩
theorem aL_law_385 : dAl mL_law 385 0 386 := Or.inl ⟨0, by decide +kernel, rfl, rfl⟩
theorem aL_law_386 : dIl mL_law 386 3 387 := Or.inl ⟨3, by decide +kernel, rfl, rfl⟩
theorem aL_law_387 : dKi mL_law 387 (nI 1) 388 := Or.inl ⟨1, by decide +kernel, by decide +kernel, rfl⟩
theorem aL_law_388 : dk mL_law 388 .iadd 1 389 := ⟨by decide +kernel, rfl⟩
theorem aL_law_389 : dk mL_law 389 .iaload 1 390 := ⟨by decide +kernel, rfl⟩
theorem aL_law_390 : dAl mL_law 390 0 391 := Or.inl ⟨0, by decide +kernel, rfl, rfl⟩
theorem aL_law_391 : dIl mL_law 391 3 392 := Or.inl ⟨3, by decide +kernel, rfl, rfl⟩
theorem aL_law_392 : dKi mL_law 392 (nI 2) 393 := Or.inl ⟨2, by decide +kernel, by decide +kernel, rfl⟩
theorem aL_law_393 : dk mL_law 393 .iadd 1 394 := ⟨by decide +kernel, rfl⟩
theorem aL_law_394 : dk mL_law 394 .iaload 1 395 := ⟨by decide +kernel, rfl⟩
theorem aL_law_395 : dV mL_law 395 mX4_end 398 := ⟨53, by decide +kernel, rfl, dW_at 674 (by decide +kernel), by decide⟩
theorem aL_law_398 : dk mL_law 398 .lcmp 1 399 := ⟨by decide +kernel, rfl⟩
theorem aL_law_399 : dZ mL_law 399 .eq 402 654 := ⟨255, by decide +kernel, by decide, rfl⟩
theorem aL_law_402 : dKi mL_law 402 (nI 0) 403 := Or.inl ⟨0, by decide +kernel, by decide +kernel, rfl⟩
theorem aL_law_403 : dk mL_law 403 .ireturn 1 404 := ⟨by decide +kernel, rfl⟩
theorem aL_law_404 : dAl mL_law 404 1 405 := Or.inl ⟨1, by decide +kernel, rfl, rfl⟩
theorem aL_law_405 : dAl mL_law 405 0 406 := Or.inl ⟨0, by decide +kernel, rfl, rfl⟩
theorem aL_law_406 : dIl mL_law 406 3 407 := Or.inl ⟨3, by decide +kernel, rfl, rfl⟩
theorem aL_law_407 : dKi mL_law 407 (nI 1) 408 := Or.inl ⟨1, by decide +kernel, by decide +kernel, rfl⟩
theorem aL_law_408 : dk mL_law 408 .iadd 1 409 := ⟨by decide +kernel, rfl⟩
theorem aL_law_409 : dk mL_law 409 .iaload 1 410 := ⟨by decide +kernel, rfl⟩
theorem aL_law_410 : dAl mL_law 410 0 411 := Or.inl ⟨0, by decide +kernel, rfl, rfl⟩
theorem aL_law_411 : dIl mL_law 411 3 412 := Or.inl ⟨3, by decide +kernel, rfl, rfl⟩
theorem aL_law_412 : dKi mL_law 412 (nI 2) 413 := Or.inl ⟨2, by decide +kernel, by decide +kernel, rfl⟩
theorem aL_law_413 : dk mL_law 413 .iadd 1 414 := ⟨by decide +kernel, rfl⟩
theorem aL_law_414 : dk mL_law 414 .iaload 1 415 := ⟨by decide +kernel, rfl⟩
theorem aL_law_415 : dAl mL_law 415 0 416 := Or.inl ⟨0, by decide +kernel, rfl, rfl⟩
theorem aL_law_416 : dIl mL_law 416 3 417 := Or.inl ⟨3, by decide +kernel, rfl, rfl⟩
theorem aL_law_417 : dKi mL_law 417 (nI 3) 418 := Or.inl ⟨3, by decide +kernel, by decide +kernel, rfl⟩
theorem aL_law_418 : dk mL_law 418 .iadd 1 419 := ⟨by decide +kernel, rfl⟩
theorem aL_law_419 : dk mL_law 419 .iaload 1 420 := ⟨by decide +kernel, rfl⟩
theorem aL_law_420 : dV mL_law 420 mX3_given 423 := ⟨54, by decide +kernel, rfl, dW_at 422 (by decide +kernel), by decide⟩
theorem aL_law_423 : dAl mL_law 423 2 424 := Or.inl ⟨2, by decide +kernel, rfl, rfl⟩
theorem aL_law_424 : dAl mL_law 424 0 425 := Or.inl ⟨0, by decide +kernel, rfl, rfl⟩
theorem aL_law_425 : dIl mL_law 425 3 426 := Or.inl ⟨3, by decide +kernel, rfl, rfl⟩
theorem aL_law_426 : dKi mL_law 426 (nI 1) 427 := Or.inl ⟨1, by decide +kernel, by decide +kernel, rfl⟩
theorem aL_law_427 : dk mL_law 427 .iadd 1 428 := ⟨by decide +kernel, rfl⟩
theorem aL_law_428 : dk mL_law 428 .iaload 1 429 := ⟨by decide +kernel, rfl⟩
theorem aL_law_429 : dAl mL_law 429 0 430 := Or.inl ⟨0, by decide +kernel, rfl, rfl⟩
theorem aL_law_430 : dIl mL_law 430 3 431 := Or.inl ⟨3, by decide +kernel, rfl, rfl⟩
theorem aL_law_431 : dKi mL_law 431 (nI 2) 432 := Or.inl ⟨2, by decide +kernel, by decide +kernel, rfl⟩
theorem aL_law_432 : dk mL_law 432 .iadd 1 433 := ⟨by decide +kernel, rfl⟩
theorem aL_law_433 : dk mL_law 433 .iaload 1 434 := ⟨by decide +kernel, rfl⟩
theorem aL_law_434 : dAl mL_law 434 0 435 := Or.inl ⟨0, by decide +kernel, rfl, rfl⟩
theorem aL_law_435 : dIl mL_law 435 3 436 := Or.inl ⟨3, by decide +kernel, rfl, rfl⟩
theorem aL_law_436 : dKi mL_law 436 (nI 3) 437 := Or.inl ⟨3, by decide +kernel, by decide +kernel, rfl⟩
theorem aL_law_437 : dk mL_law 437 .iadd 1 438 := ⟨by decide +kernel, rfl⟩
theorem aL_law_438 : dk mL_law 438 .iaload 1 439 := ⟨by decide +kernel, rfl⟩
theorem aL_law_439 : dV mL_law 439 mX4_given 442 := ⟨57, by decide +kernel, rfl, dW_at 678 (by decide +kernel), by decide⟩
theorem aL_law_442 : dC mL_law 442 .eq 445 654 := ⟨212, by decide +kernel, by decide, rfl⟩
theorem aL_law_445 : dKi mL_law 445 (nI 0) 446 := Or.inl ⟨0, by decide +kernel, by decide +kernel, rfl⟩
theorem aL_law_446 : dk mL_law 446 .ireturn 1 447 := ⟨by decide +kernel, rfl⟩
theorem aL_law_447 : dAl mL_law 447 1 448 := Or.inl ⟨1, by decide +kernel, rfl, rfl⟩
theorem aL_law_448 : dAl mL_law 448 0 449 := Or.inl ⟨0, by decide +kernel, rfl, rfl⟩
theorem aL_law_449 : dIl mL_law 449 3 450 := Or.inl ⟨3, by decide +kernel, rfl, rfl⟩
theorem aL_law_450 : dKi mL_law 450 (nI 1) 451 := Or.inl ⟨1, by decide +kernel, by decide +kernel, rfl⟩
theorem aL_law_451 : dk mL_law 451 .iadd 1 452 := ⟨by decide +kernel, rfl⟩
theorem aL_law_452 : dk mL_law 452 .iaload 1 453 := ⟨by decide +kernel, rfl⟩
theorem aL_law_453 : dAl mL_law 453 0 454 := Or.inl ⟨0, by decide +kernel, rfl, rfl⟩
theorem aL_law_454 : dIl mL_law 454 3 455 := Or.inl ⟨3, by decide +kernel, rfl, rfl⟩
theorem aL_law_455 : dKi mL_law 455 (nI 2) 456 := Or.inl ⟨2, by decide +kernel, by decide +kernel, rfl⟩
theorem aL_law_456 : dk mL_law 456 .iadd 1 457 := ⟨by decide +kernel, rfl⟩
theorem aL_law_457 : dk mL_law 457 .iaload 1 458 := ⟨by decide +kernel, rfl⟩
theorem aL_law_458 : dV mL_law 458 mX3_best 461 := ⟨58, by decide +kernel, rfl, dW_at 436 (by decide +kernel), by decide⟩
theorem aL_law_461 : dAl mL_law 461 2 462 := Or.inl ⟨2, by decide +kernel, rfl, rfl⟩
theorem aL_law_462 : dAl mL_law 462 0 463 := Or.inl ⟨0, by decide +kernel, rfl, rfl⟩
theorem aL_law_463 : dIl mL_law 463 3 464 := Or.inl ⟨3, by decide +kernel, rfl, rfl⟩
theorem aL_law_464 : dKi mL_law 464 (nI 1) 465 := Or.inl ⟨1, by decide +kernel, by decide +kernel, rfl⟩
theorem aL_law_465 : dk mL_law 465 .iadd 1 466 := ⟨by decide +kernel, rfl⟩
theorem aL_law_466 : dk mL_law 466 .iaload 1 467 := ⟨by decide +kernel, rfl⟩
theorem aL_law_467 : dAl mL_law 467 0 468 := Or.inl ⟨0, by decide +kernel, rfl, rfl⟩
theorem aL_law_468 : dIl mL_law 468 3 469 := Or.inl ⟨3, by decide +kernel, rfl, rfl⟩
theorem aL_law_469 : dKi mL_law 469 (nI 2) 470 := Or.inl ⟨2, by decide +kernel, by decide +kernel, rfl⟩
theorem aL_law_470 : dk mL_law 470 .iadd 1 471 := ⟨by decide +kernel, rfl⟩
theorem aL_law_471 : dk mL_law 471 .iaload 1 472 := ⟨by decide +kernel, rfl⟩
theorem aL_law_472 : dV mL_law 472 mX4_best 475 := ⟨61, by decide +kernel, rfl, dW_at 686 (by decide +kernel), by decide⟩
theorem aL_law_475 : dC mL_law 475 .eq 478 654 := ⟨179, by decide +kernel, by decide, rfl⟩
theorem aL_law_478 : dKi mL_law 478 (nI 0) 479 := Or.inl ⟨0, by decide +kernel, by decide +kernel, rfl⟩
theorem aL_law_479 : dk mL_law 479 .ireturn 1 480 := ⟨by decide +kernel, rfl⟩
theorem aL_law_480 : dAl mL_law 480 1 481 := Or.inl ⟨1, by decide +kernel, rfl, rfl⟩
theorem aL_law_481 : dAl mL_law 481 0 482 := Or.inl ⟨0, by decide +kernel, rfl, rfl⟩
theorem aL_law_482 : dIl mL_law 482 3 483 := Or.inl ⟨3, by decide +kernel, rfl, rfl⟩
theorem aL_law_483 : dKi mL_law 483 (nI 1) 484 := Or.inl ⟨1, by decide +kernel, by decide +kernel, rfl⟩
theorem aL_law_484 : dk mL_law 484 .iadd 1 485 := ⟨by decide +kernel, rfl⟩
theorem aL_law_485 : dk mL_law 485 .iaload 1 486 := ⟨by decide +kernel, rfl⟩
theorem aL_law_486 : dAl mL_law 486 0 487 := Or.inl ⟨0, by decide +kernel, rfl, rfl⟩
theorem aL_law_487 : dIl mL_law 487 3 488 := Or.inl ⟨3, by decide +kernel, rfl, rfl⟩
theorem aL_law_488 : dKi mL_law 488 (nI 2) 489 := Or.inl ⟨2, by decide +kernel, by decide +kernel, rfl⟩
theorem aL_law_489 : dk mL_law 489 .iadd 1 490 := ⟨by decide +kernel, rfl⟩
theorem aL_law_490 : dk mL_law 490 .iaload 1 491 := ⟨by decide +kernel, rfl⟩
theorem aL_law_491 : dV mL_law 491 mX3_item 494 := ⟨62, by decide +kernel, rfl, dW_at 444 (by decide +kernel), by decide⟩
theorem aL_law_494 : dAl mL_law 494 2 495 := Or.inl ⟨2, by decide +kernel, rfl, rfl⟩
theorem aL_law_495 : dAl mL_law 495 0 496 := Or.inl ⟨0, by decide +kernel, rfl, rfl⟩
theorem aL_law_496 : dIl mL_law 496 3 497 := Or.inl ⟨3, by decide +kernel, rfl, rfl⟩
theorem aL_law_497 : dKi mL_law 497 (nI 1) 498 := Or.inl ⟨1, by decide +kernel, by decide +kernel, rfl⟩
theorem aL_law_498 : dk mL_law 498 .iadd 1 499 := ⟨by decide +kernel, rfl⟩
theorem aL_law_499 : dk mL_law 499 .iaload 1 500 := ⟨by decide +kernel, rfl⟩
theorem aL_law_500 : dAl mL_law 500 0 501 := Or.inl ⟨0, by decide +kernel, rfl, rfl⟩
theorem aL_law_501 : dIl mL_law 501 3 502 := Or.inl ⟨3, by decide +kernel, rfl, rfl⟩
theorem aL_law_502 : dKi mL_law 502 (nI 2) 503 := Or.inl ⟨2, by decide +kernel, by decide +kernel, rfl⟩
theorem aL_law_503 : dk mL_law 503 .iadd 1 504 := ⟨by decide +kernel, rfl⟩
theorem aL_law_504 : dk mL_law 504 .iaload 1 505 := ⟨by decide +kernel, rfl⟩
theorem aL_law_505 : dV mL_law 505 mX4_item 508 := ⟨65, by decide +kernel, rfl, dW_at 690 (by decide +kernel), by decide⟩
theorem aL_law_508 : dC mL_law 508 .eq 511 654 := ⟨146, by decide +kernel, by decide, rfl⟩
theorem aL_law_511 : dKi mL_law 511 (nI 0) 512 := Or.inl ⟨0, by decide +kernel, by decide +kernel, rfl⟩
theorem aL_law_512 : dk mL_law 512 .ireturn 1 513 := ⟨by decide +kernel, rfl⟩
theorem aL_law_513 : dAl mL_law 513 1 514 := Or.inl ⟨1, by decide +kernel, rfl, rfl⟩
theorem aL_law_514 : dAl mL_law 514 0 515 := Or.inl ⟨0, by decide +kernel, rfl, rfl⟩
theorem aL_law_515 : dIl mL_law 515 3 516 := Or.inl ⟨3, by decide +kernel, rfl, rfl⟩
theorem aL_law_516 : dKi mL_law 516 (nI 1) 517 := Or.inl ⟨1, by decide +kernel, by decide +kernel, rfl⟩
theorem aL_law_517 : dk mL_law 517 .iadd 1 518 := ⟨by decide +kernel, rfl⟩
theorem aL_law_518 : dk mL_law 518 .iaload 1 519 := ⟨by decide +kernel, rfl⟩
theorem aL_law_519 : dV mL_law 519 mX3_units 522 := ⟨66, by decide +kernel, rfl, dW_at 448 (by decide +kernel), by decide⟩
theorem aL_law_522 : dAl mL_law 522 2 523 := Or.inl ⟨2, by decide +kernel, rfl, rfl⟩
theorem aL_law_523 : dAl mL_law 523 0 524 := Or.inl ⟨0, by decide +kernel, rfl, rfl⟩
theorem aL_law_524 : dIl mL_law 524 3 525 := Or.inl ⟨3, by decide +kernel, rfl, rfl⟩
theorem aL_law_525 : dKi mL_law 525 (nI 1) 526 := Or.inl ⟨1, by decide +kernel, by decide +kernel, rfl⟩
theorem aL_law_526 : dk mL_law 526 .iadd 1 527 := ⟨by decide +kernel, rfl⟩
theorem aL_law_527 : dk mL_law 527 .iaload 1 528 := ⟨by decide +kernel, rfl⟩
theorem aL_law_528 : dV mL_law 528 mX4_units 531 := ⟨70, by decide +kernel, rfl, dW_at 694 (by decide +kernel), by decide⟩
theorem aL_law_531 : dk mL_law 531 .lcmp 1 532 := ⟨by decide +kernel, rfl⟩
theorem aL_law_532 : dZ mL_law 532 .eq 535 654 := ⟨122, by decide +kernel, by decide, rfl⟩
theorem aL_law_535 : dKi mL_law 535 (nI 0) 536 := Or.inl ⟨0, by decide +kernel, by decide +kernel, rfl⟩
theorem aL_law_536 : dk mL_law 536 .ireturn 1 537 := ⟨by decide +kernel, rfl⟩
theorem aL_law_537 : dAl mL_law 537 1 538 := Or.inl ⟨1, by decide +kernel, rfl, rfl⟩
theorem aL_law_538 : dAl mL_law 538 0 539 := Or.inl ⟨0, by decide +kernel, rfl, rfl⟩
theorem aL_law_539 : dIl mL_law 539 3 540 := Or.inl ⟨3, by decide +kernel, rfl, rfl⟩
theorem aL_law_540 : dKi mL_law 540 (nI 1) 541 := Or.inl ⟨1, by decide +kernel, by decide +kernel, rfl⟩
theorem aL_law_541 : dk mL_law 541 .iadd 1 542 := ⟨by decide +kernel, rfl⟩
theorem aL_law_542 : dk mL_law 542 .iaload 1 543 := ⟨by decide +kernel, rfl⟩
theorem aL_law_543 : dV mL_law 543 mX3_found 546 := ⟨71, by decide +kernel, rfl, dW_at 452 (by decide +kernel), by decide⟩
theorem aL_law_546 : dAl mL_law 546 2 547 := Or.inl ⟨2, by decide +kernel, rfl, rfl⟩
theorem aL_law_547 : dAl mL_law 547 0 548 := Or.inl ⟨0, by decide +kernel, rfl, rfl⟩
theorem aL_law_548 : dIl mL_law 548 3 549 := Or.inl ⟨3, by decide +kernel, rfl, rfl⟩
theorem aL_law_549 : dKi mL_law 549 (nI 1) 550 := Or.inl ⟨1, by decide +kernel, by decide +kernel, rfl⟩
theorem aL_law_550 : dk mL_law 550 .iadd 1 551 := ⟨by decide +kernel, rfl⟩
theorem aL_law_551 : dk mL_law 551 .iaload 1 552 := ⟨by decide +kernel, rfl⟩
theorem aL_law_552 : dV mL_law 552 mX4_found 555 := ⟨74, by decide +kernel, rfl, dW_at 698 (by decide +kernel), by decide⟩
theorem aL_law_555 : dk mL_law 555 .lcmp 1 556 := ⟨by decide +kernel, rfl⟩
theorem aL_law_556 : dZ mL_law 556 .eq 559 654 := ⟨98, by decide +kernel, by decide, rfl⟩
theorem aL_law_559 : dKi mL_law 559 (nI 0) 560 := Or.inl ⟨0, by decide +kernel, by decide +kernel, rfl⟩
theorem aL_law_560 : dk mL_law 560 .ireturn 1 561 := ⟨by decide +kernel, rfl⟩
theorem aL_law_561 : dAl mL_law 561 1 562 := Or.inl ⟨1, by decide +kernel, rfl, rfl⟩
theorem aL_law_562 : dAl mL_law 562 0 563 := Or.inl ⟨0, by decide +kernel, rfl, rfl⟩
theorem aL_law_563 : dIl mL_law 563 3 564 := Or.inl ⟨3, by decide +kernel, rfl, rfl⟩
theorem aL_law_564 : dKi mL_law 564 (nI 1) 565 := Or.inl ⟨1, by decide +kernel, by decide +kernel, rfl⟩
theorem aL_law_565 : dk mL_law 565 .iadd 1 566 := ⟨by decide +kernel, rfl⟩
theorem aL_law_566 : dk mL_law 566 .iaload 1 567 := ⟨by decide +kernel, rfl⟩
theorem aL_law_567 : dV mL_law 567 mX3_rests 570 := ⟨75, by decide +kernel, rfl, dW_at 456 (by decide +kernel), by decide⟩
theorem aL_law_570 : dAl mL_law 570 2 571 := Or.inl ⟨2, by decide +kernel, rfl, rfl⟩
theorem aL_law_571 : dAl mL_law 571 0 572 := Or.inl ⟨0, by decide +kernel, rfl, rfl⟩
theorem aL_law_572 : dIl mL_law 572 3 573 := Or.inl ⟨3, by decide +kernel, rfl, rfl⟩
theorem aL_law_573 : dKi mL_law 573 (nI 1) 574 := Or.inl ⟨1, by decide +kernel, by decide +kernel, rfl⟩
theorem aL_law_574 : dk mL_law 574 .iadd 1 575 := ⟨by decide +kernel, rfl⟩
theorem aL_law_575 : dk mL_law 575 .iaload 1 576 := ⟨by decide +kernel, rfl⟩
theorem aL_law_576 : dV mL_law 576 mX4_rests 579 := ⟨78, by decide +kernel, rfl, dW_at 702 (by decide +kernel), by decide⟩
theorem aL_law_579 : dk mL_law 579 .lcmp 1 580 := ⟨by decide +kernel, rfl⟩
theorem aL_law_580 : dZ mL_law 580 .eq 583 654 := ⟨74, by decide +kernel, by decide, rfl⟩
theorem aL_law_583 : dKi mL_law 583 (nI 0) 584 := Or.inl ⟨0, by decide +kernel, by decide +kernel, rfl⟩
theorem aL_law_584 : dk mL_law 584 .ireturn 1 585 := ⟨by decide +kernel, rfl⟩
theorem aL_law_585 : dAl mL_law 585 1 586 := Or.inl ⟨1, by decide +kernel, rfl, rfl⟩
theorem aL_law_586 : dAl mL_law 586 0 587 := Or.inl ⟨0, by decide +kernel, rfl, rfl⟩
theorem aL_law_587 : dIl mL_law 587 3 588 := Or.inl ⟨3, by decide +kernel, rfl, rfl⟩
theorem aL_law_588 : dKi mL_law 588 (nI 1) 589 := Or.inl ⟨1, by decide +kernel, by decide +kernel, rfl⟩
theorem aL_law_589 : dk mL_law 589 .iadd 1 590 := ⟨by decide +kernel, rfl⟩
theorem aL_law_590 : dk mL_law 590 .iaload 1 591 := ⟨by decide +kernel, rfl⟩
theorem aL_law_591 : dV mL_law 591 mX3_save 594 := ⟨79, by decide +kernel, rfl, dW_at 460 (by decide +kernel), by decide⟩
theorem aL_law_594 : dAl mL_law 594 2 595 := Or.inl ⟨2, by decide +kernel, rfl, rfl⟩
theorem aL_law_595 : dAl mL_law 595 0 596 := Or.inl ⟨0, by decide +kernel, rfl, rfl⟩
theorem aL_law_596 : dIl mL_law 596 3 597 := Or.inl ⟨3, by decide +kernel, rfl, rfl⟩
theorem aL_law_597 : dKi mL_law 597 (nI 1) 598 := Or.inl ⟨1, by decide +kernel, by decide +kernel, rfl⟩
theorem aL_law_598 : dk mL_law 598 .iadd 1 599 := ⟨by decide +kernel, rfl⟩
theorem aL_law_599 : dk mL_law 599 .iaload 1 600 := ⟨by decide +kernel, rfl⟩
theorem aL_law_600 : dV mL_law 600 mX4_save 603 := ⟨82, by decide +kernel, rfl, dW_at 706 (by decide +kernel), by decide⟩
theorem aL_law_603 : dC mL_law 603 .eq 606 654 := ⟨51, by decide +kernel, by decide, rfl⟩
theorem aL_law_606 : dKi mL_law 606 (nI 0) 607 := Or.inl ⟨0, by decide +kernel, by decide +kernel, rfl⟩
theorem aL_law_607 : dk mL_law 607 .ireturn 1 608 := ⟨by decide +kernel, rfl⟩
theorem aL_law_608 : dAl mL_law 608 1 609 := Or.inl ⟨1, by decide +kernel, rfl, rfl⟩
theorem aL_law_609 : dAl mL_law 609 0 610 := Or.inl ⟨0, by decide +kernel, rfl, rfl⟩
theorem aL_law_610 : dIl mL_law 610 3 611 := Or.inl ⟨3, by decide +kernel, rfl, rfl⟩
theorem aL_law_611 : dKi mL_law 611 (nI 1) 612 := Or.inl ⟨1, by decide +kernel, by decide +kernel, rfl⟩
theorem aL_law_612 : dk mL_law 612 .iadd 1 613 := ⟨by decide +kernel, rfl⟩
theorem aL_law_613 : dk mL_law 613 .iaload 1 614 := ⟨by decide +kernel, rfl⟩
theorem aL_law_614 : dV mL_law 614 mX3_back 617 := ⟨83, by decide +kernel, rfl, dW_at 471 (by decide +kernel), by decide⟩
theorem aL_law_617 : dAl mL_law 617 2 618 := Or.inl ⟨2, by decide +kernel, rfl, rfl⟩
theorem aL_law_618 : dAl mL_law 618 0 619 := Or.inl ⟨0, by decide +kernel, rfl, rfl⟩
theorem aL_law_619 : dIl mL_law 619 3 620 := Or.inl ⟨3, by decide +kernel, rfl, rfl⟩
theorem aL_law_620 : dKi mL_law 620 (nI 1) 621 := Or.inl ⟨1, by decide +kernel, by decide +kernel, rfl⟩
theorem aL_law_621 : dk mL_law 621 .iadd 1 622 := ⟨by decide +kernel, rfl⟩
theorem aL_law_622 : dk mL_law 622 .iaload 1 623 := ⟨by decide +kernel, rfl⟩
theorem aL_law_623 : dV mL_law 623 mX4_back 626 := ⟨86, by decide +kernel, rfl, dW_at 714 (by decide +kernel), by decide⟩
theorem aL_law_626 : dC mL_law 626 .eq 629 654 := ⟨28, by decide +kernel, by decide, rfl⟩
theorem aL_law_629 : dKi mL_law 629 (nI 0) 630 := Or.inl ⟨0, by decide +kernel, by decide +kernel, rfl⟩
theorem aL_law_630 : dk mL_law 630 .ireturn 1 631 := ⟨by decide +kernel, rfl⟩
theorem aL_law_631 : dAl mL_law 631 1 632 := Or.inl ⟨1, by decide +kernel, rfl, rfl⟩
theorem aL_law_632 : dAl mL_law 632 0 633 := Or.inl ⟨0, by decide +kernel, rfl, rfl⟩
theorem aL_law_633 : dIl mL_law 633 3 634 := Or.inl ⟨3, by decide +kernel, rfl, rfl⟩
theorem aL_law_634 : dKi mL_law 634 (nI 1) 635 := Or.inl ⟨1, by decide +kernel, by decide +kernel, rfl⟩
theorem aL_law_635 : dk mL_law 635 .iadd 1 636 := ⟨by decide +kernel, rfl⟩
theorem aL_law_636 : dk mL_law 636 .iaload 1 637 := ⟨by decide +kernel, rfl⟩
theorem aL_law_637 : dV mL_law 637 mX3_told 640 := ⟨87, by decide +kernel, rfl, dW_at 475 (by decide +kernel), by decide⟩
theorem aL_law_640 : dAl mL_law 640 2 641 := Or.inl ⟨2, by decide +kernel, rfl, rfl⟩
theorem aL_law_641 : dAl mL_law 641 0 642 := Or.inl ⟨0, by decide +kernel, rfl, rfl⟩
theorem aL_law_642 : dIl mL_law 642 3 643 := Or.inl ⟨3, by decide +kernel, rfl, rfl⟩
theorem aL_law_643 : dKi mL_law 643 (nI 1) 644 := Or.inl ⟨1, by decide +kernel, by decide +kernel, rfl⟩
theorem aL_law_644 : dk mL_law 644 .iadd 1 645 := ⟨by decide +kernel, rfl⟩
theorem aL_law_645 : dk mL_law 645 .iaload 1 646 := ⟨by decide +kernel, rfl⟩
theorem aL_law_646 : dV mL_law 646 mX4_told 649 := ⟨90, by decide +kernel, rfl, dW_at 718 (by decide +kernel), by decide⟩
theorem aL_law_649 : dC mL_law 649 .eq 652 654 := ⟨5, by decide +kernel, by decide, rfl⟩
theorem aL_law_652 : dKi mL_law 652 (nI 0) 653 := Or.inl ⟨0, by decide +kernel, by decide +kernel, rfl⟩
theorem aL_law_653 : dk mL_law 653 .ireturn 1 654 := ⟨by decide +kernel, rfl⟩
theorem aL_law_654 : dIn mL_law 654 3 (nI 4) 657 := ⟨4, by decide +kernel, by decide +kernel, rfl, by decide⟩
theorem aL_law_657 : dJ mL_law 657 18 := ⟨-639, by decide +kernel, by decide⟩
theorem aL_law_660 : dKi mL_law 660 (nI 1) 661 := Or.inl ⟨1, by decide +kernel, by decide +kernel, rfl⟩
theorem aL_law_661 : dk mL_law 661 .ireturn 1 662 := ⟨by decide +kernel, rfl⟩
end
section
/-! A fixed world of cells: their shapes never change; ints and longs do -/
abbrev Mem : Type := (Nat → Nat → Int32) × (Nat → Nat → Int64)
/-- the shape of a cell: an array (kind, length, for one of references what it holds), or an object (class, fields: a fixed reference, an int, a long) -/
abbrev Shp : Type := (Nat × Nat × (Nat → Option Nat)) ⊕ (Nat × List (Nat ⊕ Bool))
def fvals (ad : Nat → Nat) (h : Mem) (k : Nat) : Nat → List (Nat ⊕ Bool) → List Value
  | _, [] => []
  | j, .inl r :: t => .ref (ad r) :: fvals ad h k (j + 1) t
  | j, .inr false :: t => .int (h.1 k j) :: fvals ad h k (j + 1) t
  | j, .inr true :: t => .long (h.2 k j) :: fvals ad h k (j + 1) t
def arrOf (ad : Nat → Nat) (h : Mem) (k t : Nat) (f : Nat → Option Nat) : (Nat → Int32) ⊕ (Nat → Int64) ⊕ (Nat → UInt32) ⊕ (Nat → UInt64) ⊕ (Nat → Option Nat) := match t with
  | 0 => .inl (h.1 k)
  | 1 => .inr (.inl (h.2 k))
  | 2 => .inl (h.1 k)
  | _ => .inr (.inr (.inr (.inr (fun j => (f j).map ad))))
def cellOf (ad : Nat → Nat) (ca : Nat → ClassId) (h : Mem) (k : Nat) (S : Shp) : va_E := match S with
  | .inl (t, n, f) => .inl (ca t, n, arrOf ad h k t f)
  | .inr (ci, fs) => .inr (ci, fvals ad h k 0 fs)
abbrev shI (n : Nat) : Shp := .inl (0, n, fun _ => none)
abbrev shJ (n : Nat) : Shp := .inl (1, n, fun _ => none)
abbrev shZ (n : Nat) : Shp := .inl (2, n, fun _ => none)
abbrev shL (q : Nat) : List Shp := [.inr (0, [.inr false, .inr false, .inr false, .inl (q + 1), .inl (q + 2), .inl (q + 3), .inl (q + 4), .inl (q + 5), .inl (q + 6)]), shI 60, shI 60, shJ 60, shJ 8, shJ 20, shJ 20]
def shTab : List Shp := [.inr (3, [.inl 1, .inl 51, .inl 55, .inl 62, .inl 69, .inr false, .inr false]),
  .inr (2, [.inr false, .inl 2, .inl 3, .inl 4, .inl 5, .inl 6, .inl 27, .inl 48, .inl 49, .inl 50]), shI 20, shI 20, shI 20, shI 20, .inl (4, 20, fun j => if j < 20 then some (7 + j) else none)] ++ List.replicate 20 (shI 16) ++ [.inl (4, 20, fun j => if j < 20 then some (28 + j) else none)] ++ List.replicate 20 (shI 16) ++ [shI 20, shI 20, shZ 20,
  .inr (1, [.inr false, .inr true, .inr true, .inr false, .inl 52, .inl 53, .inl 54]), shI 32, shI 32, shJ 32] ++ shL 55 ++ shL 62 ++ [.inl (3, 3, fun j => if j < 3 then some (70 + 7 * j) else none)] ++ shL 70 ++ shL 77 ++ shL 84 ++
  [.inr (4, [.inr false, .inl 92, .inl 93, .inl 94, .inl 95, .inl 96, .inl 97, .inr false, .inr false, .inl 98, .inl 99, .inl 100, .inl 101, .inl 102, .inl 103, .inl 104, .inl 105, .inl 106, .inr false, .inl 107, .inl 108, .inr false, .inl 109, .inl 110, .inl 111]),
  shI 20, shI 20, shI 400, shI 400, shI 20, shI 20, shZ 5, shI 5, shI 5, shI 5, shI 300, shI 300, shJ 300, shJ 40, shJ 100, shI 20, shZ 20, shI 40, shI 40, shJ 40]
def pic (ad : Nat → Nat) (ca : Nat → ClassId) (h : Mem) : va_W := shTab.zipIdx.map (fun q => (ad q.2, cellOf ad ca h q.2 q.1))
theorem pic_at {ad : Nat → Nat} {ca : Nat → ClassId} {h : Mem} {k : Nat} {S : Shp} (hs : shTab[k]? = some S) : (pic ad ca h)[k]? = some (ad k, cellOf ad ca h k S) := by
  unfold pic
  rw [List.getElem?_map, List.getElem?_zipIdx, hs]
  simp
theorem pic_none {ad : Nat → Nat} {ca : Nat → ClassId} {h : Mem} {k : Nat} (hs : shTab[k]? = none) : (pic ad ca h)[k]? = none := by
  unfold pic
  rw [List.getElem?_map, List.getElem?_zipIdx, hs]
  rfl
theorem fvals_cong {ad : Nat → Nat} {h h' : Mem} {k : Nat} (fs : List (Nat ⊕ Bool)) : ∀ j0 : Nat, (∀ i, j0 ≤ i → h'.1 k i = h.1 k i ∧ h'.2 k i = h.2 k i) → fvals ad h' k j0 fs = fvals ad h k j0 fs := by
  induction fs with
  | nil => intro _ _; rfl
  | cons f t ih =>
    intro j0 hh
    have h1 := ih (j0 + 1) (fun i hi => hh i (by omega))
    obtain ⟨a, b⟩ := hh j0 (Nat.le_refl _)
    rcases f with r | (_ | _) <;> simp [fvals, h1, a, b]
theorem cellOf_cong {ad : Nat → Nat} {ca : Nat → ClassId} {h h' : Mem} {k : Nat} {S : Shp} (h1 : h'.1 k = h.1 k) (h2 : h'.2 k = h.2 k) : cellOf ad ca h' k S = cellOf ad ca h k S := by
  rcases S with ⟨t, n, f⟩ | ⟨ci, fs⟩
  · simp only [cellOf, arrOf, h1, h2]
  · simp only [cellOf]
    rw [fvals_cong (h := h) (h' := h') fs 0 (fun i _ => by rw [h1, h2]; exact ⟨rfl, rfl⟩)]
theorem pic_upd {ad : Nat → Nat} {ca : Nat → ClassId} {h h' : Mem} {k : Nat} {S : Shp} {e : va_E} (hs : shTab[k]? = some S) (he : cellOf ad ca h' k S = e) (ho : ∀ j, j ≠ k → h'.1 j = h.1 j ∧ h'.2 j = h.2 j) : (pic ad ca h).set k (ad k, e) = pic ad ca h' := by
  have hlt : k < (pic ad ca h).length := by
    have := pic_at (ad := ad) (ca := ca) (h := h) hs
    exact (List.getElem?_eq_some_iff.mp this).1
  apply List.ext_getElem?
  intro i
  by_cases hik : i = k
  · subst hik
    rw [List.getElem?_set_self hlt, pic_at hs, he]
  · rw [List.getElem?_set_ne (Ne.symm hik)]
    cases hS : shTab[i]? with
    | none => rw [pic_none hS, pic_none hS]
    | some S' =>
      obtain ⟨a, b⟩ := ho i hik
      rw [pic_at hS, pic_at hS, cellOf_cong a b]
def si (h : Mem) (a i : Nat) (x : Int32) : Mem := (va_up h.1 a (upd (h.1 a) i x), h.2)
def sl (h : Mem) (a i : Nat) (x : Int64) : Mem := (h.1, va_up h.2 a (vp_updL (h.2 a) i x))
/-- a whole row of ints, of longs -/
def sri (h : Mem) (a : Nat) (f : Nat → Int32) : Mem := (va_up h.1 a f, h.2)
def srl (h : Mem) (a : Nat) (f : Nat → Int64) : Mem := (h.1, va_up h.2 a f)
theorem mu_self {α : Type} (f : Nat → α) (k : Nat) (v : α) : va_up f k v k = v := if_pos rfl
theorem mu_ne {α : Type} {f : Nat → α} {k j : Nat} {v : α} (h : j ≠ k) : va_up f k v j = f j := if_neg h
theorem si_row (h : Mem) (a i : Nat) (x : Int32) : (si h a i x).1 a = upd (h.1 a) i x := mu_self _ _ _
theorem si_o {h : Mem} {a i b : Nat} {x : Int32} (hb : b ≠ a) : (si h a i x).1 b = h.1 b := mu_ne hb
theorem si_2 (h : Mem) (a i : Nat) (x : Int32) : (si h a i x).2 = h.2 := rfl
theorem sl_row (h : Mem) (a i : Nat) (x : Int64) : (sl h a i x).2 a = vp_updL (h.2 a) i x := mu_self _ _ _
theorem sl_o {h : Mem} {a i b : Nat} {x : Int64} (hb : b ≠ a) : (sl h a i x).2 b = h.2 b := mu_ne hb
theorem sl_1 (h : Mem) (a i : Nat) (x : Int64) : (sl h a i x).1 = h.1 := rfl
theorem sri_row (h : Mem) (a : Nat) (f : Nat → Int32) : (sri h a f).1 a = f := mu_self _ _ _
theorem sri_o {h : Mem} {a b : Nat} {f : Nat → Int32} (hb : b ≠ a) : (sri h a f).1 b = h.1 b := mu_ne hb
theorem srl_row (h : Mem) (a : Nat) (f : Nat → Int64) : (srl h a f).2 a = f := mu_self _ _ _
theorem srl_o {h : Mem} {a b : Nat} {f : Nat → Int64} (hb : b ≠ a) : (srl h a f).2 b = h.2 b := mu_ne hb
theorem fvals_get {ad : Nat → Nat} {h : Mem} {k : Nat} (fs : List (Nat ⊕ Bool)) : ∀ j0 j : Nat, (fvals ad h k j0 fs)[j]? = fs[j]?.map (fun f => match f with | .inl r => .ref (ad r) | .inr false => .int (h.1 k (j0 + j)) | .inr true => .long (h.2 k (j0 + j))) := by
  induction fs with
  | nil => intro j0 j; simp [fvals]
  | cons f t ih =>
    intro j0 j
    cases j with
    | zero => rcases f with r | (_ | _) <;> simp [fvals]
    | succ j =>
      have := ih (j0 + 1) j
      rw [show j0 + 1 + j = j0 + (j + 1) by omega] at this
      rcases f with r | (_ | _) <;> simp [fvals, this]
theorem fvals_len {ad : Nat → Nat} {h : Mem} {k : Nat} (fs : List (Nat ⊕ Bool)) : ∀ j0 : Nat, (fvals ad h k j0 fs).length = fs.length := by
  induction fs with
  | nil => intro _; rfl
  | cons f t ih =>
    intro j0
    rcases f with r | (_ | _) <;> simp [fvals, ih]
theorem fvals_setI {ad : Nat → Nat} {h : Mem} {k j : Nat} {x : Int32} {fs : List (Nat ⊕ Bool)} (hf : fs[j]? = some (.inr false)) : fvals ad (si h k j x) k 0 fs = (fvals ad h k 0 fs).set j (.int x) := by
  apply List.ext_getElem?
  intro i
  rw [fvals_get]
  by_cases hij : i = j
  · subst hij
    rw [List.getElem?_set_self (by rw [fvals_len]; exact (List.getElem?_eq_some_iff.mp hf).1), hf]
    simp [si_row, upd]
  · rw [List.getElem?_set_ne (Ne.symm hij), fvals_get]
    cases fs[i]? with
    | none => rfl
    | some f =>
      rcases f with r | (_ | _) <;> simp [si_row, si_2, upd, hij]
theorem fvals_setL {ad : Nat → Nat} {h : Mem} {k j : Nat} {x : Int64} {fs : List (Nat ⊕ Bool)} (hf : fs[j]? = some (.inr true)) : fvals ad (sl h k j x) k 0 fs = (fvals ad h k 0 fs).set j (.long x) := by
  apply List.ext_getElem?
  intro i
  rw [fvals_get]
  by_cases hij : i = j
  · subst hij
    rw [List.getElem?_set_self (by rw [fvals_len]; exact (List.getElem?_eq_some_iff.mp hf).1), hf]
    simp [sl_row, vp_updL]
  · rw [List.getElem?_set_ne (Ne.symm hij), fvals_get]
    cases fs[i]? with
    | none => rfl
    | some f =>
      rcases f with r | (_ | _) <;> simp [sl_row, sl_1, vp_updL, hij]
/-! locals by their places -/
def lvp : Nat → List (Option Value) → List (Nat × Value)
  | _, [] => []
  | i, some v :: t => (i, v) :: lvp (i + 1) t
  | i, none :: t => lvp (i + 1) t
theorem lvp_mem (ls : List (Option Value)) : ∀ (i0 : Nat) (q : Nat × Value), q ∈ lvp i0 ls ↔ i0 ≤ q.1 ∧ ls[q.1 - i0]? = some (some q.2) := by
  induction ls with
  | nil => intro i0 q; simp [lvp]
  | cons o t ih =>
    intro i0 q
    have h1 := ih (i0 + 1) q
    obtain ⟨a, v⟩ := q
    dsimp only at h1 ⊢
    have key : (i0 + 1 ≤ a ∧ t[a - (i0 + 1)]? = some (some v)) ↔ (i0 ≤ a ∧ a ≠ i0 ∧ (o :: t)[a - i0]? = some (some v)) := by
      constructor
      · rintro ⟨h, h2⟩
        refine ⟨by omega, by omega, ?_⟩
        rw [show a - i0 = (a - (i0 + 1)) + 1 by omega, List.getElem?_cons_succ]; exact h2
      · rintro ⟨h, h3, h2⟩
        refine ⟨by omega, ?_⟩
        rw [show a - i0 = (a - (i0 + 1)) + 1 by omega, List.getElem?_cons_succ] at h2; exact h2
    cases o with
    | none =>
      rw [lvp, h1, key]
      constructor
      · rintro ⟨x, y, z⟩; exact ⟨x, z⟩
      · rintro ⟨x, z⟩
        refine ⟨x, ?_, z⟩
        intro hai
        subst hai
        simp at z
    | some w =>
      rw [lvp, List.mem_cons, h1, key]
      constructor
      · rintro (e | ⟨x, y, z⟩)
        · cases e; simp
        · exact ⟨x, z⟩
      · rintro ⟨x, z⟩
        by_cases hai : a = i0
        · subst hai
          simp at z
          exact Or.inl (by rw [z])
        · exact Or.inr ⟨x, hai, z⟩
theorem lvp_get {ls : List (Option Value)} {i : Nat} {v : Value} (h : ls[i]? = some (some v)) : (i, v) ∈ lvp 0 ls := (lvp_mem ls 0 (i, v)).mpr ⟨Nat.zero_le _, h⟩
theorem lvh_mono {lsc : Array Slot} {n : Nat} {l l' : List (Nat × Value)} (h : lv_has lsc n l) (hm : ∀ q ∈ l', q ∈ l) : lv_has lsc n l' := ⟨h.1, h.2.1, fun q hq => h.2.2 q (hm q hq)⟩
/-! the judgement -/
/-- the words that a call hands on -/
def gT : List Cond := lw_tbl.filter goodWord
theorem gW {w : Cond} (h : dW w) (hg : goodWord w = true) : w ∈ gT := List.mem_filter.mpr ⟨h, hg⟩
abbrev Cxt : Type := Program × Launch × Env × Room × State × MethodId × Array Value × List Frame × Method × Code × Nat × Nat × (State → Prop)
abbrev Env3 : Type := Cxt × (va_G × (Nat → ClassId)) × (Nat → Prop)
abbrev tysOf (ca : Nat → ClassId) : List (ClassId × FieldType) := [(ca 0, .int), (ca 1, .long), (ca 2, .boolean), (ca 3, .object "RestBounds$Listing"), (ca 4, .array .int)]
def WX (X : Cxt) (H : Heap) (locs : List Loc) (g : JFrame) : Prop := W X.1 X.2.1 X.2.2.1 X.2.2.2.1 X.2.2.2.2.1 X.2.2.2.2.2.1 X.2.2.2.2.2.2.1 X.2.2.2.2.2.2.2.1 X.2.2.2.2.2.2.2.2.1 X.2.2.2.2.2.2.2.2.2.1 H locs X.2.2.2.2.2.2.2.2.2.2.1 X.2.2.2.2.2.2.2.2.2.2.2.1 X.2.2.2.2.2.2.2.2.2.2.2.2 g
def CxP (p : Program) (R : Room) (s : State) (m : MethodId) (args : Array Value) (meth : Method) (c : Code) (cells slots : Nat) (D : va_G × (Nat → ClassId)) (A : Nat → Prop) (μ : Mth) : Prop :=
  p.tables.exec = Jvm.exec ∧ c.code = μ.2.1 ∧ meth.sig.returnType = μ.2.2.2.1 ∧ c.maxLocals = μ.2.2.1 ∧ s.vm.findClass μ.2.2.2.2.1 = some m.cls ∧ (∀ w ∈ gT, w.before args s = true) ∧ meth.locks = false ∧ va_K D.1 vwCl (tysOf D.2) s ∧ (∀ q, s.heap.size ≤ q → A q) ∧ R.frames = μ.2.2.2.2.2.1 ∧ R.locals = μ.2.2.2.2.2.2 ∧ cells ≤ R.cells ∧ slots ≤ R.slots
def Cx (Y : Env3) (μ : Mth) : Prop := CxP Y.1.1 Y.1.2.2.2.1 Y.1.2.2.2.2.1 Y.1.2.2.2.2.2.1 Y.1.2.2.2.2.2.2.1 Y.1.2.2.2.2.2.2.2.2.1 Y.1.2.2.2.2.2.2.2.2.2.1 Y.1.2.2.2.2.2.2.2.2.2.2.1 Y.1.2.2.2.2.2.2.2.2.2.2.2.1 Y.2.1 Y.2.2 μ
def Ht (Y : Env3) (ad : Nat → Nat) (h : Mem) (H : Heap) (locs : List Loc) : Prop := va_P Y.2.1.1 vwCl (pic ad Y.2.1.2 h) H ∧ va_D Y.2.2 (pic ad Y.2.1.2 h) ∧ va_S Y.2.2 Y.1.2.2.2.2.1.heap H locs
/-- from here, with these locals, this stack and these cells, the method comes to its end -/
def G (Y : Env3) (ad : Nat → Nat) (μ : Mth) (pc : Nat) (ls : List (Option Value)) (st : List Value) (h : Mem) : Prop :=
  Cx Y μ → ∀ (H : Heap) (locs : List Loc) (lsc : Array Slot), Ht Y ad h H locs → lv_has lsc μ.2.2.1 (lvp 0 ls) → WX Y.1 H locs (F0 Y.1.2.2.2.2.2.1 pc lsc st)
def Pq (ad : Nat → Nat) (D : va_G × (Nat → ClassId)) (A : Nat → Prop) (Q : Option Value → Mem → Prop) : Array Value → State → Outcome → State → Prop := fun _ st oc t =>
  (∃ (r : Option Value) (h' : Mem), oc = .returned r ∧ Q r h' ∧ va_P D.1 vwCl (pic ad D.2 h') t.heap ∧ va_K D.1 vwCl (tysOf D.2) t ∧ va_D A (pic ad D.2 h')) ∧ va_F A st t
/-- the end of a method with a wish Q -/
def IsM (Y : Env3) (ad : Nat → Nat) (Q : Option Value → Mem → Prop) : Prop := Y.1.2.2.2.2.2.2.2.2.2.2.1 = 0 ∧ Y.1.2.2.2.2.2.2.2.2.2.2.2.1 = 0 ∧ Y.1.2.2.2.2.2.2.2.2.2.2.2.2 = MQ Y.1.2.2.2.2.2.2.2.1 (Pq ad Y.2.1 Y.2.2 Q) Y.1.2.2.2.2.2.2.1 Y.1.2.2.2.2.1 0 0 Y.2.2
abbrev mRoom (μ : Mth) : Room := { frames := μ.2.2.2.2.2.1, cells := 0, slots := 0, locals := μ.2.2.2.2.2.2 }
abbrev mWs (μ : Mth) : List Cond := Cond.code μ.1 μ.2.1 μ.2.2.1 μ.2.2.2.1 :: gT
def cPre (ad : Nat → Nat) (D : va_G × (Nat → ClassId)) (A : Nat → Prop) (h : Mem) (U : State) : Prop := va_P D.1 vwCl (pic ad D.2 h) U.heap ∧ va_K D.1 vwCl (tysOf D.2) U ∧ va_D A (pic ad D.2 h) ∧ ∀ q, U.heap.size ≤ q → A q
/-- THE CONTRACT of a method: called with As over the cells h it returns, and Q of its answer and of the cells then -/
def Con (ad : Nat → Nat) (μ : Mth) (As : List Value) (h : Mem) (Q : Option Value → Mem → Prop) : Prop := ∀ (l : Launch) (D : va_G × (Nat → ClassId)) (A : Nat → Prop), Met l μ.1 (mWs μ) (mRoom μ) (va_Pc As (cPre ad D A h)) (Pq ad D A Q) 0 0 A
theorem Con.mk {ad : Nat → Nat} {μ : Mth} {As : List Value} {h : Mem} {Q : Option Value → Mem → Prop} (hok : okM μ) (hcl : μ.2.2.2.2.1 = μ.1.cls) (ls : List (Option Value)) (hls : lvp 0 ls = lv_args 0 As) (hlen : (lg_sl As).length ≤ μ.2.2.1) (k : ∀ Y : Env3, IsM Y ad Q → G Y ad μ 0 ls [] h) : Con ad μ As h Q := by
  intro l D A
  refine Met.ofW (cc := μ.2.1) (maxL := μ.2.2.1) (ret := μ.2.2.2.1) hok.2.2.2.1 rfl ?_
  intro p e s m args below meth c s₁ B hml hv
  obtain ⟨rfl, hP, hK, hD, hA⟩ := hv
  have hts := atoms_spec (ws := mWs μ) B.pre
  have hown : s.vm.findClass μ.2.2.2.2.1 = some m.cls := by rw [hcl]; exact findClass_of_methodNamed B.named
  rw [lg_entry_eq]
  have hl := lv_entry As hlen
  rw [← hls] at hl
  exact k ((p, l, e, (headSpec (mWs μ) (mRoom μ)).room, s, m, As.toArray, below, meth, c, 0, 0, MQ below (Pq ad D A Q) As.toArray s 0 0 A), D, A) ⟨rfl, rfl, rfl⟩ ⟨B.exec, B.bytes, B.returns, hml, hown, fun w hw => hts w (List.mem_cons_of_mem _ hw), B.notSynchronized, hK, hA, rfl, rfl, Nat.le_refl _, Nat.le_refl _⟩ s.heap [] _ ⟨hP, hD, va_S.rf⟩ hl
end
section
section RULES
variable {Y : Env3} {ad : Nat → Nat} {μ : Mth} {pc npc : Nat} {ls : List (Option Value)} {st : List Value} {h : Mem}
theorem r_iadd {x y : Int32} (e : dk μ pc .iadd 1 npc) (k : G Y ad μ npc ls (.int (x + y) :: st) h) : G Y ad μ pc ls (.int y :: .int x :: st) h := by
  intro C H locs lsc hH hl
  obtain ⟨hd, rfl⟩ := e
  exact lv_iadd C.1 C.2.1 hd (k C H locs lsc hH hl)
theorem r_isub {x y : Int32} (e : dk μ pc .isub 1 npc) (k : G Y ad μ npc ls (.int (x - y) :: st) h) : G Y ad μ pc ls (.int y :: .int x :: st) h := by
  intro C H locs lsc hH hl
  obtain ⟨hd, rfl⟩ := e
  exact lv_isub C.1 C.2.1 hd (k C H locs lsc hH hl)
theorem r_imul {x y : Int32} (e : dk μ pc .imul 1 npc) (k : G Y ad μ npc ls (.int (x * y) :: st) h) : G Y ad μ pc ls (.int y :: .int x :: st) h := by
  intro C H locs lsc hH hl
  obtain ⟨hd, rfl⟩ := e
  exact lv_imul C.1 C.2.1 hd (k C H locs lsc hH hl)
theorem r_iand {x y : Int32} (e : dk μ pc .iand 1 npc) (k : G Y ad μ npc ls (.int (x &&& y) :: st) h) : G Y ad μ pc ls (.int y :: .int x :: st) h := by
  intro C H locs lsc hH hl
  obtain ⟨hd, rfl⟩ := e
  exact lv_iand C.1 C.2.1 hd (k C H locs lsc hH hl)
theorem r_ior {x y : Int32} (e : dk μ pc .ior 1 npc) (k : G Y ad μ npc ls (.int (x ||| y) :: st) h) : G Y ad μ pc ls (.int y :: .int x :: st) h := by
  intro C H locs lsc hH hl
  obtain ⟨hd, rfl⟩ := e
  exact lv_ior C.1 C.2.1 hd (k C H locs lsc hH hl)
theorem r_ixor {x y : Int32} (e : dk μ pc .ixor 1 npc) (k : G Y ad μ npc ls (.int (x ^^^ y) :: st) h) : G Y ad μ pc ls (.int y :: .int x :: st) h := by
  intro C H locs lsc hH hl
  obtain ⟨hd, rfl⟩ := e
  exact lv_ixor C.1 C.2.1 hd (k C H locs lsc hH hl)
theorem r_ishl {x y : Int32} (e : dk μ pc .ishl 1 npc) (k : G Y ad μ npc ls (.int (x <<< (y &&& 31)) :: st) h) : G Y ad μ pc ls (.int y :: .int x :: st) h := by
  intro C H locs lsc hH hl
  obtain ⟨hd, rfl⟩ := e
  exact lv_ishl C.1 C.2.1 hd (k C H locs lsc hH hl)
theorem r_ishr {x y : Int32} (e : dk μ pc .ishr 1 npc) (k : G Y ad μ npc ls (.int (x >>> (y &&& 31)) :: st) h) : G Y ad μ pc ls (.int y :: .int x :: st) h := by
  intro C H locs lsc hH hl
  obtain ⟨hd, rfl⟩ := e
  exact lv_ishr C.1 C.2.1 hd (k C H locs lsc hH hl)
theorem r_ladd {x y : Int64} (e : dk μ pc .ladd 1 npc) (k : G Y ad μ npc ls (.long (x + y) :: st) h) : G Y ad μ pc ls (.long y :: .long x :: st) h := by
  intro C H locs lsc hH hl
  obtain ⟨hd, rfl⟩ := e
  exact lv_ladd C.1 C.2.1 hd (k C H locs lsc hH hl)
theorem r_lsub {x y : Int64} (e : dk μ pc .lsub 1 npc) (k : G Y ad μ npc ls (.long (x - y) :: st) h) : G Y ad μ pc ls (.long y :: .long x :: st) h := by
  intro C H locs lsc hH hl
  obtain ⟨hd, rfl⟩ := e
  exact lv_lsub C.1 C.2.1 hd (k C H locs lsc hH hl)
theorem r_lmul {x y : Int64} (e : dk μ pc .lmul 1 npc) (k : G Y ad μ npc ls (.long (x * y) :: st) h) : G Y ad μ pc ls (.long y :: .long x :: st) h := by
  intro C H locs lsc hH hl
  obtain ⟨hd, rfl⟩ := e
  exact lv_lmul C.1 C.2.1 hd (k C H locs lsc hH hl)
theorem r_ldiv {x y : Int64} (e : dk μ pc .ldiv 1 npc) (hne : ¬ y = 0) (k : G Y ad μ npc ls (.long (x / y) :: st) h) : G Y ad μ pc ls (.long y :: .long x :: st) h := by
  intro C H locs lsc hH hl
  obtain ⟨hd, rfl⟩ := e
  exact lv_ldiv C.1 C.2.1 hd hne (k C H locs lsc hH hl)
theorem r_lrem {x y : Int64} (e : dk μ pc .lrem 1 npc) (hne : ¬ y = 0) (k : G Y ad μ npc ls (.long (x - x / y * y) :: st) h) : G Y ad μ pc ls (.long y :: .long x :: st) h := by
  intro C H locs lsc hH hl
  obtain ⟨hd, rfl⟩ := e
  exact lv_lrem C.1 C.2.1 hd hne (k C H locs lsc hH hl)
theorem r_lshl {x : Int64} {y : Int32} (e : dk μ pc .lshl 1 npc) (k : G Y ad μ npc ls (.long (x <<< (y.toInt64 &&& 63)) :: st) h) : G Y ad μ pc ls (.int y :: .long x :: st) h := by
  intro C H locs lsc hH hl
  obtain ⟨hd, rfl⟩ := e
  exact lv_lshl C.1 C.2.1 hd rfl (k C H locs lsc hH hl)
theorem r_i2l {x : Int32} (e : dk μ pc .i2l 1 npc) (k : G Y ad μ npc ls (.long x.toInt64 :: st) h) : G Y ad μ pc ls (.int x :: st) h := by
  intro C H locs lsc hH hl
  obtain ⟨hd, rfl⟩ := e
  exact lv_i2l C.1 C.2.1 hd rfl (k C H locs lsc hH hl)
theorem r_lcmp {x y : Int64} (e : dk μ pc .lcmp 1 npc) (k : G Y ad μ npc ls (.int (lg_cmp x y) :: st) h) : G Y ad μ pc ls (.long y :: .long x :: st) h := by
  intro C H locs lsc hH hl
  obtain ⟨hd, rfl⟩ := e
  exact W.lcmp C.1 C.2.1 hd (k C H locs lsc hH hl)
theorem r_dup {v : Value} (e : dk μ pc .dup 1 npc) (hv : v.category = 1) (k : G Y ad μ npc ls (v :: v :: st) h) : G Y ad μ pc ls (v :: st) h := by
  intro C H locs lsc hH hl
  obtain ⟨hd, rfl⟩ := e
  exact lv_dup C.1 C.2.1 hd hv (k C H locs lsc hH hl)
theorem r_pop {v : Value} (e : dk μ pc .pop 1 npc) (hv : v.category = 1) (k : G Y ad μ npc ls (st) h) : G Y ad μ pc ls (v :: st) h := by
  intro C H locs lsc hH hl
  obtain ⟨hd, rfl⟩ := e
  exact lv_pop C.1 C.2.1 hd hv (k C H locs lsc hH hl)
theorem r_dup2 {v w : Value} (e : dk μ pc .dup2 1 npc) (hv : v.category = 1) (hw : w.category = 1) (k : G Y ad μ npc ls (v :: w :: v :: w :: st) h) : G Y ad μ pc ls (v :: w :: st) h := by
  intro C H locs lsc hH hl
  obtain ⟨hd, rfl⟩ := e
  exact lv_dup2_11 C.1 C.2.1 hd hv hw (k C H locs lsc hH hl)
theorem r_dup2l {v : Value} (e : dk μ pc .dup2 1 npc) (hv : v.category = 2) (k : G Y ad μ npc ls (v :: v :: st) h) : G Y ad μ pc ls (v :: st) h := by
  intro C H locs lsc hH hl
  obtain ⟨hd, rfl⟩ := e
  exact lv_dup2_2 C.1 C.2.1 hd hv (k C H locs lsc hH hl)
theorem r_iaddN {a b : Nat} (e : dk μ pc .iadd 1 npc) (k : G Y ad μ npc ls (.int (nI (a + b)) :: st) h) : G Y ad μ pc ls (.int (nI b) :: .int (nI a) :: st) h := r_iadd e (by rw [nI_add]; exact k)
theorem r_isubN {a b : Nat} (e : dk μ pc .isub 1 npc) (hle : b ≤ a) (k : G Y ad μ npc ls (.int (nI (a - b)) :: st) h) : G Y ad μ pc ls (.int (nI b) :: .int (nI a) :: st) h := r_isub e (by rw [pk_sub hle]; exact k)
theorem r_imulN {a b : Nat} (e : dk μ pc .imul 1 npc) (k : G Y ad μ npc ls (.int (nI (a * b)) :: st) h) : G Y ad μ pc ls (.int (nI b) :: .int (nI a) :: st) h := r_imul e (by rw [pk_mul]; exact k)
theorem r_laddN {a b : Nat} (e : dk μ pc .ladd 1 npc) (k : G Y ad μ npc ls (.long (lN (a + b)) :: st) h) : G Y ad μ pc ls (.long (lN b) :: .long (lN a) :: st) h := r_ladd e (by rw [lN_add]; exact k)
theorem r_lsubN {a b : Nat} (e : dk μ pc .lsub 1 npc) (hle : b ≤ a) (k : G Y ad μ npc ls (.long (lN (a - b)) :: st) h) : G Y ad μ pc ls (.long (lN b) :: .long (lN a) :: st) h := r_lsub e (by rw [lN_sub hle]; exact k)
theorem r_lmulN {a b : Nat} (e : dk μ pc .lmul 1 npc) (k : G Y ad μ npc ls (.long (lN (a * b)) :: st) h) : G Y ad μ pc ls (.long (lN b) :: .long (lN a) :: st) h := r_lmul e (by rw [lN_mul]; exact k)
theorem lN_ne0 {b : Nat} (h0 : 0 < b) (hb : b < 2 ^ 63) : ¬ lN b = 0 := fun q => by
  have := (pk_lEQ hb (by decide : 0 < 2 ^ 63)).mp (q.trans (by decide : (0 : Int64) = lN 0))
  omega
theorem r_ldivN {a b : Nat} (e : dk μ pc .ldiv 1 npc) (ha : a < 2 ^ 63) (h0 : 0 < b) (hb : b < 2 ^ 63) (k : G Y ad μ npc ls (.long (lN (a / b)) :: st) h) : G Y ad μ pc ls (.long (lN b) :: .long (lN a) :: st) h := r_ldiv e (lN_ne0 h0 hb) (by rw [pk_lDiv ha h0 hb]; exact k)
theorem r_lremN {a b : Nat} (e : dk μ pc .lrem 1 npc) (ha : a < 2 ^ 63) (h0 : 0 < b) (hb : b < 2 ^ 63) (k : G Y ad μ npc ls (.long (lN (a % b)) :: st) h) : G Y ad μ pc ls (.long (lN b) :: .long (lN a) :: st) h := r_lrem e (lN_ne0 h0 hb) (by rw [pk_lRem ha h0 hb]; exact k)
theorem r_i2lN {a : Nat} (e : dk μ pc .i2l 1 npc) (ha : a < 2147483648 := by omega) (k : G Y ad μ npc ls (.long (lN a) :: st) h) : G Y ad μ pc ls (.int (nI a) :: st) h := r_i2l e (by rw [nI_l (show a < 2 ^ 31 from ha)]; exact k)
theorem r_ki {v : Int32} (e : dKi μ pc v npc) (k : G Y ad μ npc ls (.int v :: st) h) : G Y ad μ pc ls st h := by
  intro C H locs lsc hH hl
  rcases e with ⟨n, hd, hv, rfl⟩ | ⟨n, hd, hv, rfl⟩ | ⟨n, hd, hv, rfl⟩ | ⟨ix, hd, hw, rfl⟩
  · exact lv_iconst C.1 C.2.1 hd hv (k C H locs lsc hH hl)
  · exact lv_bipush C.1 C.2.1 hd hv (k C H locs lsc hH hl)
  · exact lv_sipush C.1 C.2.1 hd hv (k C H locs lsc hH hl)
  · exact lv_ldc C.1 C.2.1 C.2.2.2.2.1 (C.2.2.2.2.2.1 _ (gW hw rfl)) hd (k C H locs lsc hH hl)
theorem r_kl {v : Int64} (e : dKl μ pc v npc) (k : G Y ad μ npc ls (.long v :: st) h) : G Y ad μ pc ls st h := by
  intro C H locs lsc hH hl
  rcases e with ⟨n, hd, hv, rfl⟩ | ⟨ix, hd, hw, rfl⟩
  · exact lv_lconst C.1 C.2.1 hd hv (k C H locs lsc hH hl)
  · exact lv_ldc2 C.1 C.2.1 C.2.2.2.2.1 (C.2.2.2.2.2.1 _ (gW hw rfl)) hd (k C H locs lsc hH hl)
theorem r_il {i : Nat} {x : Int32} (e : dIl μ pc i npc) (hx : ls[i]? = some (some (.int x))) (k : G Y ad μ npc ls (.int x :: st) h) : G Y ad μ pc ls st h := by
  intro C H locs lsc hH hl
  have hx' : lsc[i]? = some (.val (.int x)) := hl.2.2 _ (lvp_get hx)
  rcases e with ⟨n, hd, hi, rfl⟩ | ⟨hd, rfl⟩
  · exact lv_iload_n C.1 C.2.1 hd hi hx' (k C H locs lsc hH hl)
  · exact lv_iload C.1 C.2.1 hd hx' (k C H locs lsc hH hl)
theorem r_ll {i : Nat} {x : Int64} (e : dLl μ pc i npc) (hx : ls[i]? = some (some (.long x))) (k : G Y ad μ npc ls (.long x :: st) h) : G Y ad μ pc ls st h := by
  intro C H locs lsc hH hl
  have hx' : lsc[i]? = some (.val (.long x)) := hl.2.2 _ (lvp_get hx)
  rcases e with ⟨n, hd, hi, rfl⟩ | ⟨hd, rfl⟩
  · exact lv_lload_n C.1 C.2.1 hd hi hx' (k C H locs lsc hH hl)
  · exact lv_lload C.1 C.2.1 hd hx' (k C H locs lsc hH hl)
theorem r_al {i : Nat} {x : Nat} (e : dAl μ pc i npc) (hx : ls[i]? = some (some (.ref x))) (k : G Y ad μ npc ls (.ref x :: st) h) : G Y ad μ pc ls st h := by
  intro C H locs lsc hH hl
  have hx' : lsc[i]? = some (.val (.ref x)) := hl.2.2 _ (lvp_get hx)
  rcases e with ⟨n, hd, hi, rfl⟩ | ⟨hd, rfl⟩
  · exact lv_aload_n C.1 C.2.1 hd hi hx' (k C H locs lsc hH hl)
  · exact lv_aload C.1 C.2.1 hd hx' (k C H locs lsc hH hl)
/-- what a store leaves -/
def ls1 (ls ls' : List (Option Value)) (i : Nat) (v : Value) : Prop := ∀ (j : Nat) (w : Value), ls'[j]? = some (some w) → (j = i ∧ w = v) ∨ (j ≠ i ∧ ls[j]? = some (some w) ∧ ¬ (j + 1 = i ∧ w.category = 2))
def ls2 (ls ls' : List (Option Value)) (i : Nat) (v : Value) : Prop := ∀ (j : Nat) (w : Value), ls'[j]? = some (some w) → (j = i ∧ w = v) ∨ (j ≠ i ∧ j ≠ i + 1 ∧ ls[j]? = some (some w) ∧ ¬ (j + 1 = i ∧ w.category = 2))
theorem ls1_lv {ls ls' : List (Option Value)} {i : Nat} {v : Value} (hs : ls1 ls ls' i v) : ∀ q ∈ lvp 0 ls', q ∈ (i, v) :: (lvp 0 ls).filter (fun q => !(q.1 == i) && !(q.1 + 1 == i && q.2.category == 2)) := by
  intro q hq
  obtain ⟨j, w⟩ := q
  have h1 := ((lvp_mem ls' 0 (j, w)).mp hq).2
  rcases hs j w h1 with ⟨rfl, rfl⟩ | ⟨a, b, c⟩
  · exact List.mem_cons_self
  · refine List.mem_cons_of_mem _ (List.mem_filter.mpr ⟨lvp_get b, ?_⟩)
    simp only [Bool.and_eq_true, Bool.not_eq_true', beq_eq_false_iff_ne, ne_eq, Bool.and_eq_false_iff]
    exact ⟨a, (Classical.em (j + 1 = i)).elim (fun z => Or.inr (fun y => c ⟨z, y⟩)) Or.inl⟩
theorem ls2_lv {ls ls' : List (Option Value)} {i : Nat} {v : Value} (hs : ls2 ls ls' i v) : ∀ q ∈ lvp 0 ls', q ∈ (i, v) :: (lvp 0 ls).filter (fun q => !(q.1 == i) && (!(q.1 == i + 1) && !(q.1 + 1 == i && q.2.category == 2))) := by
  intro q hq
  obtain ⟨j, w⟩ := q
  have h1 := ((lvp_mem ls' 0 (j, w)).mp hq).2
  rcases hs j w h1 with ⟨rfl, rfl⟩ | ⟨a, a2, b, c⟩
  · exact List.mem_cons_self
  · refine List.mem_cons_of_mem _ (List.mem_filter.mpr ⟨lvp_get b, ?_⟩)
    simp only [Bool.and_eq_true, Bool.not_eq_true', beq_eq_false_iff_ne, ne_eq, Bool.and_eq_false_iff]
    exact ⟨a, a2, (Classical.em (j + 1 = i)).elim (fun z => Or.inr (fun y => c ⟨z, y⟩)) Or.inl⟩
theorem r_is {i : Nat} {x : Int32} {ls' : List (Option Value)} (e : dIs μ pc i npc) (hs : ls1 ls ls' i (.int x)) (k : G Y ad μ npc ls' st h) : G Y ad μ pc ls (.int x :: st) h := by
  intro C H locs lsc hH hl
  obtain ⟨e, hi⟩ := e
  rcases e with ⟨n, hd, hn, rfl⟩ | ⟨hd, rfl⟩
  · exact lv_istore_n C.1 C.2.1 hd hn hl hi rfl (fun lsc' hl' => k C H locs lsc' hH (lvh_mono hl' (ls1_lv hs)))
  · exact lv_istore C.1 C.2.1 hd hl hi rfl (fun lsc' hl' => k C H locs lsc' hH (lvh_mono hl' (ls1_lv hs)))
theorem r_ls {i : Nat} {x : Int64} {ls' : List (Option Value)} (e : dLs μ pc i npc) (hs : ls2 ls ls' i (.long x)) (k : G Y ad μ npc ls' st h) : G Y ad μ pc ls (.long x :: st) h := by
  intro C H locs lsc hH hl
  obtain ⟨e, hi⟩ := e
  rcases e with ⟨n, hd, hn, rfl⟩ | ⟨hd, rfl⟩
  · exact lv_lstore_n C.1 C.2.1 hd hn hl hi rfl (fun lsc' hl' => k C H locs lsc' hH (lvh_mono hl' (ls2_lv hs)))
  · exact lv_lstore C.1 C.2.1 hd hl hi rfl (fun lsc' hl' => k C H locs lsc' hH (lvh_mono hl' (ls2_lv hs)))
theorem r_as {i : Nat} {x : Nat} {ls' : List (Option Value)} (e : dAs μ pc i npc) (hs : ls1 ls ls' i (.ref x)) (k : G Y ad μ npc ls' st h) : G Y ad μ pc ls (.ref x :: st) h := by
  intro C H locs lsc hH hl
  obtain ⟨e, hi⟩ := e
  rcases e with ⟨n, hd, hn, rfl⟩ | ⟨hd, rfl⟩
  · exact lv_astore_n C.1 C.2.1 hd hn hl hi rfl (fun lsc' hl' => k C H locs lsc' hH (lvh_mono hl' (ls1_lv hs)))
  · exact lv_astore C.1 C.2.1 hd hl hi rfl (fun lsc' hl' => k C H locs lsc' hH (lvh_mono hl' (ls1_lv hs)))
theorem r_in {i : Nat} {x n : Int32} {ls' : List (Option Value)} (e : dIn μ pc i n npc) (hx : ls[i]? = some (some (.int x))) (hs : ls1 ls ls' i (.int (x + n))) (k : G Y ad μ npc ls' st h) : G Y ad μ pc ls st h := by
  intro C H locs lsc hH hl
  obtain ⟨m, hd, hm, rfl, hi⟩ := e
  obtain ⟨k0, hk0⟩ := List.getElem?_of_mem (lvp_get hx)
  exact lv_iinc C.1 C.2.1 hd hl hk0 (by rw [hm]) hi rfl (fun lsc' hl' => k C H locs lsc' hH (lvh_mono hl' (ls1_lv hs)))
/-- fewer locals are known -/
theorem r_lo {ls' : List (Option Value)} (hs : ∀ (j : Nat) (w : Value), ls'[j]? = some (some w) → ls[j]? = some (some w)) (k : G Y ad μ pc ls' st h) : G Y ad μ pc ls st h := by
  intro C H locs lsc hH hl
  exact k C H locs lsc hH (lvh_mono hl (fun q hq => lvp_get (hs q.1 q.2 ((lvp_mem ls' 0 q).mp hq).2)))
/-- no value of two words -/
def nlg (o : Option Value) : Bool := match o with
  | some (.long _) => false
  | some (.double _) => false
  | _ => true
theorem nlg_c {o : Option Value} (h : nlg o = true) {w : Value} (hw : o = some w) : ¬ w.category = 2 := by
  subst hw
  cases w <;> simp [nlg, Value.category] at h ⊢
theorem ls1_0 { oo : Option Value} {t : List (Option Value)} {v : Value} : ls1 (oo :: t) (some v :: t) 0 v := by
  intro j w hj
  cases j with
  | zero => simp at hj; exact Or.inl ⟨rfl, hj.symm⟩
  | succ j => exact Or.inr ⟨by omega, hj, by omega⟩
theorem ls2_0 { oo op : Option Value} {t : List (Option Value)} {v : Value} : ls2 (oo :: op :: t) (some v :: none :: t) 0 v := by
  intro j w hj
  match j, hj with
  | 0, hj => simp at hj; exact Or.inl ⟨rfl, hj.symm⟩
  | 1, hj => simp at hj
  | j + 2, hj => exact Or.inr ⟨by omega, by omega, hj, by omega⟩
theorem r_is0 {x : Int32} { oo : Option Value} {t : List (Option Value)} (e : dIs μ pc 0 npc) (k : G Y ad μ npc (some (.int x) :: t) st h) : G Y ad μ pc (oo :: t) (.int x :: st) h := r_is e (ls1_0) k
theorem r_as0 {x : Nat} { oo : Option Value} {t : List (Option Value)} (e : dAs μ pc 0 npc) (k : G Y ad μ npc (some (.ref x) :: t) st h) : G Y ad μ pc (oo :: t) (.ref x :: st) h := r_as e (ls1_0) k
theorem r_ls0 {x : Int64} { oo op : Option Value} {t : List (Option Value)} (e : dLs μ pc 0 npc) (k : G Y ad μ npc (some (.long x) :: none :: t) st h) : G Y ad μ pc (oo :: op :: t) (.long x :: st) h := r_ls e (ls2_0) k
theorem r_in0 {a b : Nat} {t : List (Option Value)} (e : dIn μ pc 0 (nI b) npc) (k : G Y ad μ npc (some (.int (nI (a + b))) :: t) st h) : G Y ad μ pc (some (.int (nI a)) :: t) st h := r_in e rfl (by rw [nI_add]; exact ls1_0) k
theorem r_f0 {oo : Option Value} {t : List (Option Value)} (k : G Y ad μ pc (none :: t) st h) : G Y ad μ pc (oo :: t) st h := r_lo (by
  intro j w hj
  cases j with
  | zero => simp at hj
  | succ j => exact hj) k
theorem ls1_1 {o0 oo : Option Value} {t : List (Option Value)} {v : Value} (hn : nlg o0 = true) : ls1 (o0 :: oo :: t) (o0 :: some v :: t) 1 v := by
  intro j w hj
  match j, hj with
  | 0, hj => exact Or.inr ⟨by omega, hj, fun z => nlg_c hn (Option.some.inj hj) z.2⟩
  | 1, hj => exact Or.inl ⟨rfl, (Option.some.inj (Option.some.inj hj)).symm⟩
  | j + 2, hj => exact Or.inr ⟨by omega, hj, by omega⟩
theorem ls2_1 {o0 oo op : Option Value} {t : List (Option Value)} {v : Value} (hn : nlg o0 = true) : ls2 (o0 :: oo :: op :: t) (o0 :: some v :: none :: t) 1 v := by
  intro j w hj
  match j, hj with
  | 0, hj => exact Or.inr ⟨by omega, by omega, hj, fun z => nlg_c hn (Option.some.inj hj) z.2⟩
  | 1, hj => exact Or.inl ⟨rfl, (Option.some.inj (Option.some.inj hj)).symm⟩
  | 2, hj => simp at hj
  | j + 3, hj => exact Or.inr ⟨by omega, by omega, hj, by omega⟩
theorem r_is1 {x : Int32} {o0 oo : Option Value} {t : List (Option Value)} (e : dIs μ pc 1 npc) (hn : nlg o0 = true) (k : G Y ad μ npc (o0 :: some (.int x) :: t) st h) : G Y ad μ pc (o0 :: oo :: t) (.int x :: st) h := r_is e (ls1_1 hn) k
theorem r_as1 {x : Nat} {o0 oo : Option Value} {t : List (Option Value)} (e : dAs μ pc 1 npc) (hn : nlg o0 = true) (k : G Y ad μ npc (o0 :: some (.ref x) :: t) st h) : G Y ad μ pc (o0 :: oo :: t) (.ref x :: st) h := r_as e (ls1_1 hn) k
theorem r_ls1 {x : Int64} {o0 oo op : Option Value} {t : List (Option Value)} (e : dLs μ pc 1 npc) (hn : nlg o0 = true) (k : G Y ad μ npc (o0 :: some (.long x) :: none :: t) st h) : G Y ad μ pc (o0 :: oo :: op :: t) (.long x :: st) h := r_ls e (ls2_1 hn) k
theorem r_in1 {a b : Nat} {o0 : Option Value} {t : List (Option Value)} (e : dIn μ pc 1 (nI b) npc) (hn : nlg o0 = true) (k : G Y ad μ npc (o0 :: some (.int (nI (a + b))) :: t) st h) : G Y ad μ pc (o0 :: some (.int (nI a)) :: t) st h := r_in e rfl (by rw [nI_add]; exact ls1_1 hn) k
theorem r_f1 {o0 oo : Option Value} {t : List (Option Value)} (k : G Y ad μ pc (o0 :: none :: t) st h) : G Y ad μ pc (o0 :: oo :: t) st h := r_lo (by
  intro j w hj
  match j, hj with
  | 0, hj => exact hj
  | 1, hj => simp at hj
  | j + 2, hj => exact hj) k
theorem ls1_2 {o0 o1 oo : Option Value} {t : List (Option Value)} {v : Value} (hn : nlg o1 = true) : ls1 (o0 :: o1 :: oo :: t) (o0 :: o1 :: some v :: t) 2 v := by
  intro j w hj
  match j, hj with
  | 0, hj => exact Or.inr ⟨by omega, hj, by omega⟩
  | 1, hj => exact Or.inr ⟨by omega, hj, fun z => nlg_c hn (Option.some.inj hj) z.2⟩
  | 2, hj => exact Or.inl ⟨rfl, (Option.some.inj (Option.some.inj hj)).symm⟩
  | j + 3, hj => exact Or.inr ⟨by omega, hj, by omega⟩
theorem ls2_2 {o0 o1 oo op : Option Value} {t : List (Option Value)} {v : Value} (hn : nlg o1 = true) : ls2 (o0 :: o1 :: oo :: op :: t) (o0 :: o1 :: some v :: none :: t) 2 v := by
  intro j w hj
  match j, hj with
  | 0, hj => exact Or.inr ⟨by omega, by omega, hj, by omega⟩
  | 1, hj => exact Or.inr ⟨by omega, by omega, hj, fun z => nlg_c hn (Option.some.inj hj) z.2⟩
  | 2, hj => exact Or.inl ⟨rfl, (Option.some.inj (Option.some.inj hj)).symm⟩
  | 3, hj => simp at hj
  | j + 4, hj => exact Or.inr ⟨by omega, by omega, hj, by omega⟩
theorem r_is2 {x : Int32} {o0 o1 oo : Option Value} {t : List (Option Value)} (e : dIs μ pc 2 npc) (hn : nlg o1 = true) (k : G Y ad μ npc (o0 :: o1 :: some (.int x) :: t) st h) : G Y ad μ pc (o0 :: o1 :: oo :: t) (.int x :: st) h := r_is e (ls1_2 hn) k
theorem r_as2 {x : Nat} {o0 o1 oo : Option Value} {t : List (Option Value)} (e : dAs μ pc 2 npc) (hn : nlg o1 = true) (k : G Y ad μ npc (o0 :: o1 :: some (.ref x) :: t) st h) : G Y ad μ pc (o0 :: o1 :: oo :: t) (.ref x :: st) h := r_as e (ls1_2 hn) k
theorem r_ls2 {x : Int64} {o0 o1 oo op : Option Value} {t : List (Option Value)} (e : dLs μ pc 2 npc) (hn : nlg o1 = true) (k : G Y ad μ npc (o0 :: o1 :: some (.long x) :: none :: t) st h) : G Y ad μ pc (o0 :: o1 :: oo :: op :: t) (.long x :: st) h := r_ls e (ls2_2 hn) k
theorem r_in2 {a b : Nat} {o0 o1 : Option Value} {t : List (Option Value)} (e : dIn μ pc 2 (nI b) npc) (hn : nlg o1 = true) (k : G Y ad μ npc (o0 :: o1 :: some (.int (nI (a + b))) :: t) st h) : G Y ad μ pc (o0 :: o1 :: some (.int (nI a)) :: t) st h := r_in e rfl (by rw [nI_add]; exact ls1_2 hn) k
theorem r_f2 {o0 o1 oo : Option Value} {t : List (Option Value)} (k : G Y ad μ pc (o0 :: o1 :: none :: t) st h) : G Y ad μ pc (o0 :: o1 :: oo :: t) st h := r_lo (by
  intro j w hj
  match j, hj with
  | 0, hj => exact hj
  | 1, hj => exact hj
  | 2, hj => simp at hj
  | j + 3, hj => exact hj) k
theorem ls1_3 {o0 o1 o2 oo : Option Value} {t : List (Option Value)} {v : Value} (hn : nlg o2 = true) : ls1 (o0 :: o1 :: o2 :: oo :: t) (o0 :: o1 :: o2 :: some v :: t) 3 v := by
  intro j w hj
  match j, hj with
  | 0, hj => exact Or.inr ⟨by omega, hj, by omega⟩
  | 1, hj => exact Or.inr ⟨by omega, hj, by omega⟩
  | 2, hj => exact Or.inr ⟨by omega, hj, fun z => nlg_c hn (Option.some.inj hj) z.2⟩
  | 3, hj => exact Or.inl ⟨rfl, (Option.some.inj (Option.some.inj hj)).symm⟩
  | j + 4, hj => exact Or.inr ⟨by omega, hj, by omega⟩
theorem ls2_3 {o0 o1 o2 oo op : Option Value} {t : List (Option Value)} {v : Value} (hn : nlg o2 = true) : ls2 (o0 :: o1 :: o2 :: oo :: op :: t) (o0 :: o1 :: o2 :: some v :: none :: t) 3 v := by
  intro j w hj
  match j, hj with
  | 0, hj => exact Or.inr ⟨by omega, by omega, hj, by omega⟩
  | 1, hj => exact Or.inr ⟨by omega, by omega, hj, by omega⟩
  | 2, hj => exact Or.inr ⟨by omega, by omega, hj, fun z => nlg_c hn (Option.some.inj hj) z.2⟩
  | 3, hj => exact Or.inl ⟨rfl, (Option.some.inj (Option.some.inj hj)).symm⟩
  | 4, hj => simp at hj
  | j + 5, hj => exact Or.inr ⟨by omega, by omega, hj, by omega⟩
theorem r_is3 {x : Int32} {o0 o1 o2 oo : Option Value} {t : List (Option Value)} (e : dIs μ pc 3 npc) (hn : nlg o2 = true) (k : G Y ad μ npc (o0 :: o1 :: o2 :: some (.int x) :: t) st h) : G Y ad μ pc (o0 :: o1 :: o2 :: oo :: t) (.int x :: st) h := r_is e (ls1_3 hn) k
theorem r_as3 {x : Nat} {o0 o1 o2 oo : Option Value} {t : List (Option Value)} (e : dAs μ pc 3 npc) (hn : nlg o2 = true) (k : G Y ad μ npc (o0 :: o1 :: o2 :: some (.ref x) :: t) st h) : G Y ad μ pc (o0 :: o1 :: o2 :: oo :: t) (.ref x :: st) h := r_as e (ls1_3 hn) k
theorem r_ls3 {x : Int64} {o0 o1 o2 oo op : Option Value} {t : List (Option Value)} (e : dLs μ pc 3 npc) (hn : nlg o2 = true) (k : G Y ad μ npc (o0 :: o1 :: o2 :: some (.long x) :: none :: t) st h) : G Y ad μ pc (o0 :: o1 :: o2 :: oo :: op :: t) (.long x :: st) h := r_ls e (ls2_3 hn) k
theorem r_in3 {a b : Nat} {o0 o1 o2 : Option Value} {t : List (Option Value)} (e : dIn μ pc 3 (nI b) npc) (hn : nlg o2 = true) (k : G Y ad μ npc (o0 :: o1 :: o2 :: some (.int (nI (a + b))) :: t) st h) : G Y ad μ pc (o0 :: o1 :: o2 :: some (.int (nI a)) :: t) st h := r_in e rfl (by rw [nI_add]; exact ls1_3 hn) k
theorem r_f3 {o0 o1 o2 oo : Option Value} {t : List (Option Value)} (k : G Y ad μ pc (o0 :: o1 :: o2 :: none :: t) st h) : G Y ad μ pc (o0 :: o1 :: o2 :: oo :: t) st h := r_lo (by
  intro j w hj
  match j, hj with
  | 0, hj => exact hj
  | 1, hj => exact hj
  | 2, hj => exact hj
  | 3, hj => simp at hj
  | j + 4, hj => exact hj) k
theorem ls1_4 {o0 o1 o2 o3 oo : Option Value} {t : List (Option Value)} {v : Value} (hn : nlg o3 = true) : ls1 (o0 :: o1 :: o2 :: o3 :: oo :: t) (o0 :: o1 :: o2 :: o3 :: some v :: t) 4 v := by
  intro j w hj
  match j, hj with
  | 0, hj => exact Or.inr ⟨by omega, hj, by omega⟩
  | 1, hj => exact Or.inr ⟨by omega, hj, by omega⟩
  | 2, hj => exact Or.inr ⟨by omega, hj, by omega⟩
  | 3, hj => exact Or.inr ⟨by omega, hj, fun z => nlg_c hn (Option.some.inj hj) z.2⟩
  | 4, hj => exact Or.inl ⟨rfl, (Option.some.inj (Option.some.inj hj)).symm⟩
  | j + 5, hj => exact Or.inr ⟨by omega, hj, by omega⟩
theorem ls2_4 {o0 o1 o2 o3 oo op : Option Value} {t : List (Option Value)} {v : Value} (hn : nlg o3 = true) : ls2 (o0 :: o1 :: o2 :: o3 :: oo :: op :: t) (o0 :: o1 :: o2 :: o3 :: some v :: none :: t) 4 v := by
  intro j w hj
  match j, hj with
  | 0, hj => exact Or.inr ⟨by omega, by omega, hj, by omega⟩
  | 1, hj => exact Or.inr ⟨by omega, by omega, hj, by omega⟩
  | 2, hj => exact Or.inr ⟨by omega, by omega, hj, by omega⟩
  | 3, hj => exact Or.inr ⟨by omega, by omega, hj, fun z => nlg_c hn (Option.some.inj hj) z.2⟩
  | 4, hj => exact Or.inl ⟨rfl, (Option.some.inj (Option.some.inj hj)).symm⟩
  | 5, hj => simp at hj
  | j + 6, hj => exact Or.inr ⟨by omega, by omega, hj, by omega⟩
theorem r_is4 {x : Int32} {o0 o1 o2 o3 oo : Option Value} {t : List (Option Value)} (e : dIs μ pc 4 npc) (hn : nlg o3 = true) (k : G Y ad μ npc (o0 :: o1 :: o2 :: o3 :: some (.int x) :: t) st h) : G Y ad μ pc (o0 :: o1 :: o2 :: o3 :: oo :: t) (.int x :: st) h := r_is e (ls1_4 hn) k
theorem r_as4 {x : Nat} {o0 o1 o2 o3 oo : Option Value} {t : List (Option Value)} (e : dAs μ pc 4 npc) (hn : nlg o3 = true) (k : G Y ad μ npc (o0 :: o1 :: o2 :: o3 :: some (.ref x) :: t) st h) : G Y ad μ pc (o0 :: o1 :: o2 :: o3 :: oo :: t) (.ref x :: st) h := r_as e (ls1_4 hn) k
theorem r_ls4 {x : Int64} {o0 o1 o2 o3 oo op : Option Value} {t : List (Option Value)} (e : dLs μ pc 4 npc) (hn : nlg o3 = true) (k : G Y ad μ npc (o0 :: o1 :: o2 :: o3 :: some (.long x) :: none :: t) st h) : G Y ad μ pc (o0 :: o1 :: o2 :: o3 :: oo :: op :: t) (.long x :: st) h := r_ls e (ls2_4 hn) k
theorem r_in4 {a b : Nat} {o0 o1 o2 o3 : Option Value} {t : List (Option Value)} (e : dIn μ pc 4 (nI b) npc) (hn : nlg o3 = true) (k : G Y ad μ npc (o0 :: o1 :: o2 :: o3 :: some (.int (nI (a + b))) :: t) st h) : G Y ad μ pc (o0 :: o1 :: o2 :: o3 :: some (.int (nI a)) :: t) st h := r_in e rfl (by rw [nI_add]; exact ls1_4 hn) k
theorem r_f4 {o0 o1 o2 o3 oo : Option Value} {t : List (Option Value)} (k : G Y ad μ pc (o0 :: o1 :: o2 :: o3 :: none :: t) st h) : G Y ad μ pc (o0 :: o1 :: o2 :: o3 :: oo :: t) st h := r_lo (by
  intro j w hj
  match j, hj with
  | 0, hj => exact hj
  | 1, hj => exact hj
  | 2, hj => exact hj
  | 3, hj => exact hj
  | 4, hj => simp at hj
  | j + 5, hj => exact hj) k
theorem ls1_5 {o0 o1 o2 o3 o4 oo : Option Value} {t : List (Option Value)} {v : Value} (hn : nlg o4 = true) : ls1 (o0 :: o1 :: o2 :: o3 :: o4 :: oo :: t) (o0 :: o1 :: o2 :: o3 :: o4 :: some v :: t) 5 v := by
  intro j w hj
  match j, hj with
  | 0, hj => exact Or.inr ⟨by omega, hj, by omega⟩
  | 1, hj => exact Or.inr ⟨by omega, hj, by omega⟩
  | 2, hj => exact Or.inr ⟨by omega, hj, by omega⟩
  | 3, hj => exact Or.inr ⟨by omega, hj, by omega⟩
  | 4, hj => exact Or.inr ⟨by omega, hj, fun z => nlg_c hn (Option.some.inj hj) z.2⟩
  | 5, hj => exact Or.inl ⟨rfl, (Option.some.inj (Option.some.inj hj)).symm⟩
  | j + 6, hj => exact Or.inr ⟨by omega, hj, by omega⟩
theorem ls2_5 {o0 o1 o2 o3 o4 oo op : Option Value} {t : List (Option Value)} {v : Value} (hn : nlg o4 = true) : ls2 (o0 :: o1 :: o2 :: o3 :: o4 :: oo :: op :: t) (o0 :: o1 :: o2 :: o3 :: o4 :: some v :: none :: t) 5 v := by
  intro j w hj
  match j, hj with
  | 0, hj => exact Or.inr ⟨by omega, by omega, hj, by omega⟩
  | 1, hj => exact Or.inr ⟨by omega, by omega, hj, by omega⟩
  | 2, hj => exact Or.inr ⟨by omega, by omega, hj, by omega⟩
  | 3, hj => exact Or.inr ⟨by omega, by omega, hj, by omega⟩
  | 4, hj => exact Or.inr ⟨by omega, by omega, hj, fun z => nlg_c hn (Option.some.inj hj) z.2⟩
  | 5, hj => exact Or.inl ⟨rfl, (Option.some.inj (Option.some.inj hj)).symm⟩
  | 6, hj => simp at hj
  | j + 7, hj => exact Or.inr ⟨by omega, by omega, hj, by omega⟩
theorem r_is5 {x : Int32} {o0 o1 o2 o3 o4 oo : Option Value} {t : List (Option Value)} (e : dIs μ pc 5 npc) (hn : nlg o4 = true) (k : G Y ad μ npc (o0 :: o1 :: o2 :: o3 :: o4 :: some (.int x) :: t) st h) : G Y ad μ pc (o0 :: o1 :: o2 :: o3 :: o4 :: oo :: t) (.int x :: st) h := r_is e (ls1_5 hn) k
theorem r_as5 {x : Nat} {o0 o1 o2 o3 o4 oo : Option Value} {t : List (Option Value)} (e : dAs μ pc 5 npc) (hn : nlg o4 = true) (k : G Y ad μ npc (o0 :: o1 :: o2 :: o3 :: o4 :: some (.ref x) :: t) st h) : G Y ad μ pc (o0 :: o1 :: o2 :: o3 :: o4 :: oo :: t) (.ref x :: st) h := r_as e (ls1_5 hn) k
theorem r_ls5 {x : Int64} {o0 o1 o2 o3 o4 oo op : Option Value} {t : List (Option Value)} (e : dLs μ pc 5 npc) (hn : nlg o4 = true) (k : G Y ad μ npc (o0 :: o1 :: o2 :: o3 :: o4 :: some (.long x) :: none :: t) st h) : G Y ad μ pc (o0 :: o1 :: o2 :: o3 :: o4 :: oo :: op :: t) (.long x :: st) h := r_ls e (ls2_5 hn) k
theorem r_in5 {a b : Nat} {o0 o1 o2 o3 o4 : Option Value} {t : List (Option Value)} (e : dIn μ pc 5 (nI b) npc) (hn : nlg o4 = true) (k : G Y ad μ npc (o0 :: o1 :: o2 :: o3 :: o4 :: some (.int (nI (a + b))) :: t) st h) : G Y ad μ pc (o0 :: o1 :: o2 :: o3 :: o4 :: some (.int (nI a)) :: t) st h := r_in e rfl (by rw [nI_add]; exact ls1_5 hn) k
theorem r_f5 {o0 o1 o2 o3 o4 oo : Option Value} {t : List (Option Value)} (k : G Y ad μ pc (o0 :: o1 :: o2 :: o3 :: o4 :: none :: t) st h) : G Y ad μ pc (o0 :: o1 :: o2 :: o3 :: o4 :: oo :: t) st h := r_lo (by
  intro j w hj
  match j, hj with
  | 0, hj => exact hj
  | 1, hj => exact hj
  | 2, hj => exact hj
  | 3, hj => exact hj
  | 4, hj => exact hj
  | 5, hj => simp at hj
  | j + 6, hj => exact hj) k
theorem ls1_6 {o0 o1 o2 o3 o4 o5 oo : Option Value} {t : List (Option Value)} {v : Value} (hn : nlg o5 = true) : ls1 (o0 :: o1 :: o2 :: o3 :: o4 :: o5 :: oo :: t) (o0 :: o1 :: o2 :: o3 :: o4 :: o5 :: some v :: t) 6 v := by
  intro j w hj
  match j, hj with
  | 0, hj => exact Or.inr ⟨by omega, hj, by omega⟩
  | 1, hj => exact Or.inr ⟨by omega, hj, by omega⟩
  | 2, hj => exact Or.inr ⟨by omega, hj, by omega⟩
  | 3, hj => exact Or.inr ⟨by omega, hj, by omega⟩
  | 4, hj => exact Or.inr ⟨by omega, hj, by omega⟩
  | 5, hj => exact Or.inr ⟨by omega, hj, fun z => nlg_c hn (Option.some.inj hj) z.2⟩
  | 6, hj => exact Or.inl ⟨rfl, (Option.some.inj (Option.some.inj hj)).symm⟩
  | j + 7, hj => exact Or.inr ⟨by omega, hj, by omega⟩
theorem ls2_6 {o0 o1 o2 o3 o4 o5 oo op : Option Value} {t : List (Option Value)} {v : Value} (hn : nlg o5 = true) : ls2 (o0 :: o1 :: o2 :: o3 :: o4 :: o5 :: oo :: op :: t) (o0 :: o1 :: o2 :: o3 :: o4 :: o5 :: some v :: none :: t) 6 v := by
  intro j w hj
  match j, hj with
  | 0, hj => exact Or.inr ⟨by omega, by omega, hj, by omega⟩
  | 1, hj => exact Or.inr ⟨by omega, by omega, hj, by omega⟩
  | 2, hj => exact Or.inr ⟨by omega, by omega, hj, by omega⟩
  | 3, hj => exact Or.inr ⟨by omega, by omega, hj, by omega⟩
  | 4, hj => exact Or.inr ⟨by omega, by omega, hj, by omega⟩
  | 5, hj => exact Or.inr ⟨by omega, by omega, hj, fun z => nlg_c hn (Option.some.inj hj) z.2⟩
  | 6, hj => exact Or.inl ⟨rfl, (Option.some.inj (Option.some.inj hj)).symm⟩
  | 7, hj => simp at hj
  | j + 8, hj => exact Or.inr ⟨by omega, by omega, hj, by omega⟩
theorem r_is6 {x : Int32} {o0 o1 o2 o3 o4 o5 oo : Option Value} {t : List (Option Value)} (e : dIs μ pc 6 npc) (hn : nlg o5 = true) (k : G Y ad μ npc (o0 :: o1 :: o2 :: o3 :: o4 :: o5 :: some (.int x) :: t) st h) : G Y ad μ pc (o0 :: o1 :: o2 :: o3 :: o4 :: o5 :: oo :: t) (.int x :: st) h := r_is e (ls1_6 hn) k
theorem r_as6 {x : Nat} {o0 o1 o2 o3 o4 o5 oo : Option Value} {t : List (Option Value)} (e : dAs μ pc 6 npc) (hn : nlg o5 = true) (k : G Y ad μ npc (o0 :: o1 :: o2 :: o3 :: o4 :: o5 :: some (.ref x) :: t) st h) : G Y ad μ pc (o0 :: o1 :: o2 :: o3 :: o4 :: o5 :: oo :: t) (.ref x :: st) h := r_as e (ls1_6 hn) k
theorem r_ls6 {x : Int64} {o0 o1 o2 o3 o4 o5 oo op : Option Value} {t : List (Option Value)} (e : dLs μ pc 6 npc) (hn : nlg o5 = true) (k : G Y ad μ npc (o0 :: o1 :: o2 :: o3 :: o4 :: o5 :: some (.long x) :: none :: t) st h) : G Y ad μ pc (o0 :: o1 :: o2 :: o3 :: o4 :: o5 :: oo :: op :: t) (.long x :: st) h := r_ls e (ls2_6 hn) k
theorem r_in6 {a b : Nat} {o0 o1 o2 o3 o4 o5 : Option Value} {t : List (Option Value)} (e : dIn μ pc 6 (nI b) npc) (hn : nlg o5 = true) (k : G Y ad μ npc (o0 :: o1 :: o2 :: o3 :: o4 :: o5 :: some (.int (nI (a + b))) :: t) st h) : G Y ad μ pc (o0 :: o1 :: o2 :: o3 :: o4 :: o5 :: some (.int (nI a)) :: t) st h := r_in e rfl (by rw [nI_add]; exact ls1_6 hn) k
theorem r_f6 {o0 o1 o2 o3 o4 o5 oo : Option Value} {t : List (Option Value)} (k : G Y ad μ pc (o0 :: o1 :: o2 :: o3 :: o4 :: o5 :: none :: t) st h) : G Y ad μ pc (o0 :: o1 :: o2 :: o3 :: o4 :: o5 :: oo :: t) st h := r_lo (by
  intro j w hj
  match j, hj with
  | 0, hj => exact hj
  | 1, hj => exact hj
  | 2, hj => exact hj
  | 3, hj => exact hj
  | 4, hj => exact hj
  | 5, hj => exact hj
  | 6, hj => simp at hj
  | j + 7, hj => exact hj) k
theorem ls1_7 {o0 o1 o2 o3 o4 o5 o6 oo : Option Value} {t : List (Option Value)} {v : Value} (hn : nlg o6 = true) : ls1 (o0 :: o1 :: o2 :: o3 :: o4 :: o5 :: o6 :: oo :: t) (o0 :: o1 :: o2 :: o3 :: o4 :: o5 :: o6 :: some v :: t) 7 v := by
  intro j w hj
  match j, hj with
  | 0, hj => exact Or.inr ⟨by omega, hj, by omega⟩
  | 1, hj => exact Or.inr ⟨by omega, hj, by omega⟩
  | 2, hj => exact Or.inr ⟨by omega, hj, by omega⟩
  | 3, hj => exact Or.inr ⟨by omega, hj, by omega⟩
  | 4, hj => exact Or.inr ⟨by omega, hj, by omega⟩
  | 5, hj => exact Or.inr ⟨by omega, hj, by omega⟩
  | 6, hj => exact Or.inr ⟨by omega, hj, fun z => nlg_c hn (Option.some.inj hj) z.2⟩
  | 7, hj => exact Or.inl ⟨rfl, (Option.some.inj (Option.some.inj hj)).symm⟩
  | j + 8, hj => exact Or.inr ⟨by omega, hj, by omega⟩
theorem ls2_7 {o0 o1 o2 o3 o4 o5 o6 oo op : Option Value} {t : List (Option Value)} {v : Value} (hn : nlg o6 = true) : ls2 (o0 :: o1 :: o2 :: o3 :: o4 :: o5 :: o6 :: oo :: op :: t) (o0 :: o1 :: o2 :: o3 :: o4 :: o5 :: o6 :: some v :: none :: t) 7 v := by
  intro j w hj
  match j, hj with
  | 0, hj => exact Or.inr ⟨by omega, by omega, hj, by omega⟩
  | 1, hj => exact Or.inr ⟨by omega, by omega, hj, by omega⟩
  | 2, hj => exact Or.inr ⟨by omega, by omega, hj, by omega⟩
  | 3, hj => exact Or.inr ⟨by omega, by omega, hj, by omega⟩
  | 4, hj => exact Or.inr ⟨by omega, by omega, hj, by omega⟩
  | 5, hj => exact Or.inr ⟨by omega, by omega, hj, by omega⟩
  | 6, hj => exact Or.inr ⟨by omega, by omega, hj, fun z => nlg_c hn (Option.some.inj hj) z.2⟩
  | 7, hj => exact Or.inl ⟨rfl, (Option.some.inj (Option.some.inj hj)).symm⟩
  | 8, hj => simp at hj
  | j + 9, hj => exact Or.inr ⟨by omega, by omega, hj, by omega⟩
theorem r_is7 {x : Int32} {o0 o1 o2 o3 o4 o5 o6 oo : Option Value} {t : List (Option Value)} (e : dIs μ pc 7 npc) (hn : nlg o6 = true) (k : G Y ad μ npc (o0 :: o1 :: o2 :: o3 :: o4 :: o5 :: o6 :: some (.int x) :: t) st h) : G Y ad μ pc (o0 :: o1 :: o2 :: o3 :: o4 :: o5 :: o6 :: oo :: t) (.int x :: st) h := r_is e (ls1_7 hn) k
theorem r_as7 {x : Nat} {o0 o1 o2 o3 o4 o5 o6 oo : Option Value} {t : List (Option Value)} (e : dAs μ pc 7 npc) (hn : nlg o6 = true) (k : G Y ad μ npc (o0 :: o1 :: o2 :: o3 :: o4 :: o5 :: o6 :: some (.ref x) :: t) st h) : G Y ad μ pc (o0 :: o1 :: o2 :: o3 :: o4 :: o5 :: o6 :: oo :: t) (.ref x :: st) h := r_as e (ls1_7 hn) k
theorem r_ls7 {x : Int64} {o0 o1 o2 o3 o4 o5 o6 oo op : Option Value} {t : List (Option Value)} (e : dLs μ pc 7 npc) (hn : nlg o6 = true) (k : G Y ad μ npc (o0 :: o1 :: o2 :: o3 :: o4 :: o5 :: o6 :: some (.long x) :: none :: t) st h) : G Y ad μ pc (o0 :: o1 :: o2 :: o3 :: o4 :: o5 :: o6 :: oo :: op :: t) (.long x :: st) h := r_ls e (ls2_7 hn) k
theorem r_in7 {a b : Nat} {o0 o1 o2 o3 o4 o5 o6 : Option Value} {t : List (Option Value)} (e : dIn μ pc 7 (nI b) npc) (hn : nlg o6 = true) (k : G Y ad μ npc (o0 :: o1 :: o2 :: o3 :: o4 :: o5 :: o6 :: some (.int (nI (a + b))) :: t) st h) : G Y ad μ pc (o0 :: o1 :: o2 :: o3 :: o4 :: o5 :: o6 :: some (.int (nI a)) :: t) st h := r_in e rfl (by rw [nI_add]; exact ls1_7 hn) k
theorem r_f7 {o0 o1 o2 o3 o4 o5 o6 oo : Option Value} {t : List (Option Value)} (k : G Y ad μ pc (o0 :: o1 :: o2 :: o3 :: o4 :: o5 :: o6 :: none :: t) st h) : G Y ad μ pc (o0 :: o1 :: o2 :: o3 :: o4 :: o5 :: o6 :: oo :: t) st h := r_lo (by
  intro j w hj
  match j, hj with
  | 0, hj => exact hj
  | 1, hj => exact hj
  | 2, hj => exact hj
  | 3, hj => exact hj
  | 4, hj => exact hj
  | 5, hj => exact hj
  | 6, hj => exact hj
  | 7, hj => simp at hj
  | j + 8, hj => exact hj) k
theorem ls1_8 {o0 o1 o2 o3 o4 o5 o6 o7 oo : Option Value} {t : List (Option Value)} {v : Value} (hn : nlg o7 = true) : ls1 (o0 :: o1 :: o2 :: o3 :: o4 :: o5 :: o6 :: o7 :: oo :: t) (o0 :: o1 :: o2 :: o3 :: o4 :: o5 :: o6 :: o7 :: some v :: t) 8 v := by
  intro j w hj
  match j, hj with
  | 0, hj => exact Or.inr ⟨by omega, hj, by omega⟩
  | 1, hj => exact Or.inr ⟨by omega, hj, by omega⟩
  | 2, hj => exact Or.inr ⟨by omega, hj, by omega⟩
  | 3, hj => exact Or.inr ⟨by omega, hj, by omega⟩
  | 4, hj => exact Or.inr ⟨by omega, hj, by omega⟩
  | 5, hj => exact Or.inr ⟨by omega, hj, by omega⟩
  | 6, hj => exact Or.inr ⟨by omega, hj, by omega⟩
  | 7, hj => exact Or.inr ⟨by omega, hj, fun z => nlg_c hn (Option.some.inj hj) z.2⟩
  | 8, hj => exact Or.inl ⟨rfl, (Option.some.inj (Option.some.inj hj)).symm⟩
  | j + 9, hj => exact Or.inr ⟨by omega, hj, by omega⟩
theorem ls2_8 {o0 o1 o2 o3 o4 o5 o6 o7 oo op : Option Value} {t : List (Option Value)} {v : Value} (hn : nlg o7 = true) : ls2 (o0 :: o1 :: o2 :: o3 :: o4 :: o5 :: o6 :: o7 :: oo :: op :: t) (o0 :: o1 :: o2 :: o3 :: o4 :: o5 :: o6 :: o7 :: some v :: none :: t) 8 v := by
  intro j w hj
  match j, hj with
  | 0, hj => exact Or.inr ⟨by omega, by omega, hj, by omega⟩
  | 1, hj => exact Or.inr ⟨by omega, by omega, hj, by omega⟩
  | 2, hj => exact Or.inr ⟨by omega, by omega, hj, by omega⟩
  | 3, hj => exact Or.inr ⟨by omega, by omega, hj, by omega⟩
  | 4, hj => exact Or.inr ⟨by omega, by omega, hj, by omega⟩
  | 5, hj => exact Or.inr ⟨by omega, by omega, hj, by omega⟩
  | 6, hj => exact Or.inr ⟨by omega, by omega, hj, by omega⟩
  | 7, hj => exact Or.inr ⟨by omega, by omega, hj, fun z => nlg_c hn (Option.some.inj hj) z.2⟩
  | 8, hj => exact Or.inl ⟨rfl, (Option.some.inj (Option.some.inj hj)).symm⟩
  | 9, hj => simp at hj
  | j + 10, hj => exact Or.inr ⟨by omega, by omega, hj, by omega⟩
theorem r_is8 {x : Int32} {o0 o1 o2 o3 o4 o5 o6 o7 oo : Option Value} {t : List (Option Value)} (e : dIs μ pc 8 npc) (hn : nlg o7 = true) (k : G Y ad μ npc (o0 :: o1 :: o2 :: o3 :: o4 :: o5 :: o6 :: o7 :: some (.int x) :: t) st h) : G Y ad μ pc (o0 :: o1 :: o2 :: o3 :: o4 :: o5 :: o6 :: o7 :: oo :: t) (.int x :: st) h := r_is e (ls1_8 hn) k
theorem r_as8 {x : Nat} {o0 o1 o2 o3 o4 o5 o6 o7 oo : Option Value} {t : List (Option Value)} (e : dAs μ pc 8 npc) (hn : nlg o7 = true) (k : G Y ad μ npc (o0 :: o1 :: o2 :: o3 :: o4 :: o5 :: o6 :: o7 :: some (.ref x) :: t) st h) : G Y ad μ pc (o0 :: o1 :: o2 :: o3 :: o4 :: o5 :: o6 :: o7 :: oo :: t) (.ref x :: st) h := r_as e (ls1_8 hn) k
theorem r_ls8 {x : Int64} {o0 o1 o2 o3 o4 o5 o6 o7 oo op : Option Value} {t : List (Option Value)} (e : dLs μ pc 8 npc) (hn : nlg o7 = true) (k : G Y ad μ npc (o0 :: o1 :: o2 :: o3 :: o4 :: o5 :: o6 :: o7 :: some (.long x) :: none :: t) st h) : G Y ad μ pc (o0 :: o1 :: o2 :: o3 :: o4 :: o5 :: o6 :: o7 :: oo :: op :: t) (.long x :: st) h := r_ls e (ls2_8 hn) k
theorem r_in8 {a b : Nat} {o0 o1 o2 o3 o4 o5 o6 o7 : Option Value} {t : List (Option Value)} (e : dIn μ pc 8 (nI b) npc) (hn : nlg o7 = true) (k : G Y ad μ npc (o0 :: o1 :: o2 :: o3 :: o4 :: o5 :: o6 :: o7 :: some (.int (nI (a + b))) :: t) st h) : G Y ad μ pc (o0 :: o1 :: o2 :: o3 :: o4 :: o5 :: o6 :: o7 :: some (.int (nI a)) :: t) st h := r_in e rfl (by rw [nI_add]; exact ls1_8 hn) k
theorem r_f8 {o0 o1 o2 o3 o4 o5 o6 o7 oo : Option Value} {t : List (Option Value)} (k : G Y ad μ pc (o0 :: o1 :: o2 :: o3 :: o4 :: o5 :: o6 :: o7 :: none :: t) st h) : G Y ad μ pc (o0 :: o1 :: o2 :: o3 :: o4 :: o5 :: o6 :: o7 :: oo :: t) st h := r_lo (by
  intro j w hj
  match j, hj with
  | 0, hj => exact hj
  | 1, hj => exact hj
  | 2, hj => exact hj
  | 3, hj => exact hj
  | 4, hj => exact hj
  | 5, hj => exact hj
  | 6, hj => exact hj
  | 7, hj => exact hj
  | 8, hj => simp at hj
  | j + 9, hj => exact hj) k
theorem ls1_9 {o0 o1 o2 o3 o4 o5 o6 o7 o8 oo : Option Value} {t : List (Option Value)} {v : Value} (hn : nlg o8 = true) : ls1 (o0 :: o1 :: o2 :: o3 :: o4 :: o5 :: o6 :: o7 :: o8 :: oo :: t) (o0 :: o1 :: o2 :: o3 :: o4 :: o5 :: o6 :: o7 :: o8 :: some v :: t) 9 v := by
  intro j w hj
  match j, hj with
  | 0, hj => exact Or.inr ⟨by omega, hj, by omega⟩
  | 1, hj => exact Or.inr ⟨by omega, hj, by omega⟩
  | 2, hj => exact Or.inr ⟨by omega, hj, by omega⟩
  | 3, hj => exact Or.inr ⟨by omega, hj, by omega⟩
  | 4, hj => exact Or.inr ⟨by omega, hj, by omega⟩
  | 5, hj => exact Or.inr ⟨by omega, hj, by omega⟩
  | 6, hj => exact Or.inr ⟨by omega, hj, by omega⟩
  | 7, hj => exact Or.inr ⟨by omega, hj, by omega⟩
  | 8, hj => exact Or.inr ⟨by omega, hj, fun z => nlg_c hn (Option.some.inj hj) z.2⟩
  | 9, hj => exact Or.inl ⟨rfl, (Option.some.inj (Option.some.inj hj)).symm⟩
  | j + 10, hj => exact Or.inr ⟨by omega, hj, by omega⟩
theorem ls2_9 {o0 o1 o2 o3 o4 o5 o6 o7 o8 oo op : Option Value} {t : List (Option Value)} {v : Value} (hn : nlg o8 = true) : ls2 (o0 :: o1 :: o2 :: o3 :: o4 :: o5 :: o6 :: o7 :: o8 :: oo :: op :: t) (o0 :: o1 :: o2 :: o3 :: o4 :: o5 :: o6 :: o7 :: o8 :: some v :: none :: t) 9 v := by
  intro j w hj
  match j, hj with
  | 0, hj => exact Or.inr ⟨by omega, by omega, hj, by omega⟩
  | 1, hj => exact Or.inr ⟨by omega, by omega, hj, by omega⟩
  | 2, hj => exact Or.inr ⟨by omega, by omega, hj, by omega⟩
  | 3, hj => exact Or.inr ⟨by omega, by omega, hj, by omega⟩
  | 4, hj => exact Or.inr ⟨by omega, by omega, hj, by omega⟩
  | 5, hj => exact Or.inr ⟨by omega, by omega, hj, by omega⟩
  | 6, hj => exact Or.inr ⟨by omega, by omega, hj, by omega⟩
  | 7, hj => exact Or.inr ⟨by omega, by omega, hj, by omega⟩
  | 8, hj => exact Or.inr ⟨by omega, by omega, hj, fun z => nlg_c hn (Option.some.inj hj) z.2⟩
  | 9, hj => exact Or.inl ⟨rfl, (Option.some.inj (Option.some.inj hj)).symm⟩
  | 10, hj => simp at hj
  | j + 11, hj => exact Or.inr ⟨by omega, by omega, hj, by omega⟩
theorem r_is9 {x : Int32} {o0 o1 o2 o3 o4 o5 o6 o7 o8 oo : Option Value} {t : List (Option Value)} (e : dIs μ pc 9 npc) (hn : nlg o8 = true) (k : G Y ad μ npc (o0 :: o1 :: o2 :: o3 :: o4 :: o5 :: o6 :: o7 :: o8 :: some (.int x) :: t) st h) : G Y ad μ pc (o0 :: o1 :: o2 :: o3 :: o4 :: o5 :: o6 :: o7 :: o8 :: oo :: t) (.int x :: st) h := r_is e (ls1_9 hn) k
theorem r_as9 {x : Nat} {o0 o1 o2 o3 o4 o5 o6 o7 o8 oo : Option Value} {t : List (Option Value)} (e : dAs μ pc 9 npc) (hn : nlg o8 = true) (k : G Y ad μ npc (o0 :: o1 :: o2 :: o3 :: o4 :: o5 :: o6 :: o7 :: o8 :: some (.ref x) :: t) st h) : G Y ad μ pc (o0 :: o1 :: o2 :: o3 :: o4 :: o5 :: o6 :: o7 :: o8 :: oo :: t) (.ref x :: st) h := r_as e (ls1_9 hn) k
theorem r_ls9 {x : Int64} {o0 o1 o2 o3 o4 o5 o6 o7 o8 oo op : Option Value} {t : List (Option Value)} (e : dLs μ pc 9 npc) (hn : nlg o8 = true) (k : G Y ad μ npc (o0 :: o1 :: o2 :: o3 :: o4 :: o5 :: o6 :: o7 :: o8 :: some (.long x) :: none :: t) st h) : G Y ad μ pc (o0 :: o1 :: o2 :: o3 :: o4 :: o5 :: o6 :: o7 :: o8 :: oo :: op :: t) (.long x :: st) h := r_ls e (ls2_9 hn) k
theorem r_in9 {a b : Nat} {o0 o1 o2 o3 o4 o5 o6 o7 o8 : Option Value} {t : List (Option Value)} (e : dIn μ pc 9 (nI b) npc) (hn : nlg o8 = true) (k : G Y ad μ npc (o0 :: o1 :: o2 :: o3 :: o4 :: o5 :: o6 :: o7 :: o8 :: some (.int (nI (a + b))) :: t) st h) : G Y ad μ pc (o0 :: o1 :: o2 :: o3 :: o4 :: o5 :: o6 :: o7 :: o8 :: some (.int (nI a)) :: t) st h := r_in e rfl (by rw [nI_add]; exact ls1_9 hn) k
theorem r_f9 {o0 o1 o2 o3 o4 o5 o6 o7 o8 oo : Option Value} {t : List (Option Value)} (k : G Y ad μ pc (o0 :: o1 :: o2 :: o3 :: o4 :: o5 :: o6 :: o7 :: o8 :: none :: t) st h) : G Y ad μ pc (o0 :: o1 :: o2 :: o3 :: o4 :: o5 :: o6 :: o7 :: o8 :: oo :: t) st h := r_lo (by
  intro j w hj
  match j, hj with
  | 0, hj => exact hj
  | 1, hj => exact hj
  | 2, hj => exact hj
  | 3, hj => exact hj
  | 4, hj => exact hj
  | 5, hj => exact hj
  | 6, hj => exact hj
  | 7, hj => exact hj
  | 8, hj => exact hj
  | 9, hj => simp at hj
  | j + 10, hj => exact hj) k
theorem ls1_10 {o0 o1 o2 o3 o4 o5 o6 o7 o8 o9 oo : Option Value} {t : List (Option Value)} {v : Value} (hn : nlg o9 = true) : ls1 (o0 :: o1 :: o2 :: o3 :: o4 :: o5 :: o6 :: o7 :: o8 :: o9 :: oo :: t) (o0 :: o1 :: o2 :: o3 :: o4 :: o5 :: o6 :: o7 :: o8 :: o9 :: some v :: t) 10 v := by
  intro j w hj
  match j, hj with
  | 0, hj => exact Or.inr ⟨by omega, hj, by omega⟩
  | 1, hj => exact Or.inr ⟨by omega, hj, by omega⟩
  | 2, hj => exact Or.inr ⟨by omega, hj, by omega⟩
  | 3, hj => exact Or.inr ⟨by omega, hj, by omega⟩
  | 4, hj => exact Or.inr ⟨by omega, hj, by omega⟩
  | 5, hj => exact Or.inr ⟨by omega, hj, by omega⟩
  | 6, hj => exact Or.inr ⟨by omega, hj, by omega⟩
  | 7, hj => exact Or.inr ⟨by omega, hj, by omega⟩
  | 8, hj => exact Or.inr ⟨by omega, hj, by omega⟩
  | 9, hj => exact Or.inr ⟨by omega, hj, fun z => nlg_c hn (Option.some.inj hj) z.2⟩
  | 10, hj => exact Or.inl ⟨rfl, (Option.some.inj (Option.some.inj hj)).symm⟩
  | j + 11, hj => exact Or.inr ⟨by omega, hj, by omega⟩
theorem ls2_10 {o0 o1 o2 o3 o4 o5 o6 o7 o8 o9 oo op : Option Value} {t : List (Option Value)} {v : Value} (hn : nlg o9 = true) : ls2 (o0 :: o1 :: o2 :: o3 :: o4 :: o5 :: o6 :: o7 :: o8 :: o9 :: oo :: op :: t) (o0 :: o1 :: o2 :: o3 :: o4 :: o5 :: o6 :: o7 :: o8 :: o9 :: some v :: none :: t) 10 v := by
  intro j w hj
  match j, hj with
  | 0, hj => exact Or.inr ⟨by omega, by omega, hj, by omega⟩
  | 1, hj => exact Or.inr ⟨by omega, by omega, hj, by omega⟩
  | 2, hj => exact Or.inr ⟨by omega, by omega, hj, by omega⟩
  | 3, hj => exact Or.inr ⟨by omega, by omega, hj, by omega⟩
  | 4, hj => exact Or.inr ⟨by omega, by omega, hj, by omega⟩
  | 5, hj => exact Or.inr ⟨by omega, by omega, hj, by omega⟩
  | 6, hj => exact Or.inr ⟨by omega, by omega, hj, by omega⟩
  | 7, hj => exact Or.inr ⟨by omega, by omega, hj, by omega⟩
  | 8, hj => exact Or.inr ⟨by omega, by omega, hj, by omega⟩
  | 9, hj => exact Or.inr ⟨by omega, by omega, hj, fun z => nlg_c hn (Option.some.inj hj) z.2⟩
  | 10, hj => exact Or.inl ⟨rfl, (Option.some.inj (Option.some.inj hj)).symm⟩
  | 11, hj => simp at hj
  | j + 12, hj => exact Or.inr ⟨by omega, by omega, hj, by omega⟩
theorem r_is10 {x : Int32} {o0 o1 o2 o3 o4 o5 o6 o7 o8 o9 oo : Option Value} {t : List (Option Value)} (e : dIs μ pc 10 npc) (hn : nlg o9 = true) (k : G Y ad μ npc (o0 :: o1 :: o2 :: o3 :: o4 :: o5 :: o6 :: o7 :: o8 :: o9 :: some (.int x) :: t) st h) : G Y ad μ pc (o0 :: o1 :: o2 :: o3 :: o4 :: o5 :: o6 :: o7 :: o8 :: o9 :: oo :: t) (.int x :: st) h := r_is e (ls1_10 hn) k
theorem r_as10 {x : Nat} {o0 o1 o2 o3 o4 o5 o6 o7 o8 o9 oo : Option Value} {t : List (Option Value)} (e : dAs μ pc 10 npc) (hn : nlg o9 = true) (k : G Y ad μ npc (o0 :: o1 :: o2 :: o3 :: o4 :: o5 :: o6 :: o7 :: o8 :: o9 :: some (.ref x) :: t) st h) : G Y ad μ pc (o0 :: o1 :: o2 :: o3 :: o4 :: o5 :: o6 :: o7 :: o8 :: o9 :: oo :: t) (.ref x :: st) h := r_as e (ls1_10 hn) k
theorem r_ls10 {x : Int64} {o0 o1 o2 o3 o4 o5 o6 o7 o8 o9 oo op : Option Value} {t : List (Option Value)} (e : dLs μ pc 10 npc) (hn : nlg o9 = true) (k : G Y ad μ npc (o0 :: o1 :: o2 :: o3 :: o4 :: o5 :: o6 :: o7 :: o8 :: o9 :: some (.long x) :: none :: t) st h) : G Y ad μ pc (o0 :: o1 :: o2 :: o3 :: o4 :: o5 :: o6 :: o7 :: o8 :: o9 :: oo :: op :: t) (.long x :: st) h := r_ls e (ls2_10 hn) k
theorem r_in10 {a b : Nat} {o0 o1 o2 o3 o4 o5 o6 o7 o8 o9 : Option Value} {t : List (Option Value)} (e : dIn μ pc 10 (nI b) npc) (hn : nlg o9 = true) (k : G Y ad μ npc (o0 :: o1 :: o2 :: o3 :: o4 :: o5 :: o6 :: o7 :: o8 :: o9 :: some (.int (nI (a + b))) :: t) st h) : G Y ad μ pc (o0 :: o1 :: o2 :: o3 :: o4 :: o5 :: o6 :: o7 :: o8 :: o9 :: some (.int (nI a)) :: t) st h := r_in e rfl (by rw [nI_add]; exact ls1_10 hn) k
theorem r_f10 {o0 o1 o2 o3 o4 o5 o6 o7 o8 o9 oo : Option Value} {t : List (Option Value)} (k : G Y ad μ pc (o0 :: o1 :: o2 :: o3 :: o4 :: o5 :: o6 :: o7 :: o8 :: o9 :: none :: t) st h) : G Y ad μ pc (o0 :: o1 :: o2 :: o3 :: o4 :: o5 :: o6 :: o7 :: o8 :: o9 :: oo :: t) st h := r_lo (by
  intro j w hj
  match j, hj with
  | 0, hj => exact hj
  | 1, hj => exact hj
  | 2, hj => exact hj
  | 3, hj => exact hj
  | 4, hj => exact hj
  | 5, hj => exact hj
  | 6, hj => exact hj
  | 7, hj => exact hj
  | 8, hj => exact hj
  | 9, hj => exact hj
  | 10, hj => simp at hj
  | j + 11, hj => exact hj) k
theorem ls1_11 {o0 o1 o2 o3 o4 o5 o6 o7 o8 o9 o10 oo : Option Value} {t : List (Option Value)} {v : Value} (hn : nlg o10 = true) : ls1 (o0 :: o1 :: o2 :: o3 :: o4 :: o5 :: o6 :: o7 :: o8 :: o9 :: o10 :: oo :: t) (o0 :: o1 :: o2 :: o3 :: o4 :: o5 :: o6 :: o7 :: o8 :: o9 :: o10 :: some v :: t) 11 v := by
  intro j w hj
  match j, hj with
  | 0, hj => exact Or.inr ⟨by omega, hj, by omega⟩
  | 1, hj => exact Or.inr ⟨by omega, hj, by omega⟩
  | 2, hj => exact Or.inr ⟨by omega, hj, by omega⟩
  | 3, hj => exact Or.inr ⟨by omega, hj, by omega⟩
  | 4, hj => exact Or.inr ⟨by omega, hj, by omega⟩
  | 5, hj => exact Or.inr ⟨by omega, hj, by omega⟩
  | 6, hj => exact Or.inr ⟨by omega, hj, by omega⟩
  | 7, hj => exact Or.inr ⟨by omega, hj, by omega⟩
  | 8, hj => exact Or.inr ⟨by omega, hj, by omega⟩
  | 9, hj => exact Or.inr ⟨by omega, hj, by omega⟩
  | 10, hj => exact Or.inr ⟨by omega, hj, fun z => nlg_c hn (Option.some.inj hj) z.2⟩
  | 11, hj => exact Or.inl ⟨rfl, (Option.some.inj (Option.some.inj hj)).symm⟩
  | j + 12, hj => exact Or.inr ⟨by omega, hj, by omega⟩
theorem ls2_11 {o0 o1 o2 o3 o4 o5 o6 o7 o8 o9 o10 oo op : Option Value} {t : List (Option Value)} {v : Value} (hn : nlg o10 = true) : ls2 (o0 :: o1 :: o2 :: o3 :: o4 :: o5 :: o6 :: o7 :: o8 :: o9 :: o10 :: oo :: op :: t) (o0 :: o1 :: o2 :: o3 :: o4 :: o5 :: o6 :: o7 :: o8 :: o9 :: o10 :: some v :: none :: t) 11 v := by
  intro j w hj
  match j, hj with
  | 0, hj => exact Or.inr ⟨by omega, by omega, hj, by omega⟩
  | 1, hj => exact Or.inr ⟨by omega, by omega, hj, by omega⟩
  | 2, hj => exact Or.inr ⟨by omega, by omega, hj, by omega⟩
  | 3, hj => exact Or.inr ⟨by omega, by omega, hj, by omega⟩
  | 4, hj => exact Or.inr ⟨by omega, by omega, hj, by omega⟩
  | 5, hj => exact Or.inr ⟨by omega, by omega, hj, by omega⟩
  | 6, hj => exact Or.inr ⟨by omega, by omega, hj, by omega⟩
  | 7, hj => exact Or.inr ⟨by omega, by omega, hj, by omega⟩
  | 8, hj => exact Or.inr ⟨by omega, by omega, hj, by omega⟩
  | 9, hj => exact Or.inr ⟨by omega, by omega, hj, by omega⟩
  | 10, hj => exact Or.inr ⟨by omega, by omega, hj, fun z => nlg_c hn (Option.some.inj hj) z.2⟩
  | 11, hj => exact Or.inl ⟨rfl, (Option.some.inj (Option.some.inj hj)).symm⟩
  | 12, hj => simp at hj
  | j + 13, hj => exact Or.inr ⟨by omega, by omega, hj, by omega⟩
theorem r_is11 {x : Int32} {o0 o1 o2 o3 o4 o5 o6 o7 o8 o9 o10 oo : Option Value} {t : List (Option Value)} (e : dIs μ pc 11 npc) (hn : nlg o10 = true) (k : G Y ad μ npc (o0 :: o1 :: o2 :: o3 :: o4 :: o5 :: o6 :: o7 :: o8 :: o9 :: o10 :: some (.int x) :: t) st h) : G Y ad μ pc (o0 :: o1 :: o2 :: o3 :: o4 :: o5 :: o6 :: o7 :: o8 :: o9 :: o10 :: oo :: t) (.int x :: st) h := r_is e (ls1_11 hn) k
theorem r_as11 {x : Nat} {o0 o1 o2 o3 o4 o5 o6 o7 o8 o9 o10 oo : Option Value} {t : List (Option Value)} (e : dAs μ pc 11 npc) (hn : nlg o10 = true) (k : G Y ad μ npc (o0 :: o1 :: o2 :: o3 :: o4 :: o5 :: o6 :: o7 :: o8 :: o9 :: o10 :: some (.ref x) :: t) st h) : G Y ad μ pc (o0 :: o1 :: o2 :: o3 :: o4 :: o5 :: o6 :: o7 :: o8 :: o9 :: o10 :: oo :: t) (.ref x :: st) h := r_as e (ls1_11 hn) k
theorem r_ls11 {x : Int64} {o0 o1 o2 o3 o4 o5 o6 o7 o8 o9 o10 oo op : Option Value} {t : List (Option Value)} (e : dLs μ pc 11 npc) (hn : nlg o10 = true) (k : G Y ad μ npc (o0 :: o1 :: o2 :: o3 :: o4 :: o5 :: o6 :: o7 :: o8 :: o9 :: o10 :: some (.long x) :: none :: t) st h) : G Y ad μ pc (o0 :: o1 :: o2 :: o3 :: o4 :: o5 :: o6 :: o7 :: o8 :: o9 :: o10 :: oo :: op :: t) (.long x :: st) h := r_ls e (ls2_11 hn) k
theorem r_in11 {a b : Nat} {o0 o1 o2 o3 o4 o5 o6 o7 o8 o9 o10 : Option Value} {t : List (Option Value)} (e : dIn μ pc 11 (nI b) npc) (hn : nlg o10 = true) (k : G Y ad μ npc (o0 :: o1 :: o2 :: o3 :: o4 :: o5 :: o6 :: o7 :: o8 :: o9 :: o10 :: some (.int (nI (a + b))) :: t) st h) : G Y ad μ pc (o0 :: o1 :: o2 :: o3 :: o4 :: o5 :: o6 :: o7 :: o8 :: o9 :: o10 :: some (.int (nI a)) :: t) st h := r_in e rfl (by rw [nI_add]; exact ls1_11 hn) k
theorem r_f11 {o0 o1 o2 o3 o4 o5 o6 o7 o8 o9 o10 oo : Option Value} {t : List (Option Value)} (k : G Y ad μ pc (o0 :: o1 :: o2 :: o3 :: o4 :: o5 :: o6 :: o7 :: o8 :: o9 :: o10 :: none :: t) st h) : G Y ad μ pc (o0 :: o1 :: o2 :: o3 :: o4 :: o5 :: o6 :: o7 :: o8 :: o9 :: o10 :: oo :: t) st h := r_lo (by
  intro j w hj
  match j, hj with
  | 0, hj => exact hj
  | 1, hj => exact hj
  | 2, hj => exact hj
  | 3, hj => exact hj
  | 4, hj => exact hj
  | 5, hj => exact hj
  | 6, hj => exact hj
  | 7, hj => exact hj
  | 8, hj => exact hj
  | 9, hj => exact hj
  | 10, hj => exact hj
  | 11, hj => simp at hj
  | j + 12, hj => exact hj) k
theorem r_go {tgt : Nat} (e : dJ μ pc tgt) (k : G Y ad μ tgt ls st h) : G Y ad μ pc ls st h := by
  intro C H locs lsc hH hl
  obtain ⟨off, hd, ht⟩ := e
  exact lv_goto C.1 C.2.1 hd ht (k C H locs lsc hH hl)
theorem r_c_eq {x y : Int32} {tgt : Nat} (e : dC μ pc .eq npc tgt) (kt : x = y → G Y ad μ tgt ls st h) (kf : ¬ x = y → G Y ad μ npc ls st h) : G Y ad μ pc ls (.int y :: .int x :: st) h := by
  intro C H locs lsc hH hl
  obtain ⟨off, hd, ht, rfl⟩ := e
  exact lv_icmp_eq C.1 C.2.1 hd ht (fun q => kt q C H locs lsc hH hl) (fun q => kf q C H locs lsc hH hl)
theorem r_z_eq {x : Int32} {tgt : Nat} (e : dZ μ pc .eq npc tgt) (kt : x = 0 → G Y ad μ tgt ls st h) (kf : ¬ x = 0 → G Y ad μ npc ls st h) : G Y ad μ pc ls (.int x :: st) h := by
  intro C H locs lsc hH hl
  obtain ⟨off, hd, ht, rfl⟩ := e
  exact lv_if_eq C.1 C.2.1 hd ht (fun q => kt q C H locs lsc hH hl) (fun q => kf q C H locs lsc hH hl)
theorem r_c_ne {x y : Int32} {tgt : Nat} (e : dC μ pc .ne npc tgt) (kt : ¬ x = y → G Y ad μ tgt ls st h) (kf : x = y → G Y ad μ npc ls st h) : G Y ad μ pc ls (.int y :: .int x :: st) h := by
  intro C H locs lsc hH hl
  obtain ⟨off, hd, ht, rfl⟩ := e
  exact lv_icmp_ne C.1 C.2.1 hd ht (fun q => kt q C H locs lsc hH hl) (fun q => kf q C H locs lsc hH hl)
theorem r_z_ne {x : Int32} {tgt : Nat} (e : dZ μ pc .ne npc tgt) (kt : ¬ x = 0 → G Y ad μ tgt ls st h) (kf : x = 0 → G Y ad μ npc ls st h) : G Y ad μ pc ls (.int x :: st) h := by
  intro C H locs lsc hH hl
  obtain ⟨off, hd, ht, rfl⟩ := e
  exact lv_if_ne C.1 C.2.1 hd ht (fun q => kt q C H locs lsc hH hl) (fun q => kf q C H locs lsc hH hl)
theorem r_c_lt {x y : Int32} {tgt : Nat} (e : dC μ pc .lt npc tgt) (kt : x < y → G Y ad μ tgt ls st h) (kf : ¬ x < y → G Y ad μ npc ls st h) : G Y ad μ pc ls (.int y :: .int x :: st) h := by
  intro C H locs lsc hH hl
  obtain ⟨off, hd, ht, rfl⟩ := e
  exact lv_icmp_lt C.1 C.2.1 hd ht (fun q => kt q C H locs lsc hH hl) (fun q => kf q C H locs lsc hH hl)
theorem r_z_lt {x : Int32} {tgt : Nat} (e : dZ μ pc .lt npc tgt) (kt : x < 0 → G Y ad μ tgt ls st h) (kf : ¬ x < 0 → G Y ad μ npc ls st h) : G Y ad μ pc ls (.int x :: st) h := by
  intro C H locs lsc hH hl
  obtain ⟨off, hd, ht, rfl⟩ := e
  exact lv_if_lt C.1 C.2.1 hd ht (fun q => kt q C H locs lsc hH hl) (fun q => kf q C H locs lsc hH hl)
theorem r_c_ge {x y : Int32} {tgt : Nat} (e : dC μ pc .ge npc tgt) (kt : y ≤ x → G Y ad μ tgt ls st h) (kf : ¬ y ≤ x → G Y ad μ npc ls st h) : G Y ad μ pc ls (.int y :: .int x :: st) h := by
  intro C H locs lsc hH hl
  obtain ⟨off, hd, ht, rfl⟩ := e
  exact lv_icmp_ge C.1 C.2.1 hd ht (fun q => kt q C H locs lsc hH hl) (fun q => kf q C H locs lsc hH hl)
theorem r_z_ge {x : Int32} {tgt : Nat} (e : dZ μ pc .ge npc tgt) (kt : 0 ≤ x → G Y ad μ tgt ls st h) (kf : ¬ 0 ≤ x → G Y ad μ npc ls st h) : G Y ad μ pc ls (.int x :: st) h := by
  intro C H locs lsc hH hl
  obtain ⟨off, hd, ht, rfl⟩ := e
  exact lv_if_ge C.1 C.2.1 hd ht (fun q => kt q C H locs lsc hH hl) (fun q => kf q C H locs lsc hH hl)
theorem r_c_gt {x y : Int32} {tgt : Nat} (e : dC μ pc .gt npc tgt) (kt : y < x → G Y ad μ tgt ls st h) (kf : ¬ y < x → G Y ad μ npc ls st h) : G Y ad μ pc ls (.int y :: .int x :: st) h := by
  intro C H locs lsc hH hl
  obtain ⟨off, hd, ht, rfl⟩ := e
  exact lv_icmp_gt C.1 C.2.1 hd ht (fun q => kt q C H locs lsc hH hl) (fun q => kf q C H locs lsc hH hl)
theorem r_z_gt {x : Int32} {tgt : Nat} (e : dZ μ pc .gt npc tgt) (kt : 0 < x → G Y ad μ tgt ls st h) (kf : ¬ 0 < x → G Y ad μ npc ls st h) : G Y ad μ pc ls (.int x :: st) h := by
  intro C H locs lsc hH hl
  obtain ⟨off, hd, ht, rfl⟩ := e
  exact lv_if_gt C.1 C.2.1 hd ht (fun q => kt q C H locs lsc hH hl) (fun q => kf q C H locs lsc hH hl)
theorem r_c_le {x y : Int32} {tgt : Nat} (e : dC μ pc .le npc tgt) (kt : x ≤ y → G Y ad μ tgt ls st h) (kf : ¬ x ≤ y → G Y ad μ npc ls st h) : G Y ad μ pc ls (.int y :: .int x :: st) h := by
  intro C H locs lsc hH hl
  obtain ⟨off, hd, ht, rfl⟩ := e
  exact lv_icmp_le C.1 C.2.1 hd ht (fun q => kt q C H locs lsc hH hl) (fun q => kf q C H locs lsc hH hl)
theorem r_z_le {x : Int32} {tgt : Nat} (e : dZ μ pc .le npc tgt) (kt : x ≤ 0 → G Y ad μ tgt ls st h) (kf : ¬ x ≤ 0 → G Y ad μ npc ls st h) : G Y ad μ pc ls (.int x :: st) h := by
  intro C H locs lsc hH hl
  obtain ⟨off, hd, ht, rfl⟩ := e
  exact lv_if_le C.1 C.2.1 hd ht (fun q => kt q C H locs lsc hH hl) (fun q => kf q C H locs lsc hH hl)
theorem r_n_eq {a b tgt : Nat} (e : dC μ pc .eq npc tgt) (ha : a < 2147483648) (hb : b < 2147483648) (kt : a = b → G Y ad μ tgt ls st h) (kf : a ≠ b → G Y ad μ npc ls st h) : G Y ad μ pc ls (.int (nI b) :: .int (nI a) :: st) h := r_c_eq e (fun q => kt ((nI_eq ha hb).mp q)) (fun q => kf (fun z => q ((nI_eq ha hb).mpr z)))
theorem r_n_ne {a b tgt : Nat} (e : dC μ pc .ne npc tgt) (ha : a < 2147483648) (hb : b < 2147483648) (kt : a ≠ b → G Y ad μ tgt ls st h) (kf : a = b → G Y ad μ npc ls st h) : G Y ad μ pc ls (.int (nI b) :: .int (nI a) :: st) h := r_c_ne e (fun q => kt (fun z => q ((nI_eq ha hb).mpr z))) (fun q => kf ((nI_eq ha hb).mp q))
theorem r_n_lt {a b tgt : Nat} (e : dC μ pc .lt npc tgt) (ha : a < 2147483648) (hb : b < 2147483648) (kt : a < b → G Y ad μ tgt ls st h) (kf : b ≤ a → G Y ad μ npc ls st h) : G Y ad μ pc ls (.int (nI b) :: .int (nI a) :: st) h := r_c_lt e (fun q => kt ((nI_ltI ha hb).mp q)) (fun q => kf (Nat.le_of_not_lt (fun z => q ((nI_ltI ha hb).mpr z))))
theorem r_n_ge {a b tgt : Nat} (e : dC μ pc .ge npc tgt) (ha : a < 2147483648) (hb : b < 2147483648) (kt : b ≤ a → G Y ad μ tgt ls st h) (kf : a < b → G Y ad μ npc ls st h) : G Y ad μ pc ls (.int (nI b) :: .int (nI a) :: st) h := r_c_ge e (fun q => kt ((nI_leI hb ha).mp q)) (fun q => kf (Nat.lt_of_not_le (fun z => q ((nI_leI hb ha).mpr z))))
theorem r_n_gt {a b tgt : Nat} (e : dC μ pc .gt npc tgt) (ha : a < 2147483648) (hb : b < 2147483648) (kt : b < a → G Y ad μ tgt ls st h) (kf : a ≤ b → G Y ad μ npc ls st h) : G Y ad μ pc ls (.int (nI b) :: .int (nI a) :: st) h := r_c_gt e (fun q => kt ((nI_ltI hb ha).mp q)) (fun q => kf (Nat.le_of_not_lt (fun z => q ((nI_ltI hb ha).mpr z))))
theorem r_n_le {a b tgt : Nat} (e : dC μ pc .le npc tgt) (ha : a < 2147483648) (hb : b < 2147483648) (kt : a ≤ b → G Y ad μ tgt ls st h) (kf : b < a → G Y ad μ npc ls st h) : G Y ad μ pc ls (.int (nI b) :: .int (nI a) :: st) h := r_c_le e (fun q => kt ((nI_leI ha hb).mp q)) (fun q => kf (Nat.lt_of_not_le (fun z => q ((nI_leI ha hb).mpr z))))
def bI (b : Bool) : Int32 := if b then 1 else 0
theorem bI_t : bI true = 1 := rfl
theorem bI_f : bI false = 0 := rfl
theorem r_b_eq {b : Bool} {tgt : Nat} (e : dZ μ pc .eq npc tgt) (kt : b = false → G Y ad μ tgt ls st h) (kf : b = true → G Y ad μ npc ls st h) : G Y ad μ pc ls (.int (bI b) :: st) h := by
  cases b
  · exact r_z_eq e (fun _ => kt rfl) (fun q => absurd rfl q)
  · exact r_z_eq e (fun q => absurd q (by decide)) (fun _ => kf rfl)
theorem r_b_ne {b : Bool} {tgt : Nat} (e : dZ μ pc .ne npc tgt) (kt : b = true → G Y ad μ tgt ls st h) (kf : b = false → G Y ad μ npc ls st h) : G Y ad μ pc ls (.int (bI b) :: st) h := by
  cases b
  · exact r_z_ne e (fun q => absurd rfl q) (fun _ => kf rfl)
  · exact r_z_ne e (fun _ => kt rfl) (fun q => absurd q (by decide))
theorem lgc (x y : Int64) : (lg_cmp x y < 0 ↔ x < y) ∧ (0 ≤ lg_cmp x y ↔ y ≤ x) ∧ (0 < lg_cmp x y ↔ y < x) ∧ (lg_cmp x y ≤ 0 ↔ x ≤ y) ∧ (lg_cmp x y = 0 ↔ x = y) := by
  unfold lg_cmp
  simp only [gt_iff_lt, Int64.lt_iff_toInt_lt, Int64.le_iff_toInt_le, ← Int64.toInt_inj]
  by_cases h1 : y.toInt < x.toInt
  · rw [if_pos h1]
    refine ⟨⟨fun q => absurd q (by decide), fun q => by omega⟩, ⟨fun _ => by omega, fun _ => by decide⟩, ⟨fun _ => h1, fun _ => by decide⟩, ⟨fun q => absurd q (by decide), fun q => by omega⟩, ⟨fun q => absurd q (by decide), fun q => by omega⟩⟩
  · rw [if_neg h1]
    by_cases h2 : x.toInt = y.toInt
    · rw [if_pos h2]
      refine ⟨⟨fun q => absurd q (by decide), fun q => by omega⟩, ⟨fun _ => by omega, fun _ => by decide⟩, ⟨fun q => absurd q (by decide), fun q => by omega⟩, ⟨fun _ => by omega, fun _ => by decide⟩, ⟨fun _ => h2, fun _ => rfl⟩⟩
    · rw [if_neg h2]
      refine ⟨⟨fun _ => by omega, fun _ => by decide⟩, ⟨fun q => absurd q (by decide), fun q => by omega⟩, ⟨fun q => absurd q (by decide), fun q => by omega⟩, ⟨fun _ => by omega, fun _ => by decide⟩, ⟨fun q => absurd q (by decide), fun q => by omega⟩⟩
theorem r_l_lt {x y : Int64} {np2 tgt : Nat} (e : dk μ pc .lcmp 1 npc) (e2 : dZ μ npc .lt np2 tgt) (kt : x < y → G Y ad μ tgt ls st h) (kf : ¬ x < y → G Y ad μ np2 ls st h) : G Y ad μ pc ls (.long y :: .long x :: st) h := r_lcmp e (r_z_lt e2 (fun q => kt ((lgc x y).1.mp q)) (fun q => kf (fun z => q ((lgc x y).1.mpr z))))
theorem r_l_ge {x y : Int64} {np2 tgt : Nat} (e : dk μ pc .lcmp 1 npc) (e2 : dZ μ npc .ge np2 tgt) (kt : y ≤ x → G Y ad μ tgt ls st h) (kf : ¬ y ≤ x → G Y ad μ np2 ls st h) : G Y ad μ pc ls (.long y :: .long x :: st) h := r_lcmp e (r_z_ge e2 (fun q => kt ((lgc x y).2.1.mp q)) (fun q => kf (fun z => q ((lgc x y).2.1.mpr z))))
theorem r_l_gt {x y : Int64} {np2 tgt : Nat} (e : dk μ pc .lcmp 1 npc) (e2 : dZ μ npc .gt np2 tgt) (kt : y < x → G Y ad μ tgt ls st h) (kf : ¬ y < x → G Y ad μ np2 ls st h) : G Y ad μ pc ls (.long y :: .long x :: st) h := r_lcmp e (r_z_gt e2 (fun q => kt ((lgc x y).2.2.1.mp q)) (fun q => kf (fun z => q ((lgc x y).2.2.1.mpr z))))
theorem r_l_le {x y : Int64} {np2 tgt : Nat} (e : dk μ pc .lcmp 1 npc) (e2 : dZ μ npc .le np2 tgt) (kt : x ≤ y → G Y ad μ tgt ls st h) (kf : ¬ x ≤ y → G Y ad μ np2 ls st h) : G Y ad μ pc ls (.long y :: .long x :: st) h := r_lcmp e (r_z_le e2 (fun q => kt ((lgc x y).2.2.2.1.mp q)) (fun q => kf (fun z => q ((lgc x y).2.2.2.1.mpr z))))
theorem r_l_eq {x y : Int64} {np2 tgt : Nat} (e : dk μ pc .lcmp 1 npc) (e2 : dZ μ npc .eq np2 tgt) (kt : x = y → G Y ad μ tgt ls st h) (kf : ¬ x = y → G Y ad μ np2 ls st h) : G Y ad μ pc ls (.long y :: .long x :: st) h := r_lcmp e (r_z_eq e2 (fun q => kt ((lgc x y).2.2.2.2.mp q)) (fun q => kf (fun z => q ((lgc x y).2.2.2.2.mpr z))))
theorem r_l_ne {x y : Int64} {np2 tgt : Nat} (e : dk μ pc .lcmp 1 npc) (e2 : dZ μ npc .ne np2 tgt) (kt : ¬ x = y → G Y ad μ tgt ls st h) (kf : x = y → G Y ad μ np2 ls st h) : G Y ad μ pc ls (.long y :: .long x :: st) h := r_lcmp e (r_z_ne e2 (fun q => kt (fun z => q ((lgc x y).2.2.2.2.mpr z))) (fun q => kf ((lgc x y).2.2.2.2.mp q)))
theorem r_m_eq {a b np2 tgt : Nat} (e : dk μ pc .lcmp 1 npc) (e2 : dZ μ npc .eq np2 tgt) (ha : a < 2 ^ 63) (hb : b < 2 ^ 63) (kt : a = b → G Y ad μ tgt ls st h) (kf : a ≠ b → G Y ad μ np2 ls st h) : G Y ad μ pc ls (.long (lN b) :: .long (lN a) :: st) h := r_l_eq e e2 (fun q => kt ((pk_lEQ ha hb).mp q)) (fun q => kf (fun z => q ((pk_lEQ ha hb).mpr z)))
theorem r_m_ne {a b np2 tgt : Nat} (e : dk μ pc .lcmp 1 npc) (e2 : dZ μ npc .ne np2 tgt) (ha : a < 2 ^ 63) (hb : b < 2 ^ 63) (kt : a ≠ b → G Y ad μ tgt ls st h) (kf : a = b → G Y ad μ np2 ls st h) : G Y ad μ pc ls (.long (lN b) :: .long (lN a) :: st) h := r_l_ne e e2 (fun q => kt (fun z => q ((pk_lEQ ha hb).mpr z))) (fun q => kf ((pk_lEQ ha hb).mp q))
theorem r_m_lt {a b np2 tgt : Nat} (e : dk μ pc .lcmp 1 npc) (e2 : dZ μ npc .lt np2 tgt) (ha : a < 2 ^ 63) (hb : b < 2 ^ 63) (kt : a < b → G Y ad μ tgt ls st h) (kf : b ≤ a → G Y ad μ np2 ls st h) : G Y ad μ pc ls (.long (lN b) :: .long (lN a) :: st) h := r_l_lt e e2 (fun q => kt ((pk_lLT ha hb).mp q)) (fun q => kf (Nat.le_of_not_lt (fun z => q ((pk_lLT ha hb).mpr z))))
theorem r_m_ge {a b np2 tgt : Nat} (e : dk μ pc .lcmp 1 npc) (e2 : dZ μ npc .ge np2 tgt) (ha : a < 2 ^ 63) (hb : b < 2 ^ 63) (kt : b ≤ a → G Y ad μ tgt ls st h) (kf : a < b → G Y ad μ np2 ls st h) : G Y ad μ pc ls (.long (lN b) :: .long (lN a) :: st) h := r_l_ge e e2 (fun q => kt ((pk_lLE hb ha).mp q)) (fun q => kf (Nat.lt_of_not_le (fun z => q ((pk_lLE hb ha).mpr z))))
theorem r_m_gt {a b np2 tgt : Nat} (e : dk μ pc .lcmp 1 npc) (e2 : dZ μ npc .gt np2 tgt) (ha : a < 2 ^ 63) (hb : b < 2 ^ 63) (kt : b < a → G Y ad μ tgt ls st h) (kf : a ≤ b → G Y ad μ np2 ls st h) : G Y ad μ pc ls (.long (lN b) :: .long (lN a) :: st) h := r_l_gt e e2 (fun q => kt ((pk_lLT hb ha).mp q)) (fun q => kf (Nat.le_of_not_lt (fun z => q ((pk_lLT hb ha).mpr z))))
theorem r_m_le {a b np2 tgt : Nat} (e : dk μ pc .lcmp 1 npc) (e2 : dZ μ npc .le np2 tgt) (ha : a < 2 ^ 63) (hb : b < 2 ^ 63) (kt : a ≤ b → G Y ad μ tgt ls st h) (kf : b < a → G Y ad μ np2 ls st h) : G Y ad μ pc ls (.long (lN b) :: .long (lN a) :: st) h := r_l_le e e2 (fun q => kt ((pk_lLE ha hb).mp q)) (fun q => kf (Nat.lt_of_not_le (fun z => q ((pk_lLE ha hb).mpr z))))
end RULES
end
section
theorem clR_ok {ci j : Nat} (hj : j < (clR ci).2.2) : vwCl[ci]? = some (clR ci) := by
  unfold clR at hj ⊢
  rw [List.getD_eq_getElem?_getD] at hj ⊢
  cases h : vwCl[ci]? with
  | none => rw [h] at hj; exact absurd hj (Nat.not_lt_zero _)
  | some r => rfl
theorem in0 : ∀ w ∈ u_ws RX0 TX0 9, w ∈ gT := by decide +kernel
theorem in1 : ∀ w ∈ u_ws RX1 TX1 7, w ∈ gT := by decide +kernel
theorem in2 : ∀ w ∈ u_ws RX2 TX2 10, w ∈ gT := by decide +kernel
theorem in3 : ∀ w ∈ u_ws RX3 TX3 7, w ∈ gT := by decide +kernel
theorem in4 : ∀ w ∈ u_ws RX4 TX4 25, w ∈ gT := by decide +kernel
theorem inAll {ci : Nat} {r : vw_C} (h : vwCl[ci]? = some r) : ∀ w ∈ u_ws r.1 r.2.1 r.2.2, w ∈ gT := by
  match ci, h with
  | 0, h => cases h; exact in0
  | 1, h => cases h; exact in1
  | 2, h => cases h; exact in2
  | 3, h => cases h; exact in3
  | 4, h => cases h; exact in4
  | k + 5, h => simp [vwCl] at h
theorem nm0 : ∀ a, a < 9 → ∀ b, b < 9 → a ≠ b → (TX0 a).2.1 ≠ (TX0 b).2.1 := by decide +kernel
theorem nm1 : ∀ a, a < 7 → ∀ b, b < 7 → a ≠ b → (TX1 a).2.1 ≠ (TX1 b).2.1 := by decide +kernel
theorem nm2 : ∀ a, a < 10 → ∀ b, b < 10 → a ≠ b → (TX2 a).2.1 ≠ (TX2 b).2.1 := by decide +kernel
theorem nm3 : ∀ a, a < 7 → ∀ b, b < 7 → a ≠ b → (TX3 a).2.1 ≠ (TX3 b).2.1 := by decide +kernel
theorem nm4 : ∀ a, a < 25 → ∀ b, b < 25 → a ≠ b → (TX4 a).2.1 ≠ (TX4 b).2.1 := by decide +kernel
theorem nmAll {ci : Nat} {r : vw_C} (h : vwCl[ci]? = some r) : ∀ a, a < r.2.2 → ∀ b, b < r.2.2 → a ≠ b → (r.2.1 a).2.1 ≠ (r.2.1 b).2.1 := by
  match ci, h with
  | 0, h => cases h; exact nm0
  | 1, h => cases h; exact nm1
  | 2, h => cases h; exact nm2
  | 3, h => cases h; exact nm3
  | 4, h => cases h; exact nm4
  | k + 5, h => simp [vwCl] at h
theorem ty0 : ∀ k, k < 9 → parseFieldDescriptor (TX0 k).2.2.1 = some (tyX0 k) := by decide +kernel
theorem ty1 : ∀ k, k < 7 → parseFieldDescriptor (TX1 k).2.2.1 = some (tyX1 k) := by decide +kernel
theorem ty2 : ∀ k, k < 10 → parseFieldDescriptor (TX2 k).2.2.1 = some (tyX2 k) := by decide +kernel
theorem ty3 : ∀ k, k < 7 → parseFieldDescriptor (TX3 k).2.2.1 = some (tyX3 k) := by decide +kernel
theorem ty4 : ∀ k, k < 25 → parseFieldDescriptor (TX4 k).2.2.1 = some (tyX4 k) := by decide +kernel
theorem tyAll {ci : Nat} {r : vw_C} (h : vwCl[ci]? = some r) : ∃ ty : Nat → FieldType, ∀ k, k < r.2.2 → parseFieldDescriptor (r.2.1 k).2.2.1 = some (ty k) := by
  match ci, h with
  | 0, h => cases h; exact ⟨_, ty0⟩
  | 1, h => cases h; exact ⟨_, ty1⟩
  | 2, h => cases h; exact ⟨_, ty2⟩
  | 3, h => cases h; exact ⟨_, ty3⟩
  | 4, h => cases h; exact ⟨_, ty4⟩
  | k + 5, h => simp [vwCl] at h
def lenOk (S : Shp) : Bool := match S with
  | .inl (_, n, _) => decide (n < 401)
  | .inr _ => true
theorem lenAll : shTab.all lenOk = true := by decide +kernel
theorem shLen {a t n : Nat} {f : Nat → Option Nat} (hs : shTab[a]? = some (.inl (t, n, f))) : n < 401 := by
  have := List.all_eq_true.mp lenAll _ (List.mem_of_getElem? hs)
  simpa [lenOk] using this
theorem nI_cl {j n : Nat} (hj : j < n) (hn : n < 401) : vp_in (nI j) n ∧ (nI j).toNatClampNeg = j := ⟨vp_in_nI hj (by omega), nI_clamp (by omega)⟩
section MEM
variable {Y : Env3} {ad : Nat → Nat} {μ : Mth} {pc npc : Nat} {ls : List (Option Value)} {st : List Value} {h : Mem}
theorem r_getI {k ci j : Nat} {fs : List (Nat ⊕ Bool)} (e : dG μ pc ci j npc) (hs : shTab[k]? = some (.inr (ci, fs))) (hf : fs[j]? = some (.inr false)) (kk : G Y ad μ npc ls (.int (h.1 k j) :: st) h) : G Y ad μ pc ls (.ref (ad k) :: st) h := by
  intro C H locs lsc hH hl
  obtain ⟨ix, hd, rfl, hw, hj⟩ := e
  have hc := clR_ok hj
  exact va_get C.1 C.2.1 C.2.2.2.2.2.1 (inAll hc) C.2.2.2.2.1 C.2.2.2.2.2.2.2.1 hH.1 k (pic_at hs) hc j hj (C.2.2.2.2.2.1 _ (gW hw rfl)) (fun x q => q) (by rw [fvals_get, hf]; simp) hd (kk C H locs lsc hH hl)
theorem r_getL {k ci j : Nat} {fs : List (Nat ⊕ Bool)} (e : dG μ pc ci j npc) (hs : shTab[k]? = some (.inr (ci, fs))) (hf : fs[j]? = some (.inr true)) (kk : G Y ad μ npc ls (.long (h.2 k j) :: st) h) : G Y ad μ pc ls (.ref (ad k) :: st) h := by
  intro C H locs lsc hH hl
  obtain ⟨ix, hd, rfl, hw, hj⟩ := e
  have hc := clR_ok hj
  exact va_get C.1 C.2.1 C.2.2.2.2.2.1 (inAll hc) C.2.2.2.2.1 C.2.2.2.2.2.2.2.1 hH.1 k (pic_at hs) hc j hj (C.2.2.2.2.2.1 _ (gW hw rfl)) (fun x q => q) (by rw [fvals_get, hf]; simp) hd (kk C H locs lsc hH hl)
theorem r_getR {k ci j r : Nat} {fs : List (Nat ⊕ Bool)} (e : dG μ pc ci j npc) (hs : shTab[k]? = some (.inr (ci, fs))) (hf : fs[j]? = some (.inl r)) (kk : G Y ad μ npc ls (.ref (ad r) :: st) h) : G Y ad μ pc ls (.ref (ad k) :: st) h := by
  intro C H locs lsc hH hl
  obtain ⟨ix, hd, rfl, hw, hj⟩ := e
  have hc := clR_ok hj
  exact va_get C.1 C.2.1 C.2.2.2.2.2.1 (inAll hc) C.2.2.2.2.1 C.2.2.2.2.2.2.2.1 hH.1 k (pic_at hs) hc j hj (C.2.2.2.2.2.1 _ (gW hw rfl)) (fun x q => q) (by rw [fvals_get, hf]; simp) hd (kk C H locs lsc hH hl)
theorem r_putI0 {k ci j : Nat} {fs : List (Nat ⊕ Bool)} {x : Int32} {ty : FieldType} (e : dP μ pc ci j npc) (hs : shTab[k]? = some (.inr (ci, fs))) (hf : fs[j]? = some (.inr false)) (hfin : ((clR ci).2.1 j).2.2.2 = false) (hd0 : parseFieldDescriptor ((clR ci).2.1 j).2.2.1 = some ty) (hn : narrow ty (.int x) = .int x) (hfit : fits ty (.int x) = true) (kk : G Y ad μ npc ls st (si h k j x)) : G Y ad μ pc ls (.int x :: .ref (ad k) :: st) h := by
  intro C H locs lsc hH hl
  obtain ⟨ix, hd, rfl, hw, hj⟩ := e
  have hc := clR_ok hj
  obtain ⟨ty0, hty0⟩ := tyAll hc
  have hu : (pic ad Y.2.1.2 h).set k (ad k, .inr (ci, (fvals ad h k 0 fs).set j (.int x))) = pic ad Y.2.1.2 (si h k j x) := pic_upd hs (by show Sum.inr (ci, fvals ad (si h k j x) k 0 fs) = _; rw [fvals_setI hf]) (fun i hi => ⟨si_o hi, rfl⟩)
  refine va_put C.1 C.2.1 C.2.2.2.2.2.1 (inAll hc) ty0 hty0 (nmAll hc) C.2.2.2.2.1 C.2.2.2.2.2.2.2.1 hH.1 hH.2.1 hH.2.2 k (pic_at hs) hc j hj (C.2.2.2.2.2.1 _ (gW hw rfl)) (fun x q => q) hfin hd0 hn hfit (by rw [fvals_len]; exact (List.getElem?_eq_some_iff.mp hf).1) hd (fun H1 locs1 hP1 hD1 hS1 => ?_)
  rw [hu] at hP1 hD1
  exact kk C H1 locs1 lsc ⟨hP1, hD1, hS1⟩ hl
theorem r_putL0 {k ci j : Nat} {fs : List (Nat ⊕ Bool)} {x : Int64} (e : dP μ pc ci j npc) (hs : shTab[k]? = some (.inr (ci, fs))) (hf : fs[j]? = some (.inr true)) (hfin : ((clR ci).2.1 j).2.2.2 = false) (hd0 : parseFieldDescriptor ((clR ci).2.1 j).2.2.1 = some .long) (kk : G Y ad μ npc ls st (sl h k j x)) : G Y ad μ pc ls (.long x :: .ref (ad k) :: st) h := by
  intro C H locs lsc hH hl
  obtain ⟨ix, hd, rfl, hw, hj⟩ := e
  have hc := clR_ok hj
  obtain ⟨ty0, hty0⟩ := tyAll hc
  have hu : (pic ad Y.2.1.2 h).set k (ad k, .inr (ci, (fvals ad h k 0 fs).set j (.long x))) = pic ad Y.2.1.2 (sl h k j x) := pic_upd hs (by show Sum.inr (ci, fvals ad (sl h k j x) k 0 fs) = _; rw [fvals_setL hf]) (fun i hi => ⟨rfl, sl_o hi⟩)
  refine va_put C.1 C.2.1 C.2.2.2.2.2.1 (inAll hc) ty0 hty0 (nmAll hc) C.2.2.2.2.1 C.2.2.2.2.2.2.2.1 hH.1 hH.2.1 hH.2.2 k (pic_at hs) hc j hj (C.2.2.2.2.2.1 _ (gW hw rfl)) (fun x q => q) hfin hd0 rfl rfl (by rw [fvals_len]; exact (List.getElem?_eq_some_iff.mp hf).1) hd (fun H1 locs1 hP1 hD1 hS1 => ?_)
  rw [hu] at hP1 hD1
  exact kk C H1 locs1 lsc ⟨hP1, hD1, hS1⟩ hl
theorem bI_nar (b : Bool) : narrow .boolean (.int (bI b)) = .int (bI b) := by cases b <;> decide +kernel
theorem bI_fit (b : Bool) : fits .boolean (.int (bI b)) = true := by cases b <;> decide +kernel
theorem bI_vp (b : Bool) : vp_nar .boolean (bI b) = bI b := by cases b <;> decide +kernel
theorem r_putI {k ci j : Nat} {fs : List (Nat ⊕ Bool)} {x : Int32} (e : dP μ pc ci j npc) (hs : shTab[k]? = some (.inr (ci, fs))) (hf : fs[j]? = some (.inr false)) (hd : ((clR ci).2.1 j).2.2 = ("I", false)) (kk : G Y ad μ npc ls st (si h k j x)) : G Y ad μ pc ls (.int x :: .ref (ad k) :: st) h :=
  r_putI0 (ty := .int) e hs hf (by rw [hd]) (by rw [hd]; decide +kernel) rfl rfl kk
theorem r_putZ {k ci j : Nat} {fs : List (Nat ⊕ Bool)} {b : Bool} (e : dP μ pc ci j npc) (hs : shTab[k]? = some (.inr (ci, fs))) (hf : fs[j]? = some (.inr false)) (hd : ((clR ci).2.1 j).2.2 = ("Z", false)) (kk : G Y ad μ npc ls st (si h k j (bI b))) : G Y ad μ pc ls (.int (bI b) :: .ref (ad k) :: st) h :=
  r_putI0 (ty := .boolean) e hs hf (by rw [hd]) (by rw [hd]; decide +kernel) (bI_nar b) (bI_fit b) kk
theorem r_putL {k ci j : Nat} {fs : List (Nat ⊕ Bool)} {x : Int64} (e : dP μ pc ci j npc) (hs : shTab[k]? = some (.inr (ci, fs))) (hf : fs[j]? = some (.inr true)) (hd : ((clR ci).2.1 j).2.2 = ("J", false)) (kk : G Y ad μ npc ls st (sl h k j x)) : G Y ad μ pc ls (.long x :: .ref (ad k) :: st) h :=
  r_putL0 e hs hf (by rw [hd]) (by rw [hd]; decide +kernel) kk
/-! arrays -/
theorem r_iald {a n j : Nat} {f : Nat → Option Nat} (e : dk μ pc .iaload 1 npc) (hs : shTab[a]? = some (.inl (0, n, f))) (hj : j < n) (kk : G Y ad μ npc ls (.int (h.1 a j) :: st) h) : G Y ad μ pc ls (.int (nI j) :: .ref (ad a) :: st) h := by
  intro C H locs lsc hH hl
  obtain ⟨hd, rfl⟩ := e
  obtain ⟨h1, h2⟩ := nI_cl hj (shLen hs)
  exact va_iald C.1 C.2.1 C.2.2.2.2.2.2.2.1 hH.1 a 0 (pic_at hs) rfl h1 hd (by rw [h2]; exact kk C H locs lsc hH hl)
theorem r_zald {a n j : Nat} {f : Nat → Option Nat} (e : dk μ pc .baload 1 npc) (hs : shTab[a]? = some (.inl (2, n, f))) (hj : j < n) (kk : G Y ad μ npc ls (.int (h.1 a j) :: st) h) : G Y ad μ pc ls (.int (nI j) :: .ref (ad a) :: st) h := by
  intro C H locs lsc hH hl
  obtain ⟨hd, rfl⟩ := e
  obtain ⟨h1, h2⟩ := nI_cl hj (shLen hs)
  exact va_zald C.1 C.2.1 C.2.2.2.2.2.2.2.1 hH.1 a 2 (pic_at hs) rfl h1 hd (by rw [h2]; exact kk C H locs lsc hH hl)
theorem r_lald {a n j : Nat} {f : Nat → Option Nat} (e : dk μ pc .laload 1 npc) (hs : shTab[a]? = some (.inl (1, n, f))) (hj : j < n) (kk : G Y ad μ npc ls (.long (h.2 a j) :: st) h) : G Y ad μ pc ls (.int (nI j) :: .ref (ad a) :: st) h := by
  intro C H locs lsc hH hl
  obtain ⟨hd, rfl⟩ := e
  obtain ⟨h1, h2⟩ := nI_cl hj (shLen hs)
  exact va_lald C.1 C.2.1 C.2.2.2.2.2.2.2.1 hH.1 a 1 (pic_at hs) rfl h1 hd (by rw [h2]; exact kk C H locs lsc hH hl)
theorem r_aald0 {a n j t r : Nat} {ty : FieldType} {f : Nat → Option Nat} (e : dk μ pc .aaload 1 npc) (hs : shTab[a]? = some (.inl (t, n, f))) (ht : (tysOf Y.2.1.2)[t]? = some (Y.2.1.2 t, ty)) (hty : ty.isReference = true) (har : ∀ h : Mem, arrOf ad h a t f = .inr (.inr (.inr (.inr (fun j => (f j).map ad))))) (hj : j < n) (hr : f j = some r) (kk : G Y ad μ npc ls (.ref (ad r) :: st) h) : G Y ad μ pc ls (.int (nI j) :: .ref (ad a) :: st) h := by
  intro C H locs lsc hH hl
  obtain ⟨hd, rfl⟩ := e
  obtain ⟨h1, h2⟩ := nI_cl hj (shLen hs)
  have hp := hH.1 a _ (pic_at hs)
  have hc : H[ad a]? = some (vp_cell (Y.2.1.2 t) (n, .inr (.inr (.inr (.inr (fun j => (f j).map ad)))))) := by
    have h3 : H[ad a]? = some (vp_cell (Y.2.1.2 t) (n, arrOf ad h a t f)) := hp
    rw [har] at h3
    exact h3
  refine W.aald (v := .ref (ad r)) (ty := ty) C.1 C.2.1 hc ((C.2.2.2.2.2.2.2.1.2 t _ ht).1 n (fun j => va_rf ((f j).map ad))) hty (fun q => by cases q) (by show ¬ (nI j < 0 ∨ (arrV _ _ _).slots.size ≤ _); rw [arrV_size]; exact h1) ?_ rfl rfl hd (kk C H locs lsc hH hl)
  show (arrV _ _ _).slots[_]? = _
  rw [h2, arrV_read _ _ hj]
  dsimp only
  rw [hr]
  rfl
theorem r_aaldL {a n j r : Nat} {f : Nat → Option Nat} (e : dk μ pc .aaload 1 npc) (hs : shTab[a]? = some (.inl (3, n, f))) (hj : j < n) (hr : f j = some r) (kk : G Y ad μ npc ls (.ref (ad r) :: st) h) : G Y ad μ pc ls (.int (nI j) :: .ref (ad a) :: st) h := r_aald0 e hs rfl rfl (fun _ => rfl) hj hr kk
theorem r_aaldI {a n j r : Nat} {f : Nat → Option Nat} (e : dk μ pc .aaload 1 npc) (hs : shTab[a]? = some (.inl (4, n, f))) (hj : j < n) (hr : f j = some r) (kk : G Y ad μ npc ls (.ref (ad r) :: st) h) : G Y ad μ pc ls (.int (nI j) :: .ref (ad a) :: st) h := r_aald0 e hs rfl rfl (fun _ => rfl) hj hr kk
theorem r_iast {a n j : Nat} {x : Int32} {f : Nat → Option Nat} (e : dk μ pc .iastore 1 npc) (hs : shTab[a]? = some (.inl (0, n, f))) (hj : j < n) (kk : G Y ad μ npc ls st (si h a j x)) : G Y ad μ pc ls (.int x :: .int (nI j) :: .ref (ad a) :: st) h := by
  intro C H locs lsc hH hl
  obtain ⟨hd, rfl⟩ := e
  obtain ⟨h1, h2⟩ := nI_cl hj (shLen hs)
  have hu : (pic ad Y.2.1.2 h).set a (ad a, .inl (Y.2.1.2 0, n, .inl (upd (h.1 a) j x))) = pic ad Y.2.1.2 (si h a j x) := pic_upd hs (by show Sum.inl (Y.2.1.2 0, n, Sum.inl ((si h a j x).1 a)) = _; rw [si_row]) (fun i hi => ⟨si_o hi, rfl⟩)
  refine va_iast C.1 C.2.1 C.2.2.2.2.2.2.2.1 hH.1 hH.2.1 hH.2.2 a 0 (pic_at hs) rfl h1 hd (fun H1 locs1 hP1 hD1 hS1 => ?_)
  rw [h2, hu] at hP1 hD1
  exact kk C H1 locs1 lsc ⟨hP1, hD1, hS1⟩ hl
theorem r_zast {a n j : Nat} {b : Bool} {f : Nat → Option Nat} (e : dk μ pc .bastore 1 npc) (hs : shTab[a]? = some (.inl (2, n, f))) (hj : j < n) (kk : G Y ad μ npc ls st (si h a j (bI b))) : G Y ad μ pc ls (.int (bI b) :: .int (nI j) :: .ref (ad a) :: st) h := by
  intro C H locs lsc hH hl
  obtain ⟨hd, rfl⟩ := e
  obtain ⟨h1, h2⟩ := nI_cl hj (shLen hs)
  have hu : (pic ad Y.2.1.2 h).set a (ad a, .inl (Y.2.1.2 2, n, .inl (upd (h.1 a) j (bI b)))) = pic ad Y.2.1.2 (si h a j (bI b)) := pic_upd hs (by show Sum.inl (Y.2.1.2 2, n, Sum.inl ((si h a j (bI b)).1 a)) = _; rw [si_row]) (fun i hi => ⟨si_o hi, rfl⟩)
  refine va_zast C.1 C.2.1 C.2.2.2.2.2.2.2.1 hH.1 hH.2.1 hH.2.2 a 2 (pic_at hs) rfl h1 hd (fun H1 locs1 hP1 hD1 hS1 => ?_)
  rw [h2, bI_vp, hu] at hP1 hD1
  exact kk C H1 locs1 lsc ⟨hP1, hD1, hS1⟩ hl
theorem r_last {a n j : Nat} {x : Int64} {f : Nat → Option Nat} (e : dk μ pc .lastore 1 npc) (hs : shTab[a]? = some (.inl (1, n, f))) (hj : j < n) (kk : G Y ad μ npc ls st (sl h a j x)) : G Y ad μ pc ls (.long x :: .int (nI j) :: .ref (ad a) :: st) h := by
  intro C H locs lsc hH hl
  obtain ⟨hd, rfl⟩ := e
  obtain ⟨h1, h2⟩ := nI_cl hj (shLen hs)
  have hu : (pic ad Y.2.1.2 h).set a (ad a, .inl (Y.2.1.2 1, n, .inr (.inl (vp_updL (h.2 a) j x)))) = pic ad Y.2.1.2 (sl h a j x) := pic_upd hs (by show Sum.inl (Y.2.1.2 1, n, Sum.inr (Sum.inl ((sl h a j x).2 a))) = _; rw [sl_row]) (fun i hi => ⟨rfl, sl_o hi⟩)
  refine va_last C.1 C.2.1 C.2.2.2.2.2.2.2.1 hH.1 hH.2.1 hH.2.2 a 1 (pic_at hs) rfl h1 hd (fun H1 locs1 hP1 hD1 hS1 => ?_)
  rw [h2, hu] at hP1 hD1
  exact kk C H1 locs1 lsc ⟨hP1, hD1, hS1⟩ hl
theorem r_alenI {a n : Nat} {f : Nat → Option Nat} (e : dk μ pc .arraylength 1 npc) (hs : shTab[a]? = some (.inl (0, n, f))) (kk : G Y ad μ npc ls (.int (nI n) :: st) h) : G Y ad μ pc ls (.ref (ad a) :: st) h := by
  intro C H locs lsc hH hl
  obtain ⟨hd, rfl⟩ := e
  exact va_alen C.1 C.2.1 C.2.2.2.2.2.2.2.1 hH.1 a 0 (pic_at hs) rfl rfl hd (kk C H locs lsc hH hl)
theorem r_alenJ {a n : Nat} {f : Nat → Option Nat} (e : dk μ pc .arraylength 1 npc) (hs : shTab[a]? = some (.inl (1, n, f))) (kk : G Y ad μ npc ls (.int (nI n) :: st) h) : G Y ad μ pc ls (.ref (ad a) :: st) h := by
  intro C H locs lsc hH hl
  obtain ⟨hd, rfl⟩ := e
  exact va_alen C.1 C.2.1 C.2.2.2.2.2.2.2.1 hH.1 a 1 (pic_at hs) rfl rfl hd (kk C H locs lsc hH hl)
/-! ends -/
def qI (Q : Int32 → Mem → Prop) : Option Value → Mem → Prop := fun r h => ∃ x, r = some (.int x) ∧ Q x h
def qZ (Q : Bool → Mem → Prop) : Option Value → Mem → Prop := fun r h => ∃ b, r = some (.int (bI b)) ∧ Q b h
def qL (Q : Int64 → Mem → Prop) : Option Value → Mem → Prop := fun r h => ∃ x, r = some (.long x) ∧ Q x h
def qV (Q : Mem → Prop) : Option Value → Mem → Prop := fun r h => r = none ∧ Q h
theorem r_iret {Q : Int32 → Mem → Prop} {x : Int32} (hM : IsM Y ad (qI Q)) (e : dk μ pc .ireturn 1 npc) (hr : μ.2.2.2.1 = some .int) (hq : Q x h) : G Y ad μ pc ls [.int x] h := by
  intro C H locs lsc hH hl
  obtain ⟨hd, rfl⟩ := e
  obtain ⟨⟨p, l, e, R, s, m, args, below, meth, c, cells, slots, Qf⟩, D, A⟩ := Y
  obtain ⟨h1, h2, h3⟩ := hM
  dsimp only at h1 h2 h3
  subst h1; subst h2; subst h3
  exact W.iret C.1 C.2.1 (C.2.2.1.trans hr) (fun t ht hw => ⟨⟨_, h, rfl, ⟨x, rfl, hq⟩, by rw [ht]; exact hH.1, va_K.moved hw.alike C.2.2.2.2.2.2.2.1, hH.2.1⟩, hH.2.2.F ht⟩) hH.2.2.2.2 hd C.2.2.2.2.2.2.1
theorem r_zret {Q : Bool → Mem → Prop} {b : Bool} (hM : IsM Y ad (qZ Q)) (e : dk μ pc .ireturn 1 npc) (hr : μ.2.2.2.1 = some .boolean) (hq : Q b h) : G Y ad μ pc ls [.int (bI b)] h := by
  intro C H locs lsc hH hl
  obtain ⟨hd, rfl⟩ := e
  obtain ⟨⟨p, l, e, R, s, m, args, below, meth, c, cells, slots, Qf⟩, D, A⟩ := Y
  obtain ⟨h1, h2, h3⟩ := hM
  dsimp only at h1 h2 h3
  subst h1; subst h2; subst h3
  exact W.zret C.1 C.2.1 (C.2.2.1.trans hr) (bI_nar b) (fun t ht hw => ⟨⟨_, h, rfl, ⟨b, rfl, hq⟩, by rw [ht]; exact hH.1, va_K.moved hw.alike C.2.2.2.2.2.2.2.1, hH.2.1⟩, hH.2.2.F ht⟩) hH.2.2.2.2 hd C.2.2.2.2.2.2.1
theorem r_lret {Q : Int64 → Mem → Prop} {x : Int64} (hM : IsM Y ad (qL Q)) (e : dk μ pc .lreturn 1 npc) (hr : μ.2.2.2.1 = some .long) (hq : Q x h) : G Y ad μ pc ls [.long x] h := by
  intro C H locs lsc hH hl
  obtain ⟨hd, rfl⟩ := e
  obtain ⟨⟨p, l, e, R, s, m, args, below, meth, c, cells, slots, Qf⟩, D, A⟩ := Y
  obtain ⟨h1, h2, h3⟩ := hM
  dsimp only at h1 h2 h3
  subst h1; subst h2; subst h3
  exact W.lret C.1 C.2.1 (C.2.2.1.trans hr) (fun t ht hw => ⟨⟨_, h, rfl, ⟨x, rfl, hq⟩, by rw [ht]; exact hH.1, va_K.moved hw.alike C.2.2.2.2.2.2.2.1, hH.2.1⟩, hH.2.2.F ht⟩) hH.2.2.2.2 hd C.2.2.2.2.2.2.1
theorem r_vret {Q : Mem → Prop} (hM : IsM Y ad (qV Q)) (e : dk μ pc .return_ 1 npc) (hr : μ.2.2.2.1 = none) (hq : Q h) : G Y ad μ pc ls [] h := by
  intro C H locs lsc hH hl
  obtain ⟨hd, rfl⟩ := e
  obtain ⟨⟨p, l, e, R, s, m, args, below, meth, c, cells, slots, Qf⟩, D, A⟩ := Y
  obtain ⟨h1, h2, h3⟩ := hM
  dsimp only at h1 h2 h3
  subst h1; subst h2; subst h3
  exact W.vret C.1 C.2.1 (C.2.2.1.trans hr) (fun t ht hw => ⟨⟨_, h, rfl, ⟨rfl, hq⟩, by rw [ht]; exact hH.1, va_K.moved hw.alike C.2.2.2.2.2.2.2.1, hH.2.1⟩, hH.2.2.F ht⟩) hH.2.2.2.2 hd C.2.2.2.2.2.2.1
/-! calls -/
theorem good_ws {μ' : Mth} (hok : okM μ') : GoodIn gT (mWs μ') := by
  intro w hw
  have hm : w ∈ gT := (List.mem_cons.mp hw).elim (fun q => by rw [q]; exact gW hok.1 rfl) id
  exact ⟨hm, good_of_word (List.mem_filter.mp hm).2⟩
theorem nP_ok {μ' : Mth} (hok : okM μ') : (parseMethodDescriptor μ'.1.desc).map (fun d => d.parameters.length) = some (nP μ') := by
  have h := hok.2.2.2.2.1
  unfold nP
  cases hp : parseMethodDescriptor μ'.1.desc with
  | none => rw [hp] at h; cases h
  | some d => rfl
theorem cBlind {D : va_G × (Nat → ClassId)} {A : Nat → Prop} {As : List Value} : FrameBlind (va_Pc As (cPre ad D A h)) := fun a U g mk q => ⟨q.1, q.2.1, va_K.moved (u := U) (U := U.calling g mk a) (Vm.Alike.refl U.vm) q.2.2.1, q.2.2.2⟩
theorem r_V {μ' : Mth} {As : List Value} {k ci : Nat} {fs : List (Nat ⊕ Bool)} {Q : Option Value → Mem → Prop} (e : dV μ pc μ' npc) (hok : okM μ') (hi : dW (.instanceMethod μ'.1) ∧ dW (.selects μ'.1.cls μ'.1 μ'.1)) (hn : As.length = nP μ') (hs : shTab[k]? = some (.inr (ci, fs))) (hcl : ∃ q, vwCl[ci]? = some q ∧ q.1 = μ'.1.cls) (hK : Con ad μ' (.ref (ad k) :: As) h Q) (hst : (st.map fun v => v.category).sum ≤ 8) (kk : ∀ (r : Option Value) (h1 : Mem), Q r h1 → G Y ad μ npc ls (r.toList ++ st) h1) : G Y ad μ pc ls (As.reverse ++ .ref (ad k) :: st) h := by
  intro C H locs lsc hH hl
  obtain ⟨ix, hd, rfl, hw, hr1, hr2⟩ := e
  obtain ⟨⟨p, l, e, R, s, m, args, below, meth, c, cells, slots, Qf⟩, D, A⟩ := Y
  obtain ⟨hx, hb, hr, hml, hown, hts, hlk, hKs, hA, hfr, hlo, hce, hsl⟩ := id C
  dsimp only at hx hb hr hml hown hts hlk hKs hA hfr hlo hce hsl
  obtain ⟨q, hq1, hq2⟩ := hcl
  have cw : CallW R s args μ.2.2.2.2.1 μ'.1.cls ix μ'.1 μ'.2.1 μ'.2.2.1 μ'.2.2.2.1 (mWs μ') (mRoom μ') 0 0 (nP μ') := ⟨callB_of (nP μ') hts (good_ws hok) rfl rfl rfl (hts _ (gW hok.2.1 rfl)) (hts _ (gW hw rfl)) ⟨hok.2.2.1.1, hok.2.2.1.2, nP_ok hok⟩ ⟨by rw [hfr]; exact hr1, by rw [hlo]; exact hr2⟩, hts _ (gW hi.1 rfl), hts _ (gW hi.2 rfl)⟩
  have hrc : ∃ cellB : Cell, H[ad k]? = some cellB ∧ cellB.vm.isStatics = false ∧ s.vm.findClass μ'.1.cls = some cellB.cls := by
    rw [← hq2]
    exact va_recv hKs hH.1 (ci := ci) (q0 := k) hq1 (pic_at hs)
  have pv : PreV s H μ'.1.cls (ad k) (va_Pc (.ref (ad k) :: As) (cPre ad D A h)) As := ⟨cBlind, hrc, fun U hU hW => ⟨rfl, by rw [hU]; exact hH.1, va_K.moved hW.alike hKs, hH.2.1, fun q hq => hA q (Nat.le_trans hH.2.2.1 (by rw [← hU]; exact hq))⟩⟩
  have run := va_runV (p := p) (l := l) (e := e) (R := R) (s := s) (m := m) (args := args) (below := below) (meth := meth) (c := c) (H := H) (locs := locs) (cells := cells) (slots := slots) (cc := μ.2.1) (nL := μ.2.2.1) (g := F0 m pc lsc (As.reverse ++ .ref (ad k) :: st)) (rest := st) (As := As) (b := ad k) ⟨hx, hb, hml, hown, hts⟩ (hK l D A) cw pv rfl hn hl.1 rfl (lv_room hst) hd ⟨hce, hsl⟩
  intro T hT X
  obtain ⟨v, st₀, t, T', L, h0, X', hL, e1, e2, ⟨⟨r, h', hv, hQ, hP1, hK1, hD1⟩, hz, hkp⟩, go⟩ := run T hT X
  cases hv
  rw [h0] at hz hkp
  have hS1 : va_S A s.heap T'.heap (locs ++ L) := ⟨Nat.le_trans hH.2.2.1 (by rw [e1]; exact hz), fun q h1 h2 => by rw [e1, hkp q (Nat.lt_of_lt_of_le h1 hH.2.2.1) h2]; exact hH.2.2.2.1 q h1 h2, fun q hq => by
    rcases List.mem_append.mp hq with h | h
    · exact hH.2.2.2.2 q h
    · exact hL q h⟩
  obtain ⟨t2, a1, b1⟩ := kk _ h' hQ C T'.heap (locs ++ L) lsc ⟨by rw [e1]; exact hP1, hD1, hS1⟩ hl T' rfl X'
  exact ⟨t2, go t2 a1, b1⟩
theorem r_S {μ' : Mth} {As : List Value} {Q : Option Value → Mem → Prop} (e : dS μ pc μ' npc) (hok : okM μ') (hi : dW (.static μ'.1)) (hn : As.length = nP μ') (hK : Con ad μ' As h Q) (hst : (st.map fun v => v.category).sum ≤ 8) (kk : ∀ (r : Option Value) (h1 : Mem), Q r h1 → G Y ad μ npc ls (r.toList ++ st) h1) : G Y ad μ pc ls (As.reverse ++ st) h := by
  intro C H locs lsc hH hl
  obtain ⟨ix, hd, rfl, hw, hr1, hr2⟩ := e
  obtain ⟨⟨p, l, e, R, s, m, args, below, meth, c, cells, slots, Qf⟩, D, A⟩ := Y
  obtain ⟨hx, hb, hr, hml, hown, hts, hlk, hKs, hA, hfr, hlo, hce, hsl⟩ := id C
  dsimp only at hx hb hr hml hown hts hlk hKs hA hfr hlo hce hsl
  have cw : CallB R s args μ.2.2.2.2.1 ix μ'.1 μ'.2.1 μ'.2.2.1 μ'.2.2.2.1 (mWs μ') (mRoom μ') 0 0 (nP μ') ∧ (Cond.static μ'.1).before args s = true := ⟨callB_of (nP μ') hts (good_ws hok) rfl rfl rfl (hts _ (gW hok.2.1 rfl)) (hts _ (gW hw rfl)) ⟨hok.2.2.1.1, hok.2.2.1.2, nP_ok hok⟩ ⟨by rw [hfr]; exact hr1, by rw [hlo]; exact hr2⟩, hts _ (gW hi rfl)⟩
  have pv : PreS s H (va_Pc As (cPre ad D A h)) As := ⟨cBlind, fun U hU hW => ⟨rfl, by rw [hU]; exact hH.1, va_K.moved hW.alike hKs, hH.2.1, fun q hq => hA q (Nat.le_trans hH.2.2.1 (by rw [← hU]; exact hq))⟩⟩
  have run := va_runS (p := p) (l := l) (e := e) (R := R) (s := s) (m := m) (args := args) (below := below) (meth := meth) (c := c) (H := H) (locs := locs) (cells := cells) (slots := slots) (cc := μ.2.1) (nL := μ.2.2.1) (g := F0 m pc lsc (As.reverse ++ st)) (rest := st) (As := As) ⟨hx, hb, hml, hown, hts⟩ (hK l D A) cw pv rfl hn hl.1 rfl (lv_room hst) hd ⟨hce, hsl⟩
  intro T hT X
  obtain ⟨v, st₀, t, T', L, h0, X', hL, e1, e2, ⟨⟨r, h', hv, hQ, hP1, hK1, hD1⟩, hz, hkp⟩, go⟩ := run T hT X
  cases hv
  rw [h0] at hz hkp
  have hS1 : va_S A s.heap T'.heap (locs ++ L) := ⟨Nat.le_trans hH.2.2.1 (by rw [e1]; exact hz), fun q h1 h2 => by rw [e1, hkp q (Nat.lt_of_lt_of_le h1 hH.2.2.1) h2]; exact hH.2.2.2.1 q h1 h2, fun q hq => by
    rcases List.mem_append.mp hq with h | h
    · exact hH.2.2.2.2 q h
    · exact hL q h⟩
  obtain ⟨t2, a1, b1⟩ := kk _ h' hQ C T'.heap (locs ++ L) lsc ⟨by rw [e1]; exact hP1, hD1, hS1⟩ hl T' rfl X'
  exact ⟨t2, go t2 a1, b1⟩
end MEM
end
section
def vM (μ : Mth) (ci n : Nat) : Prop := okM μ ∧ (dW (.instanceMethod μ.1) ∧ dW (.selects μ.1.cls μ.1 μ.1)) ∧ (∃ q, vwCl[ci]? = some q ∧ q.1 = μ.1.cls) ∧ n = nP μ ∧ μ.2.2.2.2.1 = μ.1.cls
def sM (μ : Mth) (n : Nat) : Prop := okM μ ∧ dW (.static μ.1) ∧ n = nP μ ∧ μ.2.2.2.2.1 = μ.1.cls
theorem vX0_exists : vM mX0_exists 0 0 := ⟨okX0_exists, ⟨dW_at 318 (by decide +kernel), dW_at 319 (by decide +kernel)⟩, ⟨_, rfl, rfl⟩, by decide +kernel, rfl⟩
theorem vX0_hasItem : vM mX0_hasItem 0 1 := ⟨okX0_hasItem, ⟨dW_at 334 (by decide +kernel), dW_at 335 (by decide +kernel)⟩, ⟨_, rfl, rfl⟩, by decide +kernel, rfl⟩
theorem vX0_forget : vM mX0_forget 0 0 := ⟨okX0_forget, ⟨dW_at 205 (by decide +kernel), dW_at 206 (by decide +kernel)⟩, ⟨_, rfl, rfl⟩, by decide +kernel, rfl⟩
theorem vX0_beginAt : vM mX0_beginAt 0 1 := ⟨okX0_beginAt, ⟨dW_at 302 (by decide +kernel), dW_at 303 (by decide +kernel)⟩, ⟨_, rfl, rfl⟩, by decide +kernel, rfl⟩
theorem vX0_copyFrom : vM mX0_copyFrom 0 1 := ⟨okX0_copyFrom, ⟨dW_at 468 (by decide +kernel), dW_at 469 (by decide +kernel)⟩, ⟨_, rfl, rfl⟩, by decide +kernel, rfl⟩
theorem vX0_nextBy : vM mX0_nextBy 0 1 := ⟨okX0_nextBy, ⟨dW_at 330 (by decide +kernel), dW_at 331 (by decide +kernel)⟩, ⟨_, rfl, rfl⟩, by decide +kernel, rfl⟩
theorem vX0_addItem : vM mX0_addItem 0 3 := ⟨okX0_addItem, ⟨dW_at 310 (by decide +kernel), dW_at 311 (by decide +kernel)⟩, ⟨_, rfl, rfl⟩, by decide +kernel, rfl⟩
theorem vX0_takeOut : vM mX0_takeOut 0 1 := ⟨okX0_takeOut, ⟨dW_at 338 (by decide +kernel), dW_at 339 (by decide +kernel)⟩, ⟨_, rfl, rfl⟩, by decide +kernel, rfl⟩
theorem vX0_addEnded : vM mX0_addEnded 0 2 := ⟨okX0_addEnded, ⟨dW_at 345 (by decide +kernel), dW_at 346 (by decide +kernel)⟩, ⟨_, rfl, rfl⟩, by decide +kernel, rfl⟩
theorem vX0_addLeft : vM mX0_addLeft 0 2 := ⟨okX0_addLeft, ⟨dW_at 349 (by decide +kernel), dW_at 350 (by decide +kernel)⟩, ⟨_, rfl, rfl⟩, by decide +kernel, rfl⟩
theorem vX0_itemAt : vM mX0_itemAt 0 2 := ⟨okX0_itemAt, ⟨dW_at 377 (by decide +kernel), dW_at 378 (by decide +kernel)⟩, ⟨_, rfl, rfl⟩, by decide +kernel, rfl⟩
theorem vX0_countNew : vM mX0_countNew 0 2 := ⟨okX0_countNew, ⟨dW_at 373 (by decide +kernel), dW_at 374 (by decide +kernel)⟩, ⟨_, rfl, rfl⟩, by decide +kernel, rfl⟩
theorem vX0_putShares : vM mX0_putShares 0 2 := ⟨okX0_putShares, ⟨dW_at 385 (by decide +kernel), dW_at 386 (by decide +kernel)⟩, ⟨_, rfl, rfl⟩, by decide +kernel, rfl⟩
theorem vX0_endedIn : vM mX0_endedIn 0 1 := ⟨okX0_endedIn, ⟨dW_at 404 (by decide +kernel), dW_at 405 (by decide +kernel)⟩, ⟨_, rfl, rfl⟩, by decide +kernel, rfl⟩
theorem vX1_divide : vM mX1_divide 1 4 := ⟨okX1_divide, ⟨dW_at 353 (by decide +kernel), dW_at 354 (by decide +kernel)⟩, ⟨_, rfl, rfl⟩, by decide +kernel, rfl⟩
theorem vX1_spread : vM mX1_spread 1 5 := ⟨okX1_spread, ⟨dW_at 357 (by decide +kernel), dW_at 358 (by decide +kernel)⟩, ⟨_, rfl, rfl⟩, by decide +kernel, rfl⟩
theorem vX1_portion : vM mX1_portion 1 1 := ⟨okX1_portion, ⟨dW_at 361 (by decide +kernel), dW_at 362 (by decide +kernel)⟩, ⟨_, rfl, rfl⟩, by decide +kernel, rfl⟩
theorem vX1_add : vM mX1_add 1 3 := ⟨okX1_add, ⟨dW_at 365 (by decide +kernel), dW_at 366 (by decide +kernel)⟩, ⟨_, rfl, rfl⟩, by decide +kernel, rfl⟩
theorem vX1_isRepeated : vM mX1_isRepeated 1 1 := ⟨okX1_isRepeated, ⟨dW_at 381 (by decide +kernel), dW_at 382 (by decide +kernel)⟩, ⟨_, rfl, rfl⟩, by decide +kernel, rfl⟩
theorem vX2_has : vM mX2_has 2 1 := ⟨okX2_has, ⟨dW_at 228 (by decide +kernel), dW_at 229 (by decide +kernel)⟩, ⟨_, rfl, rfl⟩, by decide +kernel, rfl⟩
theorem vX2_goesOn : vM mX2_goesOn 2 1 := ⟨okX2_goesOn, ⟨dW_at 224 (by decide +kernel), dW_at 225 (by decide +kernel)⟩, ⟨_, rfl, rfl⟩, by decide +kernel, rfl⟩
theorem vX2_addState : vM mX2_addState 2 1 := ⟨okX2_addState, ⟨dW_at 216 (by decide +kernel), dW_at 217 (by decide +kernel)⟩, ⟨_, rfl, rfl⟩, by decide +kernel, rfl⟩
theorem vX2_addSixteenths : vM mX2_addSixteenths 2 3 := ⟨okX2_addSixteenths, ⟨dW_at 233 (by decide +kernel), dW_at 234 (by decide +kernel)⟩, ⟨_, rfl, rfl⟩, by decide +kernel, rfl⟩
theorem vX2_arrowTo : vM mX2_arrowTo 2 2 := ⟨okX2_arrowTo, ⟨dW_at 237 (by decide +kernel), dW_at 238 (by decide +kernel)⟩, ⟨_, rfl, rfl⟩, by decide +kernel, rfl⟩
theorem vX2_sixteenthsTo : vM mX2_sixteenthsTo 2 2 := ⟨okX2_sixteenthsTo, ⟨dW_at 253 (by decide +kernel), dW_at 254 (by decide +kernel)⟩, ⟨_, rfl, rfl⟩, by decide +kernel, rfl⟩
theorem vX2_isWhole : vM mX2_isWhole 2 1 := ⟨okX2_isWhole, ⟨dW_at 257 (by decide +kernel), dW_at 258 (by decide +kernel)⟩, ⟨_, rfl, rfl⟩, by decide +kernel, rfl⟩
theorem vX2_isProved : vM mX2_isProved 2 2 := ⟨okX2_isProved, ⟨dW_at 245 (by decide +kernel), dW_at 246 (by decide +kernel)⟩, ⟨_, rfl, rfl⟩, by decide +kernel, rfl⟩
theorem vX2_isLoop : vM mX2_isLoop 2 1 := ⟨okX2_isLoop, ⟨dW_at 249 (by decide +kernel), dW_at 250 (by decide +kernel)⟩, ⟨_, rfl, rfl⟩, by decide +kernel, rfl⟩
theorem vX2_isRing : vM mX2_isRing 2 2 := ⟨okX2_isRing, ⟨dW_at 261 (by decide +kernel), dW_at 262 (by decide +kernel)⟩, ⟨_, rfl, rfl⟩, by decide +kernel, rfl⟩
theorem vX2_forgetLaws : vM mX2_forgetLaws 2 0 := ⟨okX2_forgetLaws, ⟨dW_at 209 (by decide +kernel), dW_at 210 (by decide +kernel)⟩, ⟨_, rfl, rfl⟩, by decide +kernel, rfl⟩
theorem vX2_survey : vM mX2_survey 2 0 := ⟨okX2_survey, ⟨dW_at 277 (by decide +kernel), dW_at 278 (by decide +kernel)⟩, ⟨_, rfl, rfl⟩, by decide +kernel, rfl⟩
theorem vX2_findComings : vM mX2_findComings 2 0 := ⟨okX2_findComings, ⟨dW_at 281 (by decide +kernel), dW_at 282 (by decide +kernel)⟩, ⟨_, rfl, rfl⟩, by decide +kernel, rfl⟩
theorem vX2_comes : vM mX2_comes 2 2 := ⟨okX2_comes, ⟨dW_at 285 (by decide +kernel), dW_at 286 (by decide +kernel)⟩, ⟨_, rfl, rfl⟩, by decide +kernel, rfl⟩
theorem vX2_findReach : vM mX2_findReach 2 1 := ⟨okX2_findReach, ⟨dW_at 289 (by decide +kernel), dW_at 290 (by decide +kernel)⟩, ⟨_, rfl, rfl⟩, by decide +kernel, rfl⟩
theorem vX2_findSure : vM mX2_findSure 2 1 := ⟨okX2_findSure, ⟨dW_at 294 (by decide +kernel), dW_at 295 (by decide +kernel)⟩, ⟨_, rfl, rfl⟩, by decide +kernel, rfl⟩
theorem vX2_isWholeFrom : vM mX2_isWholeFrom 2 1 := ⟨okX2_isWholeFrom, ⟨dW_at 298 (by decide +kernel), dW_at 299 (by decide +kernel)⟩, ⟨_, rfl, rfl⟩, by decide +kernel, rfl⟩
theorem vX2_endsWithin : vM mX2_endsWithin 2 2 := ⟨okX2_endsWithin, ⟨dW_at 412 (by decide +kernel), dW_at 413 (by decide +kernel)⟩, ⟨_, rfl, rfl⟩, by decide +kernel, rfl⟩
theorem vX3_state : vM mX3_state 3 1 := ⟨okX3_state, ⟨dW_at 194 (by decide +kernel), dW_at 195 (by decide +kernel)⟩, ⟨_, rfl, rfl⟩, by decide +kernel, rfl⟩
theorem vX3_arrow : vM mX3_arrow 3 3 := ⟨okX3_arrow, ⟨dW_at 220 (by decide +kernel), dW_at 221 (by decide +kernel)⟩, ⟨_, rfl, rfl⟩, by decide +kernel, rfl⟩
theorem vX3_law : vM mX3_law 3 2 := ⟨okX3_law, ⟨dW_at 241 (by decide +kernel), dW_at 242 (by decide +kernel)⟩, ⟨_, rfl, rfl⟩, by decide +kernel, rfl⟩
theorem vX3_order : vM mX3_order 3 1 := ⟨okX3_order, ⟨dW_at 265 (by decide +kernel), dW_at 266 (by decide +kernel)⟩, ⟨_, rfl, rfl⟩, by decide +kernel, rfl⟩
theorem vX3_joined : vM mX3_joined 3 1 := ⟨okX3_joined, ⟨dW_at 269 (by decide +kernel), dW_at 270 (by decide +kernel)⟩, ⟨_, rfl, rfl⟩, by decide +kernel, rfl⟩
theorem vX3_begin : vM mX3_begin 3 1 := ⟨okX3_begin, ⟨dW_at 273 (by decide +kernel), dW_at 274 (by decide +kernel)⟩, ⟨_, rfl, rfl⟩, by decide +kernel, rfl⟩
theorem vX3_grow : vM mX3_grow 3 1 := ⟨okX3_grow, ⟨dW_at 314 (by decide +kernel), dW_at 315 (by decide +kernel)⟩, ⟨_, rfl, rfl⟩, by decide +kernel, rfl⟩
theorem vX3_until : vM mX3_until 3 3 := ⟨okX3_until, ⟨dW_at 389 (by decide +kernel), dW_at 390 (by decide +kernel)⟩, ⟨_, rfl, rfl⟩, by decide +kernel, rfl⟩
theorem vX3_end : vM mX3_end 3 2 := ⟨okX3_end, ⟨dW_at 416 (by decide +kernel), dW_at 417 (by decide +kernel)⟩, ⟨_, rfl, rfl⟩, by decide +kernel, rfl⟩
theorem vX3_given : vM mX3_given 3 3 := ⟨okX3_given, ⟨dW_at 423 (by decide +kernel), dW_at 424 (by decide +kernel)⟩, ⟨_, rfl, rfl⟩, by decide +kernel, rfl⟩
theorem vX3_best : vM mX3_best 3 2 := ⟨okX3_best, ⟨dW_at 437 (by decide +kernel), dW_at 438 (by decide +kernel)⟩, ⟨_, rfl, rfl⟩, by decide +kernel, rfl⟩
theorem vX3_item : vM mX3_item 3 2 := ⟨okX3_item, ⟨dW_at 445 (by decide +kernel), dW_at 446 (by decide +kernel)⟩, ⟨_, rfl, rfl⟩, by decide +kernel, rfl⟩
theorem vX3_units : vM mX3_units 3 1 := ⟨okX3_units, ⟨dW_at 449 (by decide +kernel), dW_at 450 (by decide +kernel)⟩, ⟨_, rfl, rfl⟩, by decide +kernel, rfl⟩
theorem vX3_found : vM mX3_found 3 1 := ⟨okX3_found, ⟨dW_at 453 (by decide +kernel), dW_at 454 (by decide +kernel)⟩, ⟨_, rfl, rfl⟩, by decide +kernel, rfl⟩
theorem vX3_rests : vM mX3_rests 3 1 := ⟨okX3_rests, ⟨dW_at 457 (by decide +kernel), dW_at 458 (by decide +kernel)⟩, ⟨_, rfl, rfl⟩, by decide +kernel, rfl⟩
theorem vX3_save : vM mX3_save 3 1 := ⟨okX3_save, ⟨dW_at 461 (by decide +kernel), dW_at 462 (by decide +kernel)⟩, ⟨_, rfl, rfl⟩, by decide +kernel, rfl⟩
theorem vX3_back : vM mX3_back 3 1 := ⟨okX3_back, ⟨dW_at 472 (by decide +kernel), dW_at 473 (by decide +kernel)⟩, ⟨_, rfl, rfl⟩, by decide +kernel, rfl⟩
theorem vX3_told : vM mX3_told 3 1 := ⟨okX3_told, ⟨dW_at 476 (by decide +kernel), dW_at 477 (by decide +kernel)⟩, ⟨_, rfl, rfl⟩, by decide +kernel, rfl⟩
theorem vX3_isOutcome : sM mX3_isOutcome 1 := ⟨okX3_isOutcome, dW_at 198 (by decide +kernel), by decide +kernel, rfl⟩
theorem vX3_isSet : sM mX3_isSet 1 := ⟨okX3_isSet, dW_at 393 (by decide +kernel), by decide +kernel, rfl⟩
theorem vX3_isSide : sM mX3_isSide 1 := ⟨okX3_isSide, dW_at 420 (by decide +kernel), by decide +kernel, rfl⟩
theorem vX3_isSave : sM mX3_isSave 1 := ⟨okX3_isSave, dW_at 465 (by decide +kernel), by decide +kernel, rfl⟩
theorem vX3_forgetWhatRestsOnWalk : vM mX3_forgetWhatRestsOnWalk 3 0 := ⟨okX3_forgetWhatRestsOnWalk, ⟨dW_at 202 (by decide +kernel), dW_at 0 (by decide +kernel)⟩, ⟨_, rfl, rfl⟩, by decide +kernel, rfl⟩
theorem vX3_goOnTimes : vM mX3_goOnTimes 3 3 := ⟨okX3_goOnTimes, ⟨dW_at 323 (by decide +kernel), dW_at 1 (by decide +kernel)⟩, ⟨_, rfl, rfl⟩, by decide +kernel, rfl⟩
theorem vX3_goOnOnce : vM mX3_goOnOnce 3 2 := ⟨okX3_goOnOnce, ⟨dW_at 327 (by decide +kernel), dW_at 2 (by decide +kernel)⟩, ⟨_, rfl, rfl⟩, by decide +kernel, rfl⟩
theorem vX3_low : vM mX3_low 3 2 := ⟨okX3_low, ⟨dW_at 409 (by decide +kernel), dW_at 5 (by decide +kernel)⟩, ⟨_, rfl, rfl⟩, by decide +kernel, rfl⟩
theorem vX3_high : vM mX3_high 3 2 := ⟨okX3_high, ⟨dW_at 401 (by decide +kernel), dW_at 4 (by decide +kernel)⟩, ⟨_, rfl, rfl⟩, by decide +kernel, rfl⟩
theorem vX3_width : vM mX3_width 3 2 := ⟨okX3_width, ⟨dW_at 397 (by decide +kernel), dW_at 3 (by decide +kernel)⟩, ⟨_, rfl, rfl⟩, by decide +kernel, rfl⟩
theorem vX3_trialWidth : vM mX3_trialWidth 3 3 := ⟨okX3_trialWidth, ⟨dW_at 442 (by decide +kernel), dW_at 6 (by decide +kernel)⟩, ⟨_, rfl, rfl⟩, by decide +kernel, rfl⟩
theorem vX3_leastPart : sM mX3_leastPart 2 := ⟨okX3_leastPart, dW_at 427 (by decide +kernel), by decide +kernel, rfl⟩
theorem vX3_greatestPart : sM mX3_greatestPart 2 := ⟨okX3_greatestPart, dW_at 434 (by decide +kernel), by decide +kernel, rfl⟩
theorem vX3_partOf : sM mX3_partOf 3 := ⟨okX3_partOf, dW_at 430 (by decide +kernel), by decide +kernel, rfl⟩
theorem vX4_in : sM mX4_in 3 := ⟨okX4_in, dW_at 566 (by decide +kernel), by decide +kernel, rfl⟩
theorem vX4_isState : vM mX4_isState 4 1 := ⟨okX4_isState, ⟨dW_at 578 (by decide +kernel), dW_at 8 (by decide +kernel)⟩, ⟨_, rfl, rfl⟩, by decide +kernel, rfl⟩
theorem vX4_forget : vM mX4_forget 4 0 := ⟨okX4_forget, ⟨dW_at 570 (by decide +kernel), dW_at 7 (by decide +kernel)⟩, ⟨_, rfl, rfl⟩, by decide +kernel, rfl⟩
theorem vX4_state : vM mX4_state 4 1 := ⟨okX4_state, ⟨dW_at 562 (by decide +kernel), dW_at 563 (by decide +kernel)⟩, ⟨_, rfl, rfl⟩, by decide +kernel, rfl⟩
theorem vX4_arrowOf : vM mX4_arrowOf 4 2 := ⟨okX4_arrowOf, ⟨dW_at 582 (by decide +kernel), dW_at 9 (by decide +kernel)⟩, ⟨_, rfl, rfl⟩, by decide +kernel, rfl⟩
theorem vX4_arrow : vM mX4_arrow 4 3 := ⟨okX4_arrow, ⟨dW_at 573 (by decide +kernel), dW_at 574 (by decide +kernel)⟩, ⟨_, rfl, rfl⟩, by decide +kernel, rfl⟩
theorem vX4_law : vM mX4_law 4 2 := ⟨okX4_law, ⟨dW_at 585 (by decide +kernel), dW_at 586 (by decide +kernel)⟩, ⟨_, rfl, rfl⟩, by decide +kernel, rfl⟩
theorem vX4_order : vM mX4_order 4 1 := ⟨okX4_order, ⟨dW_at 589 (by decide +kernel), dW_at 590 (by decide +kernel)⟩, ⟨_, rfl, rfl⟩, by decide +kernel, rfl⟩
theorem vX4_joined : vM mX4_joined 4 1 := ⟨okX4_joined, ⟨dW_at 593 (by decide +kernel), dW_at 594 (by decide +kernel)⟩, ⟨_, rfl, rfl⟩, by decide +kernel, rfl⟩
theorem vX4_comes : vM mX4_comes 4 1 := ⟨okX4_comes, ⟨dW_at 602 (by decide +kernel), dW_at 10 (by decide +kernel)⟩, ⟨_, rfl, rfl⟩, by decide +kernel, rfl⟩
theorem vX4_look : vM mX4_look 4 0 := ⟨okX4_look, ⟨dW_at 615 (by decide +kernel), dW_at 13 (by decide +kernel)⟩, ⟨_, rfl, rfl⟩, by decide +kernel, rfl⟩
theorem vX4_reach : vM mX4_reach 4 1 := ⟨okX4_reach, ⟨dW_at 611 (by decide +kernel), dW_at 12 (by decide +kernel)⟩, ⟨_, rfl, rfl⟩, by decide +kernel, rfl⟩
theorem vX4_isSure : vM mX4_isSure 4 1 := ⟨okX4_isSure, ⟨dW_at 672 (by decide +kernel), dW_at 24 (by decide +kernel)⟩, ⟨_, rfl, rfl⟩, by decide +kernel, rfl⟩
theorem vX4_open : vM mX4_open 4 2 := ⟨okX4_open, ⟨dW_at 606 (by decide +kernel), dW_at 11 (by decide +kernel)⟩, ⟨_, rfl, rfl⟩, by decide +kernel, rfl⟩
theorem vX4_begin : vM mX4_begin 4 1 := ⟨okX4_begin, ⟨dW_at 597 (by decide +kernel), dW_at 598 (by decide +kernel)⟩, ⟨_, rfl, rfl⟩, by decide +kernel, rfl⟩
theorem vX4_next : vM mX4_next 4 2 := ⟨okX4_next, ⟨dW_at 627 (by decide +kernel), dW_at 15 (by decide +kernel)⟩, ⟨_, rfl, rfl⟩, by decide +kernel, rfl⟩
theorem vX4_share : vM mX4_share 4 5 := ⟨okX4_share, ⟨dW_at 637 (by decide +kernel), dW_at 17 (by decide +kernel)⟩, ⟨_, rfl, rfl⟩, by decide +kernel, rfl⟩
theorem vX4_lay : vM mX4_lay 4 3 := ⟨okX4_lay, ⟨dW_at 631 (by decide +kernel), dW_at 16 (by decide +kernel)⟩, ⟨_, rfl, rfl⟩, by decide +kernel, rfl⟩
theorem vX4_alike : vM mX4_alike 4 4 := ⟨okX4_alike, ⟨dW_at 645 (by decide +kernel), dW_at 19 (by decide +kernel)⟩, ⟨_, rfl, rfl⟩, by decide +kernel, rfl⟩
theorem vX4_newItems : vM mX4_newItems 4 2 := ⟨okX4_newItems, ⟨dW_at 641 (by decide +kernel), dW_at 18 (by decide +kernel)⟩, ⟨_, rfl, rfl⟩, by decide +kernel, rfl⟩
theorem vX4_goOn : vM mX4_goOn 4 2 := ⟨okX4_goOn, ⟨dW_at 623 (by decide +kernel), dW_at 14 (by decide +kernel)⟩, ⟨_, rfl, rfl⟩, by decide +kernel, rfl⟩
theorem vX4_grow : vM mX4_grow 4 1 := ⟨okX4_grow, ⟨dW_at 618 (by decide +kernel), dW_at 619 (by decide +kernel)⟩, ⟨_, rfl, rfl⟩, by decide +kernel, rfl⟩
theorem vX4_isSet : sM mX4_isSet 1 := ⟨okX4_isSet, dW_at 652 (by decide +kernel), by decide +kernel, rfl⟩
theorem vX4_until : vM mX4_until 4 3 := ⟨okX4_until, ⟨dW_at 648 (by decide +kernel), dW_at 649 (by decide +kernel)⟩, ⟨_, rfl, rfl⟩, by decide +kernel, rfl⟩
theorem vX4_unended : vM mX4_unended 4 2 := ⟨okX4_unended, ⟨dW_at 664 (by decide +kernel), dW_at 22 (by decide +kernel)⟩, ⟨_, rfl, rfl⟩, by decide +kernel, rfl⟩
theorem vX4_foundOf : vM mX4_foundOf 4 2 := ⟨okX4_foundOf, ⟨dW_at 660 (by decide +kernel), dW_at 21 (by decide +kernel)⟩, ⟨_, rfl, rfl⟩, by decide +kernel, rfl⟩
theorem vX4_low : vM mX4_low 4 2 := ⟨okX4_low, ⟨dW_at 668 (by decide +kernel), dW_at 23 (by decide +kernel)⟩, ⟨_, rfl, rfl⟩, by decide +kernel, rfl⟩
theorem vX4_high : vM mX4_high 4 2 := ⟨okX4_high, ⟨dW_at 656 (by decide +kernel), dW_at 20 (by decide +kernel)⟩, ⟨_, rfl, rfl⟩, by decide +kernel, rfl⟩
theorem vX4_end : vM mX4_end 4 2 := ⟨okX4_end, ⟨dW_at 675 (by decide +kernel), dW_at 676 (by decide +kernel)⟩, ⟨_, rfl, rfl⟩, by decide +kernel, rfl⟩
theorem vX4_part : sM mX4_part 3 := ⟨okX4_part, dW_at 684 (by decide +kernel), by decide +kernel, rfl⟩
theorem vX4_given : vM mX4_given 4 3 := ⟨okX4_given, ⟨dW_at 679 (by decide +kernel), dW_at 680 (by decide +kernel)⟩, ⟨_, rfl, rfl⟩, by decide +kernel, rfl⟩
theorem vX4_best : vM mX4_best 4 2 := ⟨okX4_best, ⟨dW_at 687 (by decide +kernel), dW_at 688 (by decide +kernel)⟩, ⟨_, rfl, rfl⟩, by decide +kernel, rfl⟩
theorem vX4_item : vM mX4_item 4 2 := ⟨okX4_item, ⟨dW_at 691 (by decide +kernel), dW_at 692 (by decide +kernel)⟩, ⟨_, rfl, rfl⟩, by decide +kernel, rfl⟩
theorem vX4_units : vM mX4_units 4 1 := ⟨okX4_units, ⟨dW_at 695 (by decide +kernel), dW_at 696 (by decide +kernel)⟩, ⟨_, rfl, rfl⟩, by decide +kernel, rfl⟩
theorem vX4_found : vM mX4_found 4 1 := ⟨okX4_found, ⟨dW_at 699 (by decide +kernel), dW_at 700 (by decide +kernel)⟩, ⟨_, rfl, rfl⟩, by decide +kernel, rfl⟩
theorem vX4_rests : vM mX4_rests 4 1 := ⟨okX4_rests, ⟨dW_at 703 (by decide +kernel), dW_at 704 (by decide +kernel)⟩, ⟨_, rfl, rfl⟩, by decide +kernel, rfl⟩
theorem vX4_copy : vM mX4_copy 4 2 := ⟨okX4_copy, ⟨dW_at 712 (by decide +kernel), dW_at 25 (by decide +kernel)⟩, ⟨_, rfl, rfl⟩, by decide +kernel, rfl⟩
theorem vX4_save : vM mX4_save 4 1 := ⟨okX4_save, ⟨dW_at 707 (by decide +kernel), dW_at 708 (by decide +kernel)⟩, ⟨_, rfl, rfl⟩, by decide +kernel, rfl⟩
theorem vX4_back : vM mX4_back 4 1 := ⟨okX4_back, ⟨dW_at 715 (by decide +kernel), dW_at 716 (by decide +kernel)⟩, ⟨_, rfl, rfl⟩, by decide +kernel, rfl⟩
theorem vX4_told : vM mX4_told 4 1 := ⟨okX4_told, ⟨dW_at 719 (by decide +kernel), dW_at 720 (by decide +kernel)⟩, ⟨_, rfl, rfl⟩, by decide +kernel, rfl⟩
theorem vJ7_fill_d0a16 : sM mJ7_fill_d0a16 2 := ⟨okJ7_fill_d0a16, dW_at 306 (by decide +kernel), by decide +kernel, rfl⟩
theorem vJ7_fill_53178 : sM mJ7_fill_53178 2 := ⟨okJ7_fill_53178, dW_at 213 (by decide +kernel), by decide +kernel, rfl⟩
section CALLS
variable {Y : Env3} {ad : Nat → Nat} {μ μ' : Mth} {pc npc : Nat} {ls : List (Option Value)} {st : List Value} {h : Mem}
theorem r_VI0 {k ci : Nat} {fs : List (Nat ⊕ Bool)} {Q : Int32 → Mem → Prop} (e : dV μ pc μ' npc) (v : vM μ' ci 0) (hs : shTab[k]? = some (.inr (ci, fs))) (hK : Con ad μ' [.ref (ad k)] h (qI Q)) (kk : ∀ (x : Int32) (h1 : Mem), Q x h1 → G Y ad μ npc ls (.int x :: st) h1) (hst : (st.map fun v => v.category).sum ≤ 8 := by exact Nat.le_of_ble_eq_true rfl) : G Y ad μ pc ls (.ref (ad k) :: st) h := r_V (As := []) e v.1 v.2.1 v.2.2.2.1 hs v.2.2.1 hK hst (fun r h1 hQ => by
  obtain ⟨x, rfl, hQ⟩ := hQ
  exact kk x h1 hQ)
theorem r_SI0 {Q : Int32 → Mem → Prop} (e : dS μ pc μ' npc) (v : sM μ' 0) (hK : Con ad μ' [] h (qI Q)) (kk : ∀ (x : Int32) (h1 : Mem), Q x h1 → G Y ad μ npc ls (.int x :: st) h1) (hst : (st.map fun v => v.category).sum ≤ 8 := by exact Nat.le_of_ble_eq_true rfl) : G Y ad μ pc ls (st) h := r_S (As := []) e v.1 v.2.1 v.2.2.1 hK hst (fun r h1 hQ => by
  obtain ⟨x, rfl, hQ⟩ := hQ
  exact kk x h1 hQ)
theorem r_VZ0 {k ci : Nat} {fs : List (Nat ⊕ Bool)} {Q : Bool → Mem → Prop} (e : dV μ pc μ' npc) (v : vM μ' ci 0) (hs : shTab[k]? = some (.inr (ci, fs))) (hK : Con ad μ' [.ref (ad k)] h (qZ Q)) (kk : ∀ (x : Bool) (h1 : Mem), Q x h1 → G Y ad μ npc ls (.int (bI x) :: st) h1) (hst : (st.map fun v => v.category).sum ≤ 8 := by exact Nat.le_of_ble_eq_true rfl) : G Y ad μ pc ls (.ref (ad k) :: st) h := r_V (As := []) e v.1 v.2.1 v.2.2.2.1 hs v.2.2.1 hK hst (fun r h1 hQ => by
  obtain ⟨x, rfl, hQ⟩ := hQ
  exact kk x h1 hQ)
theorem r_SZ0 {Q : Bool → Mem → Prop} (e : dS μ pc μ' npc) (v : sM μ' 0) (hK : Con ad μ' [] h (qZ Q)) (kk : ∀ (x : Bool) (h1 : Mem), Q x h1 → G Y ad μ npc ls (.int (bI x) :: st) h1) (hst : (st.map fun v => v.category).sum ≤ 8 := by exact Nat.le_of_ble_eq_true rfl) : G Y ad μ pc ls (st) h := r_S (As := []) e v.1 v.2.1 v.2.2.1 hK hst (fun r h1 hQ => by
  obtain ⟨x, rfl, hQ⟩ := hQ
  exact kk x h1 hQ)
theorem r_VL0 {k ci : Nat} {fs : List (Nat ⊕ Bool)} {Q : Int64 → Mem → Prop} (e : dV μ pc μ' npc) (v : vM μ' ci 0) (hs : shTab[k]? = some (.inr (ci, fs))) (hK : Con ad μ' [.ref (ad k)] h (qL Q)) (kk : ∀ (x : Int64) (h1 : Mem), Q x h1 → G Y ad μ npc ls (.long x :: st) h1) (hst : (st.map fun v => v.category).sum ≤ 8 := by exact Nat.le_of_ble_eq_true rfl) : G Y ad μ pc ls (.ref (ad k) :: st) h := r_V (As := []) e v.1 v.2.1 v.2.2.2.1 hs v.2.2.1 hK hst (fun r h1 hQ => by
  obtain ⟨x, rfl, hQ⟩ := hQ
  exact kk x h1 hQ)
theorem r_SL0 {Q : Int64 → Mem → Prop} (e : dS μ pc μ' npc) (v : sM μ' 0) (hK : Con ad μ' [] h (qL Q)) (kk : ∀ (x : Int64) (h1 : Mem), Q x h1 → G Y ad μ npc ls (.long x :: st) h1) (hst : (st.map fun v => v.category).sum ≤ 8 := by exact Nat.le_of_ble_eq_true rfl) : G Y ad μ pc ls (st) h := r_S (As := []) e v.1 v.2.1 v.2.2.1 hK hst (fun r h1 hQ => by
  obtain ⟨x, rfl, hQ⟩ := hQ
  exact kk x h1 hQ)
theorem r_VV0 {k ci : Nat} {fs : List (Nat ⊕ Bool)} {Q : Mem → Prop} (e : dV μ pc μ' npc) (v : vM μ' ci 0) (hs : shTab[k]? = some (.inr (ci, fs))) (hK : Con ad μ' [.ref (ad k)] h (qV Q)) (kk : ∀ (h1 : Mem), Q h1 → G Y ad μ npc ls (st) h1) (hst : (st.map fun v => v.category).sum ≤ 8 := by exact Nat.le_of_ble_eq_true rfl) : G Y ad μ pc ls (.ref (ad k) :: st) h := r_V (As := []) e v.1 v.2.1 v.2.2.2.1 hs v.2.2.1 hK hst (fun r h1 hQ => by
  obtain ⟨rfl, hQ⟩ := hQ
  exact kk h1 hQ)
theorem r_SV0 {Q : Mem → Prop} (e : dS μ pc μ' npc) (v : sM μ' 0) (hK : Con ad μ' [] h (qV Q)) (kk : ∀ (h1 : Mem), Q h1 → G Y ad μ npc ls (st) h1) (hst : (st.map fun v => v.category).sum ≤ 8 := by exact Nat.le_of_ble_eq_true rfl) : G Y ad μ pc ls (st) h := r_S (As := []) e v.1 v.2.1 v.2.2.1 hK hst (fun r h1 hQ => by
  obtain ⟨rfl, hQ⟩ := hQ
  exact kk h1 hQ)
theorem r_VI1 {a0 : Value} {k ci : Nat} {fs : List (Nat ⊕ Bool)} {Q : Int32 → Mem → Prop} (e : dV μ pc μ' npc) (v : vM μ' ci 1) (hs : shTab[k]? = some (.inr (ci, fs))) (hK : Con ad μ' [.ref (ad k), a0] h (qI Q)) (kk : ∀ (x : Int32) (h1 : Mem), Q x h1 → G Y ad μ npc ls (.int x :: st) h1) (hst : (st.map fun v => v.category).sum ≤ 8 := by exact Nat.le_of_ble_eq_true rfl) : G Y ad μ pc ls (a0 :: .ref (ad k) :: st) h := r_V (As := [a0]) e v.1 v.2.1 v.2.2.2.1 hs v.2.2.1 hK hst (fun r h1 hQ => by
  obtain ⟨x, rfl, hQ⟩ := hQ
  exact kk x h1 hQ)
theorem r_SI1 {a0 : Value} {Q : Int32 → Mem → Prop} (e : dS μ pc μ' npc) (v : sM μ' 1) (hK : Con ad μ' [a0] h (qI Q)) (kk : ∀ (x : Int32) (h1 : Mem), Q x h1 → G Y ad μ npc ls (.int x :: st) h1) (hst : (st.map fun v => v.category).sum ≤ 8 := by exact Nat.le_of_ble_eq_true rfl) : G Y ad μ pc ls (a0 :: st) h := r_S (As := [a0]) e v.1 v.2.1 v.2.2.1 hK hst (fun r h1 hQ => by
  obtain ⟨x, rfl, hQ⟩ := hQ
  exact kk x h1 hQ)
theorem r_VZ1 {a0 : Value} {k ci : Nat} {fs : List (Nat ⊕ Bool)} {Q : Bool → Mem → Prop} (e : dV μ pc μ' npc) (v : vM μ' ci 1) (hs : shTab[k]? = some (.inr (ci, fs))) (hK : Con ad μ' [.ref (ad k), a0] h (qZ Q)) (kk : ∀ (x : Bool) (h1 : Mem), Q x h1 → G Y ad μ npc ls (.int (bI x) :: st) h1) (hst : (st.map fun v => v.category).sum ≤ 8 := by exact Nat.le_of_ble_eq_true rfl) : G Y ad μ pc ls (a0 :: .ref (ad k) :: st) h := r_V (As := [a0]) e v.1 v.2.1 v.2.2.2.1 hs v.2.2.1 hK hst (fun r h1 hQ => by
  obtain ⟨x, rfl, hQ⟩ := hQ
  exact kk x h1 hQ)
theorem r_SZ1 {a0 : Value} {Q : Bool → Mem → Prop} (e : dS μ pc μ' npc) (v : sM μ' 1) (hK : Con ad μ' [a0] h (qZ Q)) (kk : ∀ (x : Bool) (h1 : Mem), Q x h1 → G Y ad μ npc ls (.int (bI x) :: st) h1) (hst : (st.map fun v => v.category).sum ≤ 8 := by exact Nat.le_of_ble_eq_true rfl) : G Y ad μ pc ls (a0 :: st) h := r_S (As := [a0]) e v.1 v.2.1 v.2.2.1 hK hst (fun r h1 hQ => by
  obtain ⟨x, rfl, hQ⟩ := hQ
  exact kk x h1 hQ)
theorem r_VL1 {a0 : Value} {k ci : Nat} {fs : List (Nat ⊕ Bool)} {Q : Int64 → Mem → Prop} (e : dV μ pc μ' npc) (v : vM μ' ci 1) (hs : shTab[k]? = some (.inr (ci, fs))) (hK : Con ad μ' [.ref (ad k), a0] h (qL Q)) (kk : ∀ (x : Int64) (h1 : Mem), Q x h1 → G Y ad μ npc ls (.long x :: st) h1) (hst : (st.map fun v => v.category).sum ≤ 8 := by exact Nat.le_of_ble_eq_true rfl) : G Y ad μ pc ls (a0 :: .ref (ad k) :: st) h := r_V (As := [a0]) e v.1 v.2.1 v.2.2.2.1 hs v.2.2.1 hK hst (fun r h1 hQ => by
  obtain ⟨x, rfl, hQ⟩ := hQ
  exact kk x h1 hQ)
theorem r_SL1 {a0 : Value} {Q : Int64 → Mem → Prop} (e : dS μ pc μ' npc) (v : sM μ' 1) (hK : Con ad μ' [a0] h (qL Q)) (kk : ∀ (x : Int64) (h1 : Mem), Q x h1 → G Y ad μ npc ls (.long x :: st) h1) (hst : (st.map fun v => v.category).sum ≤ 8 := by exact Nat.le_of_ble_eq_true rfl) : G Y ad μ pc ls (a0 :: st) h := r_S (As := [a0]) e v.1 v.2.1 v.2.2.1 hK hst (fun r h1 hQ => by
  obtain ⟨x, rfl, hQ⟩ := hQ
  exact kk x h1 hQ)
theorem r_VV1 {a0 : Value} {k ci : Nat} {fs : List (Nat ⊕ Bool)} {Q : Mem → Prop} (e : dV μ pc μ' npc) (v : vM μ' ci 1) (hs : shTab[k]? = some (.inr (ci, fs))) (hK : Con ad μ' [.ref (ad k), a0] h (qV Q)) (kk : ∀ (h1 : Mem), Q h1 → G Y ad μ npc ls (st) h1) (hst : (st.map fun v => v.category).sum ≤ 8 := by exact Nat.le_of_ble_eq_true rfl) : G Y ad μ pc ls (a0 :: .ref (ad k) :: st) h := r_V (As := [a0]) e v.1 v.2.1 v.2.2.2.1 hs v.2.2.1 hK hst (fun r h1 hQ => by
  obtain ⟨rfl, hQ⟩ := hQ
  exact kk h1 hQ)
theorem r_SV1 {a0 : Value} {Q : Mem → Prop} (e : dS μ pc μ' npc) (v : sM μ' 1) (hK : Con ad μ' [a0] h (qV Q)) (kk : ∀ (h1 : Mem), Q h1 → G Y ad μ npc ls (st) h1) (hst : (st.map fun v => v.category).sum ≤ 8 := by exact Nat.le_of_ble_eq_true rfl) : G Y ad μ pc ls (a0 :: st) h := r_S (As := [a0]) e v.1 v.2.1 v.2.2.1 hK hst (fun r h1 hQ => by
  obtain ⟨rfl, hQ⟩ := hQ
  exact kk h1 hQ)
theorem r_VI2 {a0 a1 : Value} {k ci : Nat} {fs : List (Nat ⊕ Bool)} {Q : Int32 → Mem → Prop} (e : dV μ pc μ' npc) (v : vM μ' ci 2) (hs : shTab[k]? = some (.inr (ci, fs))) (hK : Con ad μ' [.ref (ad k), a0, a1] h (qI Q)) (kk : ∀ (x : Int32) (h1 : Mem), Q x h1 → G Y ad μ npc ls (.int x :: st) h1) (hst : (st.map fun v => v.category).sum ≤ 8 := by exact Nat.le_of_ble_eq_true rfl) : G Y ad μ pc ls (a1 :: a0 :: .ref (ad k) :: st) h := r_V (As := [a0, a1]) e v.1 v.2.1 v.2.2.2.1 hs v.2.2.1 hK hst (fun r h1 hQ => by
  obtain ⟨x, rfl, hQ⟩ := hQ
  exact kk x h1 hQ)
theorem r_SI2 {a0 a1 : Value} {Q : Int32 → Mem → Prop} (e : dS μ pc μ' npc) (v : sM μ' 2) (hK : Con ad μ' [a0, a1] h (qI Q)) (kk : ∀ (x : Int32) (h1 : Mem), Q x h1 → G Y ad μ npc ls (.int x :: st) h1) (hst : (st.map fun v => v.category).sum ≤ 8 := by exact Nat.le_of_ble_eq_true rfl) : G Y ad μ pc ls (a1 :: a0 :: st) h := r_S (As := [a0, a1]) e v.1 v.2.1 v.2.2.1 hK hst (fun r h1 hQ => by
  obtain ⟨x, rfl, hQ⟩ := hQ
  exact kk x h1 hQ)
theorem r_VZ2 {a0 a1 : Value} {k ci : Nat} {fs : List (Nat ⊕ Bool)} {Q : Bool → Mem → Prop} (e : dV μ pc μ' npc) (v : vM μ' ci 2) (hs : shTab[k]? = some (.inr (ci, fs))) (hK : Con ad μ' [.ref (ad k), a0, a1] h (qZ Q)) (kk : ∀ (x : Bool) (h1 : Mem), Q x h1 → G Y ad μ npc ls (.int (bI x) :: st) h1) (hst : (st.map fun v => v.category).sum ≤ 8 := by exact Nat.le_of_ble_eq_true rfl) : G Y ad μ pc ls (a1 :: a0 :: .ref (ad k) :: st) h := r_V (As := [a0, a1]) e v.1 v.2.1 v.2.2.2.1 hs v.2.2.1 hK hst (fun r h1 hQ => by
  obtain ⟨x, rfl, hQ⟩ := hQ
  exact kk x h1 hQ)
theorem r_SZ2 {a0 a1 : Value} {Q : Bool → Mem → Prop} (e : dS μ pc μ' npc) (v : sM μ' 2) (hK : Con ad μ' [a0, a1] h (qZ Q)) (kk : ∀ (x : Bool) (h1 : Mem), Q x h1 → G Y ad μ npc ls (.int (bI x) :: st) h1) (hst : (st.map fun v => v.category).sum ≤ 8 := by exact Nat.le_of_ble_eq_true rfl) : G Y ad μ pc ls (a1 :: a0 :: st) h := r_S (As := [a0, a1]) e v.1 v.2.1 v.2.2.1 hK hst (fun r h1 hQ => by
  obtain ⟨x, rfl, hQ⟩ := hQ
  exact kk x h1 hQ)
theorem r_VL2 {a0 a1 : Value} {k ci : Nat} {fs : List (Nat ⊕ Bool)} {Q : Int64 → Mem → Prop} (e : dV μ pc μ' npc) (v : vM μ' ci 2) (hs : shTab[k]? = some (.inr (ci, fs))) (hK : Con ad μ' [.ref (ad k), a0, a1] h (qL Q)) (kk : ∀ (x : Int64) (h1 : Mem), Q x h1 → G Y ad μ npc ls (.long x :: st) h1) (hst : (st.map fun v => v.category).sum ≤ 8 := by exact Nat.le_of_ble_eq_true rfl) : G Y ad μ pc ls (a1 :: a0 :: .ref (ad k) :: st) h := r_V (As := [a0, a1]) e v.1 v.2.1 v.2.2.2.1 hs v.2.2.1 hK hst (fun r h1 hQ => by
  obtain ⟨x, rfl, hQ⟩ := hQ
  exact kk x h1 hQ)
theorem r_SL2 {a0 a1 : Value} {Q : Int64 → Mem → Prop} (e : dS μ pc μ' npc) (v : sM μ' 2) (hK : Con ad μ' [a0, a1] h (qL Q)) (kk : ∀ (x : Int64) (h1 : Mem), Q x h1 → G Y ad μ npc ls (.long x :: st) h1) (hst : (st.map fun v => v.category).sum ≤ 8 := by exact Nat.le_of_ble_eq_true rfl) : G Y ad μ pc ls (a1 :: a0 :: st) h := r_S (As := [a0, a1]) e v.1 v.2.1 v.2.2.1 hK hst (fun r h1 hQ => by
  obtain ⟨x, rfl, hQ⟩ := hQ
  exact kk x h1 hQ)
theorem r_VV2 {a0 a1 : Value} {k ci : Nat} {fs : List (Nat ⊕ Bool)} {Q : Mem → Prop} (e : dV μ pc μ' npc) (v : vM μ' ci 2) (hs : shTab[k]? = some (.inr (ci, fs))) (hK : Con ad μ' [.ref (ad k), a0, a1] h (qV Q)) (kk : ∀ (h1 : Mem), Q h1 → G Y ad μ npc ls (st) h1) (hst : (st.map fun v => v.category).sum ≤ 8 := by exact Nat.le_of_ble_eq_true rfl) : G Y ad μ pc ls (a1 :: a0 :: .ref (ad k) :: st) h := r_V (As := [a0, a1]) e v.1 v.2.1 v.2.2.2.1 hs v.2.2.1 hK hst (fun r h1 hQ => by
  obtain ⟨rfl, hQ⟩ := hQ
  exact kk h1 hQ)
theorem r_SV2 {a0 a1 : Value} {Q : Mem → Prop} (e : dS μ pc μ' npc) (v : sM μ' 2) (hK : Con ad μ' [a0, a1] h (qV Q)) (kk : ∀ (h1 : Mem), Q h1 → G Y ad μ npc ls (st) h1) (hst : (st.map fun v => v.category).sum ≤ 8 := by exact Nat.le_of_ble_eq_true rfl) : G Y ad μ pc ls (a1 :: a0 :: st) h := r_S (As := [a0, a1]) e v.1 v.2.1 v.2.2.1 hK hst (fun r h1 hQ => by
  obtain ⟨rfl, hQ⟩ := hQ
  exact kk h1 hQ)
theorem r_VI3 {a0 a1 a2 : Value} {k ci : Nat} {fs : List (Nat ⊕ Bool)} {Q : Int32 → Mem → Prop} (e : dV μ pc μ' npc) (v : vM μ' ci 3) (hs : shTab[k]? = some (.inr (ci, fs))) (hK : Con ad μ' [.ref (ad k), a0, a1, a2] h (qI Q)) (kk : ∀ (x : Int32) (h1 : Mem), Q x h1 → G Y ad μ npc ls (.int x :: st) h1) (hst : (st.map fun v => v.category).sum ≤ 8 := by exact Nat.le_of_ble_eq_true rfl) : G Y ad μ pc ls (a2 :: a1 :: a0 :: .ref (ad k) :: st) h := r_V (As := [a0, a1, a2]) e v.1 v.2.1 v.2.2.2.1 hs v.2.2.1 hK hst (fun r h1 hQ => by
  obtain ⟨x, rfl, hQ⟩ := hQ
  exact kk x h1 hQ)
theorem r_SI3 {a0 a1 a2 : Value} {Q : Int32 → Mem → Prop} (e : dS μ pc μ' npc) (v : sM μ' 3) (hK : Con ad μ' [a0, a1, a2] h (qI Q)) (kk : ∀ (x : Int32) (h1 : Mem), Q x h1 → G Y ad μ npc ls (.int x :: st) h1) (hst : (st.map fun v => v.category).sum ≤ 8 := by exact Nat.le_of_ble_eq_true rfl) : G Y ad μ pc ls (a2 :: a1 :: a0 :: st) h := r_S (As := [a0, a1, a2]) e v.1 v.2.1 v.2.2.1 hK hst (fun r h1 hQ => by
  obtain ⟨x, rfl, hQ⟩ := hQ
  exact kk x h1 hQ)
theorem r_VZ3 {a0 a1 a2 : Value} {k ci : Nat} {fs : List (Nat ⊕ Bool)} {Q : Bool → Mem → Prop} (e : dV μ pc μ' npc) (v : vM μ' ci 3) (hs : shTab[k]? = some (.inr (ci, fs))) (hK : Con ad μ' [.ref (ad k), a0, a1, a2] h (qZ Q)) (kk : ∀ (x : Bool) (h1 : Mem), Q x h1 → G Y ad μ npc ls (.int (bI x) :: st) h1) (hst : (st.map fun v => v.category).sum ≤ 8 := by exact Nat.le_of_ble_eq_true rfl) : G Y ad μ pc ls (a2 :: a1 :: a0 :: .ref (ad k) :: st) h := r_V (As := [a0, a1, a2]) e v.1 v.2.1 v.2.2.2.1 hs v.2.2.1 hK hst (fun r h1 hQ => by
  obtain ⟨x, rfl, hQ⟩ := hQ
  exact kk x h1 hQ)
theorem r_SZ3 {a0 a1 a2 : Value} {Q : Bool → Mem → Prop} (e : dS μ pc μ' npc) (v : sM μ' 3) (hK : Con ad μ' [a0, a1, a2] h (qZ Q)) (kk : ∀ (x : Bool) (h1 : Mem), Q x h1 → G Y ad μ npc ls (.int (bI x) :: st) h1) (hst : (st.map fun v => v.category).sum ≤ 8 := by exact Nat.le_of_ble_eq_true rfl) : G Y ad μ pc ls (a2 :: a1 :: a0 :: st) h := r_S (As := [a0, a1, a2]) e v.1 v.2.1 v.2.2.1 hK hst (fun r h1 hQ => by
  obtain ⟨x, rfl, hQ⟩ := hQ
  exact kk x h1 hQ)
theorem r_VL3 {a0 a1 a2 : Value} {k ci : Nat} {fs : List (Nat ⊕ Bool)} {Q : Int64 → Mem → Prop} (e : dV μ pc μ' npc) (v : vM μ' ci 3) (hs : shTab[k]? = some (.inr (ci, fs))) (hK : Con ad μ' [.ref (ad k), a0, a1, a2] h (qL Q)) (kk : ∀ (x : Int64) (h1 : Mem), Q x h1 → G Y ad μ npc ls (.long x :: st) h1) (hst : (st.map fun v => v.category).sum ≤ 8 := by exact Nat.le_of_ble_eq_true rfl) : G Y ad μ pc ls (a2 :: a1 :: a0 :: .ref (ad k) :: st) h := r_V (As := [a0, a1, a2]) e v.1 v.2.1 v.2.2.2.1 hs v.2.2.1 hK hst (fun r h1 hQ => by
  obtain ⟨x, rfl, hQ⟩ := hQ
  exact kk x h1 hQ)
theorem r_SL3 {a0 a1 a2 : Value} {Q : Int64 → Mem → Prop} (e : dS μ pc μ' npc) (v : sM μ' 3) (hK : Con ad μ' [a0, a1, a2] h (qL Q)) (kk : ∀ (x : Int64) (h1 : Mem), Q x h1 → G Y ad μ npc ls (.long x :: st) h1) (hst : (st.map fun v => v.category).sum ≤ 8 := by exact Nat.le_of_ble_eq_true rfl) : G Y ad μ pc ls (a2 :: a1 :: a0 :: st) h := r_S (As := [a0, a1, a2]) e v.1 v.2.1 v.2.2.1 hK hst (fun r h1 hQ => by
  obtain ⟨x, rfl, hQ⟩ := hQ
  exact kk x h1 hQ)
theorem r_VV3 {a0 a1 a2 : Value} {k ci : Nat} {fs : List (Nat ⊕ Bool)} {Q : Mem → Prop} (e : dV μ pc μ' npc) (v : vM μ' ci 3) (hs : shTab[k]? = some (.inr (ci, fs))) (hK : Con ad μ' [.ref (ad k), a0, a1, a2] h (qV Q)) (kk : ∀ (h1 : Mem), Q h1 → G Y ad μ npc ls (st) h1) (hst : (st.map fun v => v.category).sum ≤ 8 := by exact Nat.le_of_ble_eq_true rfl) : G Y ad μ pc ls (a2 :: a1 :: a0 :: .ref (ad k) :: st) h := r_V (As := [a0, a1, a2]) e v.1 v.2.1 v.2.2.2.1 hs v.2.2.1 hK hst (fun r h1 hQ => by
  obtain ⟨rfl, hQ⟩ := hQ
  exact kk h1 hQ)
theorem r_SV3 {a0 a1 a2 : Value} {Q : Mem → Prop} (e : dS μ pc μ' npc) (v : sM μ' 3) (hK : Con ad μ' [a0, a1, a2] h (qV Q)) (kk : ∀ (h1 : Mem), Q h1 → G Y ad μ npc ls (st) h1) (hst : (st.map fun v => v.category).sum ≤ 8 := by exact Nat.le_of_ble_eq_true rfl) : G Y ad μ pc ls (a2 :: a1 :: a0 :: st) h := r_S (As := [a0, a1, a2]) e v.1 v.2.1 v.2.2.1 hK hst (fun r h1 hQ => by
  obtain ⟨rfl, hQ⟩ := hQ
  exact kk h1 hQ)
theorem r_VI4 {a0 a1 a2 a3 : Value} {k ci : Nat} {fs : List (Nat ⊕ Bool)} {Q : Int32 → Mem → Prop} (e : dV μ pc μ' npc) (v : vM μ' ci 4) (hs : shTab[k]? = some (.inr (ci, fs))) (hK : Con ad μ' [.ref (ad k), a0, a1, a2, a3] h (qI Q)) (kk : ∀ (x : Int32) (h1 : Mem), Q x h1 → G Y ad μ npc ls (.int x :: st) h1) (hst : (st.map fun v => v.category).sum ≤ 8 := by exact Nat.le_of_ble_eq_true rfl) : G Y ad μ pc ls (a3 :: a2 :: a1 :: a0 :: .ref (ad k) :: st) h := r_V (As := [a0, a1, a2, a3]) e v.1 v.2.1 v.2.2.2.1 hs v.2.2.1 hK hst (fun r h1 hQ => by
  obtain ⟨x, rfl, hQ⟩ := hQ
  exact kk x h1 hQ)
theorem r_SI4 {a0 a1 a2 a3 : Value} {Q : Int32 → Mem → Prop} (e : dS μ pc μ' npc) (v : sM μ' 4) (hK : Con ad μ' [a0, a1, a2, a3] h (qI Q)) (kk : ∀ (x : Int32) (h1 : Mem), Q x h1 → G Y ad μ npc ls (.int x :: st) h1) (hst : (st.map fun v => v.category).sum ≤ 8 := by exact Nat.le_of_ble_eq_true rfl) : G Y ad μ pc ls (a3 :: a2 :: a1 :: a0 :: st) h := r_S (As := [a0, a1, a2, a3]) e v.1 v.2.1 v.2.2.1 hK hst (fun r h1 hQ => by
  obtain ⟨x, rfl, hQ⟩ := hQ
  exact kk x h1 hQ)
theorem r_VZ4 {a0 a1 a2 a3 : Value} {k ci : Nat} {fs : List (Nat ⊕ Bool)} {Q : Bool → Mem → Prop} (e : dV μ pc μ' npc) (v : vM μ' ci 4) (hs : shTab[k]? = some (.inr (ci, fs))) (hK : Con ad μ' [.ref (ad k), a0, a1, a2, a3] h (qZ Q)) (kk : ∀ (x : Bool) (h1 : Mem), Q x h1 → G Y ad μ npc ls (.int (bI x) :: st) h1) (hst : (st.map fun v => v.category).sum ≤ 8 := by exact Nat.le_of_ble_eq_true rfl) : G Y ad μ pc ls (a3 :: a2 :: a1 :: a0 :: .ref (ad k) :: st) h := r_V (As := [a0, a1, a2, a3]) e v.1 v.2.1 v.2.2.2.1 hs v.2.2.1 hK hst (fun r h1 hQ => by
  obtain ⟨x, rfl, hQ⟩ := hQ
  exact kk x h1 hQ)
theorem r_SZ4 {a0 a1 a2 a3 : Value} {Q : Bool → Mem → Prop} (e : dS μ pc μ' npc) (v : sM μ' 4) (hK : Con ad μ' [a0, a1, a2, a3] h (qZ Q)) (kk : ∀ (x : Bool) (h1 : Mem), Q x h1 → G Y ad μ npc ls (.int (bI x) :: st) h1) (hst : (st.map fun v => v.category).sum ≤ 8 := by exact Nat.le_of_ble_eq_true rfl) : G Y ad μ pc ls (a3 :: a2 :: a1 :: a0 :: st) h := r_S (As := [a0, a1, a2, a3]) e v.1 v.2.1 v.2.2.1 hK hst (fun r h1 hQ => by
  obtain ⟨x, rfl, hQ⟩ := hQ
  exact kk x h1 hQ)
theorem r_VL4 {a0 a1 a2 a3 : Value} {k ci : Nat} {fs : List (Nat ⊕ Bool)} {Q : Int64 → Mem → Prop} (e : dV μ pc μ' npc) (v : vM μ' ci 4) (hs : shTab[k]? = some (.inr (ci, fs))) (hK : Con ad μ' [.ref (ad k), a0, a1, a2, a3] h (qL Q)) (kk : ∀ (x : Int64) (h1 : Mem), Q x h1 → G Y ad μ npc ls (.long x :: st) h1) (hst : (st.map fun v => v.category).sum ≤ 8 := by exact Nat.le_of_ble_eq_true rfl) : G Y ad μ pc ls (a3 :: a2 :: a1 :: a0 :: .ref (ad k) :: st) h := r_V (As := [a0, a1, a2, a3]) e v.1 v.2.1 v.2.2.2.1 hs v.2.2.1 hK hst (fun r h1 hQ => by
  obtain ⟨x, rfl, hQ⟩ := hQ
  exact kk x h1 hQ)
theorem r_SL4 {a0 a1 a2 a3 : Value} {Q : Int64 → Mem → Prop} (e : dS μ pc μ' npc) (v : sM μ' 4) (hK : Con ad μ' [a0, a1, a2, a3] h (qL Q)) (kk : ∀ (x : Int64) (h1 : Mem), Q x h1 → G Y ad μ npc ls (.long x :: st) h1) (hst : (st.map fun v => v.category).sum ≤ 8 := by exact Nat.le_of_ble_eq_true rfl) : G Y ad μ pc ls (a3 :: a2 :: a1 :: a0 :: st) h := r_S (As := [a0, a1, a2, a3]) e v.1 v.2.1 v.2.2.1 hK hst (fun r h1 hQ => by
  obtain ⟨x, rfl, hQ⟩ := hQ
  exact kk x h1 hQ)
theorem r_VV4 {a0 a1 a2 a3 : Value} {k ci : Nat} {fs : List (Nat ⊕ Bool)} {Q : Mem → Prop} (e : dV μ pc μ' npc) (v : vM μ' ci 4) (hs : shTab[k]? = some (.inr (ci, fs))) (hK : Con ad μ' [.ref (ad k), a0, a1, a2, a3] h (qV Q)) (kk : ∀ (h1 : Mem), Q h1 → G Y ad μ npc ls (st) h1) (hst : (st.map fun v => v.category).sum ≤ 8 := by exact Nat.le_of_ble_eq_true rfl) : G Y ad μ pc ls (a3 :: a2 :: a1 :: a0 :: .ref (ad k) :: st) h := r_V (As := [a0, a1, a2, a3]) e v.1 v.2.1 v.2.2.2.1 hs v.2.2.1 hK hst (fun r h1 hQ => by
  obtain ⟨rfl, hQ⟩ := hQ
  exact kk h1 hQ)
theorem r_SV4 {a0 a1 a2 a3 : Value} {Q : Mem → Prop} (e : dS μ pc μ' npc) (v : sM μ' 4) (hK : Con ad μ' [a0, a1, a2, a3] h (qV Q)) (kk : ∀ (h1 : Mem), Q h1 → G Y ad μ npc ls (st) h1) (hst : (st.map fun v => v.category).sum ≤ 8 := by exact Nat.le_of_ble_eq_true rfl) : G Y ad μ pc ls (a3 :: a2 :: a1 :: a0 :: st) h := r_S (As := [a0, a1, a2, a3]) e v.1 v.2.1 v.2.2.1 hK hst (fun r h1 hQ => by
  obtain ⟨rfl, hQ⟩ := hQ
  exact kk h1 hQ)
theorem r_VI5 {a0 a1 a2 a3 a4 : Value} {k ci : Nat} {fs : List (Nat ⊕ Bool)} {Q : Int32 → Mem → Prop} (e : dV μ pc μ' npc) (v : vM μ' ci 5) (hs : shTab[k]? = some (.inr (ci, fs))) (hK : Con ad μ' [.ref (ad k), a0, a1, a2, a3, a4] h (qI Q)) (kk : ∀ (x : Int32) (h1 : Mem), Q x h1 → G Y ad μ npc ls (.int x :: st) h1) (hst : (st.map fun v => v.category).sum ≤ 8 := by exact Nat.le_of_ble_eq_true rfl) : G Y ad μ pc ls (a4 :: a3 :: a2 :: a1 :: a0 :: .ref (ad k) :: st) h := r_V (As := [a0, a1, a2, a3, a4]) e v.1 v.2.1 v.2.2.2.1 hs v.2.2.1 hK hst (fun r h1 hQ => by
  obtain ⟨x, rfl, hQ⟩ := hQ
  exact kk x h1 hQ)
theorem r_SI5 {a0 a1 a2 a3 a4 : Value} {Q : Int32 → Mem → Prop} (e : dS μ pc μ' npc) (v : sM μ' 5) (hK : Con ad μ' [a0, a1, a2, a3, a4] h (qI Q)) (kk : ∀ (x : Int32) (h1 : Mem), Q x h1 → G Y ad μ npc ls (.int x :: st) h1) (hst : (st.map fun v => v.category).sum ≤ 8 := by exact Nat.le_of_ble_eq_true rfl) : G Y ad μ pc ls (a4 :: a3 :: a2 :: a1 :: a0 :: st) h := r_S (As := [a0, a1, a2, a3, a4]) e v.1 v.2.1 v.2.2.1 hK hst (fun r h1 hQ => by
  obtain ⟨x, rfl, hQ⟩ := hQ
  exact kk x h1 hQ)
theorem r_VZ5 {a0 a1 a2 a3 a4 : Value} {k ci : Nat} {fs : List (Nat ⊕ Bool)} {Q : Bool → Mem → Prop} (e : dV μ pc μ' npc) (v : vM μ' ci 5) (hs : shTab[k]? = some (.inr (ci, fs))) (hK : Con ad μ' [.ref (ad k), a0, a1, a2, a3, a4] h (qZ Q)) (kk : ∀ (x : Bool) (h1 : Mem), Q x h1 → G Y ad μ npc ls (.int (bI x) :: st) h1) (hst : (st.map fun v => v.category).sum ≤ 8 := by exact Nat.le_of_ble_eq_true rfl) : G Y ad μ pc ls (a4 :: a3 :: a2 :: a1 :: a0 :: .ref (ad k) :: st) h := r_V (As := [a0, a1, a2, a3, a4]) e v.1 v.2.1 v.2.2.2.1 hs v.2.2.1 hK hst (fun r h1 hQ => by
  obtain ⟨x, rfl, hQ⟩ := hQ
  exact kk x h1 hQ)
theorem r_SZ5 {a0 a1 a2 a3 a4 : Value} {Q : Bool → Mem → Prop} (e : dS μ pc μ' npc) (v : sM μ' 5) (hK : Con ad μ' [a0, a1, a2, a3, a4] h (qZ Q)) (kk : ∀ (x : Bool) (h1 : Mem), Q x h1 → G Y ad μ npc ls (.int (bI x) :: st) h1) (hst : (st.map fun v => v.category).sum ≤ 8 := by exact Nat.le_of_ble_eq_true rfl) : G Y ad μ pc ls (a4 :: a3 :: a2 :: a1 :: a0 :: st) h := r_S (As := [a0, a1, a2, a3, a4]) e v.1 v.2.1 v.2.2.1 hK hst (fun r h1 hQ => by
  obtain ⟨x, rfl, hQ⟩ := hQ
  exact kk x h1 hQ)
theorem r_VL5 {a0 a1 a2 a3 a4 : Value} {k ci : Nat} {fs : List (Nat ⊕ Bool)} {Q : Int64 → Mem → Prop} (e : dV μ pc μ' npc) (v : vM μ' ci 5) (hs : shTab[k]? = some (.inr (ci, fs))) (hK : Con ad μ' [.ref (ad k), a0, a1, a2, a3, a4] h (qL Q)) (kk : ∀ (x : Int64) (h1 : Mem), Q x h1 → G Y ad μ npc ls (.long x :: st) h1) (hst : (st.map fun v => v.category).sum ≤ 8 := by exact Nat.le_of_ble_eq_true rfl) : G Y ad μ pc ls (a4 :: a3 :: a2 :: a1 :: a0 :: .ref (ad k) :: st) h := r_V (As := [a0, a1, a2, a3, a4]) e v.1 v.2.1 v.2.2.2.1 hs v.2.2.1 hK hst (fun r h1 hQ => by
  obtain ⟨x, rfl, hQ⟩ := hQ
  exact kk x h1 hQ)
theorem r_SL5 {a0 a1 a2 a3 a4 : Value} {Q : Int64 → Mem → Prop} (e : dS μ pc μ' npc) (v : sM μ' 5) (hK : Con ad μ' [a0, a1, a2, a3, a4] h (qL Q)) (kk : ∀ (x : Int64) (h1 : Mem), Q x h1 → G Y ad μ npc ls (.long x :: st) h1) (hst : (st.map fun v => v.category).sum ≤ 8 := by exact Nat.le_of_ble_eq_true rfl) : G Y ad μ pc ls (a4 :: a3 :: a2 :: a1 :: a0 :: st) h := r_S (As := [a0, a1, a2, a3, a4]) e v.1 v.2.1 v.2.2.1 hK hst (fun r h1 hQ => by
  obtain ⟨x, rfl, hQ⟩ := hQ
  exact kk x h1 hQ)
theorem r_VV5 {a0 a1 a2 a3 a4 : Value} {k ci : Nat} {fs : List (Nat ⊕ Bool)} {Q : Mem → Prop} (e : dV μ pc μ' npc) (v : vM μ' ci 5) (hs : shTab[k]? = some (.inr (ci, fs))) (hK : Con ad μ' [.ref (ad k), a0, a1, a2, a3, a4] h (qV Q)) (kk : ∀ (h1 : Mem), Q h1 → G Y ad μ npc ls (st) h1) (hst : (st.map fun v => v.category).sum ≤ 8 := by exact Nat.le_of_ble_eq_true rfl) : G Y ad μ pc ls (a4 :: a3 :: a2 :: a1 :: a0 :: .ref (ad k) :: st) h := r_V (As := [a0, a1, a2, a3, a4]) e v.1 v.2.1 v.2.2.2.1 hs v.2.2.1 hK hst (fun r h1 hQ => by
  obtain ⟨rfl, hQ⟩ := hQ
  exact kk h1 hQ)
theorem r_SV5 {a0 a1 a2 a3 a4 : Value} {Q : Mem → Prop} (e : dS μ pc μ' npc) (v : sM μ' 5) (hK : Con ad μ' [a0, a1, a2, a3, a4] h (qV Q)) (kk : ∀ (h1 : Mem), Q h1 → G Y ad μ npc ls (st) h1) (hst : (st.map fun v => v.category).sum ≤ 8 := by exact Nat.le_of_ble_eq_true rfl) : G Y ad μ pc ls (a4 :: a3 :: a2 :: a1 :: a0 :: st) h := r_S (As := [a0, a1, a2, a3, a4]) e v.1 v.2.1 v.2.2.1 hK hst (fun r h1 hQ => by
  obtain ⟨rfl, hQ⟩ := hQ
  exact kk h1 hQ)
end CALLS
end
section
theorem wCp : dW (.native arraycopyName) ∧ dW (.static arraycopyName) ∧ dW (.initialized "java/lang/System") := ⟨by unfold dW; decide +kernel, by unfold dW; decide +kernel, by unfold dW; decide +kernel⟩
theorem wMn : dW (.static Lib.Math.min.name) ∧ dW (.initialized "java/lang/Math") ∧ dW (.code Lib.Math.min.name Lib.Math.min.code 2 (some .int)) := ⟨by unfold dW; decide +kernel, by unfold dW; decide +kernel, by unfold dW; decide +kernel⟩
section MISC
variable {Y : Env3} {ad : Nat → Nat} {μ : Mth} {pc npc : Nat} {ls : List (Option Value)} {st : List Value} {h : Mem}
theorem r_cpI {a0 a n0 n1 sp dp n : Nat} {f0 f1 : Nat → Option Nat} (e : dCp μ pc npc) (hs0 : shTab[a0]? = some (.inl (0, n0, f0))) (hs1 : shTab[a]? = some (.inl (0, n1, f1))) (h4 : sp + n ≤ n0) (h5 : dp + n ≤ n1) (kk : G Y ad μ npc ls st (sri h a (va_cpy (h.1 a0) (h.1 a) sp dp n))) (hst : (st.map fun v => v.category).sum ≤ 8 := by exact Nat.le_of_ble_eq_true rfl) : G Y ad μ pc ls (.int (nI n) :: .int (nI dp) :: .ref (ad a) :: .int (nI sp) :: .ref (ad a0) :: st) h := by
  intro C H locs lsc hH hl
  obtain ⟨ix, hd, rfl, hw, hr1, hr2⟩ := e
  have b0 := shLen hs0
  have b1 := shLen hs1
  have e1 : (nI sp).toNatClampNeg = sp := nI_clamp (by omega)
  have e2 : (nI dp).toNatClampNeg = dp := nI_clamp (by omega)
  have e3 : (nI n).toNatClampNeg = n := nI_clamp (by omega)
  have hu : (pic ad Y.2.1.2 h).set a (ad a, .inl (Y.2.1.2 0, n1, .inl (va_cpy (h.1 a0) (h.1 a) sp dp n))) = pic ad Y.2.1.2 (sri h a (va_cpy (h.1 a0) (h.1 a) sp dp n)) := pic_upd hs1 (by show Sum.inl (Y.2.1.2 0, n1, Sum.inl ((sri h a _).1 a)) = _; rw [sri_row]) (fun i hi => ⟨sri_o hi, rfl⟩)
  refine va_copyi C.1 C.2.1 (C.2.2.2.1.trans hl.1.symm) C.2.2.2.2.1 (C.2.2.2.2.2.1 _ (gW hw rfl)) (C.2.2.2.2.2.1 _ (gW wCp.1 rfl)) (C.2.2.2.2.2.1 _ (gW wCp.2.1 rfl)) (C.2.2.2.2.2.1 _ (gW wCp.2.2 rfl)) C.2.2.2.2.2.2.2.1 hH.1 hH.2.1 hH.2.2 a0 a 0 0 (pic_at hs0) (pic_at hs1) rfl rfl rfl (nI_pos (by omega)) (nI_pos (by omega)) (nI_pos (by omega)) (by rw [e1, e3]; exact h4) (by rw [e2, e3]; exact h5) (fun _ _ => rfl) (by rw [C.2.2.2.2.2.2.2.2.2.1]; exact hr1) (by rw [C.2.2.2.2.2.2.2.2.2.2.1]; omega) hd (fun H1 locs1 hP1 hD1 hS1 => ?_)
  rw [e1, e2, e3, hu] at hP1 hD1
  exact kk C H1 locs1 lsc ⟨hP1, hD1, hS1⟩ hl
theorem r_cpL {a0 a n0 n1 sp dp n : Nat} {f0 f1 : Nat → Option Nat} (e : dCp μ pc npc) (hs0 : shTab[a0]? = some (.inl (1, n0, f0))) (hs1 : shTab[a]? = some (.inl (1, n1, f1))) (h4 : sp + n ≤ n0) (h5 : dp + n ≤ n1) (kk : G Y ad μ npc ls st (srl h a (va_cpy (h.2 a0) (h.2 a) sp dp n))) (hst : (st.map fun v => v.category).sum ≤ 8 := by exact Nat.le_of_ble_eq_true rfl) : G Y ad μ pc ls (.int (nI n) :: .int (nI dp) :: .ref (ad a) :: .int (nI sp) :: .ref (ad a0) :: st) h := by
  intro C H locs lsc hH hl
  obtain ⟨ix, hd, rfl, hw, hr1, hr2⟩ := e
  have b0 := shLen hs0
  have b1 := shLen hs1
  have e1 : (nI sp).toNatClampNeg = sp := nI_clamp (by omega)
  have e2 : (nI dp).toNatClampNeg = dp := nI_clamp (by omega)
  have e3 : (nI n).toNatClampNeg = n := nI_clamp (by omega)
  have hu : (pic ad Y.2.1.2 h).set a (ad a, .inl (Y.2.1.2 1, n1, .inr (.inl (va_cpy (h.2 a0) (h.2 a) sp dp n)))) = pic ad Y.2.1.2 (srl h a (va_cpy (h.2 a0) (h.2 a) sp dp n)) := pic_upd hs1 (by show Sum.inl (Y.2.1.2 1, n1, Sum.inr (Sum.inl ((srl h a _).2 a))) = _; rw [srl_row]) (fun i hi => ⟨rfl, srl_o hi⟩)
  refine va_copyl C.1 C.2.1 (C.2.2.2.1.trans hl.1.symm) C.2.2.2.2.1 (C.2.2.2.2.2.1 _ (gW hw rfl)) (C.2.2.2.2.2.1 _ (gW wCp.1 rfl)) (C.2.2.2.2.2.1 _ (gW wCp.2.1 rfl)) (C.2.2.2.2.2.1 _ (gW wCp.2.2 rfl)) C.2.2.2.2.2.2.2.1 hH.1 hH.2.1 hH.2.2 a0 a 1 1 (pic_at hs0) (pic_at hs1) rfl rfl rfl (nI_pos (by omega)) (nI_pos (by omega)) (nI_pos (by omega)) (by rw [e1, e3]; exact h4) (by rw [e2, e3]; exact h5) (fun _ _ => rfl) (by rw [C.2.2.2.2.2.2.2.2.2.1]; exact hr1) (by rw [C.2.2.2.2.2.2.2.2.2.2.1]; omega) hd (fun H1 locs1 hP1 hD1 hS1 => ?_)
  rw [e1, e2, e3, hu] at hP1 hD1
  exact kk C H1 locs1 lsc ⟨hP1, hD1, hS1⟩ hl
theorem r_min {a b : Nat} (e : dMn μ pc npc) (ha : a < 2147483648) (hb : b < 2147483648) (kk : G Y ad μ npc ls (.int (nI (min a b)) :: st) h) (hst : (st.map fun v => v.category).sum ≤ 8 := by exact Nat.le_of_ble_eq_true rfl) : G Y ad μ pc ls (.int (nI b) :: .int (nI a) :: st) h := by
  intro C H locs lsc hH hl
  obtain ⟨ix, hd, rfl, hw, hr1, hr2⟩ := e
  refine va_mmin C.1 C.2.1 (C.2.2.2.1.trans hl.1.symm) C.2.2.2.2.1 (C.2.2.2.2.2.1 _ (gW hw rfl)) (C.2.2.2.2.2.1 _ (gW wMn.1 rfl)) (C.2.2.2.2.2.1 _ (gW wMn.2.1 rfl)) (C.2.2.2.2.2.1 _ (gW wMn.2.2 rfl)) (by rw [C.2.2.2.2.2.2.2.2.2.1]; exact hr1) (by rw [C.2.2.2.2.2.2.2.2.2.2.1]; omega) C.2.2.2.2.2.2.2.2.2.2.2.1 C.2.2.2.2.2.2.2.2.2.2.2.2 hd ?_
  have hm : (if nI b < nI a then nI b else nI a) = nI (min a b) := by
    by_cases q : b < a
    · rw [if_pos ((nI_ltI hb ha).mpr q), Nat.min_eq_right (Nat.le_of_lt q)]
    · rw [if_neg (fun z => q ((nI_ltI hb ha).mp z)), Nat.min_eq_left (Nat.le_of_not_lt q)]
  rw [hm]
  exact kk C H locs lsc hH hl
/-! with the value told -/
theorem r_gI {k ci j : Nat} {fs : List (Nat ⊕ Bool)} {v : Int32} (e : dG μ pc ci j npc) (hs : shTab[k]? = some (.inr (ci, fs))) (hf : fs[j]? = some (.inr false)) (hv : h.1 k j = v) (kk : G Y ad μ npc ls (.int v :: st) h) : G Y ad μ pc ls (.ref (ad k) :: st) h := r_getI e hs hf (by rw [hv]; exact kk)
theorem r_gL {k ci j : Nat} {fs : List (Nat ⊕ Bool)} {v : Int64} (e : dG μ pc ci j npc) (hs : shTab[k]? = some (.inr (ci, fs))) (hf : fs[j]? = some (.inr true)) (hv : h.2 k j = v) (kk : G Y ad μ npc ls (.long v :: st) h) : G Y ad μ pc ls (.ref (ad k) :: st) h := r_getL e hs hf (by rw [hv]; exact kk)
theorem r_xI {a n j : Nat} {f : Nat → Option Nat} {v : Int32} (e : dk μ pc .iaload 1 npc) (hs : shTab[a]? = some (.inl (0, n, f))) (hj : j < n) (hv : h.1 a j = v) (kk : G Y ad μ npc ls (.int v :: st) h) : G Y ad μ pc ls (.int (nI j) :: .ref (ad a) :: st) h := r_iald e hs hj (by rw [hv]; exact kk)
theorem r_xZ {a n j : Nat} {f : Nat → Option Nat} {v : Int32} (e : dk μ pc .baload 1 npc) (hs : shTab[a]? = some (.inl (2, n, f))) (hj : j < n) (hv : h.1 a j = v) (kk : G Y ad μ npc ls (.int v :: st) h) : G Y ad μ pc ls (.int (nI j) :: .ref (ad a) :: st) h := r_zald e hs hj (by rw [hv]; exact kk)
theorem r_xL {a n j : Nat} {f : Nat → Option Nat} {v : Int64} (e : dk μ pc .laload 1 npc) (hs : shTab[a]? = some (.inl (1, n, f))) (hj : j < n) (hv : h.2 a j = v) (kk : G Y ad μ npc ls (.long v :: st) h) : G Y ad μ pc ls (.int (nI j) :: .ref (ad a) :: st) h := r_lald e hs hj (by rw [hv]; exact kk)
/-- another name for a number on the stack -/
theorem r_ti {x v : Int32} (hv : x = v) (k : G Y ad μ pc ls (.int v :: st) h) : G Y ad μ pc ls (.int x :: st) h := by rw [hv]; exact k
theorem r_tl {x v : Int64} (hv : x = v) (k : G Y ad μ pc ls (.long v :: st) h) : G Y ad μ pc ls (.long x :: st) h := by rw [hv]; exact k
end MISC

def IsL (q : Nat) : Prop := shTab[q]? = some (.inr (0, [.inr false, .inr false, .inr false, .inl (q + 1), .inl (q + 2), .inl (q + 3), .inl (q + 4), .inl (q + 5), .inl (q + 6)])) ∧ shTab[q + 1]? = some (shI 60) ∧ shTab[q + 2]? = some (shI 60) ∧ shTab[q + 3]? = some (shJ 60) ∧ shTab[q + 4]? = some (shJ 8) ∧ shTab[q + 5]? = some (shJ 20) ∧ shTab[q + 6]? = some (shJ 20)
theorem isL55 : IsL 55 := ⟨rfl, rfl, rfl, rfl, rfl, rfl, rfl⟩
theorem isL62 : IsL 62 := ⟨rfl, rfl, rfl, rfl, rfl, rfl, rfl⟩
theorem isL70 : IsL 70 := ⟨rfl, rfl, rfl, rfl, rfl, rfl, rfl⟩
theorem isL77 : IsL 77 := ⟨rfl, rfl, rfl, rfl, rfl, rfl, rfl⟩
theorem isL84 : IsL 84 := ⟨rfl, rfl, rfl, rfl, rfl, rfl, rfl⟩
theorem shT : ∀ s, s < 20 → (shTab[7 + s]? = some (shI 16)) := by
  intro s hs
  rcases (by omega : s = 0 ∨ s = 1 ∨ s = 2 ∨ s = 3 ∨ s = 4 ∨ s = 5 ∨ s = 6 ∨ s = 7 ∨ s = 8 ∨ s = 9 ∨ s = 10 ∨ s = 11 ∨ s = 12 ∨ s = 13 ∨ s = 14 ∨ s = 15 ∨ s = 16 ∨ s = 17 ∨ s = 18 ∨ s = 19) with rfl | rfl | rfl | rfl | rfl | rfl | rfl | rfl | rfl | rfl | rfl | rfl | rfl | rfl | rfl | rfl | rfl | rfl | rfl | rfl <;> rfl
theorem shW : ∀ s, s < 20 → (shTab[28 + s]? = some (shI 16)) := by
  intro s hs
  rcases (by omega : s = 0 ∨ s = 1 ∨ s = 2 ∨ s = 3 ∨ s = 4 ∨ s = 5 ∨ s = 6 ∨ s = 7 ∨ s = 8 ∨ s = 9 ∨ s = 10 ∨ s = 11 ∨ s = 12 ∨ s = 13 ∨ s = 14 ∨ s = 15 ∨ s = 16 ∨ s = 17 ∨ s = 18 ∨ s = 19) with rfl | rfl | rfl | rfl | rfl | rfl | rfl | rfl | rfl | rfl | rfl | rfl | rfl | rfl | rfl | rfl | rfl | rfl | rfl | rfl <;> rfl
end
section
section ZR
variable {Y : Env3} {ad : Nat → Nat} {μ : Mth} {pc npc : Nat} {ls : List (Option Value)} {st : List Value} {h : Mem}
theorem r_zF {Q : Bool → Mem → Prop} (hM : IsM Y ad (qZ Q)) (e : dk μ pc .ireturn 1 npc) (hr : μ.2.2.2.1 = some .boolean) (hq : Q false h) : G Y ad μ pc ls [.int (nI 0)] h := r_zret hM e hr hq
theorem r_zT {Q : Bool → Mem → Prop} (hM : IsM Y ad (qZ Q)) (e : dk μ pc .ireturn 1 npc) (hr : μ.2.2.2.1 = some .boolean) (hq : Q true h) : G Y ad μ pc ls [.int (nI 1)] h := r_zret hM e hr hq
end ZR
/-! what a memory holds -/
theorem si_1 (h : Mem) (a i b j : Nat) (x : Int32) : (si h a i x).1 b j = if b = a ∧ j = i then x else h.1 b j := by
  unfold si va_up upd
  by_cases hb : b = a
  · subst hb
    by_cases hj : j = i <;> simp [hj]
  · simp [hb]
theorem sl_2 (h : Mem) (a i b j : Nat) (x : Int64) : (sl h a i x).2 b j = if b = a ∧ j = i then x else h.2 b j := by
  unfold sl va_up vp_updL
  by_cases hb : b = a
  · subst hb
    by_cases hj : j = i <;> simp [hj]
  · simp [hb]
theorem sri_1 (h : Mem) (a b : Nat) (f : Nat → Int32) : (sri h a f).1 b = if b = a then f else h.1 b := rfl
theorem srl_2 (h : Mem) (a b : Nat) (f : Nat → Int64) : (srl h a f).2 b = if b = a then f else h.2 b := rfl
theorem sri_2 (h : Mem) (a : Nat) (f : Nat → Int32) : (sri h a f).2 = h.2 := rfl
theorem srl_1 (h : Mem) (a : Nat) (f : Nat → Int64) : (srl h a f).1 = h.1 := rfl
/-- the two memories are the same but at the cells P -/
def Fr (P : Nat → Prop) (h h' : Mem) : Prop := ∀ a, ¬ P a → h'.1 a = h.1 a ∧ h'.2 a = h.2 a
theorem Fr.rf {P : Nat → Prop} {h : Mem} : Fr P h h := fun _ _ => ⟨rfl, rfl⟩
theorem Fr.tr {P : Nat → Prop} {h h1 h2 : Mem} (a : Fr P h h1) (b : Fr P h1 h2) : Fr P h h2 := fun k hk => ⟨((b k hk).1).trans (a k hk).1, ((b k hk).2).trans (a k hk).2⟩
theorem Fr.mono {P P' : Nat → Prop} {h h' : Mem} (a : Fr P h h') (hp : ∀ k, P k → P' k) : Fr P' h h' := fun k hk => a k (fun q => hk (hp k q))
theorem Fr.si {P : Nat → Prop} {h : Mem} {a i : Nat} {x : Int32} (hp : P a) : Fr P h (si h a i x) := fun k hk => ⟨si_o (fun q => hk (q ▸ hp)), rfl⟩
theorem Fr.sl {P : Nat → Prop} {h : Mem} {a i : Nat} {x : Int64} (hp : P a) : Fr P h (sl h a i x) := fun k hk => ⟨rfl, sl_o (fun q => hk (q ▸ hp))⟩
theorem Fr.sri {P : Nat → Prop} {h : Mem} {a : Nat} {f : Nat → Int32} (hp : P a) : Fr P h (sri h a f) := fun k hk => ⟨sri_o (fun q => hk (q ▸ hp)), rfl⟩
theorem Fr.srl {P : Nat → Prop} {h : Mem} {a : Nat} {f : Nat → Int64} (hp : P a) : Fr P h (srl h a f) := fun k hk => ⟨rfl, srl_o (fun q => hk (q ▸ hp))⟩
/-- an item: state, depth, units -/
abbrev Itm : Type := Nat × Nat × Nat
/-- the cells a, b, c hold the items L from place o on -/
def Items (h : Mem) (a b c o : Nat) (L : List Itm) : Prop := ∀ (i : Nat) (p : Itm), L[i]? = some p → h.1 a (o + i) = nI p.1 ∧ h.1 b (o + i) = nI p.2.1 ∧ h.2 c (o + i) = lN p.2.2
/-- the cell c holds the numbers f, n of them, from place o on -/
def Nums (h : Mem) (c o n : Nat) (f : Nat → Nat) : Prop := ∀ i, i < n → h.2 c (o + i) = lN (f i)
theorem Items.cong {h h' : Mem} {a b c o : Nat} {L : List Itm} (H : Items h a b c o L) (ha : ∀ i, i < L.length → h'.1 a (o + i) = h.1 a (o + i)) (hb : ∀ i, i < L.length → h'.1 b (o + i) = h.1 b (o + i)) (hc : ∀ i, i < L.length → h'.2 c (o + i) = h.2 c (o + i)) : Items h' a b c o L := by
  intro i p hp
  have hi := (List.getElem?_eq_some_iff.mp hp).1
  rw [ha i hi, hb i hi, hc i hi]
  exact H i p hp
theorem Items.at {h : Mem} {a b c o : Nat} {L : List Itm} (H : Items h a b c o L) {i : Nat} (hi : i < L.length) : h.1 a (o + i) = nI L[i].1 ∧ h.1 b (o + i) = nI L[i].2.1 ∧ h.2 c (o + i) = lN L[i].2.2 := H i L[i] (List.getElem?_eq_getElem hi)
theorem Items.push {h h' : Mem} {a b c o : Nat} {L : List Itm} {p : Itm} (H : Items h a b c o L) (ha : ∀ i, i < L.length → h'.1 a (o + i) = h.1 a (o + i)) (hb : ∀ i, i < L.length → h'.1 b (o + i) = h.1 b (o + i)) (hc : ∀ i, i < L.length → h'.2 c (o + i) = h.2 c (o + i)) (h1 : h'.1 a (o + L.length) = nI p.1) (h2 : h'.1 b (o + L.length) = nI p.2.1) (h3 : h'.2 c (o + L.length) = lN p.2.2) : Items h' a b c o (L ++ [p]) := by
  intro i r hr
  by_cases hi : i < L.length
  · rw [List.getElem?_append_left hi] at hr
    exact (H.cong ha hb hc) i r hr
  · rw [List.getElem?_append_right (by omega)] at hr
    have h0 : i - L.length < 1 := (List.getElem?_eq_some_iff.mp hr).1
    have h9 : i = L.length := by omega
    subst h9
    rw [Nat.sub_self] at hr
    cases hr
    exact ⟨h1, h2, h3⟩
theorem Items.erase {h h' : Mem} {a b c o k : Nat} {L : List Itm} (H : Items h a b c o L) (ha : ∀ i, i < L.length - 1 → h'.1 a (o + i) = if i < k then h.1 a (o + i) else h.1 a (o + i + 1)) (hb : ∀ i, i < L.length - 1 → h'.1 b (o + i) = if i < k then h.1 b (o + i) else h.1 b (o + i + 1)) (hc : ∀ i, i < L.length - 1 → h'.2 c (o + i) = if i < k then h.2 c (o + i) else h.2 c (o + i + 1)) (hk : k < L.length) : Items h' a b c o (L.eraseIdx k) := by
  intro i r hr
  have hi := (List.getElem?_eq_some_iff.mp hr).1
  rw [List.length_eraseIdx, if_pos hk] at hi
  rw [List.getElem?_eraseIdx] at hr
  rw [ha i hi, hb i hi, hc i hi]
  by_cases q : i < k
  · rw [if_pos q] at hr
    rw [if_pos q, if_pos q, if_pos q]
    exact H i r hr
  · rw [if_neg q] at hr
    rw [if_neg q, if_neg q, if_neg q]
    exact H (i + 1) r hr
theorem Items.put {h h' : Mem} {a b c o k m : Nat} {L : List Itm} (H : Items h a b c o L) (hk : k < L.length) (ha : ∀ i, i < L.length → h'.1 a (o + i) = h.1 a (o + i)) (hb : ∀ i, i < L.length → h'.1 b (o + i) = h.1 b (o + i)) (hc : ∀ i, i < L.length → i ≠ k → h'.2 c (o + i) = h.2 c (o + i)) (h3 : h'.2 c (o + k) = lN m) : Items h' a b c o (L.set k (L[k].1, L[k].2.1, m)) := by
  intro i r hr
  have hi := (List.getElem?_eq_some_iff.mp hr).1
  rw [List.length_set] at hi
  by_cases q : i = k
  · subst q
    rw [List.getElem?_set_self hk] at hr
    cases hr
    exact ⟨(ha i hk).trans (H.at hk).1, (hb i hk).trans (H.at hk).2.1, h3⟩
  · rw [List.getElem?_set_ne (Ne.symm q)] at hr
    rw [ha i hi, hb i hi, hc i hi q]
    exact H i r hr
/-- the units of a state that are open -/
def opAt (L : List Itm) (s : Nat) : Nat := (L.map (fun p => if p.1 = s then p.2.2 else 0)).sum
theorem opAt_push (L : List Itm) (p : Itm) (s : Nat) : opAt (L ++ [p]) s = opAt L s + if p.1 = s then p.2.2 else 0 := by simp [opAt]
theorem opAt_erase (s : Nat) : ∀ (L : List Itm) (k : Nat) (hk : k < L.length), opAt L s = opAt (L.eraseIdx k) s + if L[k].1 = s then L[k].2.2 else 0
  | [], k, hk => by simp at hk
  | p :: L, 0, hk => by simp [opAt]; omega
  | p :: L, k + 1, hk => by
    have ih := opAt_erase s L k (by simpa using hk)
    simp only [opAt, List.map_cons, List.sum_cons, List.eraseIdx_cons_succ, List.getElem_cons_succ] at ih ⊢
    omega
theorem opAt_set (s m : Nat) : ∀ (L : List Itm) (k : Nat) (hk : k < L.length), opAt (L.set k (L[k].1, L[k].2.1, L[k].2.2 + m)) s = opAt L s + if L[k].1 = s then m else 0
  | [], k, hk => by simp at hk
  | p :: L, 0, hk => by
    simp only [opAt, List.set_cons_zero, List.map_cons, List.sum_cons, List.getElem_cons_zero]
    split <;> omega
  | p :: L, k + 1, hk => by
    have ih := opAt_set s m L k (by simpa using hk)
    simp only [opAt, List.map_cons, List.sum_cons, List.set_cons_succ, List.getElem_cons_succ] at ih ⊢
    omega
theorem nI_split {x : Int32} {n : Nat} (h0 : ¬ x < 0) (h : ¬ nI n ≤ x) (hn : n < 2147483648) : ∃ j : Nat, j < n ∧ x = nI j := by
  obtain ⟨j, h1, h2, -⟩ := pk_mu h0 h (by omega)
  exact ⟨j, h1, h2⟩
theorem nI_neg {x : Int32} (h : x < 0) (j : Nat) (hj : j < 2147483648) : x ≠ nI j := fun q => by rw [q] at h; exact nI_pos (by omega) h
theorem nI_big {x : Int32} {n : Nat} (h : nI n ≤ x) (j : Nat) (hj : j < n) (hn : n < 2147483648) : x ≠ nI j := fun q => by rw [q] at h; exact nI_ge hj (by omega) h
end
section
/-- nothing, or a number -/
def oI (o : Option Nat) : Int32 := match o with
  | none => -1
  | some n => nI n
def bitAt (x : Int32) (i : Nat) : Bool := decide ((x >>> (nI i &&& 31)) &&& nI 1 = nI 1)
theorem bitAt_t {x : Int32} {i : Nat} (h : (x >>> (nI i &&& 31)) &&& nI 1 = nI 1) : bitAt x i = true := decide_eq_true h
theorem bitAt_f {x : Int32} {i : Nat} (h : ¬ (x >>> (nI i &&& 31)) &&& nI 1 = nI 1) : bitAt x i = false := decide_eq_false h
/-- found units of a set -/
def fSum (F : Nat → Nat) (set : Int32) : Nat → Nat
  | 0 => 0
  | i + 1 => fSum F set i + if bitAt set i then F i else 0
/-- the first item of a state and a depth -/
def ixOf (s d : Nat) : List Itm → Nat → Option Nat
  | [], _ => none
  | p :: t, o => if p.1 = s ∧ p.2.1 = d then some o else ixOf s d t (o + 1)
/-- a listing of the class at q -/
def LR (h : Mem) (q : Nat) (L : List Itm) (F R : Nat → Nat) : Prop := h.1 q 2 = nI L.length ∧ Items h (q + 1) (q + 2) (q + 3) 0 L ∧ Nums h (q + 4) 0 8 F ∧ Nums h (q + 5) 0 20 R ∧ Nums h (q + 6) 0 20 (fun s => R s + opAt L s)
def inL (q a : Nat) : Prop := q ≤ a ∧ a < q + 7
/-- what is true of items -/
def IW (L : List Itm) : Prop := L.length ≤ 60 ∧ ∀ p ∈ L, p.1 < 20 ∧ p.2.1 ≤ 40 ∧ p.2.2 ≤ 2 ^ 60
theorem IW.at {L : List Itm} (H : IW L) {i : Nat} (hi : i < L.length) : L[i].1 < 20 ∧ L[i].2.1 ≤ 40 ∧ L[i].2.2 ≤ 2 ^ 60 := H.2 _ (List.getElem_mem hi)
theorem n0 (i : Nat) : 0 + i = i := Nat.zero_add i
section LISTING
variable {ad : Nat → Nat} {h : Mem} {q : Nat} {L : List Itm} {F R : Nat → Nat}
theorem K_X0_exists (hq : IsL q) : Con ad mX0_exists [.ref (ad q)] h (qZ fun b h' => h' = h ∧ (b = true ↔ h.1 q 0 ≠ -1)) := by
  refine Con.mk vX0_exists.1 vX0_exists.2.2.2.2 [some (.ref (ad q))] rfl (Nat.le_of_ble_eq_true rfl) (fun Y hM => ?_)
  refine r_al aX0_exists_0 rfl ?_
  refine r_getI aX0_exists_1 hq.1 rfl ?_
  refine r_ki aX0_exists_4 ?_
  refine r_c_eq aX0_exists_5 (fun c5 => ?_) (fun c5 => ?_)
  · -- to 12
    refine r_ki aX0_exists_12 ?_
    exact r_zF hM aX0_exists_13 rfl ⟨rfl, by simp [c5]⟩
  · -- to 8
    refine r_ki aX0_exists_8 ?_
    refine r_go aX0_exists_9 ?_
    exact r_zT hM aX0_exists_13 rfl ⟨rfl, by simp [c5]⟩
theorem K_X0_hasItem {x : Int32} {n : Nat} (hq : IsL q) (hn : h.1 q 2 = nI n) (hb : n ≤ 60) : Con ad mX0_hasItem [.ref (ad q), .int x] h (qZ fun b h' => h' = h ∧ (b = true ↔ ∃ j, j < n ∧ x = nI j)) := by
  refine Con.mk vX0_hasItem.1 vX0_hasItem.2.2.2.2 [some (.ref (ad q)), some (.int x)] rfl (Nat.le_of_ble_eq_true rfl) (fun Y hM => ?_)
  refine r_il aX0_hasItem_0 rfl ?_
  refine r_z_lt aX0_hasItem_1 (fun c1 => ?_) (fun c1 => ?_)
  · -- to 16
    refine r_ki aX0_hasItem_16 ?_
    exact r_zF hM aX0_hasItem_17 rfl ⟨rfl, ⟨fun z => (by cases z), fun ⟨j, hj, e⟩ => absurd e (nI_neg c1 j (by omega))⟩⟩
  · -- to 4
    refine r_il aX0_hasItem_4 rfl ?_
    refine r_al aX0_hasItem_5 rfl ?_
    refine r_gI aX0_hasItem_6 hq.1 rfl hn ?_
    refine r_c_ge aX0_hasItem_9 (fun c9 => ?_) (fun c9 => ?_)
    · -- to 16
      refine r_ki aX0_hasItem_16 ?_
      exact r_zF hM aX0_hasItem_17 rfl ⟨rfl, ⟨fun z => (by cases z), fun ⟨j, hj, e⟩ => absurd e (nI_big c9 j hj (by omega))⟩⟩
    · -- to 12
      refine r_ki aX0_hasItem_12 ?_
      refine r_go aX0_hasItem_13 ?_
      exact r_zT hM aX0_hasItem_17 rfl ⟨rfl, ⟨fun _ => nI_split c1 c9 (by omega), fun _ => rfl⟩⟩
theorem K_X0_forget (hq : IsL q) : Con ad mX0_forget [.ref (ad q)] h (qV fun h' => h'.1 q 0 = -1 ∧ h'.1 q 1 = nI 0 ∧ h'.1 q 2 = nI 0 ∧ Fr (fun a => a = q) h h') := by
  refine Con.mk vX0_forget.1 vX0_forget.2.2.2.2 [some (.ref (ad q))] rfl (Nat.le_of_ble_eq_true rfl) (fun Y hM => ?_)
  refine r_al aX0_forget_0 rfl ?_
  refine r_ki aX0_forget_1 ?_
  refine r_putI aX0_forget_2 hq.1 rfl rfl ?_
  refine r_al aX0_forget_5 rfl ?_
  refine r_ki aX0_forget_6 ?_
  refine r_putI aX0_forget_7 hq.1 rfl rfl ?_
  refine r_al aX0_forget_10 rfl ?_
  refine r_ki aX0_forget_11 ?_
  refine r_putI aX0_forget_12 hq.1 rfl rfl ?_
  exact r_vret hM aX0_forget_15 rfl ⟨by simp [si_1], by simp [si_1], by simp [si_1], (Fr.si (P := fun a => a = q) rfl).tr ((Fr.si (P := fun a => a = q) rfl).tr (Fr.si (P := fun a => a = q) rfl))⟩
theorem K_X0_addEnded {o m : Nat} (hq : IsL q) (ho : o < 8) (hL : LR h q L F R) : Con ad mX0_addEnded [.ref (ad q), .int (nI o), .long (lN m)] h (qV fun h' => LR h' q L (va_up F o (F o + m)) R ∧ h'.1 q = h.1 q ∧ Fr (inL q) h h') := by
  obtain ⟨hn, hI, hF, hR, hH⟩ := hL
  have hv : h.2 (q + 4) o = lN (F o) := by have := hF o ho; rwa [n0] at this
  refine Con.mk vX0_addEnded.1 vX0_addEnded.2.2.2.2 [some (.ref (ad q)), some (.int (nI o)), some (.long (lN m)), none] rfl (Nat.le_of_ble_eq_true rfl) (fun Y hM => ?_)
  refine r_al aX0_addEnded_0 rfl ?_
  refine r_getR aX0_addEnded_1 hq.1 rfl ?_
  refine r_il aX0_addEnded_4 rfl ?_
  refine r_dup2 aX0_addEnded_5 rfl rfl ?_
  refine r_xL aX0_addEnded_6 hq.2.2.2.2.1 (by omega) hv ?_
  refine r_ll aX0_addEnded_7 rfl ?_
  refine r_laddN aX0_addEnded_8 ?_
  refine r_last aX0_addEnded_9 hq.2.2.2.2.1 (by omega) ?_
  refine r_vret hM aX0_addEnded_10 rfl ?_
  refine ⟨⟨hn, ?_, ?_, ?_, ?_⟩, rfl, Fr.sl ⟨by omega, by omega⟩⟩
  · exact hI.cong (fun _ _ => rfl) (fun _ _ => rfl) (fun i _ => by rw [sl_2]; simp)
  · intro i hi
    rw [sl_2]
    by_cases e : i = o
    · subst e; simp [va_up]
    · have := hF i hi
      rw [n0] at this
      simp [va_up, e, this]
  · intro i hi; rw [sl_2]; simpa using hR i hi
  · intro i hi; rw [sl_2]; simpa using hH i hi
theorem K_X0_addLeft {s m : Nat} (hq : IsL q) (hs : s < 20) (hL : LR h q L F R) : Con ad mX0_addLeft [.ref (ad q), .int (nI s), .long (lN m)] h (qV fun h' => LR h' q L F (va_up R s (R s + m)) ∧ h'.1 q = h.1 q ∧ Fr (inL q) h h') := by
  obtain ⟨hn, hI, hF, hR, hH⟩ := hL
  have hv : h.2 (q + 5) s = lN (R s) := by have := hR s hs; rwa [n0] at this
  have hw : h.2 (q + 6) s = lN (R s + opAt L s) := by have := hH s hs; rwa [n0] at this
  refine Con.mk vX0_addLeft.1 vX0_addLeft.2.2.2.2 [some (.ref (ad q)), some (.int (nI s)), some (.long (lN m)), none] rfl (Nat.le_of_ble_eq_true rfl) (fun Y hM => ?_)
  refine r_al aX0_addLeft_0 rfl ?_
  refine r_getR aX0_addLeft_1 hq.1 rfl ?_
  refine r_il aX0_addLeft_4 rfl ?_
  refine r_dup2 aX0_addLeft_5 rfl rfl ?_
  refine r_xL aX0_addLeft_6 hq.2.2.2.2.2.1 (by omega) hv ?_
  refine r_ll aX0_addLeft_7 rfl ?_
  refine r_laddN aX0_addLeft_8 ?_
  refine r_last aX0_addLeft_9 hq.2.2.2.2.2.1 (by omega) ?_
  refine r_al aX0_addLeft_10 rfl ?_
  refine r_getR aX0_addLeft_11 hq.1 rfl ?_
  refine r_il aX0_addLeft_14 rfl ?_
  refine r_dup2 aX0_addLeft_15 rfl rfl ?_
  refine r_xL aX0_addLeft_16 hq.2.2.2.2.2.2 (by omega) (Eq.trans (by simp [si_1, si_2, sl_1, sl_2, sri_1, sri_2, srl_1, srl_2]) hw) ?_
  refine r_ll aX0_addLeft_17 rfl ?_
  refine r_laddN aX0_addLeft_18 ?_
  refine r_last aX0_addLeft_19 hq.2.2.2.2.2.2 (by omega) ?_
  refine r_vret hM aX0_addLeft_20 rfl ?_
  refine ⟨⟨hn, ?_, ?_, ?_, ?_⟩, rfl, (Fr.sl ⟨by omega, by omega⟩).tr (Fr.sl ⟨by omega, by omega⟩)⟩
  · exact hI.cong (fun _ _ => rfl) (fun _ _ => rfl) (fun i _ => by rw [sl_2, sl_2]; simp)
  · intro i hi; rw [sl_2, sl_2]; simpa using hF i hi
  · intro i hi
    rw [sl_2, sl_2]
    by_cases e : i = s
    · subst e; simp [va_up]
    · have := hR i hi
      rw [n0] at this
      simp [va_up, e, this]
  · intro i hi
    rw [sl_2, sl_2]
    by_cases e : i = s
    · subst e; simp [va_up]; congr 1; omega
    · have := hH i hi
      rw [n0] at this
      simp [va_up, e, this]
theorem K_X0_itemAt {s d : Nat} (hq : IsL q) (hW : IW L) (hn : h.1 q 2 = nI L.length) (hI : Items h (q + 1) (q + 2) (q + 3) 0 L) (hs : s < 20) (hd : d ≤ 40) : Con ad mX0_itemAt [.ref (ad q), .int (nI s), .int (nI d)] h (qI fun x h' => h' = h ∧ x = oI (ixOf s d L 0)) := by
  have hl := hW.1
  refine Con.mk vX0_itemAt.1 vX0_itemAt.2.2.2.2 [some (.ref (ad q)), some (.int (nI s)), some (.int (nI d)), none] rfl (Nat.le_of_ble_eq_true rfl) (fun Y hM => ?_)
  have loop : ∀ (k i : Nat), L.length - i = k → i ≤ L.length → ixOf s d L 0 = ixOf s d (L.drop i) i → G Y ad mX0_itemAt 2 [some (.ref (ad q)), some (.int (nI s)), some (.int (nI d)), some (.int (nI i))] [] h := by
    intro k
    induction k with
    | zero =>
      intro i hk hi hx
      refine r_il aX0_itemAt_2 rfl ?_
      refine r_al aX0_itemAt_3 rfl ?_
      refine r_gI aX0_itemAt_4 hq.1 rfl hn ?_
      refine r_n_ge aX0_itemAt_7 (by omega) (by omega) (fun c7 => ?_) (fun c7 => ?_)
      · -- to 38
        refine r_ki aX0_itemAt_38 ?_
        exact r_iret hM aX0_itemAt_39 rfl ⟨rfl, by rw [hx, List.drop_of_length_le (by omega)]; rfl⟩
      · omega
    | succ k ih =>
      intro i hk hi hx
      have hlt : i < L.length := by omega
      obtain ⟨e1, e2, e3⟩ := hI.at hlt
      rw [n0] at e1 e2 e3
      obtain ⟨b1, b2, b3⟩ := hW.at hlt
      rw [List.drop_eq_getElem_cons hlt] at hx
      refine r_il aX0_itemAt_2 rfl ?_
      refine r_al aX0_itemAt_3 rfl ?_
      refine r_gI aX0_itemAt_4 hq.1 rfl hn ?_
      refine r_n_ge aX0_itemAt_7 (by omega) (by omega) (fun c7 => ?_) (fun c7 => ?_)
      · omega
      · -- to 10
        refine r_al aX0_itemAt_10 rfl ?_
        refine r_getR aX0_itemAt_11 hq.1 rfl ?_
        refine r_il aX0_itemAt_14 rfl ?_
        refine r_xI aX0_itemAt_15 hq.2.1 (by omega) e1 ?_
        refine r_il aX0_itemAt_16 rfl ?_
        refine r_n_ne aX0_itemAt_17 (by omega) (by omega) (fun c17 => ?_) (fun c17 => ?_)
        · -- to 32
          refine r_in3 aX0_itemAt_32 rfl ?_
          refine r_go aX0_itemAt_35 ?_
          exact ih (i + 1) (by omega) (by omega) (by rw [hx, ixOf, if_neg (fun z => c17 z.1)])
        · -- to 20
          refine r_al aX0_itemAt_20 rfl ?_
          refine r_getR aX0_itemAt_21 hq.1 rfl ?_
          refine r_il aX0_itemAt_24 rfl ?_
          refine r_xI aX0_itemAt_25 hq.2.2.1 (by omega) e2 ?_
          refine r_il aX0_itemAt_26 rfl ?_
          refine r_n_ne aX0_itemAt_27 (by omega) (by omega) (fun c27 => ?_) (fun c27 => ?_)
          · -- to 32
            refine r_in3 aX0_itemAt_32 rfl ?_
            refine r_go aX0_itemAt_35 ?_
            exact ih (i + 1) (by omega) (by omega) (by rw [hx, ixOf, if_neg (fun z => c27 z.2)])
          · -- to 30
            refine r_il aX0_itemAt_30 rfl ?_
            exact r_iret hM aX0_itemAt_31 rfl ⟨rfl, by rw [hx, ixOf, if_pos ⟨c17, c27⟩]; rfl⟩
  refine r_ki aX0_itemAt_0 ?_
  refine r_is3 aX0_itemAt_1 rfl ?_
  exact loop _ 0 rfl (by omega) rfl
theorem K_X0_endedIn {x : Int32} (hq : IsL q) (hF : Nums h (q + 4) 0 8 F) : Con ad mX0_endedIn [.ref (ad q), .int x] h (qL fun y h' => h' = h ∧ y = lN (fSum F x 8)) := by
  refine Con.mk vX0_endedIn.1 vX0_endedIn.2.2.2.2 [some (.ref (ad q)), some (.int x), none, none, none] rfl (Nat.le_of_ble_eq_true rfl) (fun Y hM => ?_)
  have loop : ∀ (k i : Nat), 8 - i = k → i ≤ 8 → G Y ad mX0_endedIn 5 [some (.ref (ad q)), some (.int x), some (.long (lN (fSum F x i))), none, some (.int (nI i))] [] h := by
    intro k
    induction k with
    | zero =>
      intro i hk hi
      have h8 : i = 8 := by omega
      subst h8
      refine r_il aX0_endedIn_5 rfl ?_
      refine r_ki aX0_endedIn_7 ?_
      refine r_n_gt aX0_endedIn_9 (by omega) (by omega) (fun c9 => ?_) (fun c9 => ?_)
      · -- to 38
        refine r_ll aX0_endedIn_38 rfl ?_
        exact r_lret hM aX0_endedIn_39 rfl ⟨rfl, rfl⟩
      · omega
    | succ k ih =>
      intro i hk hi
      have hv : h.2 (q + 4) i = lN (F i) := by have := hF i (by omega); rwa [n0] at this
      refine r_il aX0_endedIn_5 rfl ?_
      refine r_ki aX0_endedIn_7 ?_
      refine r_n_gt aX0_endedIn_9 (by omega) (by omega) (fun c9 => ?_) (fun c9 => ?_)
      · omega
      · -- to 12
        refine r_il aX0_endedIn_12 rfl ?_
        refine r_il aX0_endedIn_13 rfl ?_
        refine r_ishr aX0_endedIn_15 ?_
        refine r_ki aX0_endedIn_16 ?_
        refine r_iand aX0_endedIn_17 ?_
        refine r_ki aX0_endedIn_18 ?_
        refine r_c_ne aX0_endedIn_19 (fun c19 => ?_) (fun c19 => ?_)
        · -- to 32
          refine r_in4 aX0_endedIn_32 rfl ?_
          refine r_go aX0_endedIn_35 ?_
          have := ih (i + 1) (by omega) (by omega)
          rw [fSum, bitAt_f c19] at this
          exact this
        · -- to 22
          refine r_ll aX0_endedIn_22 rfl ?_
          refine r_al aX0_endedIn_23 rfl ?_
          refine r_getR aX0_endedIn_24 hq.1 rfl ?_
          refine r_il aX0_endedIn_27 rfl ?_
          refine r_xL aX0_endedIn_29 hq.2.2.2.2.1 (by omega) hv ?_
          refine r_laddN aX0_endedIn_30 ?_
          refine r_ls2 aX0_endedIn_31 rfl ?_
          refine r_in4 aX0_endedIn_32 rfl ?_
          refine r_go aX0_endedIn_35 ?_
          have := ih (i + 1) (by omega) (by omega)
          rw [fSum, bitAt_t c19] at this
          exact this
  refine r_kl aX0_endedIn_0 ?_
  refine r_ls2 aX0_endedIn_1 rfl ?_
  refine r_ki aX0_endedIn_2 ?_
  refine r_is4 aX0_endedIn_3 rfl ?_
  exact loop _ 0 rfl (by omega)
end LISTING
end
section
def gi (L : List Itm) (i : Nat) : Itm := L.getD i (0, 0, 0)
theorem gi_eq {L : List Itm} {i : Nat} (hi : i < L.length) : gi L i = L[i] := by
  unfold gi
  rw [List.getD_eq_getElem?_getD, List.getElem?_eq_getElem hi]
  rfl
theorem Items.gi {h : Mem} {a b c o : Nat} {L : List Itm} (H : Items h a b c o L) {i : Nat} (hi : i < L.length) : h.1 a (o + i) = nI (gi L i).1 ∧ h.1 b (o + i) = nI (gi L i).2.1 ∧ h.2 c (o + i) = lN (gi L i).2.2 := by
  rw [gi_eq hi]; exact H.at hi
theorem IW.gi {L : List Itm} (H : IW L) {i : Nat} (hi : i < L.length) : (gi L i).1 < 20 ∧ (gi L i).2.1 ≤ 40 ∧ (gi L i).2.2 ≤ 2 ^ 60 := by
  rw [gi_eq hi]; exact H.at hi
/-- the next item -/
abbrev bett (kind : Nat) (p b : Itm) : Prop := kind = 2 ∨ (kind = 0 ∧ p.2.1 < b.2.1) ∨ (kind = 1 ∧ b.2.2 < p.2.2)
def nxB (kind : Nat) (L : List Itm) : Nat → Nat
  | 0 => 0
  | i + 1 => if bett kind (gi L (i + 1)) (gi L (nxB kind L i)) then i + 1 else nxB kind L i
def nxt (kind : Nat) (L : List Itm) : Option Nat := if L.length = 0 then none else some (nxB kind L (L.length - 1))
theorem nxB_le (kind : Nat) (L : List Itm) : ∀ i, nxB kind L i ≤ i
  | 0 => Nat.le_refl _
  | i + 1 => by
    have := nxB_le kind L i
    unfold nxB
    split <;> omega
theorem nxB_2 (L : List Itm) : ∀ i, nxB 2 L i = i
  | 0 => rfl
  | i + 1 => by unfold nxB; rw [if_pos (Or.inl rfl)]
theorem nxt_lt {kind : Nat} {L : List Itm} {i : Nat} (h : nxt kind L = some i) : i < L.length := by
  unfold nxt at h
  split at h
  · cases h
  · cases h
    have := nxB_le kind L (L.length - 1)
    omega
section LISTING2
variable {ad : Nat → Nat} {h : Mem} {q : Nat} {L : List Itm} {F R : Nat → Nat}
theorem K_X0_addItem {s d m : Nat} (hq : IsL q) (hl : L.length < 60) (hs : s < 20) (hL : LR h q L F R) : Con ad mX0_addItem [.ref (ad q), .int (nI s), .int (nI d), .long (lN m)] h (qV fun h' => LR h' q (L ++ [(s, d, m)]) F R ∧ h'.1 q 0 = h.1 q 0 ∧ h'.1 q 1 = h.1 q 1 ∧ Fr (inL q) h h') := by
  obtain ⟨hn, hI, hF, hR, hH⟩ := hL
  have hw : h.2 (q + 6) s = lN (R s + opAt L s) := by have := hH s hs; rwa [n0] at this
  refine Con.mk vX0_addItem.1 vX0_addItem.2.2.2.2 [some (.ref (ad q)), some (.int (nI s)), some (.int (nI d)), some (.long (lN m)), none] rfl (Nat.le_of_ble_eq_true rfl) (fun Y hM => ?_)
  refine r_al aX0_addItem_0 rfl ?_
  refine r_gI aX0_addItem_1 hq.1 rfl (Eq.trans (by simp [si_1, si_2, sl_1, sl_2, sri_1, sri_2, srl_1, srl_2]) hn) ?_
  refine r_ki aX0_addItem_4 ?_
  refine r_n_lt aX0_addItem_6 (by omega) (by omega) (fun c6 => ?_) (fun c6 => ?_)
  · -- to 10
    refine r_al aX0_addItem_10 rfl ?_
    refine r_getR aX0_addItem_11 hq.1 rfl ?_
    refine r_al aX0_addItem_14 rfl ?_
    refine r_gI aX0_addItem_15 hq.1 rfl (Eq.trans (by simp [si_1, si_2, sl_1, sl_2, sri_1, sri_2, srl_1, srl_2]) hn) ?_
    refine r_il aX0_addItem_18 rfl ?_
    refine r_iast aX0_addItem_19 hq.2.1 (by omega) ?_
    refine r_al aX0_addItem_20 rfl ?_
    refine r_getR aX0_addItem_21 hq.1 rfl ?_
    refine r_al aX0_addItem_24 rfl ?_
    refine r_gI aX0_addItem_25 hq.1 rfl (Eq.trans (by simp [si_1, si_2, sl_1, sl_2, sri_1, sri_2, srl_1, srl_2]) hn) ?_
    refine r_il aX0_addItem_28 rfl ?_
    refine r_iast aX0_addItem_29 hq.2.2.1 (by omega) ?_
    refine r_al aX0_addItem_30 rfl ?_
    refine r_getR aX0_addItem_31 hq.1 rfl ?_
    refine r_al aX0_addItem_34 rfl ?_
    refine r_gI aX0_addItem_35 hq.1 rfl (Eq.trans (by simp [si_1, si_2, sl_1, sl_2, sri_1, sri_2, srl_1, srl_2]) hn) ?_
    refine r_ll aX0_addItem_38 rfl ?_
    refine r_last aX0_addItem_39 hq.2.2.2.1 (by omega) ?_
    refine r_al aX0_addItem_40 rfl ?_
    refine r_dup aX0_addItem_41 rfl ?_
    refine r_gI aX0_addItem_42 hq.1 rfl (Eq.trans (by simp [si_1, si_2, sl_1, sl_2, sri_1, sri_2, srl_1, srl_2]) hn) ?_
    refine r_ki aX0_addItem_45 ?_
    refine r_iaddN aX0_addItem_46 ?_
    refine r_putI aX0_addItem_47 hq.1 rfl rfl ?_
    refine r_al aX0_addItem_50 rfl ?_
    refine r_getR aX0_addItem_51 hq.1 rfl ?_
    refine r_il aX0_addItem_54 rfl ?_
    refine r_dup2 aX0_addItem_55 rfl rfl ?_
    refine r_xL aX0_addItem_56 hq.2.2.2.2.2.2 (by omega) (Eq.trans (by simp [si_1, si_2, sl_1, sl_2, sri_1, sri_2, srl_1, srl_2]) hw) ?_
    refine r_ll aX0_addItem_57 rfl ?_
    refine r_laddN aX0_addItem_58 ?_
    refine r_last aX0_addItem_59 hq.2.2.2.2.2.2 (by omega) ?_
    refine r_vret hM aX0_addItem_60 rfl ?_
    refine ⟨⟨?_, ?_, ?_, ?_, ?_⟩, by simp [si_1, sl_1], by simp [si_1, sl_1], (Fr.si ⟨by omega, by omega⟩).tr ((Fr.si ⟨by omega, by omega⟩).tr ((Fr.sl ⟨by omega, by omega⟩).tr ((Fr.si ⟨by omega, by omega⟩).tr (Fr.sl ⟨by omega, by omega⟩))))⟩
    · simp [si_1, sl_1]
    · refine hI.push (fun i hi => ?_) (fun i hi => ?_) (fun i hi => ?_) ?_ ?_ ?_
      · simp [si_1, sl_1]; omega
      · simp [si_1, sl_1]; omega
      · simp [si_2, sl_2]; omega
      · simp [si_1, sl_1]
      · simp [si_1, sl_1]
      · simp [si_2, sl_2]
    · intro i hi; simpa [si_2, sl_2] using hF i hi
    · intro i hi; simpa [si_2, sl_2] using hR i hi
    · intro i hi
      dsimp only
      rw [opAt_push]
      by_cases e : i = s
      · subst e
        simp [si_2, sl_2]
        congr 1
        omega
      · have := hH i hi
        rw [n0] at this
        have e2 : ¬ s = i := fun z => e z.symm
        simp [si_2, sl_2, e, e2, this]
  · omega
theorem K_X0_takeOut {i : Nat} (hq : IsL q) (hW : IW L) (hi : i < L.length) (hL : LR h q L F R) : Con ad mX0_takeOut [.ref (ad q), .int (nI i)] h (qV fun h' => LR h' q (L.eraseIdx i) F R ∧ h'.1 q 0 = h.1 q 0 ∧ h'.1 q 1 = h.1 q 1 ∧ Fr (inL q) h h') := by
  obtain ⟨hn, hI, hF, hR, hH⟩ := hL
  have hl := hW.1
  obtain ⟨b1, b2, b3⟩ := hW.at hi
  obtain ⟨e1, e2, e3⟩ := hI.at hi
  rw [n0] at e1 e2 e3
  have hw : h.2 (q + 6) L[i].1 = lN (R L[i].1 + opAt L L[i].1) := by have := hH _ b1; rwa [n0] at this
  have hle := opAt_erase L[i].1 L i hi
  rw [if_pos rfl] at hle
  refine Con.mk vX0_takeOut.1 vX0_takeOut.2.2.2.2 [some (.ref (ad q)), some (.int (nI i)), none] rfl (Nat.le_of_ble_eq_true rfl) (fun Y hM => ?_)
  refine r_al aX0_takeOut_0 rfl ?_
  refine r_getR aX0_takeOut_1 hq.1 rfl ?_
  refine r_al aX0_takeOut_4 rfl ?_
  refine r_getR aX0_takeOut_5 hq.1 rfl ?_
  refine r_il aX0_takeOut_8 rfl ?_
  refine r_xI aX0_takeOut_9 hq.2.1 (by omega) e1 ?_
  refine r_dup2 aX0_takeOut_10 rfl rfl ?_
  refine r_xL aX0_takeOut_11 hq.2.2.2.2.2.2 (by omega) (Eq.trans (by simp [si_1, si_2, sl_1, sl_2, sri_1, sri_2, srl_1, srl_2]) hw) ?_
  refine r_al aX0_takeOut_12 rfl ?_
  refine r_getR aX0_takeOut_13 hq.1 rfl ?_
  refine r_il aX0_takeOut_16 rfl ?_
  refine r_xL aX0_takeOut_17 hq.2.2.2.1 (by omega) e3 ?_
  refine r_lsubN aX0_takeOut_18 (by omega) ?_
  refine r_last aX0_takeOut_19 hq.2.2.2.2.2.2 (by omega) ?_
  refine r_al aX0_takeOut_20 rfl ?_
  refine r_gI aX0_takeOut_21 hq.1 rfl (Eq.trans (by simp [si_1, si_2, sl_1, sl_2, sri_1, sri_2, srl_1, srl_2]) hn) ?_
  refine r_il aX0_takeOut_24 rfl ?_
  refine r_isubN aX0_takeOut_25 (by omega) ?_
  refine r_ki aX0_takeOut_26 ?_
  refine r_isubN aX0_takeOut_27 (by omega) ?_
  refine r_is2 aX0_takeOut_28 rfl ?_
  refine r_al aX0_takeOut_29 rfl ?_
  refine r_getR aX0_takeOut_30 hq.1 rfl ?_
  refine r_il aX0_takeOut_33 rfl ?_
  refine r_ki aX0_takeOut_34 ?_
  refine r_iaddN aX0_takeOut_35 ?_
  refine r_al aX0_takeOut_36 rfl ?_
  refine r_getR aX0_takeOut_37 hq.1 rfl ?_
  refine r_il aX0_takeOut_40 rfl ?_
  refine r_il aX0_takeOut_41 rfl ?_
  refine r_cpI aX0_takeOut_42 hq.2.1 hq.2.1 (by omega) (by omega) ?_
  refine r_al aX0_takeOut_45 rfl ?_
  refine r_getR aX0_takeOut_46 hq.1 rfl ?_
  refine r_il aX0_takeOut_49 rfl ?_
  refine r_ki aX0_takeOut_50 ?_
  refine r_iaddN aX0_takeOut_51 ?_
  refine r_al aX0_takeOut_52 rfl ?_
  refine r_getR aX0_takeOut_53 hq.1 rfl ?_
  refine r_il aX0_takeOut_56 rfl ?_
  refine r_il aX0_takeOut_57 rfl ?_
  refine r_cpI aX0_takeOut_58 hq.2.2.1 hq.2.2.1 (by omega) (by omega) ?_
  refine r_al aX0_takeOut_61 rfl ?_
  refine r_getR aX0_takeOut_62 hq.1 rfl ?_
  refine r_il aX0_takeOut_65 rfl ?_
  refine r_ki aX0_takeOut_66 ?_
  refine r_iaddN aX0_takeOut_67 ?_
  refine r_al aX0_takeOut_68 rfl ?_
  refine r_getR aX0_takeOut_69 hq.1 rfl ?_
  refine r_il aX0_takeOut_72 rfl ?_
  refine r_il aX0_takeOut_73 rfl ?_
  refine r_cpL aX0_takeOut_74 hq.2.2.2.1 hq.2.2.2.1 (by omega) (by omega) ?_
  refine r_al aX0_takeOut_77 rfl ?_
  refine r_dup aX0_takeOut_78 rfl ?_
  refine r_gI aX0_takeOut_79 hq.1 rfl (Eq.trans (by simp [si_1, si_2, sl_1, sl_2, sri_1, sri_2, srl_1, srl_2]) hn) ?_
  refine r_ki aX0_takeOut_82 ?_
  refine r_isubN aX0_takeOut_83 (by omega) ?_
  refine r_putI aX0_takeOut_84 hq.1 rfl rfl ?_
  refine r_vret hM aX0_takeOut_87 rfl ?_
  refine ⟨⟨?_, ?_, ?_, ?_, ?_⟩, by simp [si_1, sl_1, sri_1, srl_1], by simp [si_1, sl_1, sri_1, srl_1], (Fr.sl ⟨by omega, by omega⟩).tr ((Fr.sri ⟨by omega, by omega⟩).tr ((Fr.sri ⟨by omega, by omega⟩).tr ((Fr.srl ⟨by omega, by omega⟩).tr (Fr.si ⟨by omega, by omega⟩))))⟩
  · rw [List.length_eraseIdx, if_pos hi]
    simp [si_1]
  · refine hI.erase (fun j hj => ?_) (fun j hj => ?_) (fun j hj => ?_) hi
    · simp [si_1, sl_1, sri_1, srl_1, va_cpy]
      by_cases c : j < i
      · rw [if_pos c, if_neg (by omega)]
      · rw [if_neg c, if_pos (by omega), show i + 1 + (j - i) = j + 1 by omega]
    · simp [si_1, sl_1, sri_1, srl_1, va_cpy]
      by_cases c : j < i
      · rw [if_pos c, if_neg (by omega)]
      · rw [if_neg c, if_pos (by omega), show i + 1 + (j - i) = j + 1 by omega]
    · simp [si_2, sl_2, sri_2, srl_2, va_cpy]
      by_cases c : j < i
      · rw [if_pos c, if_neg (by omega)]
      · rw [if_neg c, if_pos (by omega), show i + 1 + (j - i) = j + 1 by omega]
  · intro j hj; simpa [si_2, sl_2, sri_2, srl_2] using hF j hj
  · intro j hj; simpa [si_2, sl_2, sri_2, srl_2] using hR j hj
  · intro j hj
    have h9 := opAt_erase j L i hi
    by_cases e : j = L[i].1
    · subst e
      rw [if_pos rfl] at h9
      simp [si_2, sl_2, sri_2, srl_2]
      congr 1
      omega
    · rw [if_neg (fun z => e z.symm)] at h9
      have := hH j hj
      rw [n0] at this
      simp [si_2, sl_2, sri_2, srl_2, e, this]
      congr 1
      omega
theorem K_X0_nextBy {kind : Nat} (hq : IsL q) (hW : IW L) (hn : h.1 q 2 = nI L.length) (hI : Items h (q + 1) (q + 2) (q + 3) 0 L) (hk : kind ≤ 2) : Con ad mX0_nextBy [.ref (ad q), .int (nI kind)] h (qI fun x h' => h' = h ∧ x = oI (nxt kind L)) := by
  have hl := hW.1
  refine Con.mk vX0_nextBy.1 vX0_nextBy.2.2.2.2 [some (.ref (ad q)), some (.int (nI kind)), none, none] rfl (Nat.le_of_ble_eq_true rfl) (fun Y hM => ?_)
  have loop : ∀ (k j : Nat), L.length - (j + 1) = k → j + 1 ≤ L.length → kind ≠ 2 → G Y ad mX0_nextBy 25 [some (.ref (ad q)), some (.int (nI kind)), some (.int (nI (nxB kind L j))), some (.int (nI (j + 1)))] [] h := by
    intro k
    induction k with
    | zero =>
      intro j hk0 hj hk2
      have e : j = L.length - 1 := by omega
      refine r_il aX0_nextBy_25 rfl ?_
      refine r_al aX0_nextBy_26 rfl ?_
      refine r_gI aX0_nextBy_27 hq.1 rfl hn ?_
      refine r_n_ge aX0_nextBy_30 (by omega) (by omega) (fun c30 => ?_) (fun c30 => ?_)
      · -- to 80
        refine r_il aX0_nextBy_80 rfl ?_
        exact r_iret hM aX0_nextBy_81 rfl ⟨rfl, by unfold nxt; rw [if_neg (by omega), ← e]; rfl⟩
      · omega
    | succ k ih =>
      intro j hk0 hj hk2
      have hb := nxB_le kind L j
      obtain ⟨e1, e2, e3⟩ := hI.gi (i := j + 1) (by omega)
      obtain ⟨f1, f2, f3⟩ := hI.gi (i := nxB kind L j) (by omega)
      obtain ⟨b1, b2, b3⟩ := hW.gi (i := j + 1) (by omega)
      obtain ⟨d1, d2, d3⟩ := hW.gi (i := nxB kind L j) (by omega)
      rw [n0] at e1 e2 e3 f1 f2 f3
      have key := ih (j + 1) (by omega) (by omega) hk2
      rw [nxB] at key
      refine r_il aX0_nextBy_25 rfl ?_
      refine r_al aX0_nextBy_26 rfl ?_
      refine r_gI aX0_nextBy_27 hq.1 rfl hn ?_
      refine r_n_ge aX0_nextBy_30 (by omega) (by omega) (fun c30 => ?_) (fun c30 => ?_)
      · omega
      · -- to 33
        refine r_il aX0_nextBy_33 rfl ?_
        refine r_ki aX0_nextBy_34 ?_
        refine r_n_ne aX0_nextBy_35 (by omega) (by omega) (fun c35 => ?_) (fun c35 => ?_)
        · -- to 57
          refine r_al aX0_nextBy_57 rfl ?_
          refine r_getR aX0_nextBy_58 hq.1 rfl ?_
          refine r_il aX0_nextBy_61 rfl ?_
          refine r_xI aX0_nextBy_62 hq.2.2.1 (by omega) e2 ?_
          refine r_al aX0_nextBy_63 rfl ?_
          refine r_getR aX0_nextBy_64 hq.1 rfl ?_
          refine r_il aX0_nextBy_67 rfl ?_
          refine r_xI aX0_nextBy_68 hq.2.2.1 (by omega) f2 ?_
          refine r_n_ge aX0_nextBy_69 (by omega) (by omega) (fun c69 => ?_) (fun c69 => ?_)
          · refine r_in3 aX0_nextBy_74 rfl ?_
            refine r_go aX0_nextBy_77 ?_
            rw [if_neg (by omega)] at key
            exact key
          · refine r_il aX0_nextBy_72 rfl ?_
            refine r_is2 aX0_nextBy_73 rfl ?_
            refine r_in3 aX0_nextBy_74 rfl ?_
            refine r_go aX0_nextBy_77 ?_
            rw [if_pos (by omega)] at key
            exact key
        · -- to 38
          refine r_al aX0_nextBy_38 rfl ?_
          refine r_getR aX0_nextBy_39 hq.1 rfl ?_
          refine r_il aX0_nextBy_42 rfl ?_
          refine r_xL aX0_nextBy_43 hq.2.2.2.1 (by omega) e3 ?_
          refine r_al aX0_nextBy_44 rfl ?_
          refine r_getR aX0_nextBy_45 hq.1 rfl ?_
          refine r_il aX0_nextBy_48 rfl ?_
          refine r_xL aX0_nextBy_49 hq.2.2.2.1 (by omega) f3 ?_
          refine r_m_le aX0_nextBy_50 aX0_nextBy_51 (by omega) (by omega) (fun c50 => ?_) (fun c50 => ?_)
          · refine r_in3 aX0_nextBy_74 rfl ?_
            refine r_go aX0_nextBy_77 ?_
            rw [if_neg (by omega)] at key
            exact key
          · refine r_go aX0_nextBy_54 ?_
            refine r_il aX0_nextBy_72 rfl ?_
            refine r_is2 aX0_nextBy_73 rfl ?_
            refine r_in3 aX0_nextBy_74 rfl ?_
            refine r_go aX0_nextBy_77 ?_
            rw [if_pos (by omega)] at key
            exact key
  refine r_al aX0_nextBy_0 rfl ?_
  refine r_gI aX0_nextBy_1 hq.1 rfl hn ?_
  refine r_z_ne aX0_nextBy_4 (fun c4 => ?_) (fun c4 => ?_)
  have hne : L.length ≠ 0 := fun z => c4 (by rw [z]; rfl)
  · -- to 9
    refine r_il aX0_nextBy_9 rfl ?_
    refine r_ki aX0_nextBy_10 ?_
    refine r_n_ne aX0_nextBy_11 (by omega) (by omega) (fun c11 => ?_) (fun c11 => ?_)
    · -- to 21
      refine r_ki aX0_nextBy_21 ?_
      refine r_is2 aX0_nextBy_22 rfl ?_
      refine r_ki aX0_nextBy_23 ?_
      refine r_is3 aX0_nextBy_24 rfl ?_
      exact loop _ 0 rfl (by omega) c11
    · -- to 14
      refine r_al aX0_nextBy_14 rfl ?_
      refine r_gI aX0_nextBy_15 hq.1 rfl hn ?_
      refine r_ki aX0_nextBy_18 ?_
      refine r_isubN aX0_nextBy_19 (by omega) ?_
      exact r_iret hM aX0_nextBy_20 rfl ⟨rfl, by unfold nxt; rw [if_neg hne, c11, nxB_2]; rfl⟩
  · -- to 7
    refine r_ki aX0_nextBy_7 ?_
    exact r_iret hM aX0_nextBy_8 rfl ⟨rfl, by unfold nxt; rw [if_pos ((nI_eq (a := L.length) (b := 0) (by omega) (by decide)).mp c4)]; rfl⟩
end LISTING2
end
section
section NZ
variable {Y : Env3} {ad : Nat → Nat} {μ : Mth} {pc npc : Nat} {ls : List (Option Value)} {st : List Value} {h : Mem} {a tgt : Nat}
theorem nI_z {a : Nat} (ha : a < 2147483648) : (nI a = 0 ↔ a = 0) ∧ (nI a ≤ 0 ↔ a = 0) ∧ (0 < nI a ↔ 0 < a) := by
  refine ⟨⟨fun q => (nI_eq (a := a) (b := 0) (by omega) (by decide)).mp q, fun q => by rw [q]; rfl⟩, ⟨fun q => ?_, fun q => by rw [q]; decide⟩, ⟨fun q => (nI_ltI (a := 0) (b := a) (by decide) (by omega)).mp q, fun q => (nI_ltI (a := 0) (b := a) (by decide) (by omega)).mpr q⟩⟩
  have := (nI_leI (a := a) (b := 0) (by omega) (by decide)).mp q
  omega
theorem r_nz_eq (e : dZ μ pc .eq npc tgt) (ha : a < 2147483648) (kt : a = 0 → G Y ad μ tgt ls st h) (kf : a ≠ 0 → G Y ad μ npc ls st h) : G Y ad μ pc ls (.int (nI a) :: st) h := r_z_eq e (fun q => kt ((nI_z ha).1.mp q)) (fun q => kf (fun z => q ((nI_z ha).1.mpr z)))
theorem r_nz_ne (e : dZ μ pc .ne npc tgt) (ha : a < 2147483648) (kt : a ≠ 0 → G Y ad μ tgt ls st h) (kf : a = 0 → G Y ad μ npc ls st h) : G Y ad μ pc ls (.int (nI a) :: st) h := r_z_ne e (fun q => kt (fun z => q ((nI_z ha).1.mpr z))) (fun q => kf ((nI_z ha).1.mp q))
theorem r_nz_le (e : dZ μ pc .le npc tgt) (ha : a < 2147483648) (kt : a = 0 → G Y ad μ tgt ls st h) (kf : a ≠ 0 → G Y ad μ npc ls st h) : G Y ad μ pc ls (.int (nI a) :: st) h := r_z_le e (fun q => kt ((nI_z ha).2.1.mp q)) (fun q => kf (fun z => q ((nI_z ha).2.1.mpr z)))
theorem r_nz_gt (e : dZ μ pc .gt npc tgt) (ha : a < 2147483648) (kt : 0 < a → G Y ad μ tgt ls st h) (kf : a = 0 → G Y ad μ npc ls st h) : G Y ad μ pc ls (.int (nI a) :: st) h := r_z_gt e (fun q => kt ((nI_z ha).2.2.mp q)) (fun q => kf (by have : ¬ 0 < a := fun z => q ((nI_z ha).2.2.mpr z); omega))
theorem r_nz_lt (e : dZ μ pc .lt npc tgt) (ha : a < 2147483648) (kt : False → G Y ad μ tgt ls st h) (kf : True → G Y ad μ npc ls st h) : G Y ad μ pc ls (.int (nI a) :: st) h := r_z_lt e (fun q => absurd q (nI_pos (by omega))) (fun _ => kf trivial)
theorem r_nz_ge (e : dZ μ pc .ge npc tgt) (ha : a < 2147483648) (kt : True → G Y ad μ tgt ls st h) (kf : False → G Y ad μ npc ls st h) : G Y ad μ pc ls (.int (nI a) :: st) h := r_z_ge e (fun _ => kt trivial) (fun q => absurd (nI_pos' (by omega)) q)
end NZ
theorem oI_none {o : Option Nat} (h : oI o = -1) (hb : ∀ n, o = some n → n < 2147483648) : o = none := by
  cases o with
  | none => rfl
  | some n =>
    exfalso
    have h1 : nI n = -1 := h
    have h2 := nI_pos (n := n) (hb n rfl)
    rw [h1] at h2
    exact h2 (by decide)
theorem oI_some {o : Option Nat} (h : ¬ oI o = -1) : ∃ n, o = some n := by
  cases o with
  | none => exact absurd rfl h
  | some n => exact ⟨n, rfl⟩
/-! the walk: how many states, their outcomes, their arrows (target, sixteenths), their laws -/
abbrev Wk : Type := Nat × (Nat → Option Nat) × (Nat → List (Nat × Nat)) × (Nat → Option Nat)
def tot (l : List (Nat × Nat)) : Nat := (l.map (fun p => p.2)).sum
def wt (t : Nat) : List (Nat × Nat) → Nat
  | [] => 0
  | p :: r => if p.1 = t then p.2 else wt t r
def aIx (t : Nat) : List (Nat × Nat) → Nat → Option Nat
  | [], _ => none
  | p :: r, o => if p.1 = t then some o else aIx t r (o + 1)
/-- arrows in order -/
def AW (n : Nat) (l : List (Nat × Nat)) : Prop := (∀ p ∈ l, p.1 < n ∧ 1 ≤ p.2) ∧ tot l ≤ 16
theorem AW.len {n : Nat} : ∀ {l : List (Nat × Nat)}, AW n l → l.length ≤ tot l
  | [], _ => Nat.zero_le _
  | p :: r, h => by
    have h1 : AW n r := ⟨fun x hx => h.1 x (List.mem_cons_of_mem _ hx), by have := h.2; simp [tot] at this ⊢; omega⟩
    have h2 := h1.len
    have h3 := (h.1 p List.mem_cons_self).2
    simp [tot] at h2 ⊢
    omega
theorem AW.wt_le {n : Nat} (t : Nat) : ∀ {l : List (Nat × Nat)}, AW n l → wt t l ≤ tot l
  | [], _ => Nat.zero_le _
  | p :: r, h => by
    have h1 : AW n r := ⟨fun x hx => h.1 x (List.mem_cons_of_mem _ hx), by have := h.2; simp [tot] at this ⊢; omega⟩
    have h2 := h1.wt_le t
    simp [tot, wt] at h2 ⊢
    split <;> omega
theorem aIx_wt (t : Nat) : ∀ (l : List (Nat × Nat)) (o i : Nat), aIx t l o = some i → o ≤ i ∧ i < o + l.length ∧ l[i - o]? = some (t, wt t l)
  | [], o, i, h => by simp [aIx] at h
  | p :: r, o, i, h => by
    unfold aIx at h
    by_cases e : p.1 = t
    · rw [if_pos e] at h
      cases h
      refine ⟨Nat.le_refl _, by simp, ?_⟩
      rw [Nat.sub_self, wt, if_pos e, ← e]
      rfl
    · rw [if_neg e] at h
      obtain ⟨h1, h2, h3⟩ := aIx_wt t r (o + 1) i h
      refine ⟨by omega, by simp; omega, ?_⟩
      rw [wt, if_neg e, show i - o = (i - (o + 1)) + 1 by omega, List.getElem?_cons_succ]
      exact h3
theorem aIx_none (t : Nat) : ∀ (l : List (Nat × Nat)) (o : Nat), aIx t l o = none → wt t l = 0 ∧ ∀ p ∈ l, p.1 ≠ t
  | [], o, _ => ⟨rfl, fun p hp => by simp at hp⟩
  | p :: r, o, h => by
    unfold aIx at h
    by_cases e : p.1 = t
    · rw [if_pos e] at h
      cases h
    · rw [if_neg e] at h
      obtain ⟨h1, h2⟩ := aIx_none t r (o + 1) h
      refine ⟨by rw [wt, if_neg e]; exact h1, fun x hx => ?_⟩
      rcases List.mem_cons.mp hx with rfl | hx
      · exact e
      · exact h2 x hx
/-- the class's walk -/
def WR (h : Mem) (w : Wk) : Prop := h.1 1 0 = nI w.1 ∧ (∀ s, s < w.1 → h.1 2 s = oI (w.2.1 s)) ∧ (∀ s, s < w.1 → h.1 3 s = oI (w.2.2.2 s)) ∧ (∀ s, s < 20 → h.1 4 s = nI (tot (w.2.2.1 s))) ∧ (∀ s, s < 20 → h.1 5 s = nI (w.2.2.1 s).length) ∧ (∀ s, s < 20 → ∀ (i : Nat) (p : Nat × Nat), (w.2.2.1 s)[i]? = some p → h.1 (7 + s) i = nI p.1 ∧ h.1 (28 + s) i = nI p.2) ∧ (∀ s, s < 20 → ∀ i, (w.2.2.1 s).length ≤ i → i < 16 → h.1 (28 + s) i = nI 0)
def LawOk (w : Wk) (s t : Nat) : Prop := if t = s then tot (w.2.2.1 s) = 16 ∧ 0 < wt s (w.2.2.1 s) ∧ wt s (w.2.2.1 s) < 16 else tot (w.2.2.1 s) = 16 ∧ tot (w.2.2.1 t) = 16 ∧ 0 < wt t (w.2.2.1 s) ∧ 0 < wt s (w.2.2.1 t) ∧ wt t (w.2.2.1 s) * wt s (w.2.2.1 t) < 256 ∧ wt s (w.2.2.1 s) = 0 ∧ wt t (w.2.2.1 t) = 0
def WW (w : Wk) : Prop := w.1 ≤ 20 ∧ (∀ s, w.1 ≤ s → w.2.2.1 s = []) ∧ (∀ s o, w.2.1 s = some o → o < 8 ∧ w.2.2.1 s = []) ∧ (∀ s, AW w.1 (w.2.2.1 s)) ∧ (∀ s t, s < w.1 → w.2.2.2 s = some t → t < w.1 ∧ LawOk w s t) ∧ (∀ s, ((w.2.2.1 s).map (fun p => p.1)).Nodup)
theorem WW.n {w : Wk} (H : WW w) : w.1 ≤ 20 := H.1
theorem WW.len {w : Wk} (H : WW w) (s : Nat) : (w.2.2.1 s).length ≤ 16 := Nat.le_trans (H.2.2.2.1 s).len (H.2.2.2.1 s).2
theorem WW.wt {w : Wk} (H : WW w) (s t : Nat) : wt t (w.2.2.1 s) ≤ 16 := Nat.le_trans ((H.2.2.2.1 s).wt_le t) (H.2.2.2.1 s).2
theorem WW.tot {w : Wk} (H : WW w) (s : Nat) : tot (w.2.2.1 s) ≤ 16 := (H.2.2.2.1 s).2
section WALK
variable {ad : Nat → Nat} {h : Mem} {w : Wk}
theorem K_X2_has {x : Int32} (hW : WW w) (hR : WR h w) : Con ad mX2_has [.ref (ad 1), .int x] h (qZ fun b h' => h' = h ∧ (b = true ↔ ∃ j, j < w.1 ∧ x = nI j)) := by
  have hn := hR.1
  have hb := hW.n
  refine Con.mk vX2_has.1 vX2_has.2.2.2.2 [some (.ref (ad 1)), some (.int x)] rfl (Nat.le_of_ble_eq_true rfl) (fun Y hM => ?_)
  refine r_il aX2_has_0 rfl ?_
  refine r_z_lt aX2_has_1 (fun c1 => ?_) (fun c1 => ?_)
  · -- to 16
    refine r_ki aX2_has_16 ?_
    exact r_zF hM aX2_has_17 rfl ⟨rfl, ⟨fun z => (by cases z), fun ⟨j, hj, e⟩ => absurd e (nI_neg c1 j (by omega))⟩⟩
  · -- to 4
    refine r_il aX2_has_4 rfl ?_
    refine r_al aX2_has_5 rfl ?_
    refine r_gI aX2_has_6 rfl rfl hn ?_
    refine r_c_ge aX2_has_9 (fun c9 => ?_) (fun c9 => ?_)
    · -- to 16
      refine r_ki aX2_has_16 ?_
      exact r_zF hM aX2_has_17 rfl ⟨rfl, ⟨fun z => (by cases z), fun ⟨j, hj, e⟩ => absurd e (nI_big c9 j hj (by omega))⟩⟩
    · -- to 12
      refine r_ki aX2_has_12 ?_
      refine r_go aX2_has_13 ?_
      exact r_zT hM aX2_has_17 rfl ⟨rfl, ⟨fun _ => nI_split c1 c9 (by omega), fun _ => rfl⟩⟩
theorem K_X2_goesOn {x : Int32} (hW : WW w) (hR : WR h w) : Con ad mX2_goesOn [.ref (ad 1), .int x] h (qZ fun b h' => h' = h ∧ (b = true ↔ ∃ j, j < w.1 ∧ x = nI j ∧ w.2.1 j = none)) := by
  have hb := hW.n
  refine Con.mk vX2_goesOn.1 vX2_goesOn.2.2.2.2 [some (.ref (ad 1)), some (.int x)] rfl (Nat.le_of_ble_eq_true rfl) (fun Y hM => ?_)
  refine r_al aX2_goesOn_0 rfl ?_
  refine r_il aX2_goesOn_1 rfl ?_
  refine r_VZ1 aX2_goesOn_2 vX2_has rfl (K_X2_has hW hR) (fun x2 h2 Q2 => ?_)
  rw [Q2.1]
  refine r_b_eq aX2_goesOn_5 (fun c5 => ?_) (fun c5 => ?_)
  · -- to 22
    refine r_ki aX2_goesOn_22 ?_
    exact r_zF hM aX2_goesOn_23 rfl ⟨rfl, ⟨fun z => (by cases z), fun ⟨j, hj, e, _⟩ => (by have := Q2.2.mpr ⟨j, hj, e⟩; rw [c5] at this; cases this)⟩⟩
  · -- to 8
    obtain ⟨j, hj, rfl⟩ := Q2.2.mp c5
    have e1 := hR.2.1 j hj
    have inj : ∀ i, i < w.1 → nI j = nI i → i = j := fun i hi e => ((nI_eq (by omega) (by omega)).mp e).symm
    refine r_al aX2_goesOn_8 rfl ?_
    refine r_getR aX2_goesOn_9 rfl rfl ?_
    refine r_il aX2_goesOn_12 rfl ?_
    refine r_xI aX2_goesOn_13 rfl (by omega) e1 ?_
    refine r_ki aX2_goesOn_14 ?_
    refine r_c_ne aX2_goesOn_15 (fun c15 => ?_) (fun c15 => ?_)
    · refine r_ki aX2_goesOn_22 ?_
      exact r_zF hM aX2_goesOn_23 rfl ⟨rfl, ⟨fun z => (by cases z), fun ⟨i, hi, e, e2⟩ => (by rw [inj i hi e] at e2; rw [e2] at c15; exact absurd rfl c15)⟩⟩
    · refine r_ki aX2_goesOn_18 ?_
      refine r_go aX2_goesOn_19 ?_
      exact r_zT hM aX2_goesOn_23 rfl ⟨rfl, ⟨fun _ => ⟨j, hj, rfl, oI_none c15 (fun o ho => by have := (hW.2.2.1 j o ho).1; omega)⟩, fun _ => rfl⟩⟩
theorem K_X2_arrowTo {s t : Nat} (hW : WW w) (hR : WR h w) (hs : s < 20) (ht : t < 20) : Con ad mX2_arrowTo [.ref (ad 1), .int (nI s), .int (nI t)] h (qI fun x h' => h' = h ∧ x = oI (aIx t (w.2.2.1 s) 0)) := by
  have hl := hW.len s
  have hn := hR.2.2.2.2.1 s hs
  generalize hA : w.2.2.1 s = A at hl hn ⊢
  refine Con.mk vX2_arrowTo.1 vX2_arrowTo.2.2.2.2 [some (.ref (ad 1)), some (.int (nI s)), some (.int (nI t)), none] rfl (Nat.le_of_ble_eq_true rfl) (fun Y hM => ?_)
  have loop : ∀ (k i : Nat), A.length - i = k → i ≤ A.length → aIx t A 0 = aIx t (A.drop i) i → G Y ad mX2_arrowTo 2 [some (.ref (ad 1)), some (.int (nI s)), some (.int (nI t)), some (.int (nI i))] [] h := by
    intro k
    induction k with
    | zero =>
      intro i hk hi hx
      refine r_il aX2_arrowTo_2 rfl ?_
      refine r_al aX2_arrowTo_3 rfl ?_
      refine r_getR aX2_arrowTo_4 rfl rfl ?_
      refine r_il aX2_arrowTo_7 rfl ?_
      refine r_xI aX2_arrowTo_8 rfl (by omega) hn ?_
      refine r_n_ge aX2_arrowTo_9 (by omega) (by omega) (fun c9 => ?_) (fun c9 => ?_)
      · -- to 32
        refine r_ki aX2_arrowTo_32 ?_
        exact r_iret hM aX2_arrowTo_33 rfl ⟨rfl, by rw [hx, List.drop_of_length_le (by omega)]; rfl⟩
      · omega
    | succ k ih =>
      intro i hk hi hx
      have hlt : i < A.length := by omega
      obtain ⟨e1, e2⟩ := hR.2.2.2.2.2.1 s hs i A[i] (by rw [hA]; exact List.getElem?_eq_getElem hlt)
      have b1 : A[i].1 < w.1 := ((hW.2.2.2.1 s).1 A[i] (by rw [hA]; exact List.getElem_mem hlt)).1
      have hb := hW.n
      rw [List.drop_eq_getElem_cons hlt] at hx
      refine r_il aX2_arrowTo_2 rfl ?_
      refine r_al aX2_arrowTo_3 rfl ?_
      refine r_getR aX2_arrowTo_4 rfl rfl ?_
      refine r_il aX2_arrowTo_7 rfl ?_
      refine r_xI aX2_arrowTo_8 rfl (by omega) hn ?_
      refine r_n_ge aX2_arrowTo_9 (by omega) (by omega) (fun c9 => ?_) (fun c9 => ?_)
      · omega
      · -- to 12
        refine r_al aX2_arrowTo_12 rfl ?_
        refine r_getR aX2_arrowTo_13 rfl rfl ?_
        refine r_il aX2_arrowTo_16 rfl ?_
        refine r_aaldI aX2_arrowTo_17 rfl hs (if_pos hs) ?_
        refine r_il aX2_arrowTo_18 rfl ?_
        refine r_xI aX2_arrowTo_19 (shT _ hs) (by omega) e1 ?_
        refine r_il aX2_arrowTo_20 rfl ?_
        refine r_n_ne aX2_arrowTo_21 (by omega) (by omega) (fun c21 => ?_) (fun c21 => ?_)
        · -- to 26
          refine r_in3 aX2_arrowTo_26 rfl ?_
          refine r_go aX2_arrowTo_29 ?_
          exact ih (i + 1) (by omega) (by omega) (by rw [hx, aIx, if_neg c21])
        · -- to 24
          refine r_il aX2_arrowTo_24 rfl ?_
          exact r_iret hM aX2_arrowTo_25 rfl ⟨rfl, by rw [hx, aIx, if_pos c21]; rfl⟩
  refine r_ki aX2_arrowTo_0 ?_
  refine r_is3 aX2_arrowTo_1 rfl ?_
  exact loop _ 0 rfl (by omega) rfl
theorem K_X2_sixteenthsTo {s t : Nat} (hW : WW w) (hR : WR h w) (hs : s < 20) (ht : t < 20) : Con ad mX2_sixteenthsTo [.ref (ad 1), .int (nI s), .int (nI t)] h (qI fun x h' => h' = h ∧ x = nI (wt t (w.2.2.1 s))) := by
  have hl := hW.len s
  refine Con.mk vX2_sixteenthsTo.1 vX2_sixteenthsTo.2.2.2.2 [some (.ref (ad 1)), some (.int (nI s)), some (.int (nI t)), none] rfl (Nat.le_of_ble_eq_true rfl) (fun Y hM => ?_)
  refine r_al aX2_sixteenthsTo_0 rfl ?_
  refine r_il aX2_sixteenthsTo_1 rfl ?_
  refine r_il aX2_sixteenthsTo_2 rfl ?_
  refine r_VI2 aX2_sixteenthsTo_3 vX2_arrowTo rfl (K_X2_arrowTo hW hR hs ht) (fun x3 h3 Q3 => ?_)
  rw [Q3.1, Q3.2]
  refine r_is3 aX2_sixteenthsTo_6 rfl ?_
  refine r_il aX2_sixteenthsTo_7 rfl ?_
  refine r_ki aX2_sixteenthsTo_8 ?_
  refine r_c_ne aX2_sixteenthsTo_9 (fun c9 => ?_) (fun c9 => ?_)
  · -- to 16
    obtain ⟨i, hi⟩ := oI_some c9
    obtain ⟨-, h1, h2⟩ := aIx_wt t _ 0 i hi
    rw [hi]
    have e2 := (hR.2.2.2.2.2.1 s hs i _ h2).2
    refine r_al aX2_sixteenthsTo_16 rfl ?_
    refine r_getR aX2_sixteenthsTo_17 rfl rfl ?_
    refine r_il aX2_sixteenthsTo_20 rfl ?_
    refine r_aaldI aX2_sixteenthsTo_21 rfl hs (if_pos hs) ?_
    refine r_il aX2_sixteenthsTo_22 (x := nI i) rfl ?_
    refine r_xI aX2_sixteenthsTo_23 (shW _ hs) (by omega) e2 ?_
    exact r_iret hM aX2_sixteenthsTo_24 rfl ⟨rfl, rfl⟩
  · -- to 12
    refine r_ki aX2_sixteenthsTo_12 ?_
    refine r_go aX2_sixteenthsTo_13 ?_
    exact r_iret hM aX2_sixteenthsTo_24 rfl ⟨rfl, by rw [(aIx_none t _ 0 (oI_none c9 (fun n hn => by obtain ⟨-, h1, -⟩ := aIx_wt t _ 0 n hn; omega))).1]⟩
theorem K_X2_isWhole {s : Nat} (hW : WW w) (hR : WR h w) (hs : s < 20) : Con ad mX2_isWhole [.ref (ad 1), .int (nI s)] h (qZ fun b h' => h' = h ∧ b = decide (tot (w.2.2.1 s) = 16)) := by
  have hn := hR.2.2.2.1 s hs
  have hb := hW.tot s
  refine Con.mk vX2_isWhole.1 vX2_isWhole.2.2.2.2 [some (.ref (ad 1)), some (.int (nI s))] rfl (Nat.le_of_ble_eq_true rfl) (fun Y hM => ?_)
  refine r_al aX2_isWhole_0 rfl ?_
  refine r_getR aX2_isWhole_1 rfl rfl ?_
  refine r_il aX2_isWhole_4 rfl ?_
  refine r_xI aX2_isWhole_5 rfl (by omega) hn ?_
  refine r_ki aX2_isWhole_6 ?_
  refine r_n_ne aX2_isWhole_8 (by omega) (by omega) (fun c8 => ?_) (fun c8 => ?_)
  · -- to 15
    refine r_ki aX2_isWhole_15 ?_
    exact r_zF hM aX2_isWhole_16 rfl ⟨rfl, (decide_eq_false c8).symm⟩
  · -- to 11
    refine r_ki aX2_isWhole_11 ?_
    refine r_go aX2_isWhole_12 ?_
    exact r_zT hM aX2_isWhole_16 rfl ⟨rfl, (decide_eq_true c8).symm⟩
theorem K_X2_isLoop {s : Nat} (hW : WW w) (hR : WR h w) (hs : s < 20) : Con ad mX2_isLoop [.ref (ad 1), .int (nI s)] h (qZ fun b h' => h' = h ∧ (b = true ↔ LawOk w s s)) := by
  have hb := hW.wt s s
  unfold LawOk
  rw [if_pos rfl]
  refine Con.mk vX2_isLoop.1 vX2_isLoop.2.2.2.2 [some (.ref (ad 1)), some (.int (nI s)), none] rfl (Nat.le_of_ble_eq_true rfl) (fun Y hM => ?_)
  refine r_al aX2_isLoop_0 rfl ?_
  refine r_il aX2_isLoop_1 rfl ?_
  refine r_il aX2_isLoop_2 rfl ?_
  refine r_VI2 aX2_isLoop_3 vX2_sixteenthsTo rfl (K_X2_sixteenthsTo hW hR hs hs) (fun x3 h3 Q3 => ?_)
  rw [Q3.1, Q3.2]
  refine r_is2 aX2_isLoop_6 rfl ?_
  refine r_al aX2_isLoop_7 rfl ?_
  refine r_il aX2_isLoop_8 rfl ?_
  refine r_VZ1 aX2_isLoop_9 vX2_isWhole rfl (K_X2_isWhole hW hR hs) (fun x9 h9 Q9 => ?_)
  rw [Q9.1]
  have Q := Q9.2
  refine r_b_eq aX2_isLoop_12 (fun c12 => ?_) (fun c12 => ?_)
  · -- to 29
    refine r_ki aX2_isLoop_29 ?_
    exact r_zF hM aX2_isLoop_30 rfl ⟨rfl, by rw [c12] at Q; have := of_decide_eq_false Q.symm; simp [this]⟩
  · -- to 15
    refine r_il aX2_isLoop_15 rfl ?_
    refine r_nz_le aX2_isLoop_16 (by omega) (fun c16 => ?_) (fun c16 => ?_)
    · -- to 29
      refine r_ki aX2_isLoop_29 ?_
      exact r_zF hM aX2_isLoop_30 rfl ⟨rfl, by simp [c16]⟩
    · -- to 19
      refine r_il aX2_isLoop_19 rfl ?_
      refine r_ki aX2_isLoop_20 ?_
      refine r_n_ge aX2_isLoop_22 (by omega) (by omega) (fun c22 => ?_) (fun c22 => ?_)
      · -- to 29
        refine r_ki aX2_isLoop_29 ?_
        exact r_zF hM aX2_isLoop_30 rfl ⟨rfl, ⟨fun z => (by cases z), fun z => by omega⟩⟩
      · -- to 25
        refine r_ki aX2_isLoop_25 ?_
        refine r_go aX2_isLoop_26 ?_
        exact r_zT hM aX2_isLoop_30 rfl ⟨rfl, ⟨fun _ => ⟨by rw [c12] at Q; exact of_decide_eq_true Q.symm, by omega, by omega⟩, fun _ => rfl⟩⟩
theorem K_X2_isRing {s t : Nat} (hW : WW w) (hR : WR h w) (hs : s < 20) (ht : t < 20) (hne : t ≠ s) : Con ad mX2_isRing [.ref (ad 1), .int (nI s), .int (nI t)] h (qZ fun b h' => h' = h ∧ (b = true ↔ LawOk w s t)) := by
  have hb1 := hW.wt s t
  have hb2 := hW.wt t s
  have hb3 := hW.wt s s
  have hb4 := hW.wt t t
  have hm : wt t (w.2.2.1 s) * wt s (w.2.2.1 t) ≤ 16 * 16 := Nat.mul_le_mul hb1 hb2
  unfold LawOk
  rw [if_neg hne]
  refine Con.mk vX2_isRing.1 vX2_isRing.2.2.2.2 [some (.ref (ad 1)), some (.int (nI s)), some (.int (nI t)), none, none] rfl (Nat.le_of_ble_eq_true rfl) (fun Y hM => ?_)
  refine r_al aX2_isRing_0 rfl ?_
  refine r_il aX2_isRing_1 rfl ?_
  refine r_il aX2_isRing_2 rfl ?_
  refine r_VI2 aX2_isRing_3 vX2_sixteenthsTo rfl (K_X2_sixteenthsTo hW hR hs ht) (fun x3 h3 Q3 => ?_)
  rw [Q3.1, Q3.2]
  refine r_is3 aX2_isRing_6 rfl ?_
  refine r_al aX2_isRing_7 rfl ?_
  refine r_il aX2_isRing_8 rfl ?_
  refine r_il aX2_isRing_9 rfl ?_
  refine r_VI2 aX2_isRing_10 vX2_sixteenthsTo rfl (K_X2_sixteenthsTo hW hR ht hs) (fun x10 h10 Q10 => ?_)
  rw [Q10.1, Q10.2]
  refine r_is4 aX2_isRing_13 rfl ?_
  refine r_al aX2_isRing_15 rfl ?_
  refine r_il aX2_isRing_16 rfl ?_
  refine r_VZ1 aX2_isRing_17 vX2_isWhole rfl (K_X2_isWhole hW hR hs) (fun x17 h17 Q17 => ?_)
  rw [Q17.1]
  refine r_b_eq aX2_isRing_20 (fun c20 => ?_) (fun c20 => ?_)
  · -- to 72
    refine r_ki aX2_isRing_72 ?_
    exact r_zF hM aX2_isRing_73 rfl ⟨rfl, by have := of_decide_eq_false (Q17.2.symm.trans c20); simp [this]⟩
  · -- to 23
    refine r_al aX2_isRing_23 rfl ?_
    refine r_il aX2_isRing_24 rfl ?_
    refine r_VZ1 aX2_isRing_25 vX2_isWhole rfl (K_X2_isWhole hW hR ht) (fun x25 h25 Q25 => ?_)
    rw [Q25.1]
    refine r_b_eq aX2_isRing_28 (fun c28 => ?_) (fun c28 => ?_)
    · -- to 72
      refine r_ki aX2_isRing_72 ?_
      exact r_zF hM aX2_isRing_73 rfl ⟨rfl, by have := of_decide_eq_false (Q25.2.symm.trans c28); simp [this]⟩
    · -- to 31
      refine r_il aX2_isRing_31 rfl ?_
      refine r_nz_le aX2_isRing_32 (by omega) (fun c32 => ?_) (fun c32 => ?_)
      · -- to 72
        refine r_ki aX2_isRing_72 ?_
        exact r_zF hM aX2_isRing_73 rfl ⟨rfl, by simp [c32]⟩
      · -- to 35
        refine r_il aX2_isRing_35 rfl ?_
        refine r_nz_le aX2_isRing_37 (by omega) (fun c37 => ?_) (fun c37 => ?_)
        · -- to 72
          refine r_ki aX2_isRing_72 ?_
          exact r_zF hM aX2_isRing_73 rfl ⟨rfl, by simp [c37]⟩
        · -- to 40
          refine r_il aX2_isRing_40 rfl ?_
          refine r_il aX2_isRing_41 rfl ?_
          refine r_imulN aX2_isRing_43 ?_
          refine r_ki aX2_isRing_44 ?_
          refine r_n_ge aX2_isRing_47 (by omega) (by omega) (fun c47 => ?_) (fun c47 => ?_)
          · -- to 72
            refine r_ki aX2_isRing_72 ?_
            exact r_zF hM aX2_isRing_73 rfl ⟨rfl, ⟨fun z => (by cases z), fun z => by omega⟩⟩
          · -- to 50
            refine r_al aX2_isRing_50 rfl ?_
            refine r_il aX2_isRing_51 rfl ?_
            refine r_il aX2_isRing_52 rfl ?_
            refine r_VI2 aX2_isRing_53 vX2_sixteenthsTo rfl (K_X2_sixteenthsTo hW hR hs hs) (fun x53 h53 Q53 => ?_)
            rw [Q53.1, Q53.2]
            refine r_nz_ne aX2_isRing_56 (by omega) (fun c56 => ?_) (fun c56 => ?_)
            · -- to 72
              refine r_ki aX2_isRing_72 ?_
              exact r_zF hM aX2_isRing_73 rfl ⟨rfl, ⟨fun z => (by cases z), fun z => by omega⟩⟩
            · -- to 59
              refine r_al aX2_isRing_59 rfl ?_
              refine r_il aX2_isRing_60 rfl ?_
              refine r_il aX2_isRing_61 rfl ?_
              refine r_VI2 aX2_isRing_62 vX2_sixteenthsTo rfl (K_X2_sixteenthsTo hW hR ht ht) (fun x62 h62 Q62 => ?_)
              rw [Q62.1, Q62.2]
              refine r_nz_ne aX2_isRing_65 (by omega) (fun c65 => ?_) (fun c65 => ?_)
              · -- to 72
                refine r_ki aX2_isRing_72 ?_
                exact r_zF hM aX2_isRing_73 rfl ⟨rfl, ⟨fun z => (by cases z), fun z => by omega⟩⟩
              · -- to 68
                refine r_ki aX2_isRing_68 ?_
                refine r_go aX2_isRing_69 ?_
                exact r_zT hM aX2_isRing_73 rfl ⟨rfl, ⟨fun _ => ⟨of_decide_eq_true (Q17.2.symm.trans c20), of_decide_eq_true (Q25.2.symm.trans c28), by omega, by omega, by omega, by omega, by omega⟩, fun _ => rfl⟩⟩
theorem K_X2_isProved {s t : Nat} (hW : WW w) (hR : WR h w) (hs : s < 20) (ht : t < 20) : Con ad mX2_isProved [.ref (ad 1), .int (nI s), .int (nI t)] h (qZ fun b h' => h' = h ∧ (b = true ↔ LawOk w s t)) := by
  refine Con.mk vX2_isProved.1 vX2_isProved.2.2.2.2 [some (.ref (ad 1)), some (.int (nI s)), some (.int (nI t))] rfl (Nat.le_of_ble_eq_true rfl) (fun Y hM => ?_)
  refine r_il aX2_isProved_0 rfl ?_
  refine r_il aX2_isProved_1 rfl ?_
  refine r_n_ne aX2_isProved_2 (by omega) (by omega) (fun c2 => ?_) (fun c2 => ?_)
  · -- to 13
    refine r_al aX2_isProved_13 rfl ?_
    refine r_il aX2_isProved_14 rfl ?_
    refine r_il aX2_isProved_15 rfl ?_
    refine r_VZ2 aX2_isProved_16 vX2_isRing rfl (K_X2_isRing hW hR hs ht (fun z => c2 z.symm)) (fun x16 h16 Q16 => ?_)
    rw [Q16.1]
    exact r_zret hM aX2_isProved_19 rfl ⟨rfl, Q16.2⟩
  · -- to 5
    refine r_al aX2_isProved_5 rfl ?_
    refine r_il aX2_isProved_6 rfl ?_
    refine r_VZ1 aX2_isProved_7 vX2_isLoop rfl (K_X2_isLoop hW hR hs) (fun x7 h7 Q7 => ?_)
    rw [Q7.1]
    refine r_go aX2_isProved_10 ?_
    exact r_zret hM aX2_isProved_19 rfl ⟨rfl, by rw [← c2]; exact Q7.2⟩
end WALK
end
section
/-! shares -/
def por (m w D : Nat) : Nat := m / D * w + m % D * w / D
theorem por_le {m w D : Nat} (hD : 0 < D) (hw : w ≤ D) : por m w D ≤ m := by
  have h1 : m / D * w ≤ m / D * D := Nat.mul_le_mul_left _ hw
  have h2 : m % D * w / D ≤ m % D := by
    have : m % D * w ≤ m % D * D := Nat.mul_le_mul_left _ hw
    calc m % D * w / D ≤ m % D * D / D := Nat.div_le_div_right this
      _ = m % D := Nat.mul_div_cancel _ hD
  have h3 := Nat.div_add_mod m D
  rw [Nat.mul_comm] at h3
  unfold por
  omega
theorem por_add (m a b D : Nat) : por m a D + por m b D ≤ por m (a + b) D := by
  unfold por
  rw [Nat.mul_add, Nat.mul_add]
  have : m % D * a / D + m % D * b / D ≤ (m % D * a + m % D * b) / D := by
    rcases Nat.eq_zero_or_pos D with h | h
    · subst h; simp
    · rw [Nat.le_div_iff_mul_le h, Nat.add_mul]
      exact Nat.add_le_add (Nat.div_mul_le_self _ _) (Nat.div_mul_le_self _ _)
  omega
def spr (m D : Nat) (ex : Option Nat) (d f : Nat) : List (Nat × Nat) → List Itm
  | [] => []
  | p :: r => if some p.1 = ex ∨ por m (f * p.2) D = 0 then spr m D ex d f r else (p.1, d, por m (f * p.2) D) :: spr m D ex d f r
theorem spr_len (m D : Nat) (ex : Option Nat) (d f : Nat) : ∀ l, (spr m D ex d f l).length ≤ l.length
  | [] => Nat.le_refl _
  | p :: r => by
    have := spr_len m D ex d f r
    unfold spr
    split <;> simp <;> omega
def uSum (L : List Itm) : Nat := (L.map (fun p => p.2.2)).sum
theorem uSum_app (a b : List Itm) : uSum (a ++ b) = uSum a + uSum b := by simp [uSum]
def divS (w : Wk) (s d m : Nat) : List Itm := match w.2.2.2 s with
  | none => spr m 16 none (d + 1) 1 (w.2.2.1 s)
  | some r => if r = s then spr m (16 - wt s (w.2.2.1 s)) (some s) (d + 1) 1 (w.2.2.1 s) else spr m (256 - wt r (w.2.2.1 s) * wt s (w.2.2.1 r)) (some r) (d + 1) 16 (w.2.2.1 s) ++ spr m (256 - wt r (w.2.2.1 s) * wt s (w.2.2.1 r)) (some s) (min 40 (d + 2)) (wt r (w.2.2.1 s)) (w.2.2.1 r)
def SR (h : Mem) (Sh : List Itm) : Prop := h.1 51 0 = nI Sh.length ∧ h.2 51 1 = lN (uSum Sh) ∧ Items h 52 53 54 0 Sh
def inS (a : Nat) : Prop := 51 ≤ a ∧ a < 55
theorem WR.cong {h h' : Mem} {w : Wk} (H : WR h w) (hh : ∀ a, 1 ≤ a → a < 48 → h'.1 a = h.1 a) : WR h' w := by
  obtain ⟨h1, h2, h3, h4, h5, h6, h7⟩ := H
  refine ⟨by rw [hh 1 (by omega) (by omega)]; exact h1, fun s hs => by rw [hh 2 (by omega) (by omega)]; exact h2 s hs, fun s hs => by rw [hh 3 (by omega) (by omega)]; exact h3 s hs, fun s hs => by rw [hh 4 (by omega) (by omega)]; exact h4 s hs, fun s hs => by rw [hh 5 (by omega) (by omega)]; exact h5 s hs, fun s hs i p hp => by rw [hh (7 + s) (by omega) (by omega), hh (28 + s) (by omega) (by omega)]; exact h6 s hs i p hp, fun s hs i hi h16 => by rw [hh (28 + s) (by omega) (by omega)]; exact h7 s hs i hi h16⟩
theorem WR.fr {h h' : Mem} {w : Wk} {P : Nat → Prop} (H : WR h w) (hf : Fr P h h') (hp : ∀ a, P a → 48 ≤ a ∨ a = 0) : WR h' w := H.cong (fun a h1 h2 => (hf a (fun z => by rcases hp a z with q | q <;> omega)).1)
theorem AW.other {n t : Nat} : ∀ {l : List (Nat × Nat)}, AW n l → ∀ p ∈ l, p.1 ≠ t → p.2 + wt t l ≤ tot l
  | [], _, p, hp, _ => by simp at hp
  | x :: r, h, p, hp, hne => by
    have h1 : AW n r := ⟨fun x hx => h.1 x (List.mem_cons_of_mem _ hx), by have := h.2; simp [tot] at this ⊢; omega⟩
    have hw := h1.wt_le t
    rcases List.mem_cons.mp hp with rfl | hp
    · simp only [wt, if_neg hne, tot, List.map_cons, List.sum_cons] at hw ⊢
      omega
    · have h2 := h1.other p hp hne
      have hle : p.2 ≤ tot r := by omega
      simp only [wt, tot, List.map_cons, List.sum_cons] at h2 hw hle ⊢
      split <;> omega
theorem AW.one {n : Nat} {l : List (Nat × Nat)} (h : AW n l) {p : Nat × Nat} (hp : p ∈ l) : p.2 ≤ tot l := by
  have := h.other (t := p.1 + 1) p hp (by omega)
  omega
section SHARES
variable {ad : Nat → Nat} {h : Mem} {w : Wk} {Sh : List Itm}
theorem K_X1_portion {m D wg : Nat} (hm : h.2 51 2 = lN m) (hD : h.1 51 3 = nI D) (h0 : 0 < D) (h1 : D ≤ 256) (h2 : m ≤ 2 ^ 60) (h3 : wg ≤ 256) : Con ad mX1_portion [.ref (ad 51), .int (nI wg)] h (qL fun x h' => h' = h ∧ x = lN (por m wg D)) := by
  have hmod : m % D < D := Nat.mod_lt _ h0
  have hp : m % D * wg ≤ 256 * 256 := Nat.mul_le_mul (by omega) h3
  refine Con.mk vX1_portion.1 vX1_portion.2.2.2.2 [some (.ref (ad 51)), some (.int (nI wg))] rfl (Nat.le_of_ble_eq_true rfl) (fun Y hM => ?_)
  refine r_al aX1_portion_0 rfl ?_
  refine r_gI aX1_portion_1 rfl rfl hD ?_
  refine r_ki aX1_portion_4 ?_
  refine r_n_ge aX1_portion_5 (by omega) (by omega) (fun c5 => ?_) (fun c5 => ?_)
  · -- to 10
    refine r_al aX1_portion_10 rfl ?_
    refine r_gL aX1_portion_11 rfl rfl hm ?_
    refine r_al aX1_portion_14 rfl ?_
    refine r_gI aX1_portion_15 rfl rfl hD ?_
    refine r_i2lN aX1_portion_18 (by omega) ?_
    refine r_ldivN aX1_portion_19 (by omega) (by omega) (by omega) ?_
    refine r_il aX1_portion_20 rfl ?_
    refine r_i2lN aX1_portion_21 (by omega) ?_
    refine r_lmulN aX1_portion_22 ?_
    refine r_al aX1_portion_23 rfl ?_
    refine r_gL aX1_portion_24 rfl rfl hm ?_
    refine r_al aX1_portion_27 rfl ?_
    refine r_gI aX1_portion_28 rfl rfl hD ?_
    refine r_i2lN aX1_portion_31 (by omega) ?_
    refine r_lremN aX1_portion_32 (by omega) (by omega) (by omega) ?_
    refine r_il aX1_portion_33 rfl ?_
    refine r_i2lN aX1_portion_34 (by omega) ?_
    refine r_lmulN aX1_portion_35 ?_
    refine r_al aX1_portion_36 rfl ?_
    refine r_gI aX1_portion_37 rfl rfl hD ?_
    refine r_i2lN aX1_portion_40 (by omega) ?_
    refine r_ldivN aX1_portion_41 (by omega) (by omega) (by omega) ?_
    refine r_laddN aX1_portion_42 ?_
    exact r_lret hM aX1_portion_43 rfl ⟨rfl, rfl⟩
  · omega
theorem K_X1_add {s d m : Nat} (hS : SR h Sh) (hl : Sh.length < 32) (hm : m < 2 ^ 63) : Con ad mX1_add [.ref (ad 51), .int (nI s), .int (nI d), .long (lN m)] h (qV fun h' => SR h' (if m = 0 then Sh else Sh ++ [(s, d, m)]) ∧ h'.2 51 2 = h.2 51 2 ∧ h'.1 51 3 = h.1 51 3 ∧ Fr inS h h') := by
  obtain ⟨hn, hu, hI⟩ := hS
  refine Con.mk vX1_add.1 vX1_add.2.2.2.2 [some (.ref (ad 51)), some (.int (nI s)), some (.int (nI d)), some (.long (lN m)), none] rfl (Nat.le_of_ble_eq_true rfl) (fun Y hM => ?_)
  refine r_ll aX1_add_0 rfl ?_
  refine r_kl aX1_add_1 ?_
  refine r_m_lt aX1_add_2 aX1_add_3 (by omega) (by omega) (fun c2 => ?_) (fun c2 => ?_)
  · -- to 15
    exact r_vret hM aX1_add_15 rfl ⟨by rw [if_pos (by omega)]; exact ⟨hn, hu, hI⟩, rfl, rfl, Fr.rf⟩
  · -- to 6
    refine r_al aX1_add_6 rfl ?_
    refine r_gI aX1_add_7 rfl rfl (Eq.trans (by simp [si_1, si_2, sl_1, sl_2, sri_1, sri_2, srl_1, srl_2]) hn) ?_
    refine r_ki aX1_add_10 ?_
    refine r_n_lt aX1_add_12 (by omega) (by omega) (fun c12 => ?_) (fun c12 => ?_)
    · -- to 16
      refine r_al aX1_add_16 rfl ?_
      refine r_getR aX1_add_17 rfl rfl ?_
      refine r_al aX1_add_20 rfl ?_
      refine r_gI aX1_add_21 rfl rfl (Eq.trans (by simp [si_1, si_2, sl_1, sl_2, sri_1, sri_2, srl_1, srl_2]) hn) ?_
      refine r_il aX1_add_24 rfl ?_
      refine r_iast aX1_add_25 rfl (by omega) ?_
      refine r_al aX1_add_26 rfl ?_
      refine r_getR aX1_add_27 rfl rfl ?_
      refine r_al aX1_add_30 rfl ?_
      refine r_gI aX1_add_31 rfl rfl (Eq.trans (by simp [si_1, si_2, sl_1, sl_2, sri_1, sri_2, srl_1, srl_2]) hn) ?_
      refine r_il aX1_add_34 rfl ?_
      refine r_iast aX1_add_35 rfl (by omega) ?_
      refine r_al aX1_add_36 rfl ?_
      refine r_getR aX1_add_37 rfl rfl ?_
      refine r_al aX1_add_40 rfl ?_
      refine r_gI aX1_add_41 rfl rfl (Eq.trans (by simp [si_1, si_2, sl_1, sl_2, sri_1, sri_2, srl_1, srl_2]) hn) ?_
      refine r_ll aX1_add_44 rfl ?_
      refine r_last aX1_add_45 rfl (by omega) ?_
      refine r_al aX1_add_46 rfl ?_
      refine r_dup aX1_add_47 rfl ?_
      refine r_gI aX1_add_48 rfl rfl (Eq.trans (by simp [si_1, si_2, sl_1, sl_2, sri_1, sri_2, srl_1, srl_2]) hn) ?_
      refine r_ki aX1_add_51 ?_
      refine r_iaddN aX1_add_52 ?_
      refine r_putI aX1_add_53 rfl rfl rfl ?_
      refine r_al aX1_add_56 rfl ?_
      refine r_dup aX1_add_57 rfl ?_
      refine r_gL aX1_add_58 rfl rfl (Eq.trans (by simp [si_1, si_2, sl_1, sl_2, sri_1, sri_2, srl_1, srl_2]) hu) ?_
      refine r_ll aX1_add_61 rfl ?_
      refine r_laddN aX1_add_62 ?_
      refine r_putL aX1_add_63 rfl rfl rfl ?_
      refine r_vret hM aX1_add_66 rfl ?_
      rw [if_neg (by omega)]
      refine ⟨⟨?_, ?_, ?_⟩, by simp [si_1, si_2, sl_1, sl_2], by simp [si_1, si_2, sl_1, sl_2], (Fr.si ⟨by omega, by omega⟩).tr ((Fr.si ⟨by omega, by omega⟩).tr ((Fr.sl ⟨by omega, by omega⟩).tr ((Fr.si ⟨by omega, by omega⟩).tr (Fr.sl ⟨by omega, by omega⟩))))⟩
      · simp [si_1, sl_1]
      · rw [uSum_app]
        simp [si_2, sl_2, uSum]
      · refine hI.push (fun i hi => ?_) (fun i hi => ?_) (fun i hi => ?_) ?_ ?_ ?_
        · simp [si_1, sl_1]; omega
        · simp [si_1, sl_1]; omega
        · simp [si_2, sl_2]; omega
        · simp [si_1, sl_1]
        · simp [si_1, sl_1]
        · simp [si_2, sl_2]
    · omega
theorem K_X1_spread {s d f m D : Nat} {ex : Option Nat} (hW : WW w) (hR : WR h w) (hs : s < 20) (hex : ∀ n, ex = some n → n < 20) (hS : SR h Sh) (hl : Sh.length + (w.2.2.1 s).length ≤ 32) (hm : h.2 51 2 = lN m) (hD : h.1 51 3 = nI D) (h0 : 0 < D) (h1 : D ≤ 256) (h2 : m ≤ 2 ^ 60) (hf : f ≤ 16) (hd : d ≤ 40) (hwt : ∀ p ∈ w.2.2.1 s, some p.1 ≠ ex → f * p.2 ≤ D) : Con ad mX1_spread [.ref (ad 51), .ref (ad 1), .int (nI s), .int (oI ex), .int (nI d), .int (nI f)] h (qV fun h' => SR h' (Sh ++ spr m D ex d f (w.2.2.1 s)) ∧ h'.2 51 2 = h.2 51 2 ∧ h'.1 51 3 = h.1 51 3 ∧ Fr inS h h') := by
  have hlen := hW.len s
  have hb := hW.n
  refine Con.mk vX1_spread.1 vX1_spread.2.2.2.2 [some (.ref (ad 51)), some (.ref (ad 1)), some (.int (nI s)), some (.int (oI ex)), some (.int (nI d)), some (.int (nI f)), none] rfl (Nat.le_of_ble_eq_true rfl) (fun Y hM => ?_)
  have loop : ∀ (k i : Nat) (g : Mem) (Cur : List Itm), (w.2.2.1 s).length - i = k → i ≤ (w.2.2.1 s).length → SR g Cur → Cur ++ spr m D ex d f ((w.2.2.1 s).drop i) = Sh ++ spr m D ex d f (w.2.2.1 s) → Cur.length + ((w.2.2.1 s).length - i) ≤ 32 → g.2 51 2 = h.2 51 2 → g.1 51 3 = h.1 51 3 → Fr inS h g → G Y ad mX1_spread 3 [some (.ref (ad 51)), some (.ref (ad 1)), some (.int (nI s)), some (.int (oI ex)), some (.int (nI d)), some (.int (nI f)), some (.int (nI i))] [] g := by
    intro k
    induction k with
    | zero =>
      intro i g Cur hk hi hSg hC hlg e2 e3 hF
      have hn := (hR.fr hF (fun a z => Or.inl (by have := z.1; omega))).2.2.2.2.1 s hs
      refine r_il aX1_spread_3 rfl ?_
      refine r_al aX1_spread_5 rfl ?_
      refine r_getR aX1_spread_6 rfl rfl ?_
      refine r_il aX1_spread_9 rfl ?_
      refine r_xI aX1_spread_10 rfl (by omega) hn ?_
      refine r_n_ge aX1_spread_11 (by omega) (by omega) (fun c11 => ?_) (fun c11 => ?_)
      · -- to 64
        refine r_vret hM aX1_spread_64 rfl ?_
        rw [List.drop_of_length_le (by omega)] at hC
        rw [← hC, spr, List.append_nil]
        exact ⟨hSg, e2, e3, hF⟩
      · omega
    | succ k ih =>
      intro i g Cur hk hi hSg hC hlg e2 e3 hF
      have hRg := hR.fr hF (fun a z => Or.inl (by have := z.1; omega))
      have hn := hRg.2.2.2.2.1 s hs
      have hlt : i < (w.2.2.1 s).length := by omega
      obtain ⟨t1, t2⟩ := hRg.2.2.2.2.2.1 s hs i _ (List.getElem?_eq_getElem hlt)
      have hmem : (w.2.2.1 s)[i] ∈ w.2.2.1 s := List.getElem_mem hlt
      have b1 := ((hW.2.2.2.1 s).1 _ hmem).1
      have b2 := (hW.2.2.2.1 s).one hmem
      have b3 := hW.tot s
      rw [List.drop_eq_getElem_cons hlt] at hC
      generalize (w.2.2.1 s)[i] = p at t1 t2 hmem b1 b2 hC
      have hfp : f * p.2 ≤ 16 * 16 := Nat.mul_le_mul hf (by omega)
      refine r_il aX1_spread_3 rfl ?_
      refine r_al aX1_spread_5 rfl ?_
      refine r_getR aX1_spread_6 rfl rfl ?_
      refine r_il aX1_spread_9 rfl ?_
      refine r_xI aX1_spread_10 rfl (by omega) hn ?_
      refine r_n_ge aX1_spread_11 (by omega) (by omega) (fun c11 => ?_) (fun c11 => ?_)
      · omega
      · -- to 14
        refine r_al aX1_spread_14 rfl ?_
        refine r_getR aX1_spread_15 rfl rfl ?_
        refine r_il aX1_spread_18 rfl ?_
        refine r_aaldI aX1_spread_19 rfl hs (if_pos hs) ?_
        refine r_il aX1_spread_20 rfl ?_
        refine r_xI aX1_spread_22 (shT _ hs) (by omega) t1 ?_
        refine r_il aX1_spread_23 rfl ?_
        refine r_c_eq aX1_spread_24 (fun c24 => ?_) (fun c24 => ?_)
        · -- to 58
          refine r_in6 aX1_spread_58 rfl ?_
          refine r_go aX1_spread_61 ?_
          have hx : some p.1 = ex := by
            cases ex with
            | none => exact absurd (show nI p.1 = -1 from c24) (fun z => nI_pos (n := p.1) (by omega) (by rw [z]; decide))
            | some n => exact congrArg some ((nI_eq (by omega) (by have := hex n rfl; omega)).mp c24)
          rw [spr, if_pos (Or.inl hx)] at hC
          exact ih (i + 1) g Cur (by omega) (by omega) hSg hC (by omega) e2 e3 hF
        · -- to 27
          have hx : ¬ some p.1 = ex := fun z => c24 (by rw [← z]; rfl)
          refine r_al aX1_spread_27 rfl ?_
          refine r_al aX1_spread_28 rfl ?_
          refine r_getR aX1_spread_29 rfl rfl ?_
          refine r_il aX1_spread_32 rfl ?_
          refine r_aaldI aX1_spread_33 rfl hs (if_pos hs) ?_
          refine r_il aX1_spread_34 rfl ?_
          refine r_xI aX1_spread_36 (shT _ hs) (by omega) t1 ?_
          refine r_il aX1_spread_37 rfl ?_
          refine r_al aX1_spread_39 rfl ?_
          refine r_il aX1_spread_40 rfl ?_
          refine r_al aX1_spread_42 rfl ?_
          refine r_getR aX1_spread_43 rfl rfl ?_
          refine r_il aX1_spread_46 rfl ?_
          refine r_aaldI aX1_spread_47 rfl hs (if_pos hs) ?_
          refine r_il aX1_spread_48 rfl ?_
          refine r_xI aX1_spread_50 (shW _ hs) (by omega) t2 ?_
          refine r_imulN aX1_spread_51 ?_
          refine r_VL1 aX1_spread_52 vX1_portion rfl (K_X1_portion (e2.trans hm) (e3.trans hD) h0 h1 h2 (by omega)) (fun x52 h52 Q52 => ?_)
          rw [Q52.1, Q52.2]
          refine r_VV3 aX1_spread_55 vX1_add rfl (K_X1_add hSg (by omega) (by have := por_le (m := m) h0 (hwt p hmem hx); omega)) (fun h55 Q55 => ?_)
          refine r_in6 aX1_spread_58 rfl ?_
          refine r_go aX1_spread_61 ?_
          obtain ⟨q1, q2, q3, q4⟩ := Q55
          refine ih (i + 1) h55 _ (by omega) (by omega) q1 ?_ ?_ (q2.trans e2) (q3.trans e3) (hF.tr q4)
          · rw [← hC, spr]
            by_cases z : por m (f * p.2) D = 0
            · rw [if_pos z, if_pos (Or.inr z)]
            · rw [if_neg z, if_neg (fun q => q.elim hx z), List.append_assoc]; rfl
          · split
            · omega
            · rw [List.length_append, List.length_singleton]; omega
  refine r_ki aX1_spread_0 ?_
  refine r_is6 aX1_spread_1 rfl ?_
  exact loop _ 0 h Sh rfl (by omega) hS rfl (by omega) rfl rfl Fr.rf
theorem K_X1_divide {s d m : Nat} (hW : WW w) (hR : WR h w) (hs : s < w.1) (hd : d < 40) (hm : m ≤ 2 ^ 60) : Con ad mX1_divide [.ref (ad 51), .ref (ad 1), .int (nI s), .int (nI d), .long (lN m)] h (qV fun h' => SR h' (divS w s d m) ∧ Fr inS h h') := by
  have hb := hW.n
  have hl := hR.2.2.1 s hs
  have hlen := hW.len s
  have hto := hW.tot s
  refine Con.mk vX1_divide.1 vX1_divide.2.2.2.2 [some (.ref (ad 51)), some (.ref (ad 1)), some (.int (nI s)), some (.int (nI d)), some (.long (lN m)), none, none, none] rfl (Nat.le_of_ble_eq_true rfl) (fun Y hM => ?_)
  have hF0 : ∀ D : Nat, Fr inS h (si (sl (sl (si h 51 0 (nI 0)) 51 1 (lN 0)) 51 2 (lN m)) 51 3 (nI D)) := fun D => (Fr.si ⟨by omega, by omega⟩).tr ((Fr.sl ⟨by omega, by omega⟩).tr ((Fr.sl ⟨by omega, by omega⟩).tr (Fr.si ⟨by omega, by omega⟩)))
  have hS0 : ∀ D : Nat, SR (si (sl (sl (si h 51 0 (nI 0)) 51 1 (lN 0)) 51 2 (lN m)) 51 3 (nI D)) [] := fun D => ⟨by simp [si_1, sl_1], by simp [si_2, sl_2, uSum], fun i p hp => by simp at hp⟩
  have hm0 : ∀ D : Nat, (si (sl (sl (si h 51 0 (nI 0)) 51 1 (lN 0)) 51 2 (lN m)) 51 3 (nI D)).2 51 2 = lN m := fun D => by simp [si_2, sl_2]
  have hD0 : ∀ D : Nat, (si (sl (sl (si h 51 0 (nI 0)) 51 1 (lN 0)) 51 2 (lN m)) 51 3 (nI D)).1 51 3 = nI D := fun D => by simp [si_1]
  have hR0 : ∀ D : Nat, WR (si (sl (sl (si h 51 0 (nI 0)) 51 1 (lN 0)) 51 2 (lN m)) 51 3 (nI D)) w := fun D => hR.fr (hF0 D) (fun a z => Or.inl (by have := z.1; omega))
  have hR1 : WR (sl (sl (si h 51 0 (nI 0)) 51 1 (lN 0)) 51 2 (lN m)) w := hR.fr (P := inS) ((Fr.si ⟨by omega, by omega⟩).tr ((Fr.sl ⟨by omega, by omega⟩).tr (Fr.sl ⟨by omega, by omega⟩))) (fun a z => Or.inl (by have := z.1; omega))
  have hlo := hW.2.2.2.2.1 s
  cases hlaw : w.2.2.2 s with
  | none =>
    rw [hlaw] at hl
    refine r_al aX1_divide_0 rfl ?_
    refine r_ki aX1_divide_1 ?_
    refine r_putI aX1_divide_2 rfl rfl rfl ?_
    refine r_al aX1_divide_5 rfl ?_
    refine r_kl aX1_divide_6 ?_
    refine r_putL aX1_divide_7 rfl rfl rfl ?_
    refine r_al aX1_divide_10 rfl ?_
    refine r_ll aX1_divide_11 rfl ?_
    refine r_putL aX1_divide_13 rfl rfl rfl ?_
    refine r_al aX1_divide_16 rfl ?_
    refine r_getR aX1_divide_17 rfl rfl ?_
    refine r_il aX1_divide_20 rfl ?_
    refine r_xI aX1_divide_21 rfl (by omega) (Eq.trans (by simp [si_1, si_2, sl_1, sl_2, sri_1, sri_2, srl_1, srl_2]) hl) ?_
    refine r_is6 aX1_divide_22 rfl ?_
    refine r_il aX1_divide_24 rfl ?_
    refine r_ki aX1_divide_26 ?_
    refine r_c_ne aX1_divide_27 (fun c27 => ?_) (fun c27 => ?_)
    · exact absurd rfl c27
    · -- to 30
      refine r_al aX1_divide_30 rfl ?_
      refine r_ki aX1_divide_31 ?_
      refine r_putI aX1_divide_33 rfl rfl rfl ?_
      refine r_al aX1_divide_36 rfl ?_
      refine r_al aX1_divide_37 rfl ?_
      refine r_il aX1_divide_38 rfl ?_
      refine r_ki aX1_divide_39 ?_
      refine r_il aX1_divide_40 rfl ?_
      refine r_ki aX1_divide_41 ?_
      refine r_iaddN aX1_divide_42 ?_
      refine r_ki aX1_divide_43 ?_
      refine r_VV5 aX1_divide_44 vX1_spread rfl (K_X1_spread (ex := none) (Sh := []) hW (hR0 16) (by omega) (fun n z => by cases z) (hS0 16) (by rw [List.length_nil]; omega) (hm0 16) (hD0 16) (by omega) (by omega) hm (by omega) (by omega) (fun p hp _ => by have := (hW.2.2.2.1 s).one hp; omega)) (fun h44 Q44 => ?_)
      refine r_go aX1_divide_47 ?_
      exact r_vret hM aX1_divide_141 rfl ⟨by unfold divS; rw [hlaw]; exact Q44.1, (hF0 16).tr Q44.2.2.2⟩
  | some r =>
    rw [hlaw] at hl
    obtain ⟨hr, hok⟩ := hlo r hs hlaw
    have hneg : ¬ oI (some r) = -1 := fun z => nI_pos (n := r) (by omega) (by rw [show nI r = -1 from z]; decide)
    by_cases hrs : r = s
    · subst hrs
      rw [LawOk, if_pos rfl] at hok
      obtain ⟨k1, k2, k3⟩ := hok
      refine r_al aX1_divide_0 rfl ?_
      refine r_ki aX1_divide_1 ?_
      refine r_putI aX1_divide_2 rfl rfl rfl ?_
      refine r_al aX1_divide_5 rfl ?_
      refine r_kl aX1_divide_6 ?_
      refine r_putL aX1_divide_7 rfl rfl rfl ?_
      refine r_al aX1_divide_10 rfl ?_
      refine r_ll aX1_divide_11 rfl ?_
      refine r_putL aX1_divide_13 rfl rfl rfl ?_
      refine r_al aX1_divide_16 rfl ?_
      refine r_getR aX1_divide_17 rfl rfl ?_
      refine r_il aX1_divide_20 rfl ?_
      refine r_xI aX1_divide_21 rfl (by omega) (Eq.trans (by simp [si_1, si_2, sl_1, sl_2, sri_1, sri_2, srl_1, srl_2]) hl) ?_
      refine r_is6 aX1_divide_22 rfl ?_
      refine r_il aX1_divide_24 rfl ?_
      refine r_ki aX1_divide_26 ?_
      refine r_c_ne aX1_divide_27 (fun c27 => ?_) (fun c27 => ?_)
      · -- to 50
        refine r_il aX1_divide_50 rfl ?_
        refine r_il aX1_divide_52 rfl ?_
        refine r_c_ne aX1_divide_53 (fun c53 => ?_) (fun c53 => ?_)
        · exact absurd rfl c53
        · -- to 56
          refine r_al aX1_divide_56 rfl ?_
          refine r_ki aX1_divide_57 ?_
          refine r_al aX1_divide_59 rfl ?_
          refine r_il aX1_divide_60 rfl ?_
          refine r_il aX1_divide_61 rfl ?_
          refine r_VI2 aX1_divide_62 vX2_sixteenthsTo rfl (K_X2_sixteenthsTo hW hR1 (by omega) (by omega)) (fun x62 h62 Q62 => ?_)
          rw [Q62.1, Q62.2]
          refine r_isubN aX1_divide_65 (by omega) ?_
          refine r_putI aX1_divide_66 rfl rfl rfl ?_
          refine r_al aX1_divide_69 rfl ?_
          refine r_al aX1_divide_70 rfl ?_
          refine r_il aX1_divide_71 rfl ?_
          refine r_il aX1_divide_72 rfl ?_
          refine r_il aX1_divide_73 rfl ?_
          refine r_ki aX1_divide_74 ?_
          refine r_iaddN aX1_divide_75 ?_
          refine r_ki aX1_divide_76 ?_
          refine r_VV5 aX1_divide_77 vX1_spread rfl (K_X1_spread (ex := some r) (Sh := []) hW (hR0 _) (by omega) (fun n z => by cases z; omega) (hS0 _) (by rw [List.length_nil]; omega) (hm0 _) (hD0 _) (by omega) (by omega) hm (by omega) (by omega) (fun p hp hne => by have := (hW.2.2.2.1 r).other (t := r) p hp (fun z => hne (congrArg some z)); omega)) (fun h77 Q77 => ?_)
          refine r_go aX1_divide_80 ?_
          exact r_vret hM aX1_divide_141 rfl ⟨by unfold divS; rw [hlaw]; dsimp only; rw [if_pos rfl]; exact Q77.1, (hF0 _).tr Q77.2.2.2⟩
      · exact absurd c27 hneg
    · rw [LawOk, if_neg hrs] at hok
      obtain ⟨k1, k2, k3, k4, k5, k6, k7⟩ := hok
      have a16 := hW.wt s r
      have b16 := hW.wt r s
      have hlr := hW.len r
      generalize ha : wt r (w.2.2.1 s) = a at k3 k5 a16
      generalize hbb : wt s (w.2.2.1 r) = b at k4 k5 b16
      have hab : a * b ≤ a * 16 := Nat.mul_le_mul_left _ b16
      have hba : a * b ≤ 16 * b := Nat.mul_le_mul_right _ a16
      refine r_al aX1_divide_0 rfl ?_
      refine r_ki aX1_divide_1 ?_
      refine r_putI aX1_divide_2 rfl rfl rfl ?_
      refine r_al aX1_divide_5 rfl ?_
      refine r_kl aX1_divide_6 ?_
      refine r_putL aX1_divide_7 rfl rfl rfl ?_
      refine r_al aX1_divide_10 rfl ?_
      refine r_ll aX1_divide_11 rfl ?_
      refine r_putL aX1_divide_13 rfl rfl rfl ?_
      refine r_al aX1_divide_16 rfl ?_
      refine r_getR aX1_divide_17 rfl rfl ?_
      refine r_il aX1_divide_20 rfl ?_
      refine r_xI aX1_divide_21 rfl (by omega) (Eq.trans (by simp [si_1, si_2, sl_1, sl_2, sri_1, sri_2, srl_1, srl_2]) hl) ?_
      refine r_is6 aX1_divide_22 rfl ?_
      refine r_il aX1_divide_24 rfl ?_
      refine r_ki aX1_divide_26 ?_
      refine r_c_ne aX1_divide_27 (fun c27 => ?_) (fun c27 => ?_)
      · -- to 50
        refine r_il aX1_divide_50 rfl ?_
        refine r_il aX1_divide_52 rfl ?_
        refine r_c_ne aX1_divide_53 (fun c53 => ?_) (fun c53 => ?_)
        · -- to 83
          refine r_al aX1_divide_83 rfl ?_
          refine r_il aX1_divide_84 rfl ?_
          refine r_il aX1_divide_85 rfl ?_
          refine r_VI2 aX1_divide_87 vX2_sixteenthsTo rfl (K_X2_sixteenthsTo hW hR1 (by omega) (by omega)) (fun x87 h87 Q87 => ?_)
          rw [Q87.1, Q87.2, ha]
          refine r_is7 aX1_divide_90 rfl ?_
          refine r_al aX1_divide_92 rfl ?_
          refine r_ki aX1_divide_93 ?_
          refine r_il aX1_divide_96 rfl ?_
          refine r_al aX1_divide_98 rfl ?_
          refine r_il aX1_divide_99 rfl ?_
          refine r_il aX1_divide_101 rfl ?_
          refine r_VI2 aX1_divide_102 vX2_sixteenthsTo rfl (K_X2_sixteenthsTo hW hR1 (by omega) (by omega)) (fun x102 h102 Q102 => ?_)
          rw [Q102.1, Q102.2, hbb]
          refine r_imulN aX1_divide_105 ?_
          refine r_isubN aX1_divide_106 (by omega) ?_
          refine r_putI aX1_divide_107 rfl rfl rfl ?_
          refine r_al aX1_divide_110 rfl ?_
          refine r_al aX1_divide_111 rfl ?_
          refine r_il aX1_divide_112 rfl ?_
          refine r_il aX1_divide_113 rfl ?_
          refine r_il aX1_divide_115 rfl ?_
          refine r_ki aX1_divide_116 ?_
          refine r_iaddN aX1_divide_117 ?_
          refine r_ki aX1_divide_118 ?_
          refine r_VV5 aX1_divide_120 vX1_spread rfl (K_X1_spread (ex := some r) (Sh := []) hW (hR0 _) (by omega) (fun n z => by cases z; omega) (hS0 _) (by rw [List.length_nil]; omega) (hm0 _) (hD0 _) (by omega) (by omega) hm (by omega) (by omega) (fun p hp hne => by have := (hW.2.2.2.1 s).other (t := r) p hp (fun z => hne (congrArg some z)); omega)) (fun h120 Q120 => ?_)
          refine r_al aX1_divide_123 rfl ?_
          refine r_al aX1_divide_124 rfl ?_
          refine r_il aX1_divide_125 rfl ?_
          refine r_il aX1_divide_127 rfl ?_
          refine r_ki aX1_divide_128 ?_
          refine r_il aX1_divide_130 rfl ?_
          refine r_ki aX1_divide_131 ?_
          refine r_iaddN aX1_divide_132 ?_
          refine r_min aX1_divide_133 (by omega) (by omega) ?_
          refine r_il aX1_divide_136 rfl ?_
          refine r_VV5 aX1_divide_138 vX1_spread rfl (K_X1_spread (ex := some s) hW (hR.fr ((hF0 _).tr Q120.2.2.2) (fun a z => Or.inl (by have := z.1; omega))) (by omega) (fun n z => by cases z; omega) Q120.1 (by have := spr_len m (256 - a * b) (some r) (d + 1) 16 (w.2.2.1 s); rw [List.nil_append]; omega) (Q120.2.1.trans (hm0 _)) (Q120.2.2.1.trans (hD0 _)) (by omega) (by omega) hm (by omega) (by omega) (fun p hp hne => by have h7 := (hW.2.2.2.1 r).other (t := s) p hp (fun z => hne (congrArg some z)); have h8 : a * p.2 ≤ a * (16 - b) := Nat.mul_le_mul_left _ (by omega); rw [Nat.mul_sub] at h8; omega)) (fun h138 Q138 => ?_)
          exact r_vret hM aX1_divide_141 rfl ⟨by unfold divS; rw [hlaw]; dsimp only; rw [if_neg hrs, ha, hbb]; exact Q138.1, ((hF0 _).tr Q120.2.2.2).tr Q138.2.2.2⟩
        · exact absurd ((nI_eq (by omega) (by omega)).mp c53) hrs
      · exact absurd c27 hneg
end SHARES
end
section
def repU (Sh : List Itm) (j : Nat) : Nat → Bool
  | 0 => false
  | i + 1 => repU Sh j i || decide ((gi Sh i).1 = (gi Sh j).1 ∧ (gi Sh i).2.1 = (gi Sh j).2.1)
theorem repU_t {Sh : List Itm} {j i : Nat} (h1 : (gi Sh i).1 = (gi Sh j).1) (h2 : (gi Sh i).2.1 = (gi Sh j).2.1) : ∀ k, i < k → repU Sh j k = true
  | 0, h => by omega
  | k + 1, h => by
    unfold repU
    by_cases e : i = k
    · subst e; simp [h1, h2]
    · rw [repU_t h1 h2 k (by omega)]; rfl
theorem repU_s {Sh : List Itm} {j i : Nat} (h0 : repU Sh j i = false) (h : ¬ ((gi Sh i).1 = (gi Sh j).1 ∧ (gi Sh i).2.1 = (gi Sh j).2.1)) : repU Sh j (i + 1) = false := by
  unfold repU
  rw [h0, decide_eq_false h]; rfl
/-- how many items more -/
def cn (L Sh : List Itm) : Nat → Nat
  | 0 => 0
  | j + 1 => cn L Sh j + if ixOf (gi Sh j).1 (gi Sh j).2.1 L 0 = none ∧ repU Sh j j = false then 1 else 0
def cnt (jn : Bool) (L Sh : List Itm) : Nat := if jn then cn L Sh Sh.length else Sh.length
theorem cn_le (L Sh : List Itm) : ∀ j, cn L Sh j ≤ j
  | 0 => Nat.le_refl _
  | j + 1 => by have := cn_le L Sh j; unfold cn; split <;> omega
def ixJ (jn : Bool) (L : List Itm) (p : Itm) : Option Nat := if jn then ixOf p.1 p.2.1 L 0 else none
def adS (jn : Bool) (L : List Itm) (p : Itm) : List Itm := match ixJ jn L p with
  | some i => L.set i ((gi L i).1, (gi L i).2.1, (gi L i).2.2 + p.2.2)
  | none => L ++ [p]
def pu (jn : Bool) (L Sh : List Itm) : List Itm := Sh.foldl (adS jn) L
theorem adS_len (jn : Bool) (L : List Itm) (p : Itm) : L.length ≤ (adS jn L p).length := by
  unfold adS
  split <;> simp
theorem pu_len (jn : Bool) : ∀ (Sh L : List Itm), L.length ≤ (pu jn L Sh).length
  | [], L => Nat.le_refl _
  | p :: r, L => Nat.le_trans (adS_len jn L p) (pu_len jn r (adS jn L p))
theorem ixOf_lt (s d : Nat) : ∀ (L : List Itm) (o i : Nat), ixOf s d L o = some i → o ≤ i ∧ i < o + L.length ∧ (gi L (i - o)).1 = s ∧ (gi L (i - o)).2.1 = d
  | [], o, i, h => by simp [ixOf] at h
  | p :: r, o, i, h => by
    unfold ixOf at h
    by_cases e : p.1 = s ∧ p.2.1 = d
    · rw [if_pos e] at h
      cases h
      refine ⟨Nat.le_refl _, by simp, ?_⟩
      rw [Nat.sub_self]
      exact e
    · rw [if_neg e] at h
      obtain ⟨h1, h2, h3⟩ := ixOf_lt s d r (o + 1) i h
      refine ⟨by omega, by simp; omega, ?_⟩
      rw [show i - o = (i - (o + 1)) + 1 by omega]
      exact h3
theorem ixJ_lt {jn : Bool} {L : List Itm} {p : Itm} {i : Nat} (h : ixJ jn L p = some i) : i < L.length ∧ (gi L i).1 = p.1 ∧ (gi L i).2.1 = p.2.1 := by
  unfold ixJ at h
  cases jn with
  | false => cases h
  | true =>
    obtain ⟨-, h1, h2⟩ := ixOf_lt p.1 p.2.1 L 0 i h
    exact ⟨by omega, h2⟩
theorem uSum_set (m : Nat) : ∀ (L : List Itm) (k : Nat), k < L.length → uSum (L.set k ((gi L k).1, (gi L k).2.1, (gi L k).2.2 + m)) = uSum L + m
  | [], k, hk => by simp at hk
  | p :: L, 0, hk => by
    simp only [uSum, List.set_cons_zero, List.map_cons, List.sum_cons, gi, List.getD_cons_zero]
    omega
  | p :: L, k + 1, hk => by
    have ih := uSum_set m L k (by simpa using hk)
    simp only [uSum, List.map_cons, List.sum_cons, List.set_cons_succ, gi, List.getD_cons_succ] at ih ⊢
    omega
theorem adS_sum (jn : Bool) (L : List Itm) (p : Itm) : uSum (adS jn L p) = uSum L + p.2.2 := by
  unfold adS
  split
  · next i hi => exact uSum_set _ L i (ixJ_lt hi).1
  · rw [uSum_app]; simp [uSum]
/-- items in order: how many, where, how deep, how much together -/
def IX (L : List Itm) : Prop := L.length ≤ 60 ∧ (∀ p ∈ L, p.1 < 20 ∧ p.2.1 ≤ 40) ∧ uSum L ≤ 2 ^ 60
theorem uSum_mem {L : List Itm} {p : Itm} (hp : p ∈ L) : p.2.2 ≤ uSum L := by
  induction L with
  | nil => simp at hp
  | cons x r ih =>
    simp only [uSum, List.map_cons, List.sum_cons] at ih ⊢
    rcases List.mem_cons.mp hp with rfl | hp
    · omega
    · have := ih hp; omega
theorem IX.iw {L : List Itm} (H : IX L) : IW L := ⟨H.1, fun p hp => ⟨(H.2.1 p hp).1, (H.2.1 p hp).2, Nat.le_trans (uSum_mem hp) H.2.2⟩⟩
theorem adS_mem {jn : Bool} {L : List Itm} {p : Itm} (hL : ∀ x ∈ L, x.1 < 20 ∧ x.2.1 ≤ 40) (hp : p.1 < 20 ∧ p.2.1 ≤ 40) : ∀ x ∈ adS jn L p, x.1 < 20 ∧ x.2.1 ≤ 40 := by
  unfold adS
  split
  · next i hi =>
    intro x hx
    obtain ⟨h1, h2, h3⟩ := ixJ_lt hi
    rcases List.mem_or_eq_of_mem_set hx with z | z
    · exact hL x z
    · rw [z]; dsimp only; rw [h2, h3]; exact hp
  · intro x hx
    rcases List.mem_append.mp hx with z | z
    · exact hL x z
    · rw [List.mem_singleton.mp z]; exact hp
section LISTING3
variable {ad : Nat → Nat} {h : Mem} {q : Nat} {L Sh : List Itm} {F R : Nat → Nat} {jn : Bool}
theorem K_X1_isRepeated {j : Nat} (hI : Items h 52 53 54 0 Sh) (hS : ∀ p ∈ Sh, p.1 < 20 ∧ p.2.1 ≤ 40) (hl : Sh.length ≤ 32) (hj : j < Sh.length) : Con ad mX1_isRepeated [.ref (ad 51), .int (nI j)] h (qZ fun b h' => h' = h ∧ b = repU Sh j j) := by
  obtain ⟨f1, f2, -⟩ := hI.gi hj
  rw [n0] at f1 f2
  have bj : (gi Sh j).1 < 20 ∧ (gi Sh j).2.1 ≤ 40 := by rw [gi_eq hj]; exact hS _ (List.getElem_mem hj)
  refine Con.mk vX1_isRepeated.1 vX1_isRepeated.2.2.2.2 [some (.ref (ad 51)), some (.int (nI j)), none] rfl (Nat.le_of_ble_eq_true rfl) (fun Y hM => ?_)
  have loop : ∀ (k i : Nat), j - i = k → i ≤ j → repU Sh j i = false → G Y ad mX1_isRepeated 2 [some (.ref (ad 51)), some (.int (nI j)), some (.int (nI i))] [] h := by
    intro k
    induction k with
    | zero =>
      intro i hk hi hx
      have e : i = j := by omega
      subst e
      refine r_il aX1_isRepeated_2 rfl ?_
      refine r_il aX1_isRepeated_3 rfl ?_
      refine r_n_ge aX1_isRepeated_4 (by omega) (by omega) (fun c4 => ?_) (fun c4 => ?_)
      · -- to 45
        refine r_ki aX1_isRepeated_45 ?_
        exact r_zF hM aX1_isRepeated_46 rfl ⟨rfl, hx.symm⟩
      · omega
    | succ k ih =>
      intro i hk hi hx
      have hil : i < Sh.length := by omega
      obtain ⟨e1, e2, -⟩ := hI.gi hil
      rw [n0] at e1 e2
      have bi : (gi Sh i).1 < 20 ∧ (gi Sh i).2.1 ≤ 40 := by rw [gi_eq hil]; exact hS _ (List.getElem_mem hil)
      refine r_il aX1_isRepeated_2 rfl ?_
      refine r_il aX1_isRepeated_3 rfl ?_
      refine r_n_ge aX1_isRepeated_4 (by omega) (by omega) (fun c4 => ?_) (fun c4 => ?_)
      · omega
      · -- to 7
        refine r_al aX1_isRepeated_7 rfl ?_
        refine r_getR aX1_isRepeated_8 rfl rfl ?_
        refine r_il aX1_isRepeated_11 rfl ?_
        refine r_xI aX1_isRepeated_12 rfl (by omega) e1 ?_
        refine r_al aX1_isRepeated_13 rfl ?_
        refine r_getR aX1_isRepeated_14 rfl rfl ?_
        refine r_il aX1_isRepeated_17 rfl ?_
        refine r_xI aX1_isRepeated_18 rfl (by omega) f1 ?_
        refine r_n_ne aX1_isRepeated_19 (by omega) (by omega) (fun c19 => ?_) (fun c19 => ?_)
        · refine r_in2 aX1_isRepeated_39 rfl ?_
          refine r_go aX1_isRepeated_42 ?_
          exact ih (i + 1) (by omega) (by omega) (repU_s hx (fun z => c19 z.1))
        refine r_al aX1_isRepeated_22 rfl ?_
        refine r_getR aX1_isRepeated_23 rfl rfl ?_
        refine r_il aX1_isRepeated_26 rfl ?_
        refine r_xI aX1_isRepeated_27 rfl (by omega) e2 ?_
        refine r_al aX1_isRepeated_28 rfl ?_
        refine r_getR aX1_isRepeated_29 rfl rfl ?_
        refine r_il aX1_isRepeated_32 rfl ?_
        refine r_xI aX1_isRepeated_33 rfl (by omega) f2 ?_
        refine r_n_ne aX1_isRepeated_34 (by omega) (by omega) (fun c34 => ?_) (fun c34 => ?_)
        · refine r_in2 aX1_isRepeated_39 rfl ?_
          refine r_go aX1_isRepeated_42 ?_
          exact ih (i + 1) (by omega) (by omega) (repU_s hx (fun z => c34 z.2))
        · refine r_ki aX1_isRepeated_37 ?_
          exact r_zT hM aX1_isRepeated_38 rfl ⟨rfl, (repU_t c19 c34 j (by omega)).symm⟩
  refine r_ki aX1_isRepeated_0 ?_
  refine r_is2 aX1_isRepeated_1 rfl ?_
  exact loop _ 0 rfl (by omega) rfl
theorem K_X0_countNew (hq : IsL q) (hW : IW L) (hn : h.1 q 2 = nI L.length) (hI : Items h (q + 1) (q + 2) (q + 3) 0 L) (hs : h.1 51 0 = nI Sh.length) (hJ : Items h 52 53 54 0 Sh) (hS : ∀ p ∈ Sh, p.1 < 20 ∧ p.2.1 ≤ 40) (hl : Sh.length ≤ 32) : Con ad mX0_countNew [.ref (ad q), .ref (ad 51), .int (bI jn)] h (qI fun x h' => h' = h ∧ x = nI (cnt jn L Sh)) := by
  refine Con.mk vX0_countNew.1 vX0_countNew.2.2.2.2 [some (.ref (ad q)), some (.ref (ad 51)), some (.int (bI jn)), none, none] rfl (Nat.le_of_ble_eq_true rfl) (fun Y hM => ?_)
  have loop : ∀ (k j : Nat), Sh.length - j = k → j ≤ Sh.length → jn = true → G Y ad mX0_countNew 14 [some (.ref (ad q)), some (.ref (ad 51)), some (.int (bI jn)), some (.int (nI (cn L Sh j))), some (.int (nI j))] [] h := by
    intro k
    induction k with
    | zero =>
      intro j hk hj hjn
      have e : j = Sh.length := by omega
      subst e
      refine r_il aX0_countNew_14 rfl ?_
      refine r_al aX0_countNew_16 rfl ?_
      refine r_gI aX0_countNew_17 rfl rfl hs ?_
      refine r_n_ge aX0_countNew_20 (by omega) (by omega) (fun c20 => ?_) (fun c20 => ?_)
      · -- to 63
        refine r_il aX0_countNew_63 rfl ?_
        exact r_iret hM aX0_countNew_64 rfl ⟨rfl, by unfold cnt; rw [if_pos hjn]⟩
      · omega
    | succ k ih =>
      intro j hk hj hjn
      have hjl : j < Sh.length := by omega
      have hc := cn_le L Sh j
      obtain ⟨e1, e2, -⟩ := hJ.gi hjl
      rw [n0] at e1 e2
      have bi : (gi Sh j).1 < 20 ∧ (gi Sh j).2.1 ≤ 40 := by rw [gi_eq hjl]; exact hS _ (List.getElem_mem hjl)
      have key := ih (j + 1) (by omega) (by omega) hjn
      rw [cn] at key
      refine r_il aX0_countNew_14 rfl ?_
      refine r_al aX0_countNew_16 rfl ?_
      refine r_gI aX0_countNew_17 rfl rfl hs ?_
      refine r_n_ge aX0_countNew_20 (by omega) (by omega) (fun c20 => ?_) (fun c20 => ?_)
      · omega
      · -- to 23
        refine r_al aX0_countNew_23 rfl ?_
        refine r_al aX0_countNew_24 rfl ?_
        refine r_getR aX0_countNew_25 rfl rfl ?_
        refine r_il aX0_countNew_28 rfl ?_
        refine r_xI aX0_countNew_30 rfl (by omega) e1 ?_
        refine r_al aX0_countNew_31 rfl ?_
        refine r_getR aX0_countNew_32 rfl rfl ?_
        refine r_il aX0_countNew_35 rfl ?_
        refine r_xI aX0_countNew_37 rfl (by omega) e2 ?_
        refine r_VI2 aX0_countNew_38 vX0_itemAt hq.1 (K_X0_itemAt hq hW hn hI bi.1 bi.2) (fun x38 h38 Q38 => ?_)
        rw [Q38.1, Q38.2]
        refine r_ki aX0_countNew_41 ?_
        refine r_c_ne aX0_countNew_42 (fun c42 => ?_) (fun c42 => ?_)
        · -- to 57
          refine r_in4 aX0_countNew_57 rfl ?_
          refine r_go aX0_countNew_60 ?_
          rw [if_neg (fun z => c42 (by rw [z.1]; rfl))] at key
          exact key
        · -- to 45
          refine r_al aX0_countNew_45 rfl ?_
          refine r_il aX0_countNew_46 rfl ?_
          refine r_VZ1 aX0_countNew_48 vX1_isRepeated rfl (K_X1_isRepeated hJ hS hl hjl) (fun x48 h48 Q48 => ?_)
          rw [Q48.1]
          refine r_b_ne aX0_countNew_51 (fun c51 => ?_) (fun c51 => ?_)
          · -- to 57
            refine r_in4 aX0_countNew_57 rfl ?_
            refine r_go aX0_countNew_60 ?_
            rw [if_neg (fun z => by rw [← Q48.2, c51] at z; cases z.2)] at key
            exact key
          · -- to 54
            refine r_in3 aX0_countNew_54 rfl ?_
            refine r_in4 aX0_countNew_57 rfl ?_
            refine r_go aX0_countNew_60 ?_
            rw [if_pos ⟨oI_none c42 (fun n hn => by have := ixOf_lt _ _ _ _ _ hn; have := hW.1; omega), by rw [← Q48.2]; exact c51⟩] at key
            exact key
  refine r_il aX0_countNew_0 rfl ?_
  refine r_b_ne aX0_countNew_1 (fun c1 => ?_) (fun c1 => ?_)
  · -- to 9
    refine r_ki aX0_countNew_9 ?_
    refine r_is3 aX0_countNew_10 rfl ?_
    refine r_ki aX0_countNew_11 ?_
    refine r_is4 aX0_countNew_12 rfl ?_
    exact loop _ 0 rfl (by omega) c1
  · -- to 4
    refine r_al aX0_countNew_4 rfl ?_
    refine r_gI aX0_countNew_5 rfl rfl hs ?_
    exact r_iret hM aX0_countNew_8 rfl ⟨rfl, by unfold cnt; rw [if_neg (by rw [c1]; decide)]⟩
theorem K_X0_putShares (hq : IsL q) (hql : 55 ≤ q) (hL : LR h q L F R) (hX : ∀ p ∈ L, p.1 < 20 ∧ p.2.1 ≤ 40) (hs : h.1 51 0 = nI Sh.length) (hJ : Items h 52 53 54 0 Sh) (hS : ∀ p ∈ Sh, p.1 < 20 ∧ p.2.1 ≤ 40) (hl : Sh.length ≤ 32) (h60 : (pu jn L Sh).length ≤ 60) (hsum : uSum L + uSum Sh ≤ 2 ^ 60) : Con ad mX0_putShares [.ref (ad q), .ref (ad 51), .int (bI jn)] h (qV fun h' => LR h' q (pu jn L Sh) F R ∧ h'.1 q 0 = h.1 q 0 ∧ h'.1 q 1 = h.1 q 1 ∧ Fr (inL q) h h') := by
  refine Con.mk vX0_putShares.1 vX0_putShares.2.2.2.2 [some (.ref (ad q)), some (.ref (ad 51)), some (.int (bI jn)), none, none, none] rfl (Nat.le_of_ble_eq_true rfl) (fun Y hM => ?_)
  have loop : ∀ (k j : Nat) (g : Mem) (C : List Itm), Sh.length - j = k → j ≤ Sh.length → LR g q C F R → pu jn C (Sh.drop j) = pu jn L Sh → (∀ p ∈ C, p.1 < 20 ∧ p.2.1 ≤ 40) → uSum C + uSum (Sh.drop j) ≤ 2 ^ 60 → g.1 q 0 = h.1 q 0 → g.1 q 1 = h.1 q 1 → Fr (inL q) h g → G Y ad mX0_putShares 2 [some (.ref (ad q)), some (.ref (ad 51)), some (.int (bI jn)), some (.int (nI j)), none, none] [] g := by
    intro k
    induction k with
    | zero =>
      intro j g C hk hj hLg hC hXC hsC g0 g1 hF
      have hsg : g.1 51 0 = nI Sh.length := by rw [(hF 51 (fun z => by have := z.1; omega)).1]; exact hs
      refine r_il aX0_putShares_2 rfl ?_
      refine r_al aX0_putShares_3 rfl ?_
      refine r_gI aX0_putShares_4 rfl rfl hsg ?_
      refine r_n_ge aX0_putShares_7 (by omega) (by omega) (fun c7 => ?_) (fun c7 => ?_)
      · -- to 105
        refine r_vret hM aX0_putShares_105 rfl ?_
        rw [List.drop_of_length_le (by omega)] at hC
        rw [← hC]
        exact ⟨hLg, g0, g1, hF⟩
      · omega
    | succ k ih =>
      intro j g C hk hj hLg hC hXC hsC g0 g1 hF
      have hsg : g.1 51 0 = nI Sh.length := by rw [(hF 51 (fun z => by have := z.1; omega)).1]; exact hs
      have hjl : j < Sh.length := by omega
      have hJg : Items g 52 53 54 0 Sh := hJ.cong (fun i _ => by rw [(hF 52 (fun z => by have := z.1; omega)).1]) (fun i _ => by rw [(hF 53 (fun z => by have := z.1; omega)).1]) (fun i _ => by rw [(hF 54 (fun z => by have := z.1; omega)).2])
      obtain ⟨e1, e2, e3⟩ := hJg.gi hjl
      rw [n0] at e1 e2 e3
      have bi : (gi Sh j).1 < 20 ∧ (gi Sh j).2.1 ≤ 40 := by rw [gi_eq hjl]; exact hS _ (List.getElem_mem hjl)
      rw [List.drop_eq_getElem_cons hjl, ← gi_eq hjl] at hC hsC
      generalize gi Sh j = p at e1 e2 e3 bi hC hsC
      have hC' : pu jn (adS jn C p) (Sh.drop (j + 1)) = pu jn L Sh := hC
      have hlen : (adS jn C p).length ≤ 60 := by rw [← hC'] at h60; exact Nat.le_trans (pu_len jn _ _) h60
      have hCl : C.length ≤ 60 := Nat.le_trans (adS_len jn C p) hlen
      have hs2 : uSum (adS jn C p) + uSum (Sh.drop (j + 1)) ≤ 2 ^ 60 := by
        rw [adS_sum]
        simp only [uSum, List.map_cons, List.sum_cons] at hsC ⊢
        omega
      have hIW : IW C := (show IX C from ⟨hCl, hXC, by omega⟩).iw
      have hX2 := adS_mem (jn := jn) hXC bi
      obtain ⟨cn0, cI, cF, cR, cH⟩ := id hLg
      have bp : p.2.2 ≤ 2 ^ 60 := by
        simp only [uSum, List.map_cons, List.sum_cons] at hsC
        omega
      have fresh : ixJ jn C p = none → ∀ (ls : List (Option Value)), ls = [some (.ref (ad q)), some (.ref (ad 51)), some (.int (bI jn)), some (.int (nI j)), some (.int (nI p.1)), some (.int (-1))] → G Y ad mX0_putShares 46 ls [] g := by
        intro hix ls hls
        subst hls
        have ea : adS jn C p = C ++ [p] := by unfold adS; rw [hix]
        rw [ea] at hlen
        rw [List.length_append, List.length_singleton] at hlen
        refine r_al aX0_putShares_46 rfl ?_
        refine r_il aX0_putShares_47 rfl ?_
        refine r_al aX0_putShares_49 rfl ?_
        refine r_getR aX0_putShares_50 rfl rfl ?_
        refine r_il aX0_putShares_53 rfl ?_
        refine r_xI aX0_putShares_54 rfl (by omega) e2 ?_
        refine r_al aX0_putShares_55 rfl ?_
        refine r_getR aX0_putShares_56 rfl rfl ?_
        refine r_il aX0_putShares_59 rfl ?_
        refine r_xL aX0_putShares_60 rfl (by omega) e3 ?_
        refine r_VV3 aX0_putShares_61 vX0_addItem hq.1 (K_X0_addItem hq (by omega) bi.1 hLg) (fun h61 Q61 => ?_)
        refine r_go aX0_putShares_64 ?_
        refine r_in3 aX0_putShares_99 rfl ?_
        refine r_go aX0_putShares_102 ?_
        obtain ⟨q1, q2, q3, q4⟩ := Q61
        refine r_f4 (r_f5 ?_)
        refine ih (j + 1) h61 (adS jn C p) (by omega) (by omega) (by rw [ea]; exact q1) hC' hX2 hs2 (q2.trans g0) (q3.trans g1) (hF.tr q4)
      have joined : ∀ i, ixJ jn C p = some i → ∀ (ls : List (Option Value)), ls = [some (.ref (ad q)), some (.ref (ad 51)), some (.int (bI jn)), some (.int (nI j)), some (.int (nI p.1)), some (.int (nI i))] → G Y ad mX0_putShares 67 ls [] g := by
        intro i hix ls hls
        subst hls
        obtain ⟨i1, i2, i3⟩ := ixJ_lt hix
        have ea : adS jn C p = C.set i ((gi C i).1, (gi C i).2.1, (gi C i).2.2 + p.2.2) := by unfold adS; rw [hix]
        obtain ⟨u1, u2, u3⟩ := cI.gi i1
        rw [n0] at u1 u2 u3
        have hw : g.2 (q + 6) p.1 = lN (R p.1 + opAt C p.1) := by have := cH p.1 bi.1; rwa [n0] at this
        have e3' : ∀ x y, (sl g (q + 3) x y).2 54 j = lN p.2.2 := fun x y => by rw [sl_2, if_neg (by omega)]; exact e3
        refine r_al aX0_putShares_67 rfl ?_
        refine r_getR aX0_putShares_68 hq.1 rfl ?_
        refine r_il aX0_putShares_71 rfl ?_
        refine r_dup2 aX0_putShares_73 rfl rfl ?_
        refine r_xL aX0_putShares_74 hq.2.2.2.1 (by omega) u3 ?_
        refine r_al aX0_putShares_75 rfl ?_
        refine r_getR aX0_putShares_76 rfl rfl ?_
        refine r_il aX0_putShares_79 rfl ?_
        refine r_xL aX0_putShares_80 rfl (by omega) e3 ?_
        refine r_laddN aX0_putShares_81 ?_
        refine r_last aX0_putShares_82 hq.2.2.2.1 (by omega) ?_
        refine r_al aX0_putShares_83 rfl ?_
        refine r_getR aX0_putShares_84 hq.1 rfl ?_
        refine r_il aX0_putShares_87 rfl ?_
        refine r_dup2 aX0_putShares_89 rfl rfl ?_
        refine r_xL aX0_putShares_90 hq.2.2.2.2.2.2 (by omega) (Eq.trans (by simp [si_1, si_2, sl_1, sl_2, sri_1, sri_2, srl_1, srl_2]) hw) ?_
        refine r_al aX0_putShares_91 rfl ?_
        refine r_getR aX0_putShares_92 rfl rfl ?_
        refine r_il aX0_putShares_95 rfl ?_
        refine r_xL aX0_putShares_96 rfl (by omega) (e3' _ _) ?_
        refine r_laddN aX0_putShares_97 ?_
        refine r_last aX0_putShares_98 hq.2.2.2.2.2.2 (by omega) ?_
        refine r_in3 aX0_putShares_99 rfl ?_
        refine r_go aX0_putShares_102 ?_
        refine r_f4 (r_f5 ?_)
        refine ih (j + 1) _ (adS jn C p) (by omega) (by omega) ?_ hC' hX2 hs2 ?_ ?_ (hF.tr ((Fr.sl ⟨by omega, by omega⟩).tr (Fr.sl ⟨by omega, by omega⟩)))
        · rw [ea]
          refine ⟨?_, ?_, ?_, ?_, ?_⟩
          · rw [List.length_set]; exact cn0
          · rw [gi_eq i1]
            refine cI.put i1 (fun _ _ => rfl) (fun _ _ => rfl) (fun x hx hne => ?_) ?_
            · rw [n0]; simp [sl_2, hne]
            · simp [sl_2, gi_eq i1]
          · intro x hx; simpa [sl_2] using cF x hx
          · intro x hx; simpa [sl_2] using cR x hx
          · intro x hx
            dsimp only
            rw [gi_eq i1, opAt_set]
            have z := cH x hx
            rw [n0] at z
            by_cases e : x = p.1
            · subst e
              rw [gi_eq i1] at i2
              simp [sl_2, i2]
              congr 1
              omega
            · rw [gi_eq i1] at i2
              have e' : ¬ p.1 = x := fun z => e z.symm
              simp [sl_2, i2, e, e', z]
        · rw [sl_1, sl_1]; exact g0
        · rw [sl_1, sl_1]; exact g1
      refine r_il aX0_putShares_2 rfl ?_
      refine r_al aX0_putShares_3 rfl ?_
      refine r_gI aX0_putShares_4 rfl rfl hsg ?_
      refine r_n_ge aX0_putShares_7 (by omega) (by omega) (fun c7 => ?_) (fun c7 => ?_)
      · omega
      · -- to 10
        refine r_al aX0_putShares_10 rfl ?_
        refine r_getR aX0_putShares_11 rfl rfl ?_
        refine r_il aX0_putShares_14 rfl ?_
        refine r_xI aX0_putShares_15 rfl (by omega) e1 ?_
        refine r_is4 aX0_putShares_16 rfl ?_
        refine r_il aX0_putShares_18 rfl ?_
        refine r_b_eq aX0_putShares_19 (fun c19 => ?_) (fun c19 => ?_)
        · -- to 37
          refine r_ki aX0_putShares_37 ?_
          refine r_is5 aX0_putShares_38 rfl ?_
          refine r_il aX0_putShares_40 rfl ?_
          refine r_ki aX0_putShares_42 ?_
          refine r_c_ne aX0_putShares_43 (fun c43 => absurd rfl c43) (fun c43 => ?_)
          exact fresh (by unfold ixJ; rw [c19]; rfl) _ rfl
        · -- to 22
          refine r_al aX0_putShares_22 rfl ?_
          refine r_il aX0_putShares_23 rfl ?_
          refine r_al aX0_putShares_25 rfl ?_
          refine r_getR aX0_putShares_26 rfl rfl ?_
          refine r_il aX0_putShares_29 rfl ?_
          refine r_xI aX0_putShares_30 rfl (by omega) e2 ?_
          refine r_VI2 aX0_putShares_31 vX0_itemAt hq.1 (K_X0_itemAt hq hIW cn0 cI bi.1 bi.2) (fun x31 h31 Q31 => ?_)
          rw [Q31.1, Q31.2]
          refine r_go aX0_putShares_34 ?_
          refine r_is5 aX0_putShares_38 rfl ?_
          refine r_il aX0_putShares_40 rfl ?_
          refine r_ki aX0_putShares_42 ?_
          refine r_c_ne aX0_putShares_43 (fun c43 => ?_) (fun c43 => ?_)
          · -- to 67
            obtain ⟨i, hi⟩ := oI_some c43
            rw [hi]
            exact joined i (by unfold ixJ; rw [c19]; exact hi) _ rfl
          · -- to 46
            have hi : ixOf p.1 p.2.1 C 0 = none := oI_none c43 (fun n hn => by have := ixOf_lt _ _ _ _ _ hn; omega)
            rw [hi]
            exact fresh (by unfold ixJ; rw [c19]; exact hi) _ rfl
  refine r_ki aX0_putShares_0 ?_
  refine r_is3 aX0_putShares_1 rfl ?_
  exact loop _ 0 h L rfl (by omega) hL rfl hX (by rw [List.drop_zero]; exact hsum) rfl rfl Fr.rf
end LISTING3
end
section
section LISTING4
variable {ad : Nat → Nat} {h : Mem} {q p : Nat} {L : List Itm} {F R : Nat → Nat}
theorem K_J7_fill_d0a16 {a n : Nat} {f : Nat → Option Nat} {x : Int64} (ha : shTab[a]? = some (.inl (1, n, f))) : Con ad mJ7_fill_d0a16 [.ref (ad a), .long x] h (qV fun h' => (∀ i, i < n → h'.2 a i = x) ∧ Fr (fun b => b = a) h h' ∧ h'.1 = h.1) := by
  have hn := shLen ha
  refine Con.mk vJ7_fill_d0a16.1 vJ7_fill_d0a16.2.2.2 [some (.ref (ad a)), some (.long x), none, none, none] rfl (Nat.le_of_ble_eq_true rfl) (fun Y hM => ?_)
  have loop : ∀ (k i : Nat) (g : Mem), n - i = k → i ≤ n → (∀ j, j < i → g.2 a j = x) → Fr (fun b => b = a) h g → g.1 = h.1 → G Y ad mJ7_fill_d0a16 6 [some (.ref (ad a)), some (.long x), none, some (.int (nI i)), some (.int (nI n))] [] g := by
    intro k
    induction k with
    | zero =>
      intro i g hk hi hx hF h1
      refine r_il aJ7_fill_d0a16_6 rfl ?_
      refine r_il aJ7_fill_d0a16_7 rfl ?_
      refine r_n_ge aJ7_fill_d0a16_9 (by omega) (by omega) (fun c9 => ?_) (fun c9 => ?_)
      · -- to 22
        exact r_vret hM aJ7_fill_d0a16_22 rfl ⟨fun j hj => hx j (by omega), hF, h1⟩
      · omega
    | succ k ih =>
      intro i g hk hi hx hF h1
      refine r_il aJ7_fill_d0a16_6 rfl ?_
      refine r_il aJ7_fill_d0a16_7 rfl ?_
      refine r_n_ge aJ7_fill_d0a16_9 (by omega) (by omega) (fun c9 => ?_) (fun c9 => ?_)
      · omega
      · -- to 12
        refine r_al aJ7_fill_d0a16_12 rfl ?_
        refine r_il aJ7_fill_d0a16_13 rfl ?_
        refine r_ll aJ7_fill_d0a16_14 rfl ?_
        refine r_last aJ7_fill_d0a16_15 ha (by omega) ?_
        refine r_in3 aJ7_fill_d0a16_16 rfl ?_
        refine r_go aJ7_fill_d0a16_19 ?_
        refine ih (i + 1) _ (by omega) (by omega) (fun j hj => ?_) (hF.tr (Fr.sl (P := fun b => b = a) rfl)) h1
        rw [sl_2]
        by_cases e : j = i
        · simp [e]
        · simp [e]; exact hx j (by omega)
  refine r_ki aJ7_fill_d0a16_0 ?_
  refine r_is3 aJ7_fill_d0a16_1 rfl ?_
  refine r_al aJ7_fill_d0a16_2 rfl ?_
  refine r_alenJ aJ7_fill_d0a16_3 ha ?_
  refine r_is4 aJ7_fill_d0a16_4 rfl ?_
  exact loop _ 0 h rfl (by omega) (fun j hj => by omega) Fr.rf rfl
theorem K_J7_fill_53178 {a n : Nat} {f : Nat → Option Nat} {x : Int32} (ha : shTab[a]? = some (.inl (0, n, f))) : Con ad mJ7_fill_53178 [.ref (ad a), .int x] h (qV fun h' => (∀ i, i < n → h'.1 a i = x) ∧ Fr (fun b => b = a) h h' ∧ h'.2 = h.2) := by
  have hn := shLen ha
  refine Con.mk vJ7_fill_53178.1 vJ7_fill_53178.2.2.2 [some (.ref (ad a)), some (.int x), none, none] rfl (Nat.le_of_ble_eq_true rfl) (fun Y hM => ?_)
  have loop : ∀ (k i : Nat) (g : Mem), n - i = k → i ≤ n → (∀ j, j < i → g.1 a j = x) → Fr (fun b => b = a) h g → g.2 = h.2 → G Y ad mJ7_fill_53178 5 [some (.ref (ad a)), some (.int x), some (.int (nI i)), some (.int (nI n))] [] g := by
    intro k
    induction k with
    | zero =>
      intro i g hk hi hx hF h1
      refine r_il aJ7_fill_53178_5 rfl ?_
      refine r_il aJ7_fill_53178_6 rfl ?_
      refine r_n_ge aJ7_fill_53178_7 (by omega) (by omega) (fun c7 => ?_) (fun c7 => ?_)
      · -- to 20
        exact r_vret hM aJ7_fill_53178_20 rfl ⟨fun j hj => hx j (by omega), hF, h1⟩
      · omega
    | succ k ih =>
      intro i g hk hi hx hF h1
      refine r_il aJ7_fill_53178_5 rfl ?_
      refine r_il aJ7_fill_53178_6 rfl ?_
      refine r_n_ge aJ7_fill_53178_7 (by omega) (by omega) (fun c7 => ?_) (fun c7 => ?_)
      · omega
      · -- to 10
        refine r_al aJ7_fill_53178_10 rfl ?_
        refine r_il aJ7_fill_53178_11 rfl ?_
        refine r_il aJ7_fill_53178_12 rfl ?_
        refine r_iast aJ7_fill_53178_13 ha (by omega) ?_
        refine r_in2 aJ7_fill_53178_14 rfl ?_
        refine r_go aJ7_fill_53178_17 ?_
        refine ih (i + 1) _ (by omega) (by omega) (fun j hj => ?_) (hF.tr (Fr.si (P := fun b => b = a) rfl)) h1
        rw [si_1]
        by_cases e : j = i
        · simp [e]
        · simp [e]; exact hx j (by omega)
  refine r_ki aJ7_fill_53178_0 ?_
  refine r_is2 aJ7_fill_53178_1 rfl ?_
  refine r_al aJ7_fill_53178_2 rfl ?_
  refine r_alenI aJ7_fill_53178_3 ha ?_
  refine r_is3 aJ7_fill_53178_4 rfl ?_
  exact loop _ 0 h rfl (by omega) (fun j hj => by omega) Fr.rf rfl
theorem K_X0_beginAt {s : Nat} (hq : IsL q) (hs : s < 20) : Con ad mX0_beginAt [.ref (ad q), .int (nI s)] h (qV fun h' => LR h' q [(s, 0, 1152921504606846976)] (fun _ => 0) (fun _ => 0) ∧ h'.1 q 0 = nI s ∧ h'.1 q 1 = nI 0 ∧ Fr (inL q) h h') := by
  refine Con.mk vX0_beginAt.1 vX0_beginAt.2.2.2.2 [some (.ref (ad q)), some (.int (nI s))] rfl (Nat.le_of_ble_eq_true rfl) (fun Y hM => ?_)
  refine r_al aX0_beginAt_0 rfl ?_
  refine r_il aX0_beginAt_1 rfl ?_
  refine r_putI aX0_beginAt_2 hq.1 rfl rfl ?_
  refine r_al aX0_beginAt_5 rfl ?_
  refine r_ki aX0_beginAt_6 ?_
  refine r_putI aX0_beginAt_7 hq.1 rfl rfl ?_
  refine r_al aX0_beginAt_10 rfl ?_
  refine r_ki aX0_beginAt_11 ?_
  refine r_putI aX0_beginAt_12 hq.1 rfl rfl ?_
  refine r_al aX0_beginAt_15 rfl ?_
  refine r_getR aX0_beginAt_16 hq.1 rfl ?_
  refine r_kl aX0_beginAt_19 ?_
  refine r_SV2 aX0_beginAt_20 vJ7_fill_d0a16 (K_J7_fill_d0a16 hq.2.2.2.2.1) (fun h20 Q20 => ?_)
  refine r_al aX0_beginAt_23 rfl ?_
  refine r_getR aX0_beginAt_24 hq.1 rfl ?_
  refine r_kl aX0_beginAt_27 ?_
  refine r_SV2 aX0_beginAt_28 vJ7_fill_d0a16 (K_J7_fill_d0a16 hq.2.2.2.2.2.1) (fun h28 Q28 => ?_)
  refine r_al aX0_beginAt_31 rfl ?_
  refine r_getR aX0_beginAt_32 hq.1 rfl ?_
  refine r_kl aX0_beginAt_35 ?_
  refine r_SV2 aX0_beginAt_36 vJ7_fill_d0a16 (K_J7_fill_d0a16 hq.2.2.2.2.2.2) (fun h36 Q36 => ?_)
  obtain ⟨a1, a2, a3⟩ := Q20
  obtain ⟨b1, b2, b3⟩ := Q28
  obtain ⟨d1, d2, d3⟩ := Q36
  have e0 : h36.1 = (si (si (si h q 0 (nI s)) q 1 (nI 0)) q 2 (nI 0)).1 := d3.trans (b3.trans a3)
  have f4 : ∀ i, i < 8 → h36.2 (q + 4) i = lN 0 := fun i hi => by rw [(d2 _ (by omega)).2, (b2 _ (by omega)).2]; exact a1 i hi
  have f5 : ∀ i, i < 20 → h36.2 (q + 5) i = lN 0 := fun i hi => by rw [(d2 _ (by omega)).2]; exact b1 i hi
  have hLR : LR h36 q [] (fun _ => 0) (fun _ => 0) := ⟨by rw [e0]; simp [si_1], fun i p hp => by simp at hp, fun i hi => by rw [n0]; exact f4 i hi, fun i hi => by rw [n0]; exact f5 i hi, fun i hi => by rw [n0]; exact d1 i hi⟩
  have hF : Fr (inL q) h h36 := (Fr.si ⟨by omega, by omega⟩).tr ((Fr.si ⟨by omega, by omega⟩).tr ((Fr.si ⟨by omega, by omega⟩).tr ((a2.mono (fun k z => by rw [z]; exact ⟨by omega, by omega⟩)).tr ((b2.mono (fun k z => by rw [z]; exact ⟨by omega, by omega⟩)).tr (d2.mono (fun k z => by rw [z]; exact ⟨by omega, by omega⟩))))))
  refine r_al aX0_beginAt_39 rfl ?_
  refine r_il aX0_beginAt_40 rfl ?_
  refine r_ki aX0_beginAt_41 ?_
  refine r_kl aX0_beginAt_42 ?_
  refine r_VV3 aX0_beginAt_45 vX0_addItem hq.1 (K_X0_addItem hq (by decide) hs hLR) (fun h45 Q45 => ?_)
  exact r_vret hM aX0_beginAt_48 rfl ⟨Q45.1, by rw [Q45.2.1, e0]; simp [si_1], by rw [Q45.2.2.1, e0]; simp [si_1], hF.tr Q45.2.2.2⟩
theorem K_X0_copyFrom (hq : IsL q) (hp : IsL p) (hd : p + 7 ≤ q ∨ q + 7 ≤ p) : Con ad mX0_copyFrom [.ref (ad q), .ref (ad p)] h (qV fun h' => h'.1 q 0 = h.1 p 0 ∧ h'.1 q 1 = h.1 p 1 ∧ Fr (inL q) h h' ∧ ∀ (L : List Itm) (F R : Nat → Nat), L.length ≤ 60 → LR h p L F R → LR h' q L F R) := by
  have n0 : ∀ k, k < 7 → p ≠ q + k := fun k hk => by omega
  have n1 : ∀ j k, k < 7 → j < 7 → p + j ≠ q + k := fun j k hk hj => by omega
  have n2 : p ≠ q := by omega
  have n3 : ∀ j, j < 7 → p + j ≠ q := fun j hj => by omega
  refine Con.mk vX0_copyFrom.1 vX0_copyFrom.2.2.2.2 [some (.ref (ad q)), some (.ref (ad p))] rfl (Nat.le_of_ble_eq_true rfl) (fun Y hM => ?_)
  refine r_al aX0_copyFrom_0 rfl ?_
  refine r_al aX0_copyFrom_1 rfl ?_
  refine r_getI aX0_copyFrom_2 hp.1 rfl ?_
  refine r_putI aX0_copyFrom_5 hq.1 rfl rfl ?_
  refine r_al aX0_copyFrom_8 rfl ?_
  refine r_al aX0_copyFrom_9 rfl ?_
  refine r_getI aX0_copyFrom_10 hp.1 rfl ?_
  refine r_putI aX0_copyFrom_13 hq.1 rfl rfl ?_
  refine r_al aX0_copyFrom_16 rfl ?_
  refine r_al aX0_copyFrom_17 rfl ?_
  refine r_getI aX0_copyFrom_18 hp.1 rfl ?_
  refine r_putI aX0_copyFrom_21 hq.1 rfl rfl ?_
  refine r_al aX0_copyFrom_24 rfl ?_
  refine r_getR aX0_copyFrom_25 hp.1 rfl ?_
  refine r_ki aX0_copyFrom_28 ?_
  refine r_al aX0_copyFrom_29 rfl ?_
  refine r_getR aX0_copyFrom_30 hq.1 rfl ?_
  refine r_ki aX0_copyFrom_33 ?_
  refine r_ki aX0_copyFrom_34 ?_
  refine r_cpI aX0_copyFrom_36 hp.2.1 hq.2.1 (by omega) (by omega) ?_
  refine r_al aX0_copyFrom_39 rfl ?_
  refine r_getR aX0_copyFrom_40 hp.1 rfl ?_
  refine r_ki aX0_copyFrom_43 ?_
  refine r_al aX0_copyFrom_44 rfl ?_
  refine r_getR aX0_copyFrom_45 hq.1 rfl ?_
  refine r_ki aX0_copyFrom_48 ?_
  refine r_ki aX0_copyFrom_49 ?_
  refine r_cpI aX0_copyFrom_51 hp.2.2.1 hq.2.2.1 (by omega) (by omega) ?_
  refine r_al aX0_copyFrom_54 rfl ?_
  refine r_getR aX0_copyFrom_55 hp.1 rfl ?_
  refine r_ki aX0_copyFrom_58 ?_
  refine r_al aX0_copyFrom_59 rfl ?_
  refine r_getR aX0_copyFrom_60 hq.1 rfl ?_
  refine r_ki aX0_copyFrom_63 ?_
  refine r_ki aX0_copyFrom_64 ?_
  refine r_cpL aX0_copyFrom_66 hp.2.2.2.1 hq.2.2.2.1 (by omega) (by omega) ?_
  refine r_al aX0_copyFrom_69 rfl ?_
  refine r_getR aX0_copyFrom_70 hp.1 rfl ?_
  refine r_ki aX0_copyFrom_73 ?_
  refine r_al aX0_copyFrom_74 rfl ?_
  refine r_getR aX0_copyFrom_75 hq.1 rfl ?_
  refine r_ki aX0_copyFrom_78 ?_
  refine r_ki aX0_copyFrom_79 ?_
  refine r_cpL aX0_copyFrom_81 hp.2.2.2.2.1 hq.2.2.2.2.1 (by omega) (by omega) ?_
  refine r_al aX0_copyFrom_84 rfl ?_
  refine r_getR aX0_copyFrom_85 hp.1 rfl ?_
  refine r_ki aX0_copyFrom_88 ?_
  refine r_al aX0_copyFrom_89 rfl ?_
  refine r_getR aX0_copyFrom_90 hq.1 rfl ?_
  refine r_ki aX0_copyFrom_93 ?_
  refine r_ki aX0_copyFrom_94 ?_
  refine r_cpL aX0_copyFrom_96 hp.2.2.2.2.2.1 hq.2.2.2.2.2.1 (by omega) (by omega) ?_
  refine r_al aX0_copyFrom_99 rfl ?_
  refine r_getR aX0_copyFrom_100 hp.1 rfl ?_
  refine r_ki aX0_copyFrom_103 ?_
  refine r_al aX0_copyFrom_104 rfl ?_
  refine r_getR aX0_copyFrom_105 hq.1 rfl ?_
  refine r_ki aX0_copyFrom_108 ?_
  refine r_ki aX0_copyFrom_109 ?_
  refine r_cpL aX0_copyFrom_111 hp.2.2.2.2.2.2 hq.2.2.2.2.2.2 (by omega) (by omega) ?_
  refine r_vret hM aX0_copyFrom_114 rfl ?_
  refine ⟨by simp [si_1, sri_1, srl_1, n2], by simp [si_1, sri_1, srl_1, n2], (Fr.si ⟨by omega, by omega⟩).tr ((Fr.si ⟨by omega, by omega⟩).tr ((Fr.si ⟨by omega, by omega⟩).tr ((Fr.sri ⟨by omega, by omega⟩).tr ((Fr.sri ⟨by omega, by omega⟩).tr ((Fr.srl ⟨by omega, by omega⟩).tr ((Fr.srl ⟨by omega, by omega⟩).tr ((Fr.srl ⟨by omega, by omega⟩).tr (Fr.srl ⟨by omega, by omega⟩)))))))), ?_⟩
  intro L F R hl hLR
  obtain ⟨hn, hI, hF, hR, hH⟩ := hLR
  refine ⟨?_, ?_, ?_, ?_, ?_⟩
  · simp [si_1, sri_1, srl_1, n2, hn]
  · intro i x hx
    have hi := (List.getElem?_eq_some_iff.mp hx).1
    have h9 := hI i x hx
    have hi2 : i < 60 := by omega
    rw [Nat.zero_add] at h9 ⊢
    simp [si_1, sri_1, srl_1, si_2, sri_2, srl_2, va_cpy, hi2, n1, n2, n3, h9]
  · intro i hi
    have h9 := hF i hi
    rw [Nat.zero_add] at h9 ⊢
    simp [si_2, sri_2, srl_2, va_cpy, hi, n1, n2, n3, h9]
  · intro i hi
    have h9 := hR i hi
    rw [Nat.zero_add] at h9 ⊢
    simp [si_2, sri_2, srl_2, va_cpy, hi, n1, n2, n3, h9]
  · intro i hi
    have h9 := hH i hi
    rw [Nat.zero_add] at h9 ⊢
    simp [si_2, sri_2, srl_2, va_cpy, hi, n1, n2, n3, h9]
end LISTING4
end
section
/-! what a step does, and that nothing is lost -/
def hasK (L : List Itm) (s d : Nat) : Prop := ∃ p ∈ L, p.1 = s ∧ p.2.1 = d
theorem ixOf_none (s d : Nat) : ∀ (L : List Itm) (o : Nat), ixOf s d L o = none ↔ ¬ hasK L s d
  | [], o => ⟨fun _ => fun ⟨p, hp, _⟩ => by simp at hp, fun _ => rfl⟩
  | x :: r, o => by
    unfold ixOf
    by_cases e : x.1 = s ∧ x.2.1 = d
    · rw [if_pos e]
      exact ⟨fun z => (by cases z), fun z => absurd ⟨x, List.mem_cons_self, e⟩ z⟩
    · rw [if_neg e, ixOf_none s d r (o + 1)]
      refine ⟨fun z => fun ⟨p, hp, hk⟩ => ?_, fun z => fun ⟨p, hp, hk⟩ => z ⟨p, List.mem_cons_of_mem _ hp, hk⟩⟩
      rcases List.mem_cons.mp hp with rfl | hp
      · exact e hk
      · exact z ⟨p, hp, hk⟩
theorem repU_iff (Sh : List Itm) (j : Nat) : ∀ k, repU Sh j k = true ↔ ∃ i, i < k ∧ (gi Sh i).1 = (gi Sh j).1 ∧ (gi Sh i).2.1 = (gi Sh j).2.1
  | 0 => ⟨fun z => (by cases z), fun ⟨i, hi, _⟩ => by omega⟩
  | k + 1 => by
    unfold repU
    rw [Bool.or_eq_true, repU_iff Sh j k, decide_eq_true_eq]
    refine ⟨fun z => z.elim (fun ⟨i, hi, hk⟩ => ⟨i, by omega, hk⟩) (fun hk => ⟨k, by omega, hk⟩), fun ⟨i, hi, hk⟩ => ?_⟩
    by_cases e : i = k
    · subst e; exact Or.inr hk
    · exact Or.inl ⟨i, by omega, hk⟩
theorem gi_mem {L : List Itm} {i : Nat} (hi : i < L.length) : gi L i ∈ L := by rw [gi_eq hi]; exact List.getElem_mem hi
theorem mem_gi {L : List Itm} {p : Itm} (hp : p ∈ L) : ∃ i, i < L.length ∧ gi L i = p := by
  obtain ⟨i, hi, e⟩ := List.getElem_of_mem hp
  exact ⟨i, hi, by rw [gi_eq hi]; exact e⟩
theorem hasK_adS {C : List Itm} {p : Itm} (s d : Nat) : hasK (adS true C p) s d ↔ hasK C s d ∨ (p.1 = s ∧ p.2.1 = d) := by
  unfold adS
  cases hx : ixJ true C p with
  | none =>
    dsimp only
    constructor
    · rintro ⟨x, hx, hk⟩
      rcases List.mem_append.mp hx with z | z
      · exact Or.inl ⟨x, z, hk⟩
      · rw [List.mem_singleton.mp z] at hk; exact Or.inr hk
    · rintro (⟨x, hx, hk⟩ | hk)
      · exact ⟨x, List.mem_append_left _ hx, hk⟩
      · exact ⟨p, List.mem_append_right _ List.mem_cons_self, hk⟩
  | some i =>
    obtain ⟨h1, h2, h3⟩ := ixJ_lt hx
    dsimp only
    constructor
    · rintro ⟨x, hx, hk⟩
      rcases List.mem_or_eq_of_mem_set hx with z | z
      · exact Or.inl ⟨x, z, hk⟩
      · rw [z] at hk; exact Or.inl ⟨gi C i, gi_mem h1, hk⟩
    · rintro (⟨x, hx, hk⟩ | hk)
      · obtain ⟨j, hj, e⟩ := mem_gi hx
        by_cases hij : i = j
        · subst hij
          exact ⟨_, List.mem_of_getElem? (List.getElem?_set_self h1), by rw [← e] at hk; exact hk⟩
        · refine ⟨x, List.mem_of_getElem? (i := j) ?_, hk⟩
          rw [List.getElem?_set_ne hij, List.getElem?_eq_getElem hj, ← gi_eq hj, e]
      · exact ⟨_, List.mem_of_getElem? (List.getElem?_set_self h1), by dsimp only; rw [h2, h3]; exact hk⟩
theorem pu_snoc (jn : Bool) (C A : List Itm) (p : Itm) : pu jn C (A ++ [p]) = adS jn (pu jn C A) p := by simp [pu]
theorem take_gi {Sh : List Itm} {j : Nat} (hj : j < Sh.length) : Sh.take (j + 1) = Sh.take j ++ [gi Sh j] := by
  rw [gi_eq hj, List.take_succ_eq_append_getElem hj]
theorem pu_take (C Sh : List Itm) : ∀ j, j ≤ Sh.length → (pu true C (Sh.take j)).length = C.length + cn C Sh j ∧ ∀ s d, hasK (pu true C (Sh.take j)) s d ↔ hasK C s d ∨ ∃ i, i < j ∧ (gi Sh i).1 = s ∧ (gi Sh i).2.1 = d
  | 0, _ => by
    rw [List.take_zero]
    exact ⟨rfl, fun s d => ⟨Or.inl, fun z => z.elim id (fun ⟨i, hi, _⟩ => by omega)⟩⟩
  | j + 1, hj => by
    obtain ⟨h1, h2⟩ := pu_take C Sh j (by omega)
    rw [take_gi (by omega), pu_snoc]
    generalize pu true C (Sh.take j) = P at h1 h2
    refine ⟨?_, fun s d => ?_⟩
    · unfold cn
      have hk := h2 (gi Sh j).1 (gi Sh j).2.1
      have hr := repU_iff Sh j j
      unfold adS ixJ
      rw [if_pos rfl]
      cases hx : ixOf (gi Sh j).1 (gi Sh j).2.1 P 0 with
      | none =>
        rw [ixOf_none, hk] at hx
        rw [if_pos]
        · simp; omega
        · refine ⟨(ixOf_none _ _ _ _).mpr (fun z => hx (Or.inl z)), ?_⟩
          cases hb : repU Sh j j with
          | false => rfl
          | true => exact absurd (Or.inr (hr.mp hb)) hx
      | some i =>
        have hh : hasK P (gi Sh j).1 (gi Sh j).2.1 := by
          cases Classical.em (hasK P (gi Sh j).1 (gi Sh j).2.1) with
          | inl z => exact z
          | inr z => rw [(ixOf_none _ _ _ 0).mpr z] at hx; cases hx
        rw [if_neg]
        · simp; omega
        · rintro ⟨z1, z2⟩
          rcases hk.mp hh with z | z
          · exact (ixOf_none _ _ _ _).mp z1 z
          · rw [hr.mpr z] at z2; cases z2
    · rw [hasK_adS, h2]
      constructor
      · rintro ((z | ⟨i, hi, hk⟩) | hk)
        · exact Or.inl z
        · exact Or.inr ⟨i, by omega, hk⟩
        · exact Or.inr ⟨j, by omega, hk⟩
      · rintro (z | ⟨i, hi, hk⟩)
        · exact Or.inl (Or.inl z)
        · by_cases e : i = j
          · subst e; exact Or.inr hk
          · exact Or.inl (Or.inr ⟨i, by omega, hk⟩)
theorem pu_false (C : List Itm) : ∀ Sh : List Itm, (pu false C Sh).length = C.length + Sh.length
  | [] => rfl
  | p :: r => by
    have := pu_false (adS false C p) r
    have e : (adS false C p).length = C.length + 1 := by simp [adS, ixJ]
    show (pu false (adS false C p) r).length = _
    rw [this, e, List.length_cons]; omega
theorem pu_cnt (jn : Bool) (C Sh : List Itm) : (pu jn C Sh).length = C.length + cnt jn C Sh := by
  cases jn with
  | false => exact pu_false C Sh
  | true =>
    have := (pu_take C Sh Sh.length (Nat.le_refl _)).1
    rw [List.take_length] at this
    exact this
theorem hasK_erase {L : List Itm} {i s d : Nat} (hi : i < L.length) (hne : ¬ ((gi L i).1 = s ∧ (gi L i).2.1 = d)) : hasK (L.eraseIdx i) s d ↔ hasK L s d := by
  constructor
  · rintro ⟨p, hp, hk⟩
    exact ⟨p, List.mem_of_mem_eraseIdx hp, hk⟩
  · rintro ⟨p, hp, hk⟩
    obtain ⟨j, hj, e⟩ := mem_gi hp
    have hij : j ≠ i := fun z => hne (by rw [← z, e]; exact hk)
    refine ⟨p, ?_, hk⟩
    rw [List.mem_eraseIdx_iff_getElem]
    exact ⟨j, hj, hij, by rw [← gi_eq hj]; exact e⟩
theorem cn_erase {L Sh : List Itm} {i : Nat} (hi : i < L.length) (hne : ∀ p ∈ Sh, p.2.1 ≠ (gi L i).2.1) : ∀ j, j ≤ Sh.length → cn (L.eraseIdx i) Sh j = cn L Sh j
  | 0, _ => rfl
  | j + 1, hj => by
    have ih := cn_erase hi hne j (by omega)
    have hk : ixOf (gi Sh j).1 (gi Sh j).2.1 (L.eraseIdx i) 0 = none ↔ ixOf (gi Sh j).1 (gi Sh j).2.1 L 0 = none := by
      rw [ixOf_none, ixOf_none, hasK_erase hi (fun z => hne _ (gi_mem (by omega : j < Sh.length)) z.2.symm)]
    unfold cn
    rw [ih]
    congr 1
    by_cases z : ixOf (gi Sh j).1 (gi Sh j).2.1 L 0 = none
    · simp only [z, hk.mpr z]
    · have z' : ¬ ixOf (gi Sh j).1 (gi Sh j).2.1 (L.eraseIdx i) 0 = none := fun y => z (hk.mp y)
      rw [if_neg (fun y => z' y.1), if_neg (fun y => z y.1)]
theorem cnt_erase {jn : Bool} {L Sh : List Itm} {i : Nat} (hi : i < L.length) (hne : ∀ p ∈ Sh, p.2.1 ≠ (gi L i).2.1) : cnt jn (L.eraseIdx i) Sh = cnt jn L Sh := by
  unfold cnt
  rw [cn_erase hi hne Sh.length (Nat.le_refl _)]
theorem spr_mem {m D : Nat} {ex : Option Nat} {d f : Nat} : ∀ {l : List (Nat × Nat)} {p : Itm}, p ∈ spr m D ex d f l → p.2.1 = d ∧ (∃ x ∈ l, x.1 = p.1) ∧ 0 < p.2.2
  | [], p, h => by simp [spr] at h
  | x :: r, p, h => by
    unfold spr at h
    split at h
    · obtain ⟨h1, ⟨y, hy, e⟩, h3⟩ := spr_mem h
      exact ⟨h1, ⟨y, List.mem_cons_of_mem _ hy, e⟩, h3⟩
    · next hc =>
      rcases List.mem_cons.mp h with rfl | h
      · exact ⟨rfl, ⟨x, List.mem_cons_self, rfl⟩, by dsimp only; exact Nat.pos_of_ne_zero (fun z => hc (Or.inr z))⟩
      · obtain ⟨h1, ⟨y, hy, e⟩, h3⟩ := spr_mem h
        exact ⟨h1, ⟨y, List.mem_cons_of_mem _ hy, e⟩, h3⟩
def exs (ex : Option Nat) : List (Nat × Nat) → Nat
  | [] => 0
  | p :: r => exs ex r + if some p.1 = ex then 0 else p.2
theorem spr_sum (m D : Nat) (ex : Option Nat) (d f : Nat) : ∀ l, uSum (spr m D ex d f l) ≤ por m (f * exs ex l) D
  | [] => Nat.zero_le _
  | p :: r => by
    have ih := spr_sum m D ex d f r
    unfold spr exs
    by_cases e : some p.1 = ex
    · rw [if_pos (Or.inl e), if_pos e]; exact ih
    · rw [if_neg e, Nat.mul_add]
      have h1 := por_add m (f * exs ex r) (f * p.2) D
      by_cases z : por m (f * p.2) D = 0
      · rw [if_pos (Or.inr z)]; omega
      · rw [if_neg (fun q => q.elim e z)]
        simp only [uSum, List.map_cons, List.sum_cons] at ih ⊢
        omega
theorem exs_none : ∀ l : List (Nat × Nat), exs none l = tot l
  | [] => rfl
  | p :: r => by
    have := exs_none r
    simp only [exs, tot, List.map_cons, List.sum_cons, reduceCtorEq, if_false] at this ⊢
    omega
theorem exs_le (ex : Option Nat) : ∀ l : List (Nat × Nat), exs ex l ≤ tot l
  | [] => Nat.le_refl _
  | p :: r => by
    have := exs_le ex r
    simp only [exs, tot, List.map_cons, List.sum_cons] at this ⊢
    split <;> omega
theorem exs_some (t : Nat) : ∀ l : List (Nat × Nat), exs (some t) l + wt t l ≤ tot l
  | [] => Nat.le_refl _
  | p :: r => by
    have h1 := exs_some t r
    have h2 := exs_le (some t) r
    simp only [exs, wt, tot, List.map_cons, List.sum_cons, Option.some.injEq] at h1 h2 ⊢
    split <;> omega
theorem divS_sum {w : Wk} {s d m : Nat} (hW : WW w) (hs : s < w.1) : uSum (divS w s d m) ≤ m := by
  have hto := hW.tot s
  unfold divS
  cases hlaw : w.2.2.2 s with
  | none =>
    dsimp only
    refine Nat.le_trans (spr_sum m 16 none (d + 1) 1 _) (por_le (by omega) ?_)
    rw [exs_none]; omega
  | some r =>
    obtain ⟨hr, hok⟩ := hW.2.2.2.2.1 s r hs hlaw
    dsimp only
    by_cases hrs : r = s
    · subst hrs
      rw [LawOk, if_pos rfl] at hok
      rw [if_pos rfl]
      have := exs_some r (w.2.2.1 r)
      refine Nat.le_trans (spr_sum m _ _ (d + 1) 1 _) (por_le (by omega) ?_)
      omega
    · rw [LawOk, if_neg hrs] at hok
      rw [if_neg hrs, uSum_app]
      obtain ⟨k1, k2, k3, k4, k5, k6, k7⟩ := hok
      have e1 := exs_some r (w.2.2.1 s)
      have e2 := exs_some s (w.2.2.1 r)
      have a16 := hW.wt s r
      have b16 := hW.wt r s
      have h1 := spr_sum m (256 - wt r (w.2.2.1 s) * wt s (w.2.2.1 r)) (some r) (d + 1) 16 (w.2.2.1 s)
      have h2 := spr_sum m (256 - wt r (w.2.2.1 s) * wt s (w.2.2.1 r)) (some s) (min 40 (d + 2)) (wt r (w.2.2.1 s)) (w.2.2.1 r)
      generalize wt r (w.2.2.1 s) = a at *
      generalize wt s (w.2.2.1 r) = b at *
      have h3 := por_add m (16 * exs (some r) (w.2.2.1 s)) (a * exs (some s) (w.2.2.1 r)) (256 - a * b)
      have h4 : a * exs (some s) (w.2.2.1 r) ≤ a * (16 - b) := Nat.mul_le_mul_left _ (by omega)
      rw [Nat.mul_sub] at h4
      have hab : a * b ≤ a * 16 := Nat.mul_le_mul_left _ b16
      have h5 := por_le (m := m) (w := 16 * exs (some r) (w.2.2.1 s) + a * exs (some s) (w.2.2.1 r)) (D := 256 - a * b) (by omega) (by omega)
      omega
theorem divS_mem {w : Wk} {s d m : Nat} (hW : WW w) (hs : s < w.1) (hd : d < 40) : ∀ p ∈ divS w s d m, p.1 < w.1 ∧ p.2.1 ≤ 40 ∧ d < p.2.1 := by
  intro p hp
  have key : ∀ (D : Nat) (ex : Option Nat) (d' f x : Nat), d' ≤ 40 → d < d' → p ∈ spr m D ex d' f (w.2.2.1 x) → p.1 < w.1 ∧ p.2.1 ≤ 40 ∧ d < p.2.1 := by
    intro D ex d' f x h1 h2 h3
    obtain ⟨e1, ⟨y, hy, e2⟩, -⟩ := spr_mem h3
    have := ((hW.2.2.2.1 x).1 y hy).1
    exact ⟨by omega, by omega, by omega⟩
  unfold divS at hp
  cases hlaw : w.2.2.2 s with
  | none => rw [hlaw] at hp; exact key _ _ _ _ _ (by omega) (by omega) hp
  | some r =>
    rw [hlaw] at hp
    dsimp only at hp
    by_cases hrs : r = s
    · rw [if_pos hrs] at hp
      exact key _ _ _ _ _ (by omega) (by omega) hp
    · rw [if_neg hrs] at hp
      rcases List.mem_append.mp hp with z | z
      · exact key _ _ _ _ _ (by omega) (by omega) z
      · exact key _ _ _ _ _ (by omega) (by omega) z
theorem divS_len {w : Wk} {s d m : Nat} (hW : WW w) : (divS w s d m).length ≤ 32 := by
  have h1 := hW.len s
  unfold divS
  cases hlaw : w.2.2.2 s with
  | none => exact Nat.le_trans (spr_len _ _ _ _ _ _) (by omega)
  | some r =>
    have h2 := hW.len r
    dsimp only
    by_cases hrs : r = s
    · rw [if_pos hrs]; exact Nat.le_trans (spr_len _ _ _ _ _ _) (by omega)
    · rw [if_neg hrs, List.length_append]
      have a := spr_len m (256 - wt r (w.2.2.1 s) * wt s (w.2.2.1 r)) (some r) (d + 1) 16 (w.2.2.1 s)
      have b := spr_len m (256 - wt r (w.2.2.1 s) * wt s (w.2.2.1 r)) (some s) (min 40 (d + 2)) (wt r (w.2.2.1 s)) (w.2.2.1 r)
      omega
/-- sums of numbers -/
def fs (f : Nat → Nat) : Nat → Nat
  | 0 => 0
  | n + 1 => fs f n + f n
theorem fs_up (f : Nat → Nat) (k x : Nat) : ∀ n, fs (va_up f k (f k + x)) n = fs f n + if k < n then x else 0
  | 0 => by simp [fs]
  | n + 1 => by
    have := fs_up f k x n
    unfold fs
    rw [this]
    by_cases e : n = k
    · subst e; simp [va_up]; omega
    · by_cases e2 : k < n
      · simp [va_up, e, e2, show k < n + 1 by omega]; omega
      · simp [va_up, e, e2, show ¬ k < n + 1 by omega]
theorem uSum_erase (L : List Itm) (k : Nat) (hk : k < L.length) : uSum L = uSum (L.eraseIdx k) + (gi L k).2.2 := by
  rw [gi_eq hk]
  revert k
  induction L with
  | nil => intro k hk; simp at hk
  | cons p r ih =>
    intro k hk
    cases k with
    | zero => simp [uSum]; omega
    | succ k =>
      have := ih k (by simpa using hk)
      simp only [uSum, List.map_cons, List.sum_cons, List.eraseIdx_cons_succ, List.getElem_cons_succ] at this ⊢
      omega
theorem pu_sum (jn : Bool) : ∀ (Sh C : List Itm), uSum (pu jn C Sh) = uSum C + uSum Sh
  | [], C => by simp [pu, uSum]
  | p :: r, C => by
    have := pu_sum jn r (adS jn C p)
    rw [adS_sum] at this
    show uSum (pu jn (adS jn C p) r) = _
    rw [this]
    simp only [uSum, List.map_cons, List.sum_cons]
    omega
theorem adS_memN {jn : Bool} {n : Nat} {L : List Itm} {p : Itm} (hL : ∀ x ∈ L, x.1 < n ∧ x.2.1 ≤ 40) (hp : p.1 < n ∧ p.2.1 ≤ 40) : ∀ x ∈ adS jn L p, x.1 < n ∧ x.2.1 ≤ 40 := by
  unfold adS
  split
  · next i hi =>
    intro x hx
    obtain ⟨h1, h2, h3⟩ := ixJ_lt hi
    rcases List.mem_or_eq_of_mem_set hx with z | z
    · exact hL x z
    · rw [z]; dsimp only; rw [h2, h3]; exact hp
  · intro x hx
    rcases List.mem_append.mp hx with z | z
    · exact hL x z
    · rw [List.mem_singleton.mp z]; exact hp
theorem pu_mem {jn : Bool} {n : Nat} : ∀ {Sh C : List Itm}, (∀ x ∈ C, x.1 < n ∧ x.2.1 ≤ 40) → (∀ x ∈ Sh, x.1 < n ∧ x.2.1 ≤ 40) → ∀ x ∈ pu jn C Sh, x.1 < n ∧ x.2.1 ≤ 40
  | [], C, hC, _ => hC
  | p :: r, C, hC, hS => pu_mem (Sh := r) (C := adS jn C p) (adS_memN hC (hS p List.mem_cons_self)) (fun x hx => hS x (List.mem_cons_of_mem _ hx))
/-- a listing: its items, what is found, what rests -/
abbrev Lst : Type := List Itm × (Nat → Nat) × (Nat → Nat)
/-- TO GO ON once -/
def goS (w : Wk) (jn : Bool) (kind : Nat) (ℓ : Lst) : Option Lst := match nxt kind ℓ.1 with
  | none => none
  | some i => match w.2.1 (gi ℓ.1 i).1 with
    | some o => some (ℓ.1.eraseIdx i, va_up ℓ.2.1 o (ℓ.2.1 o + (gi ℓ.1 i).2.2), ℓ.2.2)
    | none => if 40 ≤ (gi ℓ.1 i).2.1 then some (ℓ.1.eraseIdx i, ℓ.2.1, va_up ℓ.2.2 (gi ℓ.1 i).1 (ℓ.2.2 (gi ℓ.1 i).1 + (gi ℓ.1 i).2.2))
      else if 60 < ℓ.1.length - 1 + cnt jn ℓ.1 (divS w (gi ℓ.1 i).1 (gi ℓ.1 i).2.1 (gi ℓ.1 i).2.2) then none
      else some (pu jn (ℓ.1.eraseIdx i) (divS w (gi ℓ.1 i).1 (gi ℓ.1 i).2.1 (gi ℓ.1 i).2.2), ℓ.2.1, va_up ℓ.2.2 (gi ℓ.1 i).1 (ℓ.2.2 (gi ℓ.1 i).1 + ((gi ℓ.1 i).2.2 - uSum (divS w (gi ℓ.1 i).1 (gi ℓ.1 i).2.1 (gi ℓ.1 i).2.2))))
/-- what is true of a listing -/
def LI (w : Wk) (ℓ : Lst) : Prop := ℓ.1.length ≤ 60 ∧ (∀ p ∈ ℓ.1, p.1 < w.1 ∧ p.2.1 ≤ 40) ∧ uSum ℓ.1 + fs ℓ.2.1 8 + fs ℓ.2.2 20 = 2 ^ 60
theorem LI.ix {w : Wk} {ℓ : Lst} (hW : WW w) (H : LI w ℓ) : IX ℓ.1 := ⟨H.1, fun p hp => ⟨Nat.lt_of_lt_of_le (H.2.1 p hp).1 hW.n, (H.2.1 p hp).2⟩, by have := H.2.2; omega⟩
theorem goS_li {w : Wk} {jn : Bool} {kind : Nat} {ℓ ℓ' : Lst} (hW : WW w) (H : LI w ℓ) (hg : goS w jn kind ℓ = some ℓ') : LI w ℓ' := by
  obtain ⟨h1, h2, h3⟩ := H
  obtain ⟨L, F, R⟩ := ℓ
  dsimp only at h1 h2 h3
  unfold goS at hg
  dsimp only at hg
  have hn := hW.n
  cases hx : nxt kind L with
  | none => rw [hx] at hg; cases hg
  | some i =>
    rw [hx] at hg
    dsimp only at hg
    have hi := nxt_lt hx
    have hm := h2 _ (gi_mem hi)
    have hu := uSum_erase L i hi
    have hE : ∀ p ∈ L.eraseIdx i, p.1 < w.1 ∧ p.2.1 ≤ 40 := fun p hp => h2 p (List.mem_of_mem_eraseIdx hp)
    have hl : (L.eraseIdx i).length = L.length - 1 := by rw [List.length_eraseIdx, if_pos hi]
    cases ho : w.2.1 (gi L i).1 with
    | some o =>
      rw [ho] at hg
      dsimp only at hg
      cases hg
      have o8 := (hW.2.2.1 _ o ho).1
      refine ⟨by dsimp only; omega, hE, ?_⟩
      dsimp only
      rw [fs_up, if_pos o8]
      omega
    | none =>
      rw [ho] at hg
      dsimp only at hg
      by_cases hd : 40 ≤ (gi L i).2.1
      · rw [if_pos hd] at hg
        cases hg
        refine ⟨by dsimp only; omega, hE, ?_⟩
        dsimp only
        rw [fs_up, if_pos (by omega)]
        omega
      · rw [if_neg hd] at hg
        by_cases hc : 60 < L.length - 1 + cnt jn L (divS w (gi L i).1 (gi L i).2.1 (gi L i).2.2)
        · rw [if_pos hc] at hg; cases hg
        · rw [if_neg hc] at hg
          cases hg
          have hM := divS_mem (m := (gi L i).2.2) hW hm.1 (by omega : (gi L i).2.1 < 40)
          have hS := divS_sum (d := (gi L i).2.1) (m := (gi L i).2.2) hW hm.1
          refine ⟨?_, pu_mem hE (fun x hx => ⟨(hM x hx).1, (hM x hx).2.1⟩), ?_⟩
          · dsimp only
            rw [pu_cnt, cnt_erase hi (fun p hp => by have := (hM p hp).2.2; omega), hl]
            omega
          · dsimp only
            rw [pu_sum, fs_up, if_pos (by omega)]
            omega
end
section
theorem LR.st {h : Mem} {q : Nat} {L : List Itm} {F R : Nat → Nat} (H : LR h q L F R) (x : Int32) : LR (si h q 1 x) q L F R := by
  obtain ⟨a, b, c, d, e⟩ := H
  exact ⟨by rw [si_1]; simpa using a, b.cong (fun _ _ => by rw [si_o (by omega)]) (fun _ _ => by rw [si_o (by omega)]) (fun _ _ => rfl), c, d, e⟩
theorem LR.fr {h h' : Mem} {q : Nat} {L : List Itm} {F R : Nat → Nat} {P : Nat → Prop} (H : LR h q L F R) (hf : Fr P h h') (hp : ∀ a, P a → a < q ∨ q + 7 ≤ a) : LR h' q L F R := by
  have e : ∀ k, k < 7 → h'.1 (q + k) = h.1 (q + k) ∧ h'.2 (q + k) = h.2 (q + k) := fun k hk => hf (q + k) (fun z => by rcases hp _ z with y | y <;> omega)
  obtain ⟨a, b, c, d, f⟩ := H
  have e0 := (e 0 (by omega)).1
  rw [Nat.add_zero] at e0
  refine ⟨by rw [e0]; exact a, b.cong (fun _ _ => by rw [(e 1 (by omega)).1]) (fun _ _ => by rw [(e 2 (by omega)).1]) (fun _ _ => by rw [(e 3 (by omega)).2]), fun i hi => by rw [(e 4 (by omega)).2]; exact c i hi, fun i hi => by rw [(e 5 (by omega)).2]; exact d i hi, fun i hi => by rw [(e 6 (by omega)).2]; exact f i hi⟩
/-- a listing and the shares -/
def inLS (q a : Nat) : Prop := inL q a ∨ inS a
section GO
variable {ad : Nat → Nat} {h : Mem} {w : Wk} {q kind st : Nat} {ℓ : Lst} {jn : Bool}
theorem K_X3_goOnOnce (hq : IsL q) (hql : 55 ≤ q) (hW : WW w) (hR : WR h w) (hL : LR h q ℓ.1 ℓ.2.1 ℓ.2.2) (hI : LI w ℓ) (hj : h.1 0 6 = bI jn) (hk : kind ≤ 2) (hst : h.1 q 1 = nI st) : Con ad mX3_goOnOnce [.ref (ad 0), .ref (ad q), .int (nI kind)] h (qZ fun b h' => b = (goS w jn kind ℓ).isSome ∧ LR h' q ((goS w jn kind ℓ).getD ℓ).1 ((goS w jn kind ℓ).getD ℓ).2.1 ((goS w jn kind ℓ).getD ℓ).2.2 ∧ h'.1 q 0 = h.1 q 0 ∧ h'.1 q 1 = nI (st + if (goS w jn kind ℓ).isSome then 1 else 0) ∧ Fr (inLS q) h h') := by
  have hIX := hI.ix hW
  have hIW := hIX.iw
  obtain ⟨L, F, R⟩ := ℓ
  dsimp only at hL hIX hIW
  obtain ⟨i1, i2, i3⟩ := hI
  dsimp only at i1 i2 i3
  have hn20 := hW.n
  obtain ⟨ln, lI, lF, lR, lH⟩ := id hL
  have isub : ∀ a, inL q a → inLS q a := fun a z => Or.inl z
  refine Con.mk vX3_goOnOnce.1 vX3_goOnOnce.2.2.2.2 [some (.ref (ad 0)), some (.ref (ad q)), some (.int (nI kind)), none, none, none, none] rfl (Nat.le_of_ble_eq_true rfl) (fun Y hM => ?_)
  cases hx : nxt kind L with
  | none =>
    have hg : goS w jn kind (L, F, R) = none := by unfold goS; dsimp only; rw [hx]
    rw [hg] at hM
    refine r_al aX3_goOnOnce_0 rfl ?_
    refine r_il aX3_goOnOnce_1 rfl ?_
    refine r_VI1 aX3_goOnOnce_2 vX0_nextBy hq.1 (K_X0_nextBy hq hIW ln lI hk) (fun x2 h2 Q2 => ?_)
    rw [Q2.1, Q2.2, hx]
    refine r_is3 aX3_goOnOnce_5 rfl ?_
    refine r_al aX3_goOnOnce_6 rfl ?_
    refine r_il aX3_goOnOnce_7 rfl ?_
    refine r_VZ1 aX3_goOnOnce_8 vX0_hasItem hq.1 (K_X0_hasItem hq ln i1) (fun x8 h8 Q8 => ?_)
    rw [Q8.1]
    refine r_b_ne aX3_goOnOnce_11 (fun c11 => ?_) (fun c11 => ?_)
    · obtain ⟨j, hj, e⟩ := Q8.2.mp c11
      exact absurd e (nI_neg (by decide) j (by omega))
    · -- to 14
      refine r_ki aX3_goOnOnce_14 ?_
      exact r_zF hM aX3_goOnOnce_15 rfl ⟨rfl, hL, rfl, hst, Fr.rf⟩
  | some i =>
    have hi := nxt_lt hx
    obtain ⟨e1, e2, e3⟩ := lI.gi hi
    rw [n0] at e1 e2 e3
    have hm := i2 _ (gi_mem hi)
    have hmu := (hIW.gi hi).2.2
    have hge := gi_eq hi
    cases ho : w.2.1 (gi L i).1 with
    | some o =>
      have hg : goS w jn kind (L, F, R) = some (L.eraseIdx i, va_up F o (F o + (gi L i).2.2), R) := by unfold goS; dsimp only; rw [hx]; dsimp only; rw [ho]
      rw [hg] at hM
      have o8 := (hW.2.2.1 _ o ho).1
      refine r_al aX3_goOnOnce_0 rfl ?_
      refine r_il aX3_goOnOnce_1 rfl ?_
      refine r_VI1 aX3_goOnOnce_2 vX0_nextBy hq.1 (K_X0_nextBy hq hIW ln lI hk) (fun x2 h2 Q2 => ?_)
      rw [Q2.1, Q2.2, hx]
      refine r_is3 aX3_goOnOnce_5 (x := nI i) rfl ?_
      refine r_al aX3_goOnOnce_6 rfl ?_
      refine r_il aX3_goOnOnce_7 rfl ?_
      refine r_VZ1 aX3_goOnOnce_8 vX0_hasItem hq.1 (K_X0_hasItem hq ln i1) (fun x8 h8 Q8 => ?_)
      rw [Q8.1]
      refine r_b_ne aX3_goOnOnce_11 (fun c11 => ?_) (fun c11 => ?_)
      · -- to 16
        refine r_al aX3_goOnOnce_16 rfl ?_
        refine r_getR aX3_goOnOnce_17 hq.1 rfl ?_
        refine r_il aX3_goOnOnce_20 rfl ?_
        refine r_xI aX3_goOnOnce_21 hq.2.1 (by omega) e1 ?_
        refine r_is4 aX3_goOnOnce_22 rfl ?_
        refine r_al aX3_goOnOnce_24 rfl ?_
        refine r_getR aX3_goOnOnce_25 hq.1 rfl ?_
        refine r_il aX3_goOnOnce_28 rfl ?_
        refine r_xL aX3_goOnOnce_29 hq.2.2.2.1 (by omega) e3 ?_
        refine r_ls5 aX3_goOnOnce_30 rfl ?_
        refine r_al aX3_goOnOnce_32 rfl ?_
        refine r_getR aX3_goOnOnce_33 rfl rfl ?_
        refine r_il aX3_goOnOnce_36 rfl ?_
        refine r_VZ1 aX3_goOnOnce_38 vX2_goesOn rfl (K_X2_goesOn hW hR) (fun x38 h38 Q38 => ?_)
        rw [Q38.1]
        refine r_b_ne aX3_goOnOnce_41 (fun c41 => ?_) (fun c41 => ?_)
        · obtain ⟨j, hj, e, e'⟩ := Q38.2.mp c41
          rw [← (nI_eq (by omega) (by omega)).mp e, ho] at e'
          cases e'
        · -- to 44
          refine r_al aX3_goOnOnce_44 rfl ?_
          refine r_il aX3_goOnOnce_45 rfl ?_
          refine r_VV1 aX3_goOnOnce_46 vX0_takeOut hq.1 (K_X0_takeOut hq hIW hi hL) (fun h46 Q46 => ?_)
          have hR2 := hR.fr Q46.2.2.2 (fun a z => Or.inl (by have := z.1; omega))
          have eo := hR2.2.1 _ hm.1
          rw [ho] at eo
          refine r_al aX3_goOnOnce_49 rfl ?_
          refine r_al aX3_goOnOnce_50 rfl ?_
          refine r_getR aX3_goOnOnce_51 rfl rfl ?_
          refine r_getR aX3_goOnOnce_54 rfl rfl ?_
          refine r_il aX3_goOnOnce_57 rfl ?_
          refine r_xI aX3_goOnOnce_59 rfl (by omega) eo ?_
          refine r_ll aX3_goOnOnce_60 rfl ?_
          refine r_VV2 aX3_goOnOnce_62 vX0_addEnded hq.1 (K_X0_addEnded (o := o) hq o8 Q46.1) (fun h62 Q62 => ?_)
          refine r_go aX3_goOnOnce_65 ?_
          refine r_al aX3_goOnOnce_175 rfl ?_
          refine r_dup aX3_goOnOnce_176 rfl ?_
          refine r_gI (v := nI st) aX3_goOnOnce_177 hq.1 rfl (by rw [Q62.2.1, Q46.2.2.1]; exact hst) ?_
          refine r_ki aX3_goOnOnce_180 ?_
          refine r_iaddN aX3_goOnOnce_181 ?_
          refine r_putI aX3_goOnOnce_182 hq.1 rfl rfl ?_
          refine r_ki aX3_goOnOnce_185 ?_
          exact r_zT hM aX3_goOnOnce_186 rfl ⟨rfl, Q62.1.st _, by rw [si_1]; simp; rw [Q62.2.1, Q46.2.1], by rw [si_1]; simp, ((Q46.2.2.2.tr Q62.2.2).tr (Fr.si ⟨by omega, by omega⟩)).mono isub⟩
      · exact absurd (Q8.2.mpr ⟨i, hi, rfl⟩) (by rw [c11]; decide)
    | none =>
      by_cases hd : 40 ≤ (gi L i).2.1
      · have hg : goS w jn kind (L, F, R) = some (L.eraseIdx i, F, va_up R (gi L i).1 (R (gi L i).1 + (gi L i).2.2)) := by unfold goS; dsimp only; rw [hx]; dsimp only; rw [ho]; dsimp only; rw [if_pos hd]
        rw [hg] at hM
        refine r_al aX3_goOnOnce_0 rfl ?_
        refine r_il aX3_goOnOnce_1 rfl ?_
        refine r_VI1 aX3_goOnOnce_2 vX0_nextBy hq.1 (K_X0_nextBy hq hIW ln lI hk) (fun x2 h2 Q2 => ?_)
        rw [Q2.1, Q2.2, hx]
        refine r_is3 aX3_goOnOnce_5 (x := nI i) rfl ?_
        refine r_al aX3_goOnOnce_6 rfl ?_
        refine r_il aX3_goOnOnce_7 rfl ?_
        refine r_VZ1 aX3_goOnOnce_8 vX0_hasItem hq.1 (K_X0_hasItem hq ln i1) (fun x8 h8 Q8 => ?_)
        rw [Q8.1]
        refine r_b_ne aX3_goOnOnce_11 (fun c11 => ?_) (fun c11 => ?_)
        · -- to 16
          refine r_al aX3_goOnOnce_16 rfl ?_
          refine r_getR aX3_goOnOnce_17 hq.1 rfl ?_
          refine r_il aX3_goOnOnce_20 rfl ?_
          refine r_xI aX3_goOnOnce_21 hq.2.1 (by omega) e1 ?_
          refine r_is4 aX3_goOnOnce_22 rfl ?_
          refine r_al aX3_goOnOnce_24 rfl ?_
          refine r_getR aX3_goOnOnce_25 hq.1 rfl ?_
          refine r_il aX3_goOnOnce_28 rfl ?_
          refine r_xL aX3_goOnOnce_29 hq.2.2.2.1 (by omega) e3 ?_
          refine r_ls5 aX3_goOnOnce_30 rfl ?_
          refine r_al aX3_goOnOnce_32 rfl ?_
          refine r_getR aX3_goOnOnce_33 rfl rfl ?_
          refine r_il aX3_goOnOnce_36 rfl ?_
          refine r_VZ1 aX3_goOnOnce_38 vX2_goesOn rfl (K_X2_goesOn hW hR) (fun x38 h38 Q38 => ?_)
          rw [Q38.1]
          refine r_b_ne aX3_goOnOnce_41 (fun c41 => ?_) (fun c41 => ?_)
          · -- to 68
            refine r_al aX3_goOnOnce_68 rfl ?_
            refine r_getR aX3_goOnOnce_69 hq.1 rfl ?_
            refine r_il aX3_goOnOnce_72 rfl ?_
            refine r_xI aX3_goOnOnce_73 hq.2.2.1 (by omega) e2 ?_
            refine r_ki aX3_goOnOnce_74 ?_
            refine r_n_lt aX3_goOnOnce_76 (by omega) (by omega) (fun c76 => ?_) (fun c76 => ?_)
            · omega
            · -- to 79
              refine r_al aX3_goOnOnce_79 rfl ?_
              refine r_il aX3_goOnOnce_80 rfl ?_
              refine r_VV1 aX3_goOnOnce_81 vX0_takeOut hq.1 (K_X0_takeOut hq hIW hi hL) (fun h81 Q81 => ?_)
              refine r_al aX3_goOnOnce_84 rfl ?_
              refine r_il aX3_goOnOnce_85 rfl ?_
              refine r_ll aX3_goOnOnce_87 rfl ?_
              refine r_VV2 aX3_goOnOnce_89 vX0_addLeft hq.1 (K_X0_addLeft hq (by omega) Q81.1) (fun h89 Q89 => ?_)
              refine r_go aX3_goOnOnce_92 ?_
              refine r_al aX3_goOnOnce_175 rfl ?_
              refine r_dup aX3_goOnOnce_176 rfl ?_
              refine r_gI (v := nI st) aX3_goOnOnce_177 hq.1 rfl (by rw [Q89.2.1, Q81.2.2.1]; exact hst) ?_
              refine r_ki aX3_goOnOnce_180 ?_
              refine r_iaddN aX3_goOnOnce_181 ?_
              refine r_putI aX3_goOnOnce_182 hq.1 rfl rfl ?_
              refine r_ki aX3_goOnOnce_185 ?_
              exact r_zT hM aX3_goOnOnce_186 rfl ⟨rfl, Q89.1.st _, by rw [si_1]; simp; rw [Q89.2.1, Q81.2.1], by rw [si_1]; simp, ((Q81.2.2.2.tr Q89.2.2).tr (Fr.si ⟨by omega, by omega⟩)).mono isub⟩
          · exact absurd (Q38.2.mpr ⟨_, hm.1, rfl, ho⟩) (by rw [c41]; decide)
        · exact absurd (Q8.2.mpr ⟨i, hi, rfl⟩) (by rw [c11]; decide)
      · have hM0 := divS_mem (m := (gi L i).2.2) hW hm.1 (by omega : (gi L i).2.1 < 40)
        have hS0 := divS_sum (d := (gi L i).2.1) (m := (gi L i).2.2) hW hm.1
        have hl0 := divS_len (s := (gi L i).1) (d := (gi L i).2.1) (m := (gi L i).2.2) hW
        have hg0 : goS w jn kind (L, F, R) = if 60 < L.length - 1 + cnt jn L (divS w (gi L i).1 (gi L i).2.1 (gi L i).2.2) then none else some (pu jn (L.eraseIdx i) (divS w (gi L i).1 (gi L i).2.1 (gi L i).2.2), F, va_up R (gi L i).1 (R (gi L i).1 + ((gi L i).2.2 - uSum (divS w (gi L i).1 (gi L i).2.1 (gi L i).2.2)))) := by unfold goS; dsimp only; rw [hx]; dsimp only; rw [ho]; dsimp only; rw [if_neg hd]
        rw [hg0] at hM
        have hcE := cnt_erase (jn := jn) hi (Sh := divS w (gi L i).1 (gi L i).2.1 (gi L i).2.2) (fun p hp => by have := (hM0 p hp).2.2; omega)
        have hpu := pu_cnt jn (L.eraseIdx i) (divS w (gi L i).1 (gi L i).2.1 (gi L i).2.2)
        rw [hcE, List.length_eraseIdx, if_pos hi] at hpu
        have hcl : cnt jn L (divS w (gi L i).1 (gi L i).2.1 (gi L i).2.2) ≤ 32 := by
          unfold cnt
          have := cn_le L (divS w (gi L i).1 (gi L i).2.1 (gi L i).2.2) (divS w (gi L i).1 (gi L i).2.1 (gi L i).2.2).length
          split <;> omega
        have hK := @K_X1_divide ad h w (gi L i).1 (gi L i).2.1 (gi L i).2.2 hW hR hm.1 (by omega) hmu
        have hu := uSum_erase L i hi
        generalize divS w (gi L i).1 (gi L i).2.1 (gi L i).2.2 = Sh at hM hM0 hS0 hl0 hpu hcl hK hcE
        clear hcE hg0
        have hc1 : L.length - 1 + cnt jn L Sh < 2147483648 := by omega
        have hc2 : (60 : Nat) < 2147483648 := by decide
        have hS20 : ∀ p ∈ Sh, p.1 < 20 ∧ p.2.1 ≤ 40 := fun p hp => ⟨by have := (hM0 p hp).1; omega, (hM0 p hp).2.1⟩
        have hsubS : ∀ a, inS a → inLS q a := fun a z => Or.inr z
        refine r_al aX3_goOnOnce_0 rfl ?_
        refine r_il aX3_goOnOnce_1 rfl ?_
        refine r_VI1 aX3_goOnOnce_2 vX0_nextBy hq.1 (K_X0_nextBy hq hIW ln lI hk) (fun x2 h2 Q2 => ?_)
        rw [Q2.1, Q2.2, hx]
        refine r_is3 aX3_goOnOnce_5 (x := nI i) rfl ?_
        refine r_al aX3_goOnOnce_6 rfl ?_
        refine r_il aX3_goOnOnce_7 rfl ?_
        refine r_VZ1 aX3_goOnOnce_8 vX0_hasItem hq.1 (K_X0_hasItem hq ln i1) (fun x8 h8 Q8 => ?_)
        rw [Q8.1]
        refine r_b_ne aX3_goOnOnce_11 (fun c11 => ?_) (fun c11 => ?_)
        · -- to 16
          refine r_al aX3_goOnOnce_16 rfl ?_
          refine r_getR aX3_goOnOnce_17 hq.1 rfl ?_
          refine r_il aX3_goOnOnce_20 rfl ?_
          refine r_xI aX3_goOnOnce_21 hq.2.1 (by omega) e1 ?_
          refine r_is4 aX3_goOnOnce_22 rfl ?_
          refine r_al aX3_goOnOnce_24 rfl ?_
          refine r_getR aX3_goOnOnce_25 hq.1 rfl ?_
          refine r_il aX3_goOnOnce_28 rfl ?_
          refine r_xL aX3_goOnOnce_29 hq.2.2.2.1 (by omega) e3 ?_
          refine r_ls5 aX3_goOnOnce_30 rfl ?_
          refine r_al aX3_goOnOnce_32 rfl ?_
          refine r_getR aX3_goOnOnce_33 rfl rfl ?_
          refine r_il aX3_goOnOnce_36 rfl ?_
          refine r_VZ1 aX3_goOnOnce_38 vX2_goesOn rfl (K_X2_goesOn hW hR) (fun x38 h38 Q38 => ?_)
          rw [Q38.1]
          refine r_b_ne aX3_goOnOnce_41 (fun c41 => ?_) (fun c41 => ?_)
          · -- to 68
            refine r_al aX3_goOnOnce_68 rfl ?_
            refine r_getR aX3_goOnOnce_69 hq.1 rfl ?_
            refine r_il aX3_goOnOnce_72 rfl ?_
            refine r_xI aX3_goOnOnce_73 hq.2.2.1 (by omega) e2 ?_
            refine r_ki aX3_goOnOnce_74 ?_
            refine r_n_lt aX3_goOnOnce_76 (by omega) (by omega) (fun c76 => ?_) (fun c76 => ?_)
            · -- to 95
              refine r_al aX3_goOnOnce_95 rfl ?_
              refine r_getR aX3_goOnOnce_96 rfl rfl ?_
              refine r_al aX3_goOnOnce_99 rfl ?_
              refine r_getR aX3_goOnOnce_100 rfl rfl ?_
              refine r_il aX3_goOnOnce_103 rfl ?_
              refine r_al aX3_goOnOnce_105 rfl ?_
              refine r_getR aX3_goOnOnce_106 hq.1 rfl ?_
              refine r_il aX3_goOnOnce_109 rfl ?_
              refine r_xI aX3_goOnOnce_110 hq.2.2.1 (by omega) e2 ?_
              refine r_ll aX3_goOnOnce_111 rfl ?_
              refine r_VV4 aX3_goOnOnce_113 vX1_divide rfl hK (fun h113 Q113 => ?_)
              obtain ⟨S2, F2⟩ := Q113
              have L2 := hL.fr F2 (fun a z => Or.inl (by have := z.2; omega))
              have j2 : h113.1 0 6 = bI jn := by rw [(F2 0 (fun z => by have := z.1; omega)).1]; exact hj
              refine r_al aX3_goOnOnce_116 rfl ?_
              refine r_gI aX3_goOnOnce_117 hq.1 rfl L2.1 ?_
              refine r_ki aX3_goOnOnce_120 ?_
              refine r_isubN aX3_goOnOnce_121 (by omega) ?_
              refine r_al aX3_goOnOnce_122 rfl ?_
              refine r_al aX3_goOnOnce_123 rfl ?_
              refine r_getR aX3_goOnOnce_124 rfl rfl ?_
              refine r_al aX3_goOnOnce_127 rfl ?_
              refine r_gI aX3_goOnOnce_128 rfl rfl j2 ?_
              refine r_VI2 aX3_goOnOnce_131 vX0_countNew hq.1 (K_X0_countNew hq hIW L2.1 L2.2.1 S2.1 S2.2.2 hS20 hl0) (fun x131 h131 Q131 => ?_)
              rw [Q131.1, Q131.2]
              refine r_iaddN aX3_goOnOnce_134 ?_
              refine r_ki aX3_goOnOnce_135 ?_
              refine r_n_le aX3_goOnOnce_137 hc1 hc2 (fun c137 => ?_) (fun c137 => ?_)
              · -- to 142
                refine r_al aX3_goOnOnce_142 rfl ?_
                refine r_il aX3_goOnOnce_143 rfl ?_
                refine r_VV1 aX3_goOnOnce_144 vX0_takeOut hq.1 (K_X0_takeOut hq hIW hi L2) (fun h144 Q144 => ?_)
                obtain ⟨L3, s3, t3, F3⟩ := Q144
                have S3 : SR h144 Sh := ⟨by rw [(F3 51 (fun z => by have := z.1; omega)).1]; exact S2.1, by rw [(F3 51 (fun z => by have := z.1; omega)).2]; exact S2.2.1, S2.2.2.cong (fun _ _ => by rw [(F3 52 (fun z => by have := z.1; omega)).1]) (fun _ _ => by rw [(F3 53 (fun z => by have := z.1; omega)).1]) (fun _ _ => by rw [(F3 54 (fun z => by have := z.1; omega)).2])⟩
                have j3 : h144.1 0 6 = bI jn := by rw [(F3 0 (fun z => by have := z.1; omega)).1]; exact j2
                refine r_al aX3_goOnOnce_147 rfl ?_
                refine r_al aX3_goOnOnce_148 rfl ?_
                refine r_getR aX3_goOnOnce_149 rfl rfl ?_
                refine r_al aX3_goOnOnce_152 rfl ?_
                refine r_gI aX3_goOnOnce_153 rfl rfl j3 ?_
                refine r_VV2 aX3_goOnOnce_156 vX0_putShares hq.1 (K_X0_putShares hq hql L3 (fun p hp => hIX.2.1 p (List.mem_of_mem_eraseIdx hp)) S3.1 S3.2.2 hS20 hl0 (by omega) (by omega)) (fun h156 Q156 => ?_)
                obtain ⟨L4, s4, t4, F4⟩ := Q156
                have u2 : h156.2 51 1 = lN (uSum Sh) := by rw [(F4 51 (fun z => by have := z.1; omega)).2]; exact S3.2.1
                refine r_al aX3_goOnOnce_159 rfl ?_
                refine r_il aX3_goOnOnce_160 rfl ?_
                refine r_ll aX3_goOnOnce_162 rfl ?_
                refine r_al aX3_goOnOnce_164 rfl ?_
                refine r_getR aX3_goOnOnce_165 rfl rfl ?_
                refine r_gL aX3_goOnOnce_168 rfl rfl u2 ?_
                refine r_lsubN aX3_goOnOnce_171 hS0 ?_
                refine r_VV2 aX3_goOnOnce_172 vX0_addLeft hq.1 (K_X0_addLeft hq (by omega) L4) (fun h172 Q172 => ?_)
                refine r_al aX3_goOnOnce_175 rfl ?_
                refine r_dup aX3_goOnOnce_176 rfl ?_
                refine r_gI (v := nI st) aX3_goOnOnce_177 hq.1 rfl (by rw [Q172.2.1, t4, t3, (F2 q (fun z => by have := z.2; omega)).1]; exact hst) ?_
                refine r_ki aX3_goOnOnce_180 ?_
                refine r_iaddN aX3_goOnOnce_181 ?_
                refine r_putI aX3_goOnOnce_182 hq.1 rfl rfl ?_
                refine r_ki aX3_goOnOnce_185 ?_
                refine r_zT hM aX3_goOnOnce_186 rfl ?_
                rw [if_neg (by omega)]
                exact ⟨rfl, Q172.1.st _, by rw [si_1]; simp; rw [Q172.2.1, s4, s3, (F2 q (fun z => by have := z.2; omega)).1], by rw [si_1]; simp, (F2.mono hsubS).tr ((((F3.tr F4).tr Q172.2.2).tr (Fr.si ⟨by omega, by omega⟩)).mono isub)⟩
              · -- to 140
                refine r_ki aX3_goOnOnce_140 ?_
                refine r_zF hM aX3_goOnOnce_141 rfl ?_
                rw [if_pos (by omega)]
                exact ⟨rfl, L2, by rw [(F2 q (fun z => by have := z.2; omega)).1], by rw [(F2 q (fun z => by have := z.2; omega)).1]; exact hst, F2.mono hsubS⟩
            · omega
          · exact absurd (Q38.2.mpr ⟨_, hm.1, rfl, ho⟩) (by rw [c41]; decide)
        · exact absurd (Q8.2.mpr ⟨i, hi, rfl⟩) (by rw [c11]; decide)
end GO
end
section
/-! bits (the first rows are of kit/laws/BITS.to-paste) -/
def bt (x : Int32) (i : Nat) : Bool := x.toBitVec.getLsbD i
theorem b_ext {x y : Int32} (h : ∀ i, i < 32 → bt x i = bt y i) : x = y := Int32.toBitVec_inj.mp (BitVec.eq_of_getLsbD_eq (fun i hi => h i hi))
theorem b_or (x y : Int32) (i : Nat) : bt (x ||| y) i = (bt x i || bt y i) := by unfold bt; rw [Int32.toBitVec_or, BitVec.getLsbD_or]
theorem b_and (x y : Int32) (i : Nat) : bt (x &&& y) i = (bt x i && bt y i) := by unfold bt; rw [Int32.toBitVec_and, BitVec.getLsbD_and]
theorem s_l : ∀ n, n < 32 → ((nI n &&& 31).toBitVec.smod 32).toNat = n := by decide +kernel
theorem b_shl (n : Nat) (hn : n < 32) (x : Int32) {i : Nat} (hi : i < 32) : bt (x <<< (nI n &&& 31)) i = (decide (n ≤ i) && bt x (i - n)) := by
  unfold bt
  rw [Int32.toBitVec_shiftLeft]
  show (x.toBitVec <<< ((nI n &&& 31).toBitVec.smod 32).toNat).getLsbD i = _
  rw [s_l n hn, BitVec.getLsbD_shiftLeft]
  rcases Nat.lt_or_ge i n with h | h
  · simp [h, Nat.not_le.mpr h]
  · simp [hi, h, Nat.not_lt.mpr h]
theorem b_sshr (n : Nat) (hn : n < 32) (x : Int32) {i : Nat} (hi : i < 32) : bt (x >>> (nI n &&& 31)) i = if n + i < 32 then bt x (n + i) else bt x 31 := by
  unfold bt
  rw [Int32.toBitVec_shiftRight]
  show (x.toBitVec.sshiftRight ((nI n &&& 31).toBitVec.smod 32).toNat).getLsbD i = _
  rw [s_l n hn, BitVec.getLsbD_sshiftRight, BitVec.msb_eq_getLsbD_last]
  simp [hi]
theorem bt_1 : ∀ i, i < 32 → bt (nI 1) i = decide (i = 0) := by decide +kernel
theorem bt_0 : ∀ i, i < 32 → bt (nI 0) i = false := by decide +kernel
theorem bitAt_bt {x : Int32} {i : Nat} (hi : i < 32) : bitAt x i = bt x i := by
  unfold bitAt
  have e0 : bt (x >>> (nI i &&& 31)) 0 = bt x i := by rw [b_sshr i hi x (by omega), if_pos (by omega), Nat.add_zero]
  cases hb : bt x i with
  | true =>
    apply decide_eq_true
    apply b_ext
    intro j hj
    rw [b_and, bt_1 j hj]
    by_cases z : j = 0
    · subst z; rw [e0, hb]; rfl
    · simp [z]
  | false =>
    apply decide_eq_false
    intro z
    have : bt (x >>> (nI i &&& 31) &&& nI 1) 0 = bt (nI 1) 0 := congrArg (fun y => bt y 0) z
    rw [b_and, e0, hb, bt_1 0 (by omega)] at this
    simp at this
theorem bitAt_or {x y : Int32} {i : Nat} (hi : i < 32) : bitAt (x ||| y) i = (bitAt x i || bitAt y i) := by rw [bitAt_bt hi, bitAt_bt hi, bitAt_bt hi, b_or]
theorem bitAt_one {s t : Nat} (hs : s < 32) (ht : t < 32) : bitAt (nI 1 <<< (nI s &&& 31)) t = decide (s = t) := by
  rw [bitAt_bt ht, b_shl s hs _ ht, bt_1 _ (by omega)]
  by_cases h : s = t
  · subst h; simp
  · by_cases h2 : s ≤ t
    · rw [decide_eq_false (by omega : ¬ t - s = 0), decide_eq_false h, Bool.and_false]
    · simp [h, h2]
/-! what a state comes to -/
def edg (w : Wk) (s t : Nat) : Prop := ∃ p ∈ w.2.2.1 s, p.1 = t
def pth (w : Wk) : Nat → Nat → Nat → Prop
  | 0, s, t => s = t
  | k + 1, s, t => ∃ u, edg w s u ∧ pth w k u t
def Rch (w : Wk) (s t : Nat) : Prop := ∃ k, pth w k s t
noncomputable def rB (w : Wk) (s t : Nat) : Bool := @decide (Rch w s t) (Classical.propDecidable _)
theorem rB_iff {w : Wk} {s t : Nat} : rB w s t = true ↔ Rch w s t := by unfold rB; exact @decide_eq_true_iff _ (Classical.propDecidable _)
theorem Rch.rf {w : Wk} {s : Nat} : Rch w s s := ⟨0, rfl⟩
theorem Rch.hd {w : Wk} {s u t : Nat} (h : edg w s u) (h2 : Rch w u t) : Rch w s t := by
  obtain ⟨k, hk⟩ := h2
  exact ⟨k + 1, u, h, hk⟩
theorem Rch.tr {w : Wk} {s u t : Nat} (h : Rch w s u) (h2 : Rch w u t) : Rch w s t := by
  obtain ⟨k, hk⟩ := h
  induction k generalizing s with
  | zero => cases hk; exact h2
  | succ k ih =>
    obtain ⟨v, hv, hk⟩ := hk
    exact Rch.hd hv (ih hk)
def PV (w : Wk) : Nat → Nat → Nat → Prop
  | 0, s, t => s = t ∨ edg w s t
  | v + 1, s, t => PV w v s t ∨ (PV w v s v ∧ PV w v v t)
theorem PV_s (w : Wk) : ∀ (v s t : Nat), PV w v s t → Rch w s t
  | 0, s, t, h => h.elim (fun e => e ▸ Rch.rf) (fun e => Rch.hd e Rch.rf)
  | v + 1, s, t, h => h.elim (PV_s w v s t) (fun z => (PV_s w v s v z.1).tr (PV_s w v v t z.2))
theorem PV_m (w : Wk) : ∀ (v s t : Nat), PV w 0 s t → PV w v s t
  | 0, _, _, h => h
  | v + 1, s, t, h => Or.inl (PV_m w v s t h)
theorem PV_c (w : Wk) : ∀ (v s u t : Nat), u < v → PV w v s u → PV w v u t → PV w v s t
  | 0, _, _, _, hu, _, _ => by omega
  | v + 1, s, u, t, hu, h1, h2 => by
    by_cases e : u = v
    · subst e
      exact Or.inr ⟨h1.elim id (fun z => z.1), h2.elim id (fun z => z.2)⟩
    · have hv : u < v := by omega
      rcases h1 with a | ⟨a, b⟩ <;> rcases h2 with c | ⟨c, d⟩
      · exact Or.inl (PV_c w v s u t hv a c)
      · exact Or.inr ⟨PV_c w v s u v hv a c, d⟩
      · exact Or.inr ⟨a, PV_c w v v u t hv b c⟩
      · exact Or.inr ⟨a, d⟩
theorem PV_n {w : Wk} (hW : WW w) {s t : Nat} (h : Rch w s t) : PV w w.1 s t := by
  obtain ⟨k, hk⟩ := h
  induction k generalizing s with
  | zero => exact PV_m w _ _ _ (Or.inl hk)
  | succ k ih =>
    obtain ⟨u, hu, hk⟩ := hk
    have hlt : u < w.1 := by
      obtain ⟨p, hp, e⟩ := hu
      have := ((hW.2.2.2.1 s).1 p hp).1
      omega
    exact PV_c w _ s u t hlt (PV_m w _ _ _ (Or.inr hu)) (ih hk)
theorem PV_iff {w : Wk} (hW : WW w) {s t : Nat} : PV w w.1 s t ↔ Rch w s t := ⟨PV_s w _ s t, PV_n hW⟩
theorem PV_v {w : Wk} {v t : Nat} : PV w (v + 1) v t ↔ PV w v v t := ⟨fun z => z.elim id (fun z => z.2), Or.inl⟩
/-- REACH, as a set of bits -/
noncomputable def rmU (w : Wk) (s : Nat) : Nat → Int32
  | 0 => nI 0
  | t + 1 => match w.2.1 t with
    | some o => if rB w s t then rmU w s t ||| (nI 1 <<< (nI o &&& 31)) else rmU w s t
    | none => rmU w s t
noncomputable def rm (w : Wk) (s : Nat) : Int32 := rmU w s w.1
noncomputable def suU (w : Wk) (s : Nat) : Nat → Bool
  | 0 => true
  | t + 1 => suU w s t && !(rB w s t && decide (rm w t = 0))
noncomputable def su (w : Wk) (s : Nat) : Bool := suU w s w.1
noncomputable def whU (w : Wk) (s : Nat) : Nat → Bool
  | 0 => true
  | t + 1 => whU w s t && !(rB w s t && (decide (w.2.1 t = none) && !decide (tot (w.2.2.1 t) = 16)))
noncomputable def wh (w : Wk) (s : Nat) : Bool := whU w s w.1
theorem suU_f {w : Wk} {s : Nat} : ∀ {t n : Nat}, t < n → rB w s t = true → rm w t = 0 → suU w s n = false
  | t, 0, h, _, _ => by omega
  | t, n + 1, h, h1, h2 => by
    unfold suU
    by_cases e : t = n
    · subst e; simp [h1, h2]
    · rw [suU_f (by omega : t < n) h1 h2]; rfl
theorem whU_f {w : Wk} {s : Nat} : ∀ {t n : Nat}, t < n → rB w s t = true → w.2.1 t = none → tot (w.2.2.1 t) ≠ 16 → whU w s n = false
  | t, 0, h, _, _, _ => by omega
  | t, n + 1, h, h1, h2, h3 => by
    unfold whU
    by_cases e : t = n
    · subst e; simp [h1, h2, h3]
    · rw [whU_f (by omega : t < n) h1 h2 h3]; rfl
/-- the class's survey -/
def SV (h : Mem) (w : Wk) : Prop := (∀ s, s < w.1 → ∀ t, t < w.1 → bitAt (h.1 48 s) t = rB w s t) ∧ (∀ s, s < w.1 → h.1 49 s = rm w s) ∧ (∀ s, s < w.1 → h.1 50 s = bI (su w s))
section REACH
variable {ad : Nat → Nat} {h : Mem} {w : Wk}
theorem K_X2_comes {s t : Nat} (hs : s < 20) (ht : t < 20) : Con ad mX2_comes [.ref (ad 1), .int (nI s), .int (nI t)] h (qZ fun b h' => h' = h ∧ b = bitAt (h.1 48 s) t) := by
  refine Con.mk vX2_comes.1 vX2_comes.2.2.2.2 [some (.ref (ad 1)), some (.int (nI s)), some (.int (nI t))] rfl (Nat.le_of_ble_eq_true rfl) (fun Y hM => ?_)
  refine r_al aX2_comes_0 rfl ?_
  refine r_getR aX2_comes_1 rfl rfl ?_
  refine r_il aX2_comes_4 rfl ?_
  refine r_iald aX2_comes_5 rfl (by omega) ?_
  refine r_il aX2_comes_6 rfl ?_
  refine r_ishr aX2_comes_7 ?_
  refine r_ki aX2_comes_8 ?_
  refine r_iand aX2_comes_9 ?_
  refine r_ki aX2_comes_10 ?_
  refine r_c_ne aX2_comes_11 (fun c11 => ?_) (fun c11 => ?_)
  · -- to 18
    refine r_ki aX2_comes_18 ?_
    exact r_zF hM aX2_comes_19 rfl ⟨rfl, (bitAt_f c11).symm⟩
  · -- to 14
    refine r_ki aX2_comes_14 ?_
    refine r_go aX2_comes_15 ?_
    exact r_zT hM aX2_comes_19 rfl ⟨rfl, (bitAt_t c11).symm⟩
theorem K_X2_findComings (hW : WW w) (hR : WR h w) : Con ad mX2_findComings [.ref (ad 1)] h (qV fun h' => (∀ s, s < w.1 → ∀ t, t < w.1 → bitAt (h'.1 48 s) t = rB w s t) ∧ Fr (fun a => a = 48) h h') := by
  have hn := hW.n
  have hb : ∀ {g : Mem}, Fr (fun a => a = 48) h g → WR g w := fun hF => hR.fr hF (fun a z => Or.inl (by omega))
  have row : ∀ {g : Mem} {s : Nat} {x : Int32} {s' : Nat}, (si g 48 s x).1 48 s' = if s' = s then x else g.1 48 s' := by
    intro g s x s'
    rw [si_1]; simp
  have fr : ∀ {g : Mem} {s : Nat} {x : Int32}, Fr (fun a => a = 48) h g → Fr (fun a => a = 48) h (si g 48 s x) := fun hF => hF.tr (Fr.si (P := fun a => a = 48) rfl)
  refine Con.mk vX2_findComings.1 vX2_findComings.2.2.2.2 [some (.ref (ad 1)), none, none] rfl (Nat.le_of_ble_eq_true rfl) (fun Y hM => ?_)
  have p2in : ∀ (v : Nat), v < w.1 → (∀ g : Mem, (∀ s, s < w.1 → ∀ t, t < w.1 → (bitAt (g.1 48 s) t = true ↔ PV w (v + 1) s t)) → Fr (fun a => a = 48) h g → G Y ad mX2_findComings 64 [some (.ref (ad 1)), some (.int (nI (v + 1))), none] [] g) → ∀ (k s : Nat) (g : Mem), w.1 - s = k → s ≤ w.1 → (∀ s', s' < w.1 → ∀ t, t < w.1 → (bitAt (g.1 48 s') t = true ↔ if s' < s then PV w (v + 1) s' t else PV w v s' t)) → Fr (fun a => a = 48) h g → G Y ad mX2_findComings 74 [some (.ref (ad 1)), some (.int (nI v)), some (.int (nI s))] [] g := by
    intro v hv out k
    induction k with
    | zero =>
      intro s g hk hs hP hF
      have hg := (hb hF).1
      refine r_il aX2_findComings_74 rfl ?_
      refine r_al aX2_findComings_75 rfl ?_
      refine r_gI aX2_findComings_76 rfl rfl hg ?_
      refine r_n_ge aX2_findComings_79 (by omega) (by omega) (fun c79 => ?_) (fun c79 => ?_)
      · -- to 112
        refine r_in1 aX2_findComings_112 rfl ?_
        refine r_go aX2_findComings_115 ?_
        refine r_f2 ?_
        exact out g (fun s' h1 t h2 => by rw [hP s' h1 t h2, if_pos (by omega)]) hF
      · omega
    | succ k ih =>
      intro s g hk hs hP hF
      have hg := (hb hF).1
      have hsn : s < w.1 := by omega
      have e1 : bitAt (g.1 48 s) v = true ↔ PV w v s v := by rw [hP s hsn v hv, if_neg (by omega)]
      have e2 : ∀ t, t < w.1 → (bitAt (g.1 48 v) t = true ↔ PV w v v t) := by
        intro t ht
        rw [hP v hv t ht]
        by_cases z : v < s
        · rw [if_pos z]; exact PV_v
        · rw [if_neg z]
      refine r_il aX2_findComings_74 rfl ?_
      refine r_al aX2_findComings_75 rfl ?_
      refine r_gI aX2_findComings_76 rfl rfl hg ?_
      refine r_n_ge aX2_findComings_79 (by omega) (by omega) (fun c79 => ?_) (fun c79 => ?_)
      · omega
      · -- to 82
        refine r_al aX2_findComings_82 rfl ?_
        refine r_il aX2_findComings_83 rfl ?_
        refine r_il aX2_findComings_84 rfl ?_
        refine r_VZ2 aX2_findComings_85 vX2_comes rfl (K_X2_comes (by omega) (by omega)) (fun x85 h85 Q85 => ?_)
        rw [Q85.1]
        refine r_b_eq aX2_findComings_88 (fun c88 => ?_) (fun c88 => ?_)
        · -- to 106
          refine r_in2 aX2_findComings_106 rfl ?_
          refine r_go aX2_findComings_109 ?_
          refine ih (s + 1) g (by omega) (by omega) (fun s' h1 t h2 => ?_) hF
          by_cases z : s' = s
          · subst z
            rw [hP s' h1 t h2, if_neg (by omega), if_pos (by omega)]
            have hno : ¬ PV w v s' v := fun y => by rw [Q85.2, e1.mpr y] at c88; cases c88
            exact ⟨Or.inl, fun y => y.elim id (fun y => absurd y.1 hno)⟩
          · rw [hP s' h1 t h2]
            by_cases y : s' < s
            · rw [if_pos y, if_pos (by omega)]
            · rw [if_neg y, if_neg (by omega)]
        · -- to 91
          refine r_al aX2_findComings_91 rfl ?_
          refine r_getR aX2_findComings_92 rfl rfl ?_
          refine r_il aX2_findComings_95 rfl ?_
          refine r_dup2 aX2_findComings_96 rfl rfl ?_
          refine r_iald aX2_findComings_97 rfl (by omega) ?_
          refine r_al aX2_findComings_98 rfl ?_
          refine r_getR aX2_findComings_99 rfl rfl ?_
          refine r_il aX2_findComings_102 rfl ?_
          refine r_iald aX2_findComings_103 rfl (by omega) ?_
          refine r_ior aX2_findComings_104 ?_
          refine r_iast aX2_findComings_105 rfl (by omega) ?_
          refine r_in2 aX2_findComings_106 rfl ?_
          refine r_go aX2_findComings_109 ?_
          refine ih (s + 1) _ (by omega) (by omega) (fun s' h1 t h2 => ?_) (fr hF)
          rw [row]
          by_cases z : s' = s
          · subst z
            have hyes : PV w v s' v := e1.mp (by rw [← Q85.2]; exact c88)
            rw [if_pos rfl, bitAt_or (by omega), Bool.or_eq_true, hP s' h1 t h2, if_neg (by omega), if_pos (by omega), e2 t h2]
            exact ⟨fun y => y.elim Or.inl (fun y => Or.inr ⟨hyes, y⟩), fun y => y.elim Or.inl (fun y => Or.inr y.2)⟩
          · rw [if_neg z, hP s' h1 t h2]
            by_cases y : s' < s
            · rw [if_pos y, if_pos (by omega)]
            · rw [if_neg y, if_neg (by omega)]
  have p2 : ∀ (k v : Nat) (g : Mem), w.1 - v = k → v ≤ w.1 → (∀ s, s < w.1 → ∀ t, t < w.1 → (bitAt (g.1 48 s) t = true ↔ PV w v s t)) → Fr (fun a => a = 48) h g → G Y ad mX2_findComings 64 [some (.ref (ad 1)), some (.int (nI v)), none] [] g := by
    intro k
    induction k with
    | zero =>
      intro v g hk hv hP hF
      have hg := (hb hF).1
      have e : v = w.1 := by omega
      subst e
      refine r_il aX2_findComings_64 rfl ?_
      refine r_al aX2_findComings_65 rfl ?_
      refine r_gI aX2_findComings_66 rfl rfl hg ?_
      refine r_n_ge aX2_findComings_69 (by omega) (by omega) (fun c69 => ?_) (fun c69 => ?_)
      · -- to 118
        exact r_vret hM aX2_findComings_118 rfl ⟨fun s h1 t h2 => by rw [Bool.eq_iff_iff, hP s h1 t h2, PV_iff hW, rB_iff], hF⟩
      · omega
    | succ k ih =>
      intro v g hk hv hP hF
      have hg := (hb hF).1
      refine r_il aX2_findComings_64 rfl ?_
      refine r_al aX2_findComings_65 rfl ?_
      refine r_gI aX2_findComings_66 rfl rfl hg ?_
      refine r_n_ge aX2_findComings_69 (by omega) (by omega) (fun c69 => ?_) (fun c69 => ?_)
      · omega
      · -- to 72
        refine r_ki aX2_findComings_72 ?_
        refine r_is2 aX2_findComings_73 rfl ?_
        exact p2in v (by omega) (fun g' a b => ih (v + 1) g' (by omega) (by omega) a b) _ 0 g rfl (by omega) (fun s' h1 t h2 => by rw [if_neg (by omega)]; exact hP s' h1 t h2) hF
  have p1in : ∀ (s : Nat), s < w.1 → (∀ g : Mem, (∀ s', s' < s + 1 → ∀ t, t < w.1 → (bitAt (g.1 48 s') t = true ↔ PV w 0 s' t)) → Fr (fun a => a = 48) h g → G Y ad mX2_findComings 2 [some (.ref (ad 1)), some (.int (nI (s + 1))), none] [] g) → ∀ (k i : Nat) (g : Mem), (w.2.2.1 s).length - i = k → i ≤ (w.2.2.1 s).length → (∀ s', s' < s → ∀ t, t < w.1 → (bitAt (g.1 48 s') t = true ↔ PV w 0 s' t)) → (∀ t, t < w.1 → (bitAt (g.1 48 s) t = true ↔ s = t ∨ ∃ j, j < i ∧ ∃ p, (w.2.2.1 s)[j]? = some p ∧ p.1 = t)) → Fr (fun a => a = 48) h g → G Y ad mX2_findComings 21 [some (.ref (ad 1)), some (.int (nI s)), some (.int (nI i))] [] g := by
    intro s hs out k
    have hlen := hW.len s
    induction k with
    | zero =>
      intro i g hk hi hP hQ hF
      have ha := (hb hF).2.2.2.2.1 s (by omega)
      refine r_il aX2_findComings_21 rfl ?_
      refine r_al aX2_findComings_22 rfl ?_
      refine r_getR aX2_findComings_23 rfl rfl ?_
      refine r_il aX2_findComings_26 rfl ?_
      refine r_xI aX2_findComings_27 rfl (by omega) ha ?_
      refine r_n_ge aX2_findComings_28 (by omega) (by omega) (fun c28 => ?_) (fun c28 => ?_)
      · -- to 56
        refine r_in1 aX2_findComings_56 rfl ?_
        refine r_go aX2_findComings_59 ?_
        refine r_f2 ?_
        refine out g (fun s' h1 t h2 => ?_) hF
        by_cases z : s' = s
        · subst z
          rw [hQ t h2]
          refine ⟨fun y => y.elim Or.inl (fun ⟨j, _, p, hp, e⟩ => Or.inr ⟨p, List.mem_of_getElem? hp, e⟩), fun y => y.elim Or.inl (fun ⟨p, hp, e⟩ => ?_)⟩
          obtain ⟨j, hj⟩ := List.getElem?_of_mem hp
          have := (List.getElem?_eq_some_iff.mp hj).1
          exact Or.inr ⟨j, by omega, p, hj, e⟩
        · exact hP s' (by omega) t h2
      · omega
    | succ k ih =>
      intro i g hk hi hP hQ hF
      have ha := (hb hF).2.2.2.2.1 s (by omega)
      have hlt : i < (w.2.2.1 s).length := by omega
      have h20 : s < 20 := by omega
      obtain ⟨e1, -⟩ := (hb hF).2.2.2.2.2.1 s h20 i _ (List.getElem?_eq_getElem hlt)
      have b1 := ((hW.2.2.2.1 s).1 _ (List.getElem_mem hlt)).1
      refine r_il aX2_findComings_21 rfl ?_
      refine r_al aX2_findComings_22 rfl ?_
      refine r_getR aX2_findComings_23 rfl rfl ?_
      refine r_il aX2_findComings_26 rfl ?_
      refine r_xI aX2_findComings_27 rfl (by omega) ha ?_
      refine r_n_ge aX2_findComings_28 (by omega) (by omega) (fun c28 => ?_) (fun c28 => ?_)
      · omega
      · -- to 31
        refine r_al aX2_findComings_31 rfl ?_
        refine r_getR aX2_findComings_32 rfl rfl ?_
        refine r_il aX2_findComings_35 rfl ?_
        refine r_dup2 aX2_findComings_36 rfl rfl ?_
        refine r_iald aX2_findComings_37 rfl (by omega) ?_
        refine r_ki aX2_findComings_38 ?_
        refine r_al aX2_findComings_39 rfl ?_
        refine r_getR aX2_findComings_40 rfl rfl ?_
        refine r_il aX2_findComings_43 rfl ?_
        refine r_aaldI aX2_findComings_44 rfl h20 (if_pos h20) ?_
        refine r_il aX2_findComings_45 rfl ?_
        refine r_xI aX2_findComings_46 (shT _ h20) (by omega) e1 ?_
        refine r_ishl aX2_findComings_47 ?_
        refine r_ior aX2_findComings_48 ?_
        refine r_iast aX2_findComings_49 rfl (by omega) ?_
        refine r_in2 aX2_findComings_50 rfl ?_
        refine r_go aX2_findComings_53 ?_
        refine ih (i + 1) _ (by omega) (by omega) (fun s' h1 t h2 => ?_) (fun t h2 => ?_) (fr hF)
        · rw [row, if_neg (by omega)]; exact hP s' h1 t h2
        · rw [row, if_pos rfl, bitAt_or (by omega), Bool.or_eq_true, hQ t h2, bitAt_one (by omega) (by omega), decide_eq_true_eq]
          constructor
          · rintro ((y | ⟨j, hj, p, hp, e⟩) | y)
            · exact Or.inl y
            · exact Or.inr ⟨j, by omega, p, hp, e⟩
            · exact Or.inr ⟨i, by omega, _, List.getElem?_eq_getElem hlt, y⟩
          · rintro (y | ⟨j, hj, p, hp, e⟩)
            · exact Or.inl (Or.inl y)
            · by_cases z : j = i
              · subst z
                rw [List.getElem?_eq_getElem hlt] at hp
                cases hp
                exact Or.inr e
              · exact Or.inl (Or.inr ⟨j, by omega, p, hp, e⟩)
  have p1 : ∀ (k s : Nat) (g : Mem), w.1 - s = k → s ≤ w.1 → (∀ s', s' < s → ∀ t, t < w.1 → (bitAt (g.1 48 s') t = true ↔ PV w 0 s' t)) → Fr (fun a => a = 48) h g → G Y ad mX2_findComings 2 [some (.ref (ad 1)), some (.int (nI s)), none] [] g := by
    intro k
    induction k with
    | zero =>
      intro s g hk hs hP hF
      have hg := (hb hF).1
      refine r_il aX2_findComings_2 rfl ?_
      refine r_al aX2_findComings_3 rfl ?_
      refine r_gI aX2_findComings_4 rfl rfl hg ?_
      refine r_n_ge aX2_findComings_7 (by omega) (by omega) (fun c7 => ?_) (fun c7 => ?_)
      · -- to 62
        refine r_ki aX2_findComings_62 ?_
        refine r_is1 aX2_findComings_63 rfl ?_
        exact p2 _ 0 g rfl (by omega) (fun s' h1 t h2 => hP s' (by omega) t h2) hF
      · omega
    | succ k ih =>
      intro s g hk hs hP hF
      have hg := (hb hF).1
      refine r_il aX2_findComings_2 rfl ?_
      refine r_al aX2_findComings_3 rfl ?_
      refine r_gI aX2_findComings_4 rfl rfl hg ?_
      refine r_n_ge aX2_findComings_7 (by omega) (by omega) (fun c7 => ?_) (fun c7 => ?_)
      · omega
      · -- to 10
        refine r_al aX2_findComings_10 rfl ?_
        refine r_getR aX2_findComings_11 rfl rfl ?_
        refine r_il aX2_findComings_14 rfl ?_
        refine r_ki aX2_findComings_15 ?_
        refine r_il aX2_findComings_16 rfl ?_
        refine r_ishl aX2_findComings_17 ?_
        refine r_iast aX2_findComings_18 rfl (by omega) ?_
        refine r_ki aX2_findComings_19 ?_
        refine r_is2 aX2_findComings_20 rfl ?_
        refine p1in s (by omega) (fun g' a b => ih (s + 1) g' (by omega) (by omega) a b) _ 0 _ rfl (by omega) (fun s' h1 t h2 => ?_) (fun t h2 => ?_) (fr hF)
        · rw [row, if_neg (by omega)]; exact hP s' h1 t h2
        · rw [row, if_pos rfl, bitAt_one (by omega) (by omega), decide_eq_true_eq]
          exact ⟨Or.inl, fun y => y.elim id (fun ⟨j, hj, _⟩ => by omega)⟩
  refine r_ki aX2_findComings_0 ?_
  refine r_is1 aX2_findComings_1 rfl ?_
  exact p1 _ 0 h rfl (by omega) (fun s' h1 => by omega) Fr.rf
theorem K_X2_findReach {s : Nat} (hW : WW w) (hR : WR h w) (hs : s < w.1) (hC : ∀ t, t < w.1 → bitAt (h.1 48 s) t = rB w s t) : Con ad mX2_findReach [.ref (ad 1), .int (nI s)] h (qI fun x h' => h' = h ∧ x = rm w s) := by
  have hn := hR.1
  have h20 := hW.n
  refine Con.mk vX2_findReach.1 vX2_findReach.2.2.2.2 [some (.ref (ad 1)), some (.int (nI s)), none, none] rfl (Nat.le_of_ble_eq_true rfl) (fun Y hM => ?_)
  have loop : ∀ (k t : Nat), w.1 - t = k → t ≤ w.1 → G Y ad mX2_findReach 4 [some (.ref (ad 1)), some (.int (nI s)), some (.int (rmU w s t)), some (.int (nI t))] [] h := by
    intro k
    induction k with
    | zero =>
      intro t hk ht
      have e : t = w.1 := by omega
      subst e
      refine r_il aX2_findReach_4 rfl ?_
      refine r_al aX2_findReach_5 rfl ?_
      refine r_gI aX2_findReach_6 rfl rfl hn ?_
      refine r_n_ge aX2_findReach_9 (by omega) (by omega) (fun c9 => ?_) (fun c9 => ?_)
      · -- to 46
        refine r_il aX2_findReach_46 rfl ?_
        exact r_iret hM aX2_findReach_47 rfl ⟨rfl, rfl⟩
      · omega
    | succ k ih =>
      intro t hk ht
      have key := ih (t + 1) (by omega) (by omega)
      have ho := hR.2.1 t (by omega)
      rw [rmU] at key
      refine r_il aX2_findReach_4 rfl ?_
      refine r_al aX2_findReach_5 rfl ?_
      refine r_gI aX2_findReach_6 rfl rfl hn ?_
      refine r_n_ge aX2_findReach_9 (by omega) (by omega) (fun c9 => ?_) (fun c9 => ?_)
      · omega
      · -- to 12
        refine r_al aX2_findReach_12 rfl ?_
        refine r_il aX2_findReach_13 rfl ?_
        refine r_il aX2_findReach_14 rfl ?_
        refine r_VZ2 aX2_findReach_15 vX2_comes rfl (K_X2_comes (by omega) (by omega)) (fun x15 h15 Q15 => ?_)
        rw [Q15.1]
        refine r_b_eq aX2_findReach_18 (fun c18 => ?_) (fun c18 => ?_)
        · -- to 40
          refine r_in3 aX2_findReach_40 rfl ?_
          refine r_go aX2_findReach_43 ?_
          rw [hC t (by omega)] at Q15
          have hf : rB w s t = false := Q15.2.symm.trans c18
          rw [hf] at key
          cases hz : w.2.1 t with
          | none => rw [hz] at key; exact key
          | some o => rw [hz] at key; exact key
        · -- to 21
          refine r_al aX2_findReach_21 rfl ?_
          refine r_il aX2_findReach_22 rfl ?_
          refine r_VZ1 aX2_findReach_23 vX2_goesOn rfl (K_X2_goesOn hW hR) (fun x23 h23 Q23 => ?_)
          rw [Q23.1]
          refine r_b_ne aX2_findReach_26 (fun c26 => ?_) (fun c26 => ?_)
          · -- to 40
            refine r_in3 aX2_findReach_40 rfl ?_
            refine r_go aX2_findReach_43 ?_
            obtain ⟨j, hj, e, e'⟩ := Q23.2.mp c26
            rw [← (nI_eq (by omega) (by omega)).mp e] at e'
            rw [e'] at key
            exact key
          · -- to 29
            rw [hC t (by omega)] at Q15
            have htt : rB w s t = true := Q15.2.symm.trans c18
            rw [htt] at key
            have hne : w.2.1 t ≠ none := fun z => by rw [Q23.2.mpr ⟨t, by omega, rfl, z⟩] at c26; cases c26
            obtain ⟨o, hz⟩ := Option.ne_none_iff_exists'.mp hne
            rw [hz] at key ho
            refine r_il aX2_findReach_29 rfl ?_
            refine r_ki aX2_findReach_30 ?_
            refine r_al aX2_findReach_31 rfl ?_
            refine r_getR aX2_findReach_32 rfl rfl ?_
            refine r_il aX2_findReach_35 rfl ?_
            refine r_xI aX2_findReach_36 rfl (by omega) ho ?_
            refine r_ishl aX2_findReach_37 ?_
            refine r_ior aX2_findReach_38 ?_
            refine r_is2 aX2_findReach_39 rfl ?_
            refine r_in3 aX2_findReach_40 rfl ?_
            refine r_go aX2_findReach_43 ?_
            exact key
  refine r_ki aX2_findReach_0 ?_
  refine r_is2 aX2_findReach_1 rfl ?_
  refine r_ki aX2_findReach_2 ?_
  refine r_is3 aX2_findReach_3 rfl ?_
  exact loop _ 0 rfl (by omega)
theorem K_X2_findSure {s : Nat} (hW : WW w) (hR : WR h w) (hs : s < w.1) (hC : ∀ t, t < w.1 → bitAt (h.1 48 s) t = rB w s t) (hm : ∀ t, t < w.1 → h.1 49 t = rm w t) : Con ad mX2_findSure [.ref (ad 1), .int (nI s)] h (qZ fun b h' => h' = h ∧ b = su w s) := by
  have hn := hR.1
  have h20 := hW.n
  refine Con.mk vX2_findSure.1 vX2_findSure.2.2.2.2 [some (.ref (ad 1)), some (.int (nI s)), none] rfl (Nat.le_of_ble_eq_true rfl) (fun Y hM => ?_)
  have loop : ∀ (k t : Nat), w.1 - t = k → t ≤ w.1 → suU w s t = true → G Y ad mX2_findSure 2 [some (.ref (ad 1)), some (.int (nI s)), some (.int (nI t))] [] h := by
    intro k
    induction k with
    | zero =>
      intro t hk ht hx
      have e : t = w.1 := by omega
      subst e
      refine r_il aX2_findSure_2 rfl ?_
      refine r_al aX2_findSure_3 rfl ?_
      refine r_gI aX2_findSure_4 rfl rfl hn ?_
      refine r_n_ge aX2_findSure_7 (by omega) (by omega) (fun c7 => ?_) (fun c7 => ?_)
      · -- to 36
        refine r_ki aX2_findSure_36 ?_
        exact r_zT hM aX2_findSure_37 rfl ⟨rfl, hx.symm⟩
      · omega
    | succ k ih =>
      intro t hk ht hx
      have hr := hm t (by omega)
      refine r_il aX2_findSure_2 rfl ?_
      refine r_al aX2_findSure_3 rfl ?_
      refine r_gI aX2_findSure_4 rfl rfl hn ?_
      refine r_n_ge aX2_findSure_7 (by omega) (by omega) (fun c7 => ?_) (fun c7 => ?_)
      · omega
      · -- to 10
        refine r_al aX2_findSure_10 rfl ?_
        refine r_il aX2_findSure_11 rfl ?_
        refine r_il aX2_findSure_12 rfl ?_
        refine r_VZ2 aX2_findSure_13 vX2_comes rfl (K_X2_comes (by omega) (by omega)) (fun x13 h13 Q13 => ?_)
        rw [Q13.1]
        refine r_b_eq aX2_findSure_16 (fun c16 => ?_) (fun c16 => ?_)
        · -- to 30
          refine r_in2 aX2_findSure_30 rfl ?_
          refine r_go aX2_findSure_33 ?_
          refine ih (t + 1) (by omega) (by omega) ?_
          have hf : rB w s t = false := (hC t (by omega)).symm.trans (Q13.2.symm.trans c16)
          rw [suU, hx, hf]; rfl
        · -- to 19
          refine r_al aX2_findSure_19 rfl ?_
          refine r_getR aX2_findSure_20 rfl rfl ?_
          refine r_il aX2_findSure_23 rfl ?_
          refine r_xI aX2_findSure_24 rfl (by omega) hr ?_
          refine r_z_ne aX2_findSure_25 (fun c25 => ?_) (fun c25 => ?_)
          · -- to 30
            refine r_in2 aX2_findSure_30 rfl ?_
            refine r_go aX2_findSure_33 ?_
            refine ih (t + 1) (by omega) (by omega) ?_
            rw [suU, hx, decide_eq_false c25, Bool.and_false]; rfl
          · -- to 28
            refine r_ki aX2_findSure_28 ?_
            exact r_zF hM aX2_findSure_29 rfl ⟨rfl, (suU_f (by omega : t < w.1) ((hC t (by omega)).symm.trans (Q13.2.symm.trans c16)) c25).symm⟩
  refine r_ki aX2_findSure_0 ?_
  refine r_is2 aX2_findSure_1 rfl ?_
  exact loop _ 0 rfl (by omega) rfl
theorem K_X2_isWholeFrom {s : Nat} (hW : WW w) (hR : WR h w) (hs : s < w.1) (hC : ∀ t, t < w.1 → bitAt (h.1 48 s) t = rB w s t) : Con ad mX2_isWholeFrom [.ref (ad 1), .int (nI s)] h (qZ fun b h' => h' = h ∧ b = wh w s) := by
  have hn := hR.1
  have h20 := hW.n
  refine Con.mk vX2_isWholeFrom.1 vX2_isWholeFrom.2.2.2.2 [some (.ref (ad 1)), some (.int (nI s)), none] rfl (Nat.le_of_ble_eq_true rfl) (fun Y hM => ?_)
  have loop : ∀ (k t : Nat), w.1 - t = k → t ≤ w.1 → whU w s t = true → G Y ad mX2_isWholeFrom 2 [some (.ref (ad 1)), some (.int (nI s)), some (.int (nI t))] [] h := by
    intro k
    induction k with
    | zero =>
      intro t hk ht hx
      have e : t = w.1 := by omega
      subst e
      refine r_il aX2_isWholeFrom_2 rfl ?_
      refine r_al aX2_isWholeFrom_3 rfl ?_
      refine r_gI aX2_isWholeFrom_4 rfl rfl hn ?_
      refine r_n_ge aX2_isWholeFrom_7 (by omega) (by omega) (fun c7 => ?_) (fun c7 => ?_)
      · -- to 43
        refine r_ki aX2_isWholeFrom_43 ?_
        exact r_zT hM aX2_isWholeFrom_44 rfl ⟨rfl, hx.symm⟩
      · omega
    | succ k ih =>
      intro t hk ht hx
      have o1 : w.1 - (t + 1) = k := by omega
      have o2 : t + 1 ≤ w.1 := by omega
      have o3 : t < w.1 := by omega
      refine r_il aX2_isWholeFrom_2 rfl ?_
      refine r_al aX2_isWholeFrom_3 rfl ?_
      refine r_gI aX2_isWholeFrom_4 rfl rfl hn ?_
      refine r_n_ge aX2_isWholeFrom_7 (by omega) (by omega) (fun c7 => ?_) (fun c7 => ?_)
      · omega
      · -- to 10
        refine r_al aX2_isWholeFrom_10 rfl ?_
        refine r_il aX2_isWholeFrom_11 rfl ?_
        refine r_il aX2_isWholeFrom_12 rfl ?_
        refine r_VZ2 aX2_isWholeFrom_13 vX2_comes rfl (K_X2_comes (by omega) (by omega)) (fun x13 h13 Q13 => ?_)
        rw [Q13.1]
        refine r_b_eq aX2_isWholeFrom_16 (fun c16 => ?_) (fun c16 => ?_)
        · -- to 37
          refine r_in2 aX2_isWholeFrom_37 rfl ?_
          refine r_go aX2_isWholeFrom_40 ?_
          refine ih (t + 1) o1 o2 ?_
          have hf : rB w s t = false := (hC t o3).symm.trans (Q13.2.symm.trans c16)
          rw [whU, hx, hf]; rfl
        · -- to 19
          refine r_al aX2_isWholeFrom_19 rfl ?_
          refine r_il aX2_isWholeFrom_20 rfl ?_
          refine r_VZ1 aX2_isWholeFrom_21 vX2_goesOn rfl (K_X2_goesOn hW hR) (fun x21 h21 Q21 => ?_)
          rw [Q21.1]
          refine r_b_eq aX2_isWholeFrom_24 (fun c24 => ?_) (fun c24 => ?_)
          · -- to 37
            refine r_in2 aX2_isWholeFrom_37 rfl ?_
            refine r_go aX2_isWholeFrom_40 ?_
            refine ih (t + 1) o1 o2 ?_
            have hf : ¬ w.2.1 t = none := fun z => by rw [Q21.2.mpr ⟨t, o3, rfl, z⟩] at c24; cases c24
            rw [whU, hx, decide_eq_false hf, Bool.false_and, Bool.and_false]; rfl
          · -- to 27
            refine r_al aX2_isWholeFrom_27 rfl ?_
            refine r_il aX2_isWholeFrom_28 rfl ?_
            refine r_VZ1 aX2_isWholeFrom_29 vX2_isWhole rfl (K_X2_isWhole hW hR (by omega)) (fun x29 h29 Q29 => ?_)
            rw [Q29.1]
            refine r_b_ne aX2_isWholeFrom_32 (fun c32 => ?_) (fun c32 => ?_)
            · -- to 37
              refine r_in2 aX2_isWholeFrom_37 rfl ?_
              refine r_go aX2_isWholeFrom_40 ?_
              refine ih (t + 1) o1 o2 ?_
              have hf := of_decide_eq_true (Q29.2.symm.trans c32)
              rw [whU, hx, decide_eq_true hf, Bool.not_true, Bool.and_false, Bool.and_false]; rfl
            · -- to 35
              refine r_ki aX2_isWholeFrom_35 ?_
              refine r_zF hM aX2_isWholeFrom_36 rfl ?_
              obtain ⟨j, hj, e, e'⟩ := Q21.2.mp c24
              rw [← (nI_eq (by omega) (by omega)).mp e] at e'
              exact ⟨rfl, (whU_f o3 ((hC t o3).symm.trans (Q13.2.symm.trans c16)) e' (of_decide_eq_false (Q29.2.symm.trans c32))).symm⟩
  refine r_ki aX2_isWholeFrom_0 ?_
  refine r_is2 aX2_isWholeFrom_1 rfl ?_
  exact loop _ 0 rfl (by omega) rfl
theorem K_X2_survey (hW : WW w) (hR : WR h w) : Con ad mX2_survey [.ref (ad 1)] h (qV fun h' => SV h' w ∧ Fr (fun a => 48 ≤ a ∧ a < 51) h h') := by
  have h20 := hW.n
  refine Con.mk vX2_survey.1 vX2_survey.2.2.2.2 [some (.ref (ad 1)), none] rfl (Nat.le_of_ble_eq_true rfl) (fun Y hM => ?_)
  have p2 : ∀ (k s : Nat) (g : Mem), w.1 - s = k → s ≤ w.1 → (∀ s, s < w.1 → ∀ t, t < w.1 → bitAt (g.1 48 s) t = rB w s t) → (∀ s, s < w.1 → g.1 49 s = rm w s) → (∀ s', s' < s → g.1 50 s' = bI (su w s')) → Fr (fun a => 48 ≤ a ∧ a < 51) h g → G Y ad mX2_survey 33 [some (.ref (ad 1)), some (.int (nI s))] [] g := by
    intro k
    induction k with
    | zero =>
      intro s g hk hs hC hm hS hF
      have hn := (hR.fr hF (fun a z => Or.inl z.1)).1
      refine r_il aX2_survey_33 rfl ?_
      refine r_al aX2_survey_34 rfl ?_
      refine r_gI aX2_survey_35 rfl rfl hn ?_
      refine r_n_ge aX2_survey_38 (by omega) (by omega) (fun c38 => ?_) (fun c38 => ?_)
      · -- to 58
        exact r_vret hM aX2_survey_58 rfl ⟨⟨hC, hm, fun s' h1 => hS s' (by omega)⟩, hF⟩
      · omega
    | succ k ih =>
      intro s g hk hs hC hm hS hF
      have hRg := hR.fr hF (fun a z => Or.inl z.1)
      have hn := hRg.1
      refine r_il aX2_survey_33 rfl ?_
      refine r_al aX2_survey_34 rfl ?_
      refine r_gI aX2_survey_35 rfl rfl hn ?_
      refine r_n_ge aX2_survey_38 (by omega) (by omega) (fun c38 => ?_) (fun c38 => ?_)
      · omega
      · -- to 41
        refine r_al aX2_survey_41 rfl ?_
        refine r_getR aX2_survey_42 rfl rfl ?_
        refine r_il aX2_survey_45 rfl ?_
        refine r_al aX2_survey_46 rfl ?_
        refine r_il aX2_survey_47 rfl ?_
        refine r_VZ1 aX2_survey_48 vX2_findSure rfl (K_X2_findSure hW hRg (by omega) (hC s (by omega)) hm) (fun x48 h48 Q48 => ?_)
        rw [Q48.1, Q48.2]
        refine r_zast aX2_survey_51 rfl (by omega) ?_
        refine r_in1 aX2_survey_52 rfl ?_
        refine r_go aX2_survey_55 ?_
        refine ih (s + 1) _ (by omega) (by omega) (fun s' h1 t h2 => by rw [si_o (by omega)]; exact hC s' h1 t h2) (fun s' h1 => by rw [si_o (by omega)]; exact hm s' h1) (fun s' h1 => ?_) (hF.tr (Fr.si ⟨by omega, by omega⟩))
        rw [si_1]
        by_cases z : s' = s
        · subst z; simp
        · simp [z]; exact hS s' (by omega)
  have p1 : ∀ (k s : Nat) (g : Mem), w.1 - s = k → s ≤ w.1 → (∀ s, s < w.1 → ∀ t, t < w.1 → bitAt (g.1 48 s) t = rB w s t) → (∀ s', s' < s → g.1 49 s' = rm w s') → Fr (fun a => 48 ≤ a ∧ a < 51) h g → G Y ad mX2_survey 6 [some (.ref (ad 1)), some (.int (nI s))] [] g := by
    intro k
    induction k with
    | zero =>
      intro s g hk hs hC hm hF
      have hn := (hR.fr hF (fun a z => Or.inl z.1)).1
      refine r_il aX2_survey_6 rfl ?_
      refine r_al aX2_survey_7 rfl ?_
      refine r_gI aX2_survey_8 rfl rfl hn ?_
      refine r_n_ge aX2_survey_11 (by omega) (by omega) (fun c11 => ?_) (fun c11 => ?_)
      · -- to 31
        refine r_ki aX2_survey_31 ?_
        refine r_is1 aX2_survey_32 rfl ?_
        exact p2 _ 0 g rfl (by omega) hC (fun s' h1 => hm s' (by omega)) (fun s' h1 => by omega) hF
      · omega
    | succ k ih =>
      intro s g hk hs hC hm hF
      have hRg := hR.fr hF (fun a z => Or.inl z.1)
      have hn := hRg.1
      refine r_il aX2_survey_6 rfl ?_
      refine r_al aX2_survey_7 rfl ?_
      refine r_gI aX2_survey_8 rfl rfl hn ?_
      refine r_n_ge aX2_survey_11 (by omega) (by omega) (fun c11 => ?_) (fun c11 => ?_)
      · omega
      · -- to 14
        refine r_al aX2_survey_14 rfl ?_
        refine r_getR aX2_survey_15 rfl rfl ?_
        refine r_il aX2_survey_18 rfl ?_
        refine r_al aX2_survey_19 rfl ?_
        refine r_il aX2_survey_20 rfl ?_
        refine r_VI1 aX2_survey_21 vX2_findReach rfl (K_X2_findReach hW hRg (by omega) (hC s (by omega))) (fun x21 h21 Q21 => ?_)
        rw [Q21.1, Q21.2]
        refine r_iast aX2_survey_24 rfl (by omega) ?_
        refine r_in1 aX2_survey_25 rfl ?_
        refine r_go aX2_survey_28 ?_
        refine ih (s + 1) _ (by omega) (by omega) (fun s' h1 t h2 => by rw [si_o (by omega)]; exact hC s' h1 t h2) (fun s' h1 => ?_) (hF.tr (Fr.si ⟨by omega, by omega⟩))
        rw [si_1]
        by_cases z : s' = s
        · subst z; simp
        · simp [z]; exact hm s' (by omega)
  refine r_al aX2_survey_0 rfl ?_
  refine r_VV0 aX2_survey_1 vX2_findComings rfl (K_X2_findComings hW hR) (fun h1 Q1 => ?_)
  refine r_ki aX2_survey_4 ?_
  refine r_is1 aX2_survey_5 rfl ?_
  exact p1 _ 0 h1 rfl (by omega) Q1.1 (fun s' h1 => by omega) (Q1.2.mono (fun a z => by omega))
theorem K_X2_endsWithin {s : Nat} {x : Int32} (hW : WW w) (hV : SV h w) (hs : s < w.1) : Con ad mX2_endsWithin [.ref (ad 1), .int (nI s), .int x] h (qZ fun b h' => h' = h ∧ b = (su w s && decide (rm w s &&& (x ^^^ -1) = 0))) := by
  have h20 := hW.n
  have e1 := hV.2.1 s hs
  have e2 := hV.2.2 s hs
  refine Con.mk vX2_endsWithin.1 vX2_endsWithin.2.2.2.2 [some (.ref (ad 1)), some (.int (nI s)), some (.int x)] rfl (Nat.le_of_ble_eq_true rfl) (fun Y hM => ?_)
  refine r_al aX2_endsWithin_0 rfl ?_
  refine r_getR aX2_endsWithin_1 rfl rfl ?_
  refine r_il aX2_endsWithin_4 rfl ?_
  refine r_xZ aX2_endsWithin_5 rfl (by omega) e2 ?_
  refine r_b_eq aX2_endsWithin_6 (fun c6 => ?_) (fun c6 => ?_)
  · -- to 26
    refine r_ki aX2_endsWithin_26 ?_
    exact r_zF hM aX2_endsWithin_27 rfl ⟨rfl, by rw [c6]; rfl⟩
  · -- to 9
    refine r_al aX2_endsWithin_9 rfl ?_
    refine r_getR aX2_endsWithin_10 rfl rfl ?_
    refine r_il aX2_endsWithin_13 rfl ?_
    refine r_xI aX2_endsWithin_14 rfl (by omega) e1 ?_
    refine r_il aX2_endsWithin_15 rfl ?_
    refine r_ki aX2_endsWithin_16 ?_
    refine r_ixor aX2_endsWithin_17 ?_
    refine r_iand aX2_endsWithin_18 ?_
    refine r_z_ne aX2_endsWithin_19 (fun c19 => ?_) (fun c19 => ?_)
    · -- to 26
      refine r_ki aX2_endsWithin_26 ?_
      exact r_zF hM aX2_endsWithin_27 rfl ⟨rfl, by rw [decide_eq_false c19, Bool.and_false]⟩
    · -- to 22
      refine r_ki aX2_endsWithin_22 ?_
      refine r_go aX2_endsWithin_23 ?_
      exact r_zT hM aX2_endsWithin_27 rfl ⟨rfl, by rw [c6, decide_eq_true c19]; rfl⟩
end REACH
end
section
/-! what each call answers, and what is then -/
def inN (x : Int32) (n : Nat) : Option Nat := if ¬ x < 0 ∧ ¬ nI n ≤ x then some x.toNatClampNeg else none
theorem inN_s {x : Int32} {n j : Nat} (hn : n < 2147483648) : inN x n = some j ↔ j < n ∧ x = nI j := by
  unfold inN
  constructor
  · intro h
    split at h
    · next c =>
      obtain ⟨i, hi, e⟩ := nI_split c.1 c.2 hn
      rw [e, nI_clamp (by omega)] at h
      cases h
      exact ⟨hi, e⟩
    · cases h
  · rintro ⟨h1, rfl⟩
    rw [if_pos ⟨nI_pos (by omega), nI_ge h1 (by omega)⟩, nI_clamp (by omega)]
theorem inN_n {x : Int32} {n : Nat} (hn : n < 2147483648) : inN x n = none ↔ ¬ ∃ j, j < n ∧ x = nI j := by
  constructor
  · rintro h ⟨j, hj⟩
    rw [(inN_s hn).mpr hj] at h
    cases h
  · intro h
    cases hx : inN x n with
    | none => rfl
    | some j => exact absurd ⟨j, (inN_s hn).mp hx⟩ h
abbrev LL : Type := Nat × Nat × Lst
/-- walk, order, joined, the listing, the saves -/
abbrev Sta : Type := Wk × Nat × Bool × Option LL × (Nat → Option LL)
def SI (σ : Sta) : Prop := WW σ.1 ∧ σ.2.1 ≤ 2 ∧ (∀ l, σ.2.2.2.1 = some l → l.1 < σ.1.1 ∧ LI σ.1 l.2.2) ∧ ∀ k l, σ.2.2.2.2 k = some l → l.1 < σ.1.1 ∧ LI σ.1 l.2.2
def noL : Nat → Option LL := fun _ => none
def noW : Nat → Option Nat := fun _ => none
/-- the walk is another: listing, saves and laws go -/
def nwS (σ : Sta) (n : Nat) (out : Nat → Option Nat) (ar : Nat → List (Nat × Nat)) : Sta := ((n, out, ar, noW), σ.2.1, σ.2.2.1, none, noL)
def fState (σ : Sta) (x : Int32) : Int32 × Sta := if x ≠ -1 ∧ inN x 8 = none then (-1, σ) else if 20 ≤ σ.1.1 then (-3, σ) else (nI σ.1.1, nwS σ (σ.1.1 + 1) (va_up σ.1.2.1 σ.1.1 (inN x 8)) σ.1.2.2.1)
def addA (t k : Nat) : List (Nat × Nat) → List (Nat × Nat)
  | [] => [(t, k)]
  | p :: r => if p.1 = t then (p.1, p.2 + k) :: r else p :: addA t k r
def fArrow (σ : Sta) (x y z : Int32) : Int32 × Sta := match inN x σ.1.1, inN y σ.1.1, inN z 17 with
  | some s, some t, some k => if σ.1.2.1 s ≠ none ∨ k = 0 then (-1, σ) else if 16 < tot (σ.1.2.2.1 s) + k then (-3, σ) else (nI (tot (σ.1.2.2.1 s) + k), nwS σ σ.1.1 σ.1.2.1 (va_up σ.1.2.2.1 s (addA t k (σ.1.2.2.1 s))))
  | _, _, _ => (-1, σ)
def setLaw (σ : Sta) (s : Nat) (t : Option Nat) : Sta := ((σ.1.1, σ.1.2.1, σ.1.2.2.1, va_up σ.1.2.2.2 s t), σ.2)
noncomputable def lawB (w : Wk) (s t : Nat) : Bool := @decide (LawOk w s t) (Classical.propDecidable _)
theorem lawB_iff {w : Wk} {s t : Nat} : lawB w s t = true ↔ LawOk w s t := by unfold lawB; exact @decide_eq_true_iff _ (Classical.propDecidable _)
noncomputable def fLaw (σ : Sta) (x y : Int32) : Int32 × Sta := match inN x σ.1.1 with
  | none => (-1, σ)
  | some s => if σ.1.2.1 s ≠ none then (-1, σ) else if y = -1 then (nI 1, setLaw σ s none) else match inN y σ.1.1 with
    | none => (-1, σ)
    | some t => if lawB σ.1 s t then (nI 1, setLaw σ s (some t)) else (-2, σ)
def fOrder (σ : Sta) (x : Int32) : Int32 × Sta := match inN x 3 with
  | none => (-1, σ)
  | some k => (nI σ.2.1, (σ.1, k, σ.2.2))
def fJoined (σ : Sta) (b : Bool) : Int32 × Sta := (bI σ.2.2.1, (σ.1, σ.2.1, b, σ.2.2.2))
def setNow (σ : Sta) (l : Option LL) : Sta := (σ.1, σ.2.1, σ.2.2.1, l, σ.2.2.2.2)
def begL (s : Nat) : Lst := ([(s, 0, 1152921504606846976)], (fun _ => 0), fun _ => 0)
noncomputable def fBegin (σ : Sta) (x : Int32) : Int32 × Sta := match inN x σ.1.1 with
  | none => (-1, σ)
  | some s => if wh σ.1 s then (rm σ.1 s, setNow σ (some (s, 0, begL s))) else (-2, σ)
def goN (w : Wk) (jn : Bool) (kind : Nat) : Nat → Lst → Nat × Lst
  | 0, ℓ => (0, ℓ)
  | n + 1, ℓ => match goS w jn kind ℓ with
    | none => (0, ℓ)
    | some ℓ' => ((goN w jn kind n ℓ').1 + 1, (goN w jn kind n ℓ').2)
def fGrow (σ : Sta) (x : Int32) : Int32 × Sta := match inN x 501 with
  | none => (-1, σ)
  | some n => match σ.2.2.2.1 with
    | none => (-2, σ)
    | some l => (nI (goN σ.1 σ.2.2.1 σ.2.1 n l.2.2).1, setNow σ (some (l.1, l.2.1 + (goN σ.1 σ.2.2.1 σ.2.1 n l.2.2).1, (goN σ.1 σ.2.2.1 σ.2.1 n l.2.2).2)))
noncomputable def loU (w : Wk) (ℓ : Lst) (x : Int32) : Nat → Nat
  | 0 => fSum ℓ.2.1 x 8
  | s + 1 => loU w ℓ x s + if su w s && decide (rm w s &&& (x ^^^ -1) = 0) then ℓ.2.2 s + opAt ℓ.1 s else 0
noncomputable def hiU (w : Wk) (ℓ : Lst) (x : Int32) : Nat → Nat
  | 0 => fSum ℓ.2.1 x 8
  | s + 1 => hiU w ℓ x s + if rm w s &&& x = 0 then 0 else ℓ.2.2 s + opAt ℓ.1 s
noncomputable def lo (w : Wk) (ℓ : Lst) (x : Int32) : Nat := loU w ℓ x w.1
noncomputable def hi (w : Wk) (ℓ : Lst) (x : Int32) : Nat := hiU w ℓ x w.1
noncomputable def wid (w : Wk) (ℓ : Lst) (x : Int32) : Int64 := lN (hi w ℓ x) - lN (lo w ℓ x)
noncomputable def untN (w : Wk) (jn : Bool) (kind : Nat) (x : Int32) (nar : Int64) : Nat → Lst → Nat × Lst
  | 0, ℓ => (0, ℓ)
  | n + 1, ℓ => if wid w ℓ x ≤ nar then (0, ℓ) else match goS w jn kind ℓ with
    | none => (0, ℓ)
    | some ℓ' => ((untN w jn kind x nar n ℓ').1 + 1, (untN w jn kind x nar n ℓ').2)
def narr (v : Nat) : Int64 := lN 1 <<< ((nI (60 - v)).toInt64 &&& 63)
noncomputable def fUntil (σ : Sta) (x y z : Int32) : Int32 × Sta := match inN x 256, inN y 61, inN z 501 with
  | some _, some v, some n => match σ.2.2.2.1 with
    | none => (-2, σ)
    | some l => (nI (untN σ.1 σ.2.2.1 σ.2.1 x (narr v) n l.2.2).1, setNow σ (some (l.1, l.2.1 + (untN σ.1 σ.2.2.1 σ.2.1 x (narr v) n l.2.2).1, (untN σ.1 σ.2.2.1 σ.2.1 x (narr v) n l.2.2).2)))
  | _, _, _ => (-1, σ)
noncomputable def fEnd (σ : Sta) (x y : Int32) : Int64 := match inN x 256, inN y 2, σ.2.2.2.1 with
  | some _, some 0, some l => lN (lo σ.1 l.2.2 x)
  | some _, some _, some l => lN (hi σ.1 l.2.2 x)
  | _, _, _ => lN 0
/-- bit by bit -/
def pl (all : Nat) : Nat → Nat × Nat → Nat × Nat
  | 0, q => q
  | k + 1, q => pl all k (if all ≤ 2 * q.2 then (2 * q.1 + 1, 2 * q.2 - all) else (2 * q.1, 2 * q.2))
def ptA (sh all : Nat) (up : Bool) : Int32 := if all ≤ sh then nI 1073741824 else if up = true ∧ 0 < (pl all 30 (0, sh)).2 then nI ((pl all 30 (0, sh)).1 + 1) else nI (pl all 30 (0, sh)).1
noncomputable def fGiven (σ : Sta) (x y z : Int32) : Int32 := match inN x 256, inN y 256, inN z 2 with
  | some _, some _, some sd => match σ.2.2.2.1 with
    | none => -2
    | some l => if sd = 0 then (if lo σ.1 l.2.2 (x &&& y) + hi σ.1 l.2.2 (y &&& (x ^^^ -1)) = 0 then nI 0 else ptA (lo σ.1 l.2.2 (x &&& y)) (lo σ.1 l.2.2 (x &&& y) + hi σ.1 l.2.2 (y &&& (x ^^^ -1))) false)
      else (if hi σ.1 l.2.2 (x &&& y) + lo σ.1 l.2.2 (y &&& (x ^^^ -1)) = 0 then nI 1073741824 else ptA (hi σ.1 l.2.2 (x &&& y)) (hi σ.1 l.2.2 (x &&& y) + lo σ.1 l.2.2 (y &&& (x ^^^ -1))) true)
  | _, _, _ => -1
noncomputable def triW (σ : Sta) (s : Nat) (x : Int32) (n kind : Nat) : Int64 := wid σ.1 (goN σ.1 σ.2.2.1 kind n (begL s)).2 x
noncomputable def fBest (σ : Sta) (x y : Int32) : Int32 := match inN x 256, inN y 201 with
  | some _, some n => match σ.2.2.2.1 with
    | none => -2
    | some l => if triW σ l.1 x n 1 < triW σ l.1 x n 0 then (if triW σ l.1 x n 2 < triW σ l.1 x n 1 then nI 2 else nI 1) else (if triW σ l.1 x n 2 < triW σ l.1 x n 0 then nI 2 else nI 0)
  | _, _ => -1
def fItem (σ : Sta) (x y : Int32) : Int32 := match inN y 2 with
  | none => -1
  | some wt => match σ.2.2.2.1 with
    | none => -2
    | some l => match inN x l.2.2.1.length with
      | none => -1
      | some i => if wt = 0 then nI (gi l.2.2.1 i).1 else nI (gi l.2.2.1 i).2.1
def fUnits (σ : Sta) (x : Int32) : Int64 := match σ.2.2.2.1 with
  | none => lN 0
  | some l => match inN x l.2.2.1.length with
    | none => lN 0
    | some i => lN (gi l.2.2.1 i).2.2
def fFound (σ : Sta) (x : Int32) : Int64 := match σ.2.2.2.1, inN x 8 with
  | some l, some o => lN (l.2.2.2.1 o)
  | _, _ => lN 0
def fRests (σ : Sta) (x : Int32) : Int64 := match σ.2.2.2.1, inN x σ.1.1 with
  | some l, some s => lN (l.2.2.2.2 s)
  | _, _ => lN 0
def fSave (σ : Sta) (x : Int32) : Int32 × Sta := match inN x 3 with
  | none => (-1, σ)
  | some k => match σ.2.2.2.1 with
    | none => (-2, σ)
    | some l => (nI l.2.2.1.length, (σ.1, σ.2.1, σ.2.2.1, some l, va_up σ.2.2.2.2 k (some l)))
def fBack (σ : Sta) (x : Int32) : Int32 × Sta := match inN x 3 with
  | none => (-1, σ)
  | some k => match σ.2.2.2.2 k with
    | none => (-2, σ)
    | some l => (nI l.2.2.1.length, setNow σ (some l))
def fTold (σ : Sta) (x : Int32) : Int32 := match inN x 5 with
  | some 0 => nI σ.1.1
  | some 1 => match σ.2.2.2.1 with
    | none => nI 0
    | some l => nI l.2.2.1.length
  | some 2 => match σ.2.2.2.1 with
    | none => nI 0
    | some l => nI l.2.1
  | some 3 => match σ.2.2.2.1 with
    | none => -1
    | some l => nI l.1
  | some _ => nI σ.2.1
  | none => match inN (x - nI 10) σ.1.1 with
    | none => -1
    | some s => oI (σ.1.2.2.2 s)
/-! what is true stays true -/
theorem addA_tot (t k : Nat) : ∀ l, tot (addA t k l) = tot l + k
  | [] => by simp [addA, tot]
  | p :: r => by
    have := addA_tot t k r
    unfold addA
    split <;> simp only [tot, List.map_cons, List.sum_cons] at this ⊢ <;> omega
theorem addA_aw {n t k : Nat} (ht : t < n) (hk : 0 < k) : ∀ {l : List (Nat × Nat)}, (∀ p ∈ l, p.1 < n ∧ 1 ≤ p.2) → ∀ p ∈ addA t k l, p.1 < n ∧ 1 ≤ p.2
  | [], _, p, hp => by
    rw [addA, List.mem_singleton] at hp
    rw [hp]; exact ⟨ht, hk⟩
  | x :: r, h, p, hp => by
    unfold addA at hp
    split at hp
    · rcases List.mem_cons.mp hp with e | hp
      · rw [e]; have := h x List.mem_cons_self; exact ⟨this.1, by dsimp only; omega⟩
      · exact h p (List.mem_cons_of_mem _ hp)
    · rcases List.mem_cons.mp hp with e | hp
      · rw [e]; exact h x List.mem_cons_self
      · exact addA_aw ht hk (fun p hp => h p (List.mem_cons_of_mem _ hp)) p hp
theorem addA_keys (t k : Nat) : ∀ l : List (Nat × Nat), ∀ x, x ∈ (addA t k l).map (fun p => p.1) → x = t ∨ x ∈ l.map (fun p => p.1)
  | [], x, hx => by simp [addA] at hx; exact Or.inl hx
  | p :: r, x, hx => by
    unfold addA at hx
    split at hx
    · exact Or.inr (by simpa using hx)
    · rw [List.map_cons, List.mem_cons] at hx
      rcases hx with e | hx
      · exact Or.inr (by rw [List.map_cons, List.mem_cons]; exact Or.inl e)
      · rcases addA_keys t k r x hx with e | e
        · exact Or.inl e
        · exact Or.inr (by rw [List.map_cons, List.mem_cons]; exact Or.inr e)
theorem addA_nd (t k : Nat) : ∀ l : List (Nat × Nat), (l.map (fun p => p.1)).Nodup → ((addA t k l).map (fun p => p.1)).Nodup
  | [], _ => by simp [addA]
  | p :: r, h => by
    rw [List.map_cons, List.nodup_cons] at h
    unfold addA
    split
    · rw [List.map_cons, List.nodup_cons]; exact h
    · next hc =>
      rw [List.map_cons, List.nodup_cons]
      refine ⟨fun z => ?_, addA_nd t k r h.2⟩
      rcases addA_keys t k r _ z with e | e
      · exact hc e
      · exact h.1 e
theorem SI.ww {σ : Sta} (H : SI σ) : WW σ.1 := H.1
theorem fState_si {σ : Sta} {x : Int32} (H : SI σ) : SI (fState σ x).2 := by
  unfold fState
  split
  · exact H
  · split
    · exact H
    · next h20 =>
      obtain ⟨⟨h1, h2, h3, h4, h5, h6⟩, ho, -, -⟩ := H
      refine ⟨⟨?_, fun s hs => ?_, fun s o hso => ?_, fun s => ?_, fun s t _ hl => ?_, h6⟩, ho, fun l hl => ?_, fun k l hl => ?_⟩
      · show σ.1.1 + 1 ≤ 20; omega
      · exact h2 s (by have : σ.1.1 + 1 ≤ s := hs; omega)
      · have hso : va_up σ.1.2.1 σ.1.1 (inN x 8) s = some o := hso
        by_cases e : s = σ.1.1
        · subst e
          rw [mu_self] at hso
          exact ⟨((inN_s (by omega)).mp hso).1, h2 _ (Nat.le_refl _)⟩
        · rw [mu_ne e] at hso
          exact h3 s o hso
      · exact ⟨fun p hp => ⟨Nat.lt_succ_of_lt ((h4 s).1 p hp).1, ((h4 s).1 p hp).2⟩, (h4 s).2⟩
      · cases hl
      · cases hl
      · cases hl
theorem fArrow_si {σ : Sta} {x y z : Int32} (H : SI σ) : SI (fArrow σ x y z).2 := by
  unfold fArrow
  split
  · next s t k hs ht hk =>
    split
    · exact H
    · next hc =>
      split
      · exact H
      · next h16 =>
        obtain ⟨⟨h1, h2, h3, h4, h5, h6⟩, ho, -, -⟩ := H
        have hs' := ((inN_s (by omega)).mp hs).1
        have ht' := ((inN_s (by omega)).mp ht).1
        have hn : σ.1.2.1 s = none := Classical.byContradiction (fun q => hc (Or.inl q))
        have hk0 : k ≠ 0 := fun q => hc (Or.inr q)
        refine ⟨⟨h1, fun s' hs2 => ?_, fun s' o hso => ?_, fun s' => ?_, fun s' t' _ hl => ?_, fun s' => ?_⟩, ho, fun l hl => ?_, fun k l hl => ?_⟩
        · have hs2 : σ.1.1 ≤ s' := hs2
          show va_up σ.1.2.2.1 s (addA t k (σ.1.2.2.1 s)) s' = []
          rw [mu_ne (by omega)]; exact h2 s' hs2
        · have hso : σ.1.2.1 s' = some o := hso
          refine ⟨(h3 s' o hso).1, ?_⟩
          show va_up σ.1.2.2.1 s (addA t k (σ.1.2.2.1 s)) s' = []
          have : s' ≠ s := fun q => by rw [q, hn] at hso; cases hso
          rw [mu_ne this]; exact (h3 s' o hso).2
        · show AW σ.1.1 (va_up σ.1.2.2.1 s (addA t k (σ.1.2.2.1 s)) s')
          by_cases e : s' = s
          · subst e
            rw [mu_self]
            exact ⟨addA_aw ht' (by omega) (h4 s').1, by rw [addA_tot]; omega⟩
          · rw [mu_ne e]; exact h4 s'
        · cases hl
        · show ((va_up σ.1.2.2.1 s (addA t k (σ.1.2.2.1 s)) s').map (fun p => p.1)).Nodup
          by_cases e : s' = s
          · subst e; rw [mu_self]; exact addA_nd t k _ (h6 s')
          · rw [mu_ne e]; exact h6 s'
        · cases hl
        · cases hl
  · exact H
theorem setLaw_si {σ : Sta} {s : Nat} {t : Option Nat} (H : SI σ) (ht : ∀ t', t = some t' → t' < σ.1.1 ∧ LawOk σ.1 s t') : SI (setLaw σ s t) := by
  obtain ⟨⟨h1, h2, h3, h4, h5, h6⟩, ho, hn, hk⟩ := H
  refine ⟨⟨h1, h2, h3, h4, fun s' t' hs hl => ?_, h6⟩, ho, hn, hk⟩
  have hl : va_up σ.1.2.2.2 s t s' = some t' := hl
  by_cases e : s' = s
  · subst e
    rw [mu_self] at hl
    exact ht t' hl
  · rw [mu_ne e] at hl
    exact h5 s' t' hs hl
theorem fLaw_si {σ : Sta} {x y : Int32} (H : SI σ) : SI (fLaw σ x y).2 := by
  have hn := H.1.1
  unfold fLaw
  split
  · exact H
  · split
    · exact H
    · split
      · exact setLaw_si H (fun t' h => by cases h)
      · split
        · exact H
        · next t ht =>
          split
          · next hb => exact setLaw_si H (fun t' h => by cases h; exact ⟨((inN_s (by omega)).mp ht).1, lawB_iff.mp hb⟩)
          · exact H
theorem fOrder_si {σ : Sta} {x : Int32} (H : SI σ) : SI (fOrder σ x).2 := by
  unfold fOrder
  split
  · exact H
  · next k hk => exact ⟨H.1, by have := ((inN_s (by omega)).mp hk).1; show k ≤ 2; omega, H.2.2⟩
theorem fJoined_si {σ : Sta} {b : Bool} (H : SI σ) : SI (fJoined σ b).2 := H
theorem setNow_si {σ : Sta} {l : LL} (H : SI σ) (h1 : l.1 < σ.1.1) (h2 : LI σ.1 l.2.2) : SI (setNow σ (some l)) := ⟨H.1, H.2.1, fun l' e => by cases e; exact ⟨h1, h2⟩, H.2.2.2⟩
theorem begL_li {w : Wk} {s : Nat} (hs : s < w.1) : LI w (begL s) := ⟨by simp [begL], fun p hp => by simp [begL] at hp; rw [hp]; exact ⟨hs, by dsimp only; omega⟩, by simp [begL, uSum, fs]⟩
theorem fBegin_si {σ : Sta} {x : Int32} (H : SI σ) : SI (fBegin σ x).2 := by
  have hn := H.1.1
  unfold fBegin
  split
  · exact H
  · next s hs =>
    split
    · have hs' := ((inN_s (by omega)).mp hs).1
      exact setNow_si H hs' (begL_li hs')
    · exact H
theorem goN_li {w : Wk} {jn : Bool} {kind : Nat} (hW : WW w) : ∀ (n : Nat) (ℓ : Lst), LI w ℓ → LI w (goN w jn kind n ℓ).2
  | 0, ℓ, h => h
  | n + 1, ℓ, h => by
    unfold goN
    cases hg : goS w jn kind ℓ with
    | none => exact h
    | some ℓ' => exact goN_li hW n ℓ' (goS_li hW h hg)
theorem fGrow_si {σ : Sta} {x : Int32} (H : SI σ) : SI (fGrow σ x).2 := by
  unfold fGrow
  split
  · exact H
  · split
    · exact H
    · next l hl => exact setNow_si H (H.2.2.1 l hl).1 (goN_li H.1 _ _ (H.2.2.1 l hl).2)
theorem untN_li {w : Wk} {jn : Bool} {kind : Nat} {x : Int32} {nar : Int64} (hW : WW w) : ∀ (n : Nat) (ℓ : Lst), LI w ℓ → LI w (untN w jn kind x nar n ℓ).2
  | 0, ℓ, h => h
  | n + 1, ℓ, h => by
    unfold untN
    split
    · exact h
    · cases hg : goS w jn kind ℓ with
      | none => exact h
      | some ℓ' => exact untN_li hW n ℓ' (goS_li hW h hg)
theorem fUntil_si {σ : Sta} {x y z : Int32} (H : SI σ) : SI (fUntil σ x y z).2 := by
  unfold fUntil
  split
  · split
    · exact H
    · next l hl => exact setNow_si H (H.2.2.1 l hl).1 (untN_li H.1 _ _ (H.2.2.1 l hl).2)
  · exact H
theorem fSave_si {σ : Sta} {x : Int32} (H : SI σ) : SI (fSave σ x).2 := by
  unfold fSave
  split
  · exact H
  · next k hk =>
    split
    · exact H
    · next l hl =>
      refine ⟨H.1, H.2.1, fun l' e => by cases e; exact H.2.2.1 l hl, fun k' l' e => ?_⟩
      have e : va_up σ.2.2.2.2 k (some l) k' = some l' := e
      by_cases z : k' = k
      · subst z; rw [mu_self] at e; cases e; exact H.2.2.1 l hl
      · rw [mu_ne z] at e; exact H.2.2.2 k' l' e
theorem fBack_si {σ : Sta} {x : Int32} (H : SI σ) : SI (fBack σ x).2 := by
  unfold fBack
  split
  · exact H
  · next k hk =>
    split
    · exact H
    · next l hl => exact setNow_si H (H.2.2.2 k l hl).1 (H.2.2.2 k l hl).2
def sta0 : Sta := ((0, noW, (fun _ => []), noW), 0, false, none, noL)
theorem sta0_si : SI sta0 := ⟨⟨Nat.zero_le _, fun _ _ => rfl, fun s o h => (by cases h), fun s => ⟨fun p hp => (by cases hp), by simp [sta0, tot]⟩, fun s t h => (by cases h), fun s => List.nodup_nil⟩, Nat.zero_le _, fun l h => (by cases h), fun k l h => (by cases h)⟩
end
section
/-! of kit/laws/BITS.to-paste -/
theorem wb_tb (n : Nat) : (lN n).toBitVec = BitVec.ofNat 64 n := rfl
theorem wb_inj {a b : Int64} (h : a.toBitVec = b.toBitVec) : a = b := Int64.toBitVec_inj.mp h
theorem wb_c : ∀ k, k < 64 → ((nI k).toInt64 &&& 63) = lN k := by decide +kernel
theorem wb_sm : ∀ k, k < 64 → (BitVec.ofNat 64 k).smod 64 = BitVec.ofNat 64 k := by decide +kernel
theorem wb_shl (n : Nat) {k : Nat} (hk : k < 64) : lN n <<< ((nI k).toInt64 &&& 63) = lN (n * 2 ^ k) := by
  rw [wb_c k hk]
  apply wb_inj
  rw [Int64.toBitVec_shiftLeft, wb_tb, wb_tb, wb_tb, wb_sm k hk]
  apply BitVec.eq_of_toNat_eq
  rw [BitVec.shiftLeft_eq', BitVec.toNat_shiftLeft, BitVec.toNat_ofNat, BitVec.toNat_ofNat, BitVec.toNat_ofNat, Nat.mod_eq_of_lt (show k < 2 ^ 64 by omega), Nat.shiftLeft_eq, Nat.mul_mod, Nat.mod_mod, ← Nat.mul_mod]
theorem shl1 (r : Nat) : lN r <<< ((nI 1).toInt64 &&& 63) = lN (2 * r) := by rw [wb_shl r (by omega), Nat.pow_one, Nat.mul_comm]
theorem ishl1 {p : Nat} (h : p < 1073741824) : nI p <<< (nI 1 &&& 31) = nI (2 * p) := by
  rw [pk_shlN (nI 1 &&& 31) 1 (by decide +kernel) (by omega), Nat.pow_one, Nat.mul_comm]
section CLASS1
variable {ad : Nat → Nat} {h : Mem} {w : Wk} {q : Nat} {ℓ : Lst} {jn : Bool}
theorem K_X3_low {x : Int32} (hq : IsL q) (hW : WW w) (hR : WR h w) (hV : SV h w) (hL : LR h q ℓ.1 ℓ.2.1 ℓ.2.2) : Con ad mX3_low [.ref (ad 0), .ref (ad q), .int x] h (qL fun y h' => h' = h ∧ y = lN (lo w ℓ x)) := by
  have hn := hR.1
  have h20 := hW.n
  refine Con.mk vX3_low.1 vX3_low.2.2.2.2 [some (.ref (ad 0)), some (.ref (ad q)), some (.int x), none, none, none] rfl (Nat.le_of_ble_eq_true rfl) (fun Y hM => ?_)
  have loop : ∀ (k s : Nat), w.1 - s = k → s ≤ w.1 → G Y ad mX3_low 9 [some (.ref (ad 0)), some (.ref (ad q)), some (.int x), some (.long (lN (loU w ℓ x s))), none, some (.int (nI s))] [] h := by
    intro k
    induction k with
    | zero =>
      intro s hk hs
      have e : s = w.1 := by omega
      subst e
      refine r_il aX3_low_9 rfl ?_
      refine r_al aX3_low_11 rfl ?_
      refine r_getR aX3_low_12 rfl rfl ?_
      refine r_gI aX3_low_15 rfl rfl hn ?_
      refine r_n_ge aX3_low_18 (by omega) (by omega) (fun c18 => ?_) (fun c18 => ?_)
      · -- to 50
        refine r_ll aX3_low_50 rfl ?_
        exact r_lret hM aX3_low_51 rfl ⟨rfl, rfl⟩
      · omega
    | succ k ih =>
      intro s hk hs
      have hw : h.2 (q + 6) s = lN (ℓ.2.2 s + opAt ℓ.1 s) := by have := hL.2.2.2.2 s (by omega); rwa [n0] at this
      have key := ih (s + 1) (by omega) (by omega)
      rw [loU] at key
      refine r_il aX3_low_9 rfl ?_
      refine r_al aX3_low_11 rfl ?_
      refine r_getR aX3_low_12 rfl rfl ?_
      refine r_gI aX3_low_15 rfl rfl hn ?_
      refine r_n_ge aX3_low_18 (by omega) (by omega) (fun c18 => ?_) (fun c18 => ?_)
      · omega
      · -- to 21
        refine r_al aX3_low_21 rfl ?_
        refine r_getR aX3_low_22 rfl rfl ?_
        refine r_il aX3_low_25 rfl ?_
        refine r_il aX3_low_27 rfl ?_
        refine r_VZ2 aX3_low_28 vX2_endsWithin rfl (K_X2_endsWithin hW hV (by omega)) (fun x28 h28 Q28 => ?_)
        rw [Q28.1]
        refine r_b_eq aX3_low_31 (fun c31 => ?_) (fun c31 => ?_)
        · -- to 44
          refine r_in5 aX3_low_44 rfl ?_
          refine r_go aX3_low_47 ?_
          rw [← Q28.2, c31] at key
          exact key
        · -- to 34
          refine r_ll aX3_low_34 rfl ?_
          refine r_al aX3_low_35 rfl ?_
          refine r_getR aX3_low_36 hq.1 rfl ?_
          refine r_il aX3_low_39 rfl ?_
          refine r_xL aX3_low_41 hq.2.2.2.2.2.2 (by omega) hw ?_
          refine r_laddN aX3_low_42 ?_
          refine r_ls3 aX3_low_43 rfl ?_
          refine r_in5 aX3_low_44 rfl ?_
          refine r_go aX3_low_47 ?_
          rw [← Q28.2, c31] at key
          exact key
  refine r_al aX3_low_0 rfl ?_
  refine r_il aX3_low_1 rfl ?_
  refine r_VL1 aX3_low_2 vX0_endedIn hq.1 (K_X0_endedIn hq hL.2.2.1) (fun x2 h2 Q2 => ?_)
  rw [Q2.1, Q2.2]
  refine r_ls3 aX3_low_5 rfl ?_
  refine r_ki aX3_low_6 ?_
  refine r_is5 aX3_low_7 rfl ?_
  exact loop _ 0 rfl (by omega)
theorem K_X3_high {x : Int32} (hq : IsL q) (hW : WW w) (hR : WR h w) (hV : SV h w) (hL : LR h q ℓ.1 ℓ.2.1 ℓ.2.2) : Con ad mX3_high [.ref (ad 0), .ref (ad q), .int x] h (qL fun y h' => h' = h ∧ y = lN (hi w ℓ x)) := by
  have hn := hR.1
  have h20 := hW.n
  refine Con.mk vX3_high.1 vX3_high.2.2.2.2 [some (.ref (ad 0)), some (.ref (ad q)), some (.int x), none, none, none] rfl (Nat.le_of_ble_eq_true rfl) (fun Y hM => ?_)
  have loop : ∀ (k s : Nat), w.1 - s = k → s ≤ w.1 → G Y ad mX3_high 9 [some (.ref (ad 0)), some (.ref (ad q)), some (.int x), some (.long (lN (hiU w ℓ x s))), none, some (.int (nI s))] [] h := by
    intro k
    induction k with
    | zero =>
      intro s hk hs
      have e : s = w.1 := by omega
      subst e
      refine r_il aX3_high_9 rfl ?_
      refine r_al aX3_high_11 rfl ?_
      refine r_getR aX3_high_12 rfl rfl ?_
      refine r_gI aX3_high_15 rfl rfl hn ?_
      refine r_n_ge aX3_high_18 (by omega) (by omega) (fun c18 => ?_) (fun c18 => ?_)
      · -- to 52
        refine r_ll aX3_high_52 rfl ?_
        exact r_lret hM aX3_high_53 rfl ⟨rfl, rfl⟩
      · omega
    | succ k ih =>
      intro s hk hs
      have hw : h.2 (q + 6) s = lN (ℓ.2.2 s + opAt ℓ.1 s) := by have := hL.2.2.2.2 s (by omega); rwa [n0] at this
      have hr := hV.2.1 s (by omega)
      have key := ih (s + 1) (by omega) (by omega)
      rw [hiU] at key
      refine r_il aX3_high_9 rfl ?_
      refine r_al aX3_high_11 rfl ?_
      refine r_getR aX3_high_12 rfl rfl ?_
      refine r_gI aX3_high_15 rfl rfl hn ?_
      refine r_n_ge aX3_high_18 (by omega) (by omega) (fun c18 => ?_) (fun c18 => ?_)
      · omega
      · -- to 21
        refine r_al aX3_high_21 rfl ?_
        refine r_getR aX3_high_22 rfl rfl ?_
        refine r_getR aX3_high_25 rfl rfl ?_
        refine r_il aX3_high_28 rfl ?_
        refine r_xI aX3_high_30 rfl (by omega) hr ?_
        refine r_il aX3_high_31 rfl ?_
        refine r_iand aX3_high_32 ?_
        refine r_z_eq aX3_high_33 (fun c33 => ?_) (fun c33 => ?_)
        · -- to 46
          refine r_in5 aX3_high_46 rfl ?_
          refine r_go aX3_high_49 ?_
          rw [if_pos c33] at key
          exact key
        · -- to 36
          refine r_ll aX3_high_36 rfl ?_
          refine r_al aX3_high_37 rfl ?_
          refine r_getR aX3_high_38 hq.1 rfl ?_
          refine r_il aX3_high_41 rfl ?_
          refine r_xL aX3_high_43 hq.2.2.2.2.2.2 (by omega) hw ?_
          refine r_laddN aX3_high_44 ?_
          refine r_ls3 aX3_high_45 rfl ?_
          refine r_in5 aX3_high_46 rfl ?_
          refine r_go aX3_high_49 ?_
          rw [if_neg c33] at key
          exact key
  refine r_al aX3_high_0 rfl ?_
  refine r_il aX3_high_1 rfl ?_
  refine r_VL1 aX3_high_2 vX0_endedIn hq.1 (K_X0_endedIn hq hL.2.2.1) (fun x2 h2 Q2 => ?_)
  rw [Q2.1, Q2.2]
  refine r_ls3 aX3_high_5 rfl ?_
  refine r_ki aX3_high_6 ?_
  refine r_is5 aX3_high_7 rfl ?_
  exact loop _ 0 rfl (by omega)
theorem K_X3_width {x : Int32} (hq : IsL q) (hW : WW w) (hR : WR h w) (hV : SV h w) (hL : LR h q ℓ.1 ℓ.2.1 ℓ.2.2) : Con ad mX3_width [.ref (ad 0), .ref (ad q), .int x] h (qL fun y h' => h' = h ∧ y = wid w ℓ x) := by
  refine Con.mk vX3_width.1 vX3_width.2.2.2.2 [some (.ref (ad 0)), some (.ref (ad q)), some (.int x)] rfl (Nat.le_of_ble_eq_true rfl) (fun Y hM => ?_)
  refine r_al aX3_width_0 rfl ?_
  refine r_al aX3_width_1 rfl ?_
  refine r_il aX3_width_2 rfl ?_
  refine r_VL2 aX3_width_3 vX3_high rfl (K_X3_high hq hW hR hV hL) (fun x3 h3 Q3 => ?_)
  rw [Q3.1, Q3.2]
  refine r_al aX3_width_6 rfl ?_
  refine r_al aX3_width_7 rfl ?_
  refine r_il aX3_width_8 rfl ?_
  refine r_VL2 aX3_width_9 vX3_low rfl (K_X3_low hq hW hR hV hL) (fun x9 h9 Q9 => ?_)
  rw [Q9.1, Q9.2]
  refine r_lsub aX3_width_12 ?_
  exact r_lret hM aX3_width_13 rfl ⟨rfl, rfl⟩
theorem SV.fr {h h' : Mem} {w : Wk} {P : Nat → Prop} (H : SV h w) (hf : Fr P h h') (hp : ∀ a, P a → a < 48 ∨ 51 ≤ a) : SV h' w := by
  have e : ∀ k, 48 ≤ k → k < 51 → h'.1 k = h.1 k := fun k h1 h2 => (hf k (fun z => by rcases hp k z with y | y <;> omega)).1
  obtain ⟨a, b, c⟩ := H
  exact ⟨fun s hs t ht => by rw [e 48 (by omega) (by omega)]; exact a s hs t ht, fun s hs => by rw [e 49 (by omega) (by omega)]; exact b s hs, fun s hs => by rw [e 50 (by omega) (by omega)]; exact c s hs⟩
theorem K_X3_goOnTimes {kind n st : Nat} (hq : IsL q) (hql : 55 ≤ q) (hW : WW w) (hR : WR h w) (hL : LR h q ℓ.1 ℓ.2.1 ℓ.2.2) (hI : LI w ℓ) (hj : h.1 0 6 = bI jn) (hk : kind ≤ 2) (hst : h.1 q 1 = nI st) (hn : n ≤ 500) : Con ad mX3_goOnTimes [.ref (ad 0), .ref (ad q), .int (nI kind), .int (nI n)] h (qI fun x h' => x = nI (goN w jn kind n ℓ).1 ∧ LR h' q (goN w jn kind n ℓ).2.1 (goN w jn kind n ℓ).2.2.1 (goN w jn kind n ℓ).2.2.2 ∧ h'.1 q 0 = h.1 q 0 ∧ h'.1 q 1 = nI (st + (goN w jn kind n ℓ).1) ∧ Fr (inLS q) h h') := by
  refine Con.mk vX3_goOnTimes.1 vX3_goOnTimes.2.2.2.2 [some (.ref (ad 0)), some (.ref (ad q)), some (.int (nI kind)), some (.int (nI n)), none] rfl (Nat.le_of_ble_eq_true rfl) (fun Y hM => ?_)
  have loop : ∀ (k i : Nat) (g : Mem) (m : Lst), n - i = k → i ≤ n → goN w jn kind n ℓ = (i + (goN w jn kind k m).1, (goN w jn kind k m).2) → LR g q m.1 m.2.1 m.2.2 → LI w m → g.1 q 0 = h.1 q 0 → g.1 q 1 = nI (st + i) → Fr (inLS q) h g → G Y ad mX3_goOnTimes 3 [some (.ref (ad 0)), some (.ref (ad q)), some (.int (nI kind)), some (.int (nI n)), some (.int (nI i))] [] g := by
    intro k
    induction k with
    | zero =>
      intro i g m hk0 hi hE hLg hIg g0 g1 hF
      have e : i = n := by omega
      subst e
      refine r_il aX3_goOnTimes_3 rfl ?_
      refine r_il aX3_goOnTimes_5 rfl ?_
      refine r_n_ge aX3_goOnTimes_6 (by omega) (by omega) (fun c6 => ?_) (fun c6 => ?_)
      · -- to 27
        refine r_il aX3_goOnTimes_27 rfl ?_
        refine r_iret hM aX3_goOnTimes_28 rfl ?_
        rw [hE]
        exact ⟨rfl, hLg, g0, g1, hF⟩
      · omega
    | succ k ih =>
      intro i g m hk0 hi hE hLg hIg g0 g1 hF
      have hRg := hR.fr hF (fun a z => z.elim (fun z => Or.inl (by have := z.1; omega)) (fun z => Or.inl (by have := z.1; omega)))
      have hjg : g.1 0 6 = bI jn := by rw [(hF 0 (fun z => z.elim (fun z => by have := z.1; omega) (fun z => by have := z.1; omega))).1]; exact hj
      refine r_il aX3_goOnTimes_3 rfl ?_
      refine r_il aX3_goOnTimes_5 rfl ?_
      refine r_n_ge aX3_goOnTimes_6 (by omega) (by omega) (fun c6 => ?_) (fun c6 => ?_)
      · omega
      · -- to 9
        refine r_al aX3_goOnTimes_9 rfl ?_
        refine r_al aX3_goOnTimes_10 rfl ?_
        refine r_il aX3_goOnTimes_11 rfl ?_
        refine r_VZ2 aX3_goOnTimes_12 vX3_goOnOnce rfl (K_X3_goOnOnce hq hql hW hRg hLg hIg hjg hk g1) (fun x12 h12 Q12 => ?_)
        obtain ⟨q1, q2, q3, q4, q5⟩ := Q12
        refine r_b_ne aX3_goOnTimes_15 (fun c15 => ?_) (fun c15 => ?_)
        · -- to 21
          refine r_in4 aX3_goOnTimes_21 rfl ?_
          refine r_go aX3_goOnTimes_24 ?_
          rw [q1] at c15
          rw [goN] at hE
          cases hg : goS w jn kind m with
          | none => rw [hg] at c15; cases c15
          | some m' =>
            rw [hg] at hE q2 q4
            exact ih (i + 1) h12 m' (by omega) (by omega) (by rw [hE]; dsimp only; rw [show i + 1 + (goN w jn kind k m').1 = i + ((goN w jn kind k m').1 + 1) by omega]) q2 (goS_li hW hIg hg) (q3.trans g0) (by rw [q4]; rfl) (hF.tr q5)
        · -- to 18
          refine r_il aX3_goOnTimes_18 rfl ?_
          refine r_iret hM aX3_goOnTimes_20 rfl ?_
          rw [q1] at c15
          rw [goN] at hE
          cases hg : goS w jn kind m with
          | some m' => rw [hg] at c15; cases c15
          | none =>
            rw [hg] at hE q2 q4
            rw [hE]
            exact ⟨rfl, q2, q3.trans g0, q4, hF.tr q5⟩
  refine r_ki aX3_goOnTimes_0 ?_
  refine r_is4 aX3_goOnTimes_1 rfl ?_
  exact loop n 0 h ℓ rfl (by omega) (by rw [Nat.zero_add]) hL hI rfl hst Fr.rf
theorem K_X3_trialWidth {σ : Sta} {kind n s : Nat} {x : Int32} (hw : σ.1 = w) (hW : WW w) (hR : WR h w) (hV : SV h w) (hj : h.1 0 6 = bI σ.2.2.1) (hs : h.1 55 0 = nI s) (hsn : s < w.1) (hk : kind ≤ 2) (hn : n ≤ 500) : Con ad mX3_trialWidth [.ref (ad 0), .int (nI kind), .int x, .int (nI n)] h (qL fun y h' => y = triW σ s x n kind ∧ Fr (inLS 62) h h') := by
  have h20 := hW.n
  have inl : ∀ a, inL 62 a → inLS 62 a := fun a z => Or.inl z
  subst hw
  refine Con.mk vX3_trialWidth.1 vX3_trialWidth.2.2.2.2 [some (.ref (ad 0)), some (.int (nI kind)), some (.int x), some (.int (nI n))] rfl (Nat.le_of_ble_eq_true rfl) (fun Y hM => ?_)
  refine r_al aX3_trialWidth_0 rfl ?_
  refine r_getR aX3_trialWidth_1 rfl rfl ?_
  refine r_al aX3_trialWidth_4 rfl ?_
  refine r_getR aX3_trialWidth_5 rfl rfl ?_
  refine r_gI aX3_trialWidth_8 rfl rfl hs ?_
  refine r_VV1 aX3_trialWidth_11 vX0_beginAt rfl (K_X0_beginAt isL62 (by omega)) (fun h11 Q11 => ?_)
  obtain ⟨L1, s1, t1, F1⟩ := Q11
  have R1 := hR.fr F1 (fun a z => Or.inl (by have := z.1; omega))
  have j1 : h11.1 0 6 = bI σ.2.2.1 := by rw [(F1 0 (fun z => by have := z.1; omega)).1]; exact hj
  refine r_al aX3_trialWidth_14 rfl ?_
  refine r_al aX3_trialWidth_15 rfl ?_
  refine r_getR aX3_trialWidth_16 rfl rfl ?_
  refine r_il aX3_trialWidth_19 rfl ?_
  refine r_il aX3_trialWidth_20 rfl ?_
  refine r_VI3 aX3_trialWidth_21 vX3_goOnTimes rfl (K_X3_goOnTimes (ℓ := begL s) isL62 (by omega) hW R1 L1 (begL_li hsn) j1 hk t1 hn) (fun x21 h21 Q21 => ?_)
  obtain ⟨e1, L2, s2, t2, F2⟩ := Q21
  have F3 := (F1.mono inl).tr F2
  have R2 := hR.fr F3 (fun a z => z.elim (fun z => Or.inl (by have := z.1; omega)) (fun z => Or.inl (by have := z.1; omega)))
  have V2 := hV.fr F3 (fun a z => z.elim (fun z => Or.inr (by have := z.1; omega)) (fun z => Or.inr (by have := z.1; omega)))
  refine r_pop aX3_trialWidth_24 rfl ?_
  refine r_al aX3_trialWidth_25 rfl ?_
  refine r_al aX3_trialWidth_26 rfl ?_
  refine r_getR aX3_trialWidth_27 rfl rfl ?_
  refine r_il aX3_trialWidth_30 rfl ?_
  refine r_VL2 aX3_trialWidth_31 vX3_width rfl (K_X3_width isL62 hW R2 V2 L2) (fun x31 h31 Q31 => ?_)
  rw [Q31.1, Q31.2]
  exact r_lret hM aX3_trialWidth_34 rfl ⟨rfl, F3⟩
theorem pl_lt (all : Nat) : ∀ (k p r : Nat), r < all → (pl all k (p, r)).2 < all ∧ (pl all k (p, r)).1 < (p + 1) * 2 ^ k
  | 0, p, r, h => ⟨h, by show p < (p + 1) * 2 ^ 0; omega⟩
  | k + 1, p, r, h => by
    unfold pl
    dsimp only
    by_cases z : all ≤ 2 * r
    · rw [if_pos z]
      have := pl_lt all k (2 * p + 1) (2 * r - all) (by omega)
      refine ⟨this.1, Nat.lt_of_lt_of_le this.2 ?_⟩
      rw [Nat.pow_succ, show (2 * p + 1 + 1) = (p + 1) * 2 by omega, Nat.mul_assoc, Nat.mul_comm 2]
      exact Nat.le_refl _
    · rw [if_neg z]
      have := pl_lt all k (2 * p) (2 * r) (by omega)
      refine ⟨this.1, Nat.lt_of_lt_of_le this.2 ?_⟩
      rw [Nat.pow_succ, Nat.mul_comm (2 ^ k) 2, ← Nat.mul_assoc]
      exact Nat.mul_le_mul_right _ (by omega)
theorem K_X3_partOf {sh all : Nat} {up : Bool} (h1 : sh < 2 ^ 61) (h2 : all < 2 ^ 62) (h0 : 0 < all) : Con ad mX3_partOf [.long (lN sh), .long (lN all), .int (bI up)] h (qI fun x h' => h' = h ∧ x = ptA sh all up) := by
  obtain ⟨T, hT⟩ : ∃ T, T = pl all 30 (0, sh) := ⟨_, rfl⟩
  have e0 : ptA sh all up = if all ≤ sh then nI 1073741824 else if up = true ∧ 0 < T.2 then nI (T.1 + 1) else nI T.1 := by unfold ptA; rw [← hT]
  rw [e0]
  refine Con.mk vX3_partOf.1 vX3_partOf.2.2.2 [some (.long (lN sh)), none, some (.long (lN all)), none, some (.int (bI up)), none, none, none, none] rfl (Nat.le_of_ble_eq_true rfl) (fun Y hM => ?_)
  have loop : ∀ (k i p r : Nat), 30 - i = k → i ≤ 30 → sh < all → r < all → p < 2 ^ i → pl all k (p, r) = T → G Y ad mX3_partOf 18 [some (.long (lN sh)), none, some (.long (lN all)), none, some (.int (bI up)), some (.int (nI p)), some (.long (lN r)), none, some (.int (nI i))] [] h := by
    intro k
    induction k with
    | zero =>
      intro i p r hk hi hlt hr hp hE
      have e : i = 30 := by omega
      subst e
      have e1 : T = (p, r) := hE.symm
      rw [if_neg (by omega), e1] at hM
      refine r_il aX3_partOf_18 rfl ?_
      refine r_ki aX3_partOf_20 ?_
      refine r_n_ge aX3_partOf_22 (by omega) (by omega) (fun c22 => ?_) (fun c22 => ?_)
      · -- to 59
        refine r_il aX3_partOf_59 rfl ?_
        refine r_b_eq aX3_partOf_61 (fun c61 => ?_) (fun c61 => ?_)
        · -- to 78
          refine r_il aX3_partOf_78 rfl ?_
          exact r_iret hM aX3_partOf_80 rfl ⟨rfl, by rw [c61]; rfl⟩
        · -- to 64
          refine r_ll aX3_partOf_64 rfl ?_
          refine r_kl aX3_partOf_66 ?_
          refine r_m_le aX3_partOf_67 aX3_partOf_68 (by omega) (by omega) (fun c67 => ?_) (fun c67 => ?_)
          · -- to 78
            refine r_il aX3_partOf_78 rfl ?_
            exact r_iret hM aX3_partOf_80 rfl ⟨rfl, by rw [if_neg (by omega)]⟩
          · -- to 71
            refine r_il aX3_partOf_71 rfl ?_
            refine r_ki aX3_partOf_73 ?_
            refine r_iaddN aX3_partOf_74 ?_
            refine r_go aX3_partOf_75 ?_
            exact r_iret hM aX3_partOf_80 rfl ⟨rfl, by rw [if_pos ⟨c61, c67⟩]⟩
      · omega
    | succ k ih =>
      intro i p r hk hi hlt hr hp hE
      have hpi : 2 ^ i < 1073741824 := Nat.lt_of_lt_of_le (Nat.pow_lt_pow_right (by decide) (by omega : i < 30)) (by decide)
      have hp2 : 2 * p + 1 < 2 ^ (i + 1) := by rw [Nat.pow_succ]; omega
      unfold pl at hE
      dsimp only at hE
      refine r_il aX3_partOf_18 rfl ?_
      refine r_ki aX3_partOf_20 ?_
      refine r_n_ge aX3_partOf_22 (by omega) (by omega) (fun c22 => ?_) (fun c22 => ?_)
      · omega
      · -- to 25
        refine r_ll aX3_partOf_25 rfl ?_
        refine r_ki aX3_partOf_27 ?_
        refine r_lshl aX3_partOf_28 ?_
        refine r_tl (shl1 r) ?_
        refine r_ls6 aX3_partOf_29 rfl ?_
        refine r_il aX3_partOf_31 rfl ?_
        refine r_ki aX3_partOf_33 ?_
        refine r_ishl aX3_partOf_34 ?_
        refine r_ti (ishl1 (by omega)) ?_
        refine r_is5 aX3_partOf_35 rfl ?_
        refine r_ll aX3_partOf_37 rfl ?_
        refine r_ll aX3_partOf_39 rfl ?_
        refine r_m_lt aX3_partOf_40 aX3_partOf_41 (by omega) (by omega) (fun c40 => ?_) (fun c40 => ?_)
        · -- to 53
          refine r_in8 aX3_partOf_53 rfl ?_
          refine r_go aX3_partOf_56 ?_
          rw [if_neg (by omega)] at hE
          exact ih (i + 1) _ _ (by omega) (by omega) hlt (by omega) (by omega) hE
        · -- to 44
          refine r_ll aX3_partOf_44 rfl ?_
          refine r_ll aX3_partOf_46 rfl ?_
          refine r_lsubN aX3_partOf_47 (by omega) ?_
          refine r_ls6 aX3_partOf_48 rfl ?_
          refine r_in5 aX3_partOf_50 rfl ?_
          refine r_in8 aX3_partOf_53 rfl ?_
          refine r_go aX3_partOf_56 ?_
          rw [if_pos (by omega)] at hE
          exact ih (i + 1) _ _ (by omega) (by omega) hlt (by omega) (by omega) hE
  refine r_ll aX3_partOf_0 rfl ?_
  refine r_ll aX3_partOf_1 rfl ?_
  refine r_m_lt aX3_partOf_2 aX3_partOf_3 (by omega) (by omega) (fun c2 => ?_) (fun c2 => ?_)
  · -- to 9
    refine r_ki aX3_partOf_9 ?_
    refine r_is5 aX3_partOf_10 rfl ?_
    refine r_ll aX3_partOf_12 rfl ?_
    refine r_ls6 aX3_partOf_13 rfl ?_
    refine r_ki aX3_partOf_15 ?_
    refine r_is8 aX3_partOf_16 rfl ?_
    exact loop 30 0 0 sh rfl (by omega) c2 c2 (by decide) hT.symm
  · -- to 6
    refine r_ki aX3_partOf_6 ?_
    exact r_iret hM aX3_partOf_8 rfl ⟨rfl, by rw [if_pos c2]⟩
theorem K_X3_leastPart {sh ot : Nat} (h1 : sh < 2 ^ 61) (h2 : ot < 2 ^ 61) : Con ad mX3_leastPart [.long (lN sh), .long (lN ot)] h (qI fun x h' => h' = h ∧ x = if sh + ot = 0 then nI 0 else ptA sh (sh + ot) false) := by
  refine Con.mk vX3_leastPart.1 vX3_leastPart.2.2.2 [some (.long (lN sh)), none, some (.long (lN ot)), none, none, none] rfl (Nat.le_of_ble_eq_true rfl) (fun Y hM => ?_)
  refine r_ll aX3_leastPart_0 rfl ?_
  refine r_ll aX3_leastPart_1 rfl ?_
  refine r_laddN aX3_leastPart_2 ?_
  refine r_ls4 aX3_leastPart_3 rfl ?_
  refine r_ll aX3_leastPart_5 rfl ?_
  refine r_kl aX3_leastPart_7 ?_
  refine r_m_gt aX3_leastPart_8 aX3_leastPart_9 (by omega) (by omega) (fun c8 => ?_) (fun c8 => ?_)
  · -- to 16
    refine r_ll aX3_leastPart_16 rfl ?_
    refine r_ll aX3_leastPart_17 rfl ?_
    refine r_ki aX3_leastPart_19 ?_
    refine r_ti (v := bI false) rfl ?_
    refine r_SI3 aX3_leastPart_20 vX3_partOf (K_X3_partOf h1 (by omega) (by omega)) (fun x20 h20 Q20 => ?_)
    rw [Q20.1, Q20.2]
    exact r_iret hM aX3_leastPart_23 rfl ⟨rfl, by rw [if_neg (by omega)]⟩
  · -- to 12
    refine r_ki aX3_leastPart_12 ?_
    refine r_go aX3_leastPart_13 ?_
    exact r_iret hM aX3_leastPart_23 rfl ⟨rfl, by rw [if_pos (by omega)]⟩
theorem K_X3_greatestPart {sh ot : Nat} (h1 : sh < 2 ^ 61) (h2 : ot < 2 ^ 61) : Con ad mX3_greatestPart [.long (lN sh), .long (lN ot)] h (qI fun x h' => h' = h ∧ x = if sh + ot = 0 then nI 1073741824 else ptA sh (sh + ot) true) := by
  refine Con.mk vX3_greatestPart.1 vX3_greatestPart.2.2.2 [some (.long (lN sh)), none, some (.long (lN ot)), none, none, none] rfl (Nat.le_of_ble_eq_true rfl) (fun Y hM => ?_)
  refine r_ll aX3_greatestPart_0 rfl ?_
  refine r_ll aX3_greatestPart_1 rfl ?_
  refine r_laddN aX3_greatestPart_2 ?_
  refine r_ls4 aX3_greatestPart_3 rfl ?_
  refine r_ll aX3_greatestPart_5 rfl ?_
  refine r_kl aX3_greatestPart_7 ?_
  refine r_m_gt aX3_greatestPart_8 aX3_greatestPart_9 (by omega) (by omega) (fun c8 => ?_) (fun c8 => ?_)
  · -- to 17
    refine r_ll aX3_greatestPart_17 rfl ?_
    refine r_ll aX3_greatestPart_18 rfl ?_
    refine r_ki aX3_greatestPart_20 ?_
    refine r_ti (v := bI true) rfl ?_
    refine r_SI3 aX3_greatestPart_21 vX3_partOf (K_X3_partOf h1 (by omega) (by omega)) (fun x21 h21 Q21 => ?_)
    rw [Q21.1, Q21.2]
    exact r_iret hM aX3_greatestPart_24 rfl ⟨rfl, by rw [if_neg (by omega)]⟩
  · -- to 12
    refine r_ki aX3_greatestPart_12 ?_
    refine r_go aX3_greatestPart_14 ?_
    exact r_iret hM aX3_greatestPart_24 rfl ⟨rfl, by rw [if_pos (by omega)]⟩
end CLASS1
end
section
/-! the class: what it holds -/
def LO (h : Mem) (q : Nat) (o : Option LL) : Prop := match o with
  | none => h.1 q 0 = -1 ∧ h.1 q 1 = nI 0 ∧ h.1 q 2 = nI 0
  | some l => h.1 q 0 = nI l.1 ∧ h.1 q 1 = nI l.2.1 ∧ LR h q l.2.2.1 l.2.2.2.1 l.2.2.2.2
def act (σ : Sta) : Prop := σ.2.2.2.1 ≠ none ∨ ∃ k, k < 3 ∧ σ.2.2.2.2 k ≠ none
def CRep (h : Mem) (σ : Sta) : Prop := WR h σ.1 ∧ h.1 0 5 = nI σ.2.1 ∧ h.1 0 6 = bI σ.2.2.1 ∧ LO h 55 σ.2.2.2.1 ∧ (∀ k, k < 3 → LO h (70 + 7 * k) (σ.2.2.2.2 k)) ∧ (act σ → SV h σ.1)
theorem LO.fr {h h' : Mem} {q : Nat} {o : Option LL} {P : Nat → Prop} (H : LO h q o) (hf : Fr P h h') (hp : ∀ a, P a → a < q ∨ q + 7 ≤ a) : LO h' q o := by
  have e : h'.1 q = h.1 q := (hf q (fun z => by rcases hp q z with y | y <;> omega)).1
  cases o with
  | none => unfold LO at H ⊢; dsimp only at H ⊢; rw [e]; exact H
  | some l => unfold LO at H ⊢; dsimp only at H ⊢; rw [e]; exact ⟨H.1, H.2.1, H.2.2.fr hf hp⟩
theorem isLk : ∀ k, k < 3 → IsL (70 + 7 * k) := by
  intro k hk
  rcases (by omega : k = 0 ∨ k = 1 ∨ k = 2) with rfl | rfl | rfl
  · exact isL70
  · exact isL77
  · exact isL84
theorem inN_lt0 {x : Int32} {n : Nat} (h : x < 0) : inN x n = none := by unfold inN; rw [if_neg (fun z => z.1 h)]
theorem inN_ge {x : Int32} {n : Nat} (h : nI n ≤ x) : inN x n = none := by unfold inN; rw [if_neg (fun z => z.2 h)]
theorem inN_gt {x : Int32} {n : Nat} (h : nI n < x) (hn : n < 2147483647) : inN x (n + 1) = none := by
  apply inN_ge
  rw [Int32.lt_iff_toInt_lt, nI_toInt (by omega)] at h
  rw [Int32.le_iff_toInt_le, nI_toInt (by omega)]
  omega
theorem inN_in {x : Int32} {n : Nat} (h0 : ¬ x < 0) (h : ¬ nI n ≤ x) : (inN x n).isSome = true := by unfold inN; rw [if_pos ⟨h0, h⟩]; rfl
theorem inN_le {x : Int32} {n : Nat} (h0 : ¬ x < 0) (h : ¬ nI n < x) (hn : n < 2147483647) : (inN x (n + 1)).isSome = true := by
  apply inN_in h0
  rw [Int32.lt_iff_toInt_lt, nI_toInt (by omega)] at h
  rw [Int32.le_iff_toInt_le, nI_toInt (by omega)]
  omega
theorem inN_nI {j n : Nat} (h : j < n) (hn : n < 2147483648) : inN (nI j) n = some j := (inN_s hn).mpr ⟨h, rfl⟩
theorem aIx_addA (t k : Nat) : ∀ (l : List (Nat × Nat)) (o i : Nat), aIx t l o = some i → addA t k l = l.set (i - o) (t, wt t l + k)
  | [], o, i, h => by simp [aIx] at h
  | p :: r, o, i, h => by
    unfold aIx at h
    unfold addA wt
    by_cases e : p.1 = t
    · rw [if_pos e] at h
      cases h
      rw [if_pos e, if_pos e, Nat.sub_self, List.set_cons_zero, e]
    · rw [if_neg e] at h
      have h1 := (aIx_wt t r (o + 1) i h).1
      rw [if_neg e, if_neg e, aIx_addA t k r (o + 1) i h, show i - o = (i - (o + 1)) + 1 by omega, List.set_cons_succ]
theorem aIx_addN (t k : Nat) : ∀ (l : List (Nat × Nat)) (o : Nat), aIx t l o = none → addA t k l = l ++ [(t, k)]
  | [], o, _ => rfl
  | p :: r, o, h => by
    unfold aIx at h
    unfold addA
    by_cases e : p.1 = t
    · rw [if_pos e] at h; cases h
    · rw [if_neg e] at h
      rw [if_neg e, aIx_addN t k r (o + 1) h]; rfl
section CLASS2
variable {ad : Nat → Nat} {h : Mem} {w : Wk} {σ : Sta}
theorem K_X3_isOutcome {x : Int32} : Con ad mX3_isOutcome [.int x] h (qZ fun b h' => h' = h ∧ b = (inN x 8).isSome) := by
  refine Con.mk vX3_isOutcome.1 vX3_isOutcome.2.2.2 [some (.int x)] rfl (Nat.le_of_ble_eq_true rfl) (fun Y hM => ?_)
  refine r_il aX3_isOutcome_0 rfl ?_
  refine r_z_lt aX3_isOutcome_1 (fun c1 => ?_) (fun c1 => ?_)
  · -- to 14
    refine r_ki aX3_isOutcome_14 ?_
    exact r_zF hM aX3_isOutcome_15 rfl ⟨rfl, by rw [inN_lt0 c1]; rfl⟩
  · -- to 4
    refine r_il aX3_isOutcome_4 rfl ?_
    refine r_ki aX3_isOutcome_5 ?_
    refine r_c_gt aX3_isOutcome_7 (fun c7 => ?_) (fun c7 => ?_)
    · -- to 14
      refine r_ki aX3_isOutcome_14 ?_
      exact r_zF hM aX3_isOutcome_15 rfl ⟨rfl, by rw [inN_gt c7 (by decide)]; rfl⟩
    · -- to 10
      refine r_ki aX3_isOutcome_10 ?_
      refine r_go aX3_isOutcome_11 ?_
      exact r_zT hM aX3_isOutcome_15 rfl ⟨rfl, (inN_le c1 c7 (by decide)).symm⟩
theorem K_X3_isSet {x : Int32} : Con ad mX3_isSet [.int x] h (qZ fun b h' => h' = h ∧ b = (inN x 256).isSome) := by
  refine Con.mk vX3_isSet.1 vX3_isSet.2.2.2 [some (.int x)] rfl (Nat.le_of_ble_eq_true rfl) (fun Y hM => ?_)
  refine r_il aX3_isSet_0 rfl ?_
  refine r_z_lt aX3_isSet_1 (fun c1 => ?_) (fun c1 => ?_)
  · -- to 15
    refine r_ki aX3_isSet_15 ?_
    exact r_zF hM aX3_isSet_16 rfl ⟨rfl, by rw [inN_lt0 c1]; rfl⟩
  · -- to 4
    refine r_il aX3_isSet_4 rfl ?_
    refine r_ki aX3_isSet_5 ?_
    refine r_c_gt aX3_isSet_8 (fun c8 => ?_) (fun c8 => ?_)
    · -- to 15
      refine r_ki aX3_isSet_15 ?_
      exact r_zF hM aX3_isSet_16 rfl ⟨rfl, by rw [inN_gt c8 (by decide)]; rfl⟩
    · -- to 11
      refine r_ki aX3_isSet_11 ?_
      refine r_go aX3_isSet_12 ?_
      exact r_zT hM aX3_isSet_16 rfl ⟨rfl, (inN_le c1 c8 (by decide)).symm⟩
theorem K_X3_isSave {x : Int32} : Con ad mX3_isSave [.int x] h (qZ fun b h' => h' = h ∧ b = (inN x 3).isSome) := by
  refine Con.mk vX3_isSave.1 vX3_isSave.2.2.2 [some (.int x)] rfl (Nat.le_of_ble_eq_true rfl) (fun Y hM => ?_)
  refine r_il aX3_isSave_0 rfl ?_
  refine r_z_lt aX3_isSave_1 (fun c1 => ?_) (fun c1 => ?_)
  · -- to 13
    refine r_ki aX3_isSave_13 ?_
    exact r_zF hM aX3_isSave_14 rfl ⟨rfl, by rw [inN_lt0 c1]; rfl⟩
  · -- to 4
    refine r_il aX3_isSave_4 rfl ?_
    refine r_ki aX3_isSave_5 ?_
    refine r_c_ge aX3_isSave_6 (fun c6 => ?_) (fun c6 => ?_)
    · -- to 13
      refine r_ki aX3_isSave_13 ?_
      exact r_zF hM aX3_isSave_14 rfl ⟨rfl, by rw [inN_ge c6]; rfl⟩
    · -- to 9
      refine r_ki aX3_isSave_9 ?_
      refine r_go aX3_isSave_10 ?_
      exact r_zT hM aX3_isSave_14 rfl ⟨rfl, (inN_in c1 c6).symm⟩
theorem K_X3_isSide {x : Int32} : Con ad mX3_isSide [.int x] h (qZ fun b h' => h' = h ∧ b = (inN x 2).isSome) := by
  refine Con.mk vX3_isSide.1 vX3_isSide.2.2.2 [some (.int x)] rfl (Nat.le_of_ble_eq_true rfl) (fun Y hM => ?_)
  refine r_il aX3_isSide_0 rfl ?_
  refine r_z_eq aX3_isSide_1 (fun c1 => ?_) (fun c1 => ?_)
  · -- to 9
    refine r_ki aX3_isSide_9 ?_
    refine r_go aX3_isSide_10 ?_
    exact r_zT hM aX3_isSide_14 rfl ⟨rfl, by rw [c1]; decide +kernel⟩
  · -- to 4
    refine r_il aX3_isSide_4 rfl ?_
    refine r_ki aX3_isSide_5 ?_
    refine r_c_ne aX3_isSide_6 (fun c6 => ?_) (fun c6 => ?_)
    · -- to 13
      refine r_ki aX3_isSide_13 ?_
      exact r_zF hM aX3_isSide_14 rfl ⟨rfl, by rw [(inN_n (by decide)).mpr (fun ⟨j, hj, e⟩ => (by rcases (by omega : j = 0 ∨ j = 1) with z | z <;> subst z; exact c1 e; exact c6 e))]; rfl⟩
    · -- to 9
      refine r_ki aX3_isSide_9 ?_
      refine r_go aX3_isSide_10 ?_
      exact r_zT hM aX3_isSide_14 rfl ⟨rfl, by rw [c6]; decide +kernel⟩
theorem K_X2_forgetLaws : Con ad mX2_forgetLaws [.ref (ad 1)] h (qV fun h' => (∀ i, i < 20 → h'.1 3 i = -1) ∧ Fr (fun a => a = 3) h h') := by
  refine Con.mk vX2_forgetLaws.1 vX2_forgetLaws.2.2.2.2 [some (.ref (ad 1))] rfl (Nat.le_of_ble_eq_true rfl) (fun Y hM => ?_)
  refine r_al aX2_forgetLaws_0 rfl ?_
  refine r_getR aX2_forgetLaws_1 rfl rfl ?_
  refine r_ki aX2_forgetLaws_4 ?_
  refine r_SV2 aX2_forgetLaws_5 vJ7_fill_53178 (K_J7_fill_53178 rfl) (fun h5 Q5 => ?_)
  exact r_vret hM aX2_forgetLaws_8 rfl ⟨Q5.1, Q5.2.1⟩
def forg (a : Nat) : Prop := a = 3 ∨ a = 55 ∨ a = 70 ∨ a = 77 ∨ a = 84
theorem K_X3_forgetWhatRestsOnWalk (hW : WW w) (hR : WR h w) : Con ad mX3_forgetWhatRestsOnWalk [.ref (ad 0)] h (qV fun h' => WR h' (w.1, w.2.1, w.2.2.1, noW) ∧ LO h' 55 none ∧ (∀ k, k < 3 → LO h' (70 + 7 * k) none) ∧ Fr forg h h') := by
  have h20 := hW.n
  refine Con.mk vX3_forgetWhatRestsOnWalk.1 vX3_forgetWhatRestsOnWalk.2.2.2.2 [some (.ref (ad 0)), none] rfl (Nat.le_of_ble_eq_true rfl) (fun Y hM => ?_)
  have loop : ∀ (k i : Nat) (g : Mem), 3 - i = k → i ≤ 3 → LO g 55 none → (∀ j, j < i → LO g (70 + 7 * j) none) → Fr forg h g → G Y ad mX3_forgetWhatRestsOnWalk 9 [some (.ref (ad 0)), some (.int (nI i))] [] g := by
    intro k
    induction k with
    | zero =>
      intro i g hk hi h55 hK hF
      refine r_il aX3_forgetWhatRestsOnWalk_9 rfl ?_
      refine r_ki aX3_forgetWhatRestsOnWalk_10 ?_
      refine r_n_ge aX3_forgetWhatRestsOnWalk_11 (by omega) (by omega) (fun c11 => ?_) (fun c11 => ?_)
      · -- to 29
        refine r_al aX3_forgetWhatRestsOnWalk_29 rfl ?_
        refine r_getR aX3_forgetWhatRestsOnWalk_30 rfl rfl ?_
        refine r_VV0 aX3_forgetWhatRestsOnWalk_33 vX2_forgetLaws rfl (K_X2_forgetLaws) (fun h33 Q33 => ?_)
        refine r_vret hM aX3_forgetWhatRestsOnWalk_36 rfl ?_
        have F2 : Fr forg h h33 := hF.tr (Q33.2.mono (fun a z => Or.inl z))
        have e : ∀ a, a ≠ 3 → h33.1 a = g.1 a := fun a z => (Q33.2 a z).1
        refine ⟨?_, h55.fr Q33.2 (fun a z => by omega), fun j hj => (hK j (by omega)).fr Q33.2 (fun a z => by omega), F2⟩
        have f : ∀ a, ¬ forg a → h33.1 a = h.1 a := fun a z => (F2 a z).1
        obtain ⟨r1, r2, r3, r4, r5, r6, r7⟩ := hR
        refine ⟨by rw [f 1 (by unfold forg; omega)]; exact r1, fun s hs => by rw [f 2 (by unfold forg; omega)]; exact r2 s hs, fun s hs => Q33.1 s (by have : s < w.1 := hs; omega), fun s hs => by rw [f 4 (by unfold forg; omega)]; exact r4 s hs, fun s hs => by rw [f 5 (by unfold forg; omega)]; exact r5 s hs, fun s hs i p hp => by rw [f (7 + s) (by unfold forg; omega), f (28 + s) (by unfold forg; omega)]; exact r6 s hs i p hp, fun s hs i h1 h2 => by rw [f (28 + s) (by unfold forg; omega)]; exact r7 s hs i h1 h2⟩
      · omega
    | succ k ih =>
      intro i g hk hi h55 hK hF
      have h3 : i < 3 := by omega
      have hq := isLk i h3
      refine r_il aX3_forgetWhatRestsOnWalk_9 rfl ?_
      refine r_ki aX3_forgetWhatRestsOnWalk_10 ?_
      refine r_n_ge aX3_forgetWhatRestsOnWalk_11 (by omega) (by omega) (fun c11 => ?_) (fun c11 => ?_)
      · omega
      · -- to 14
        refine r_al aX3_forgetWhatRestsOnWalk_14 rfl ?_
        refine r_getR aX3_forgetWhatRestsOnWalk_15 rfl rfl ?_
        refine r_il aX3_forgetWhatRestsOnWalk_18 rfl ?_
        refine r_aaldL aX3_forgetWhatRestsOnWalk_19 rfl h3 (if_pos h3) ?_
        refine r_VV0 aX3_forgetWhatRestsOnWalk_20 vX0_forget hq.1 (K_X0_forget hq) (fun hh20 Q20 => ?_)
        refine r_in1 aX3_forgetWhatRestsOnWalk_23 rfl ?_
        refine r_go aX3_forgetWhatRestsOnWalk_26 ?_
        refine ih (i + 1) hh20 (by omega) (by omega) ?_ (fun j hj => ?_) ?_
        · exact h55.fr Q20.2.2.2 (fun a z => by omega)
        · by_cases e : j = i
          · subst e; exact ⟨Q20.1, Q20.2.1, Q20.2.2.1⟩
          · exact (hK j (by omega)).fr Q20.2.2.2 (fun a z => by omega)
        · exact hF.tr (Q20.2.2.2.mono (fun a z => by unfold forg; omega))
  refine r_al aX3_forgetWhatRestsOnWalk_0 rfl ?_
  refine r_getR aX3_forgetWhatRestsOnWalk_1 rfl rfl ?_
  refine r_VV0 aX3_forgetWhatRestsOnWalk_4 vX0_forget rfl (K_X0_forget isL55) (fun h4 Q4 => ?_)
  refine r_ki aX3_forgetWhatRestsOnWalk_7 ?_
  refine r_is1 aX3_forgetWhatRestsOnWalk_8 rfl ?_
  exact loop 3 0 h4 rfl (by omega) ⟨Q4.1, Q4.2.1, Q4.2.2.1⟩ (fun j hj => by omega) (Q4.2.2.2.mono (fun a z => Or.inr (Or.inl z)))
theorem K_X2_addState {n : Nat} {out : Nat → Option Nat} {ar : Nat → List (Nat × Nat)} {o : Option Nat} (hR : WR h (n, out, ar, noW)) (hn : n < 20) : Con ad mX2_addState [.ref (ad 1), .int (oI o)] h (qI fun x h' => x = nI n ∧ WR h' (n + 1, va_up out n o, ar, noW) ∧ Fr (fun a => 1 ≤ a ∧ a < 4) h h') := by
  obtain ⟨r1, r2, r3, r4, r5, r6, r7⟩ := hR
  have hn0 : h.1 1 0 = nI n := r1
  refine Con.mk vX2_addState.1 vX2_addState.2.2.2.2 [some (.ref (ad 1)), some (.int (oI o))] rfl (Nat.le_of_ble_eq_true rfl) (fun Y hM => ?_)
  refine r_al aX2_addState_0 rfl ?_
  refine r_getR aX2_addState_1 rfl rfl ?_
  refine r_al aX2_addState_4 rfl ?_
  refine r_gI aX2_addState_5 rfl rfl (Eq.trans (by simp [si_1, si_2, sl_1, sl_2, sri_1, sri_2, srl_1, srl_2]) hn0) ?_
  refine r_il aX2_addState_8 rfl ?_
  refine r_iast aX2_addState_9 rfl (by omega) ?_
  refine r_al aX2_addState_10 rfl ?_
  refine r_getR aX2_addState_11 rfl rfl ?_
  refine r_al aX2_addState_14 rfl ?_
  refine r_gI aX2_addState_15 rfl rfl (Eq.trans (by simp [si_1, si_2, sl_1, sl_2, sri_1, sri_2, srl_1, srl_2]) hn0) ?_
  refine r_ki aX2_addState_18 ?_
  refine r_iast aX2_addState_19 rfl (by omega) ?_
  refine r_al aX2_addState_20 rfl ?_
  refine r_dup aX2_addState_21 rfl ?_
  refine r_gI aX2_addState_22 rfl rfl (Eq.trans (by simp [si_1, si_2, sl_1, sl_2, sri_1, sri_2, srl_1, srl_2]) hn0) ?_
  refine r_ki aX2_addState_25 ?_
  refine r_iaddN aX2_addState_26 ?_
  refine r_putI aX2_addState_27 rfl rfl rfl ?_
  refine r_al aX2_addState_30 rfl ?_
  refine r_gI aX2_addState_31 rfl rfl (v := nI (n + 1)) (by simp [si_1]) ?_
  refine r_ki aX2_addState_34 ?_
  refine r_isubN aX2_addState_35 (by omega) ?_
  refine r_iret hM aX2_addState_36 rfl ?_
  have F : Fr (fun a => 1 ≤ a ∧ a < 4) h (si (si (si h 2 n (oI o)) 3 n (-1)) 1 0 (nI (n + 1))) := (Fr.si ⟨by omega, by omega⟩).tr ((Fr.si ⟨by omega, by omega⟩).tr (Fr.si ⟨by omega, by omega⟩))
  have f : ∀ a, 4 ≤ a → (si (si (si h 2 n (oI o)) 3 n (-1)) 1 0 (nI (n + 1))).1 a = h.1 a := fun a z => (F a (by omega)).1
  refine ⟨by rw [Nat.add_sub_cancel], ⟨by simp [si_1], fun s hs => ?_, fun s hs => ?_, fun s hs => by rw [f 4 (by omega)]; exact r4 s hs, fun s hs => by rw [f 5 (by omega)]; exact r5 s hs, fun s hs i p hp => by rw [f (7 + s) (by omega), f (28 + s) (by omega)]; exact r6 s hs i p hp, fun s hs i h1 h2 => by rw [f (28 + s) (by omega)]; exact r7 s hs i h1 h2⟩, F⟩
  · by_cases e : s = n
    · subst e; simp [si_1, va_up]
    · have hs : s < n + 1 := hs
      have := r2 s (by show s < n; omega)
      simp [si_1, va_up, e]
      exact this
  · by_cases e : s = n
    · subst e; simp [si_1]; rfl
    · have hs : s < n + 1 := hs
      have := r3 s (by show s < n; omega)
      simp [si_1, e]
      exact this
theorem WR.addOld {s t k i : Nat} {h' : Mem} (hR : WR h w) (hs : s < 20) (hx : aIx t (w.2.2.1 s) 0 = some i) (hf : ∀ a, a ≠ 4 → a ≠ 28 + s → h'.1 a = h.1 a) (h4 : h'.1 4 = upd (h.1 4) s (nI (tot (w.2.2.1 s) + k))) (hw : h'.1 (28 + s) = upd (h.1 (28 + s)) i (nI (wt t (w.2.2.1 s) + k))) : WR h' (w.1, w.2.1, va_up w.2.2.1 s (addA t k (w.2.2.1 s)), w.2.2.2) := by
  obtain ⟨r1, r2, r3, r4, r5, r6, r7⟩ := hR
  obtain ⟨-, i1, i2⟩ := aIx_wt t _ 0 i hx
  rw [Nat.sub_zero] at i2
  rw [Nat.zero_add] at i1
  have ea := aIx_addA t k _ 0 i hx
  rw [Nat.sub_zero] at ea
  refine ⟨by rw [hf 1 (by omega) (by omega)]; exact r1, fun s' z => by rw [hf 2 (by omega) (by omega)]; exact r2 s' z, fun s' z => by rw [hf 3 (by omega) (by omega)]; exact r3 s' z, fun s' z => ?_, fun s' z => ?_, fun s' z j p hp => ?_, fun s' z j h1 h2 => ?_⟩
  · dsimp only
    rw [h4]
    by_cases e : s' = s
    · subst e; rw [mu_self, addA_tot, pk_us]
    · rw [mu_ne e, pk_un e]; exact r4 s' z
  · dsimp only
    rw [hf 5 (by omega) (by omega)]
    by_cases e : s' = s
    · subst e; rw [mu_self, ea, List.length_set]; exact r5 s' z
    · rw [mu_ne e]; exact r5 s' z
  · dsimp only at hp
    rw [hf (7 + s') (by omega) (by omega)]
    by_cases e : s' = s
    · subst e
      rw [mu_self, ea] at hp
      rw [hw]
      by_cases ej : j = i
      · subst ej
        rw [List.getElem?_set_self i1] at hp
        cases hp
        rw [pk_us]
        exact ⟨(r6 s' z j _ i2).1, rfl⟩
      · rw [List.getElem?_set_ne (Ne.symm ej)] at hp
        rw [pk_un ej]
        exact r6 s' z j p hp
    · rw [mu_ne e] at hp
      rw [hf (28 + s') (by omega) (by omega)]
      exact r6 s' z j p hp
  · dsimp only at h1
    by_cases e : s' = s
    · subst e
      rw [mu_self, ea, List.length_set] at h1
      rw [hw, pk_un (by omega)]
      exact r7 s' z j h1 h2
    · rw [mu_ne e] at h1
      rw [hf (28 + s') (by omega) (by omega)]
      exact r7 s' z j h1 h2
theorem WR.addNew {s t k : Nat} {h' : Mem} (hR : WR h w) (hs : s < 20) (hx : aIx t (w.2.2.1 s) 0 = none) (hf : ∀ a, a ≠ 4 → a ≠ 5 → a ≠ 7 + s → a ≠ 28 + s → h'.1 a = h.1 a) (h4 : h'.1 4 = upd (h.1 4) s (nI (tot (w.2.2.1 s) + k))) (h5 : h'.1 5 = upd (h.1 5) s (nI ((w.2.2.1 s).length + 1))) (ht : h'.1 (7 + s) = upd (h.1 (7 + s)) (w.2.2.1 s).length (nI t)) (hw : h'.1 (28 + s) = upd (h.1 (28 + s)) (w.2.2.1 s).length (nI k)) : WR h' (w.1, w.2.1, va_up w.2.2.1 s (addA t k (w.2.2.1 s)), w.2.2.2) := by
  obtain ⟨r1, r2, r3, r4, r5, r6, r7⟩ := hR
  have ea := aIx_addN t k _ 0 hx
  refine ⟨by rw [hf 1 (by omega) (by omega) (by omega) (by omega)]; exact r1, fun s' z => by rw [hf 2 (by omega) (by omega) (by omega) (by omega)]; exact r2 s' z, fun s' z => by rw [hf 3 (by omega) (by omega) (by omega) (by omega)]; exact r3 s' z, fun s' z => ?_, fun s' z => ?_, fun s' z j p hp => ?_, fun s' z j h1 h2 => ?_⟩
  · dsimp only
    rw [h4]
    by_cases e : s' = s
    · subst e; rw [mu_self, addA_tot, pk_us]
    · rw [mu_ne e, pk_un e]; exact r4 s' z
  · dsimp only
    rw [h5]
    by_cases e : s' = s
    · subst e; rw [mu_self, ea, List.length_append, pk_us]; rfl
    · rw [mu_ne e, pk_un e]; exact r5 s' z
  · dsimp only at hp
    by_cases e : s' = s
    · subst e
      rw [mu_self, ea] at hp
      rw [hw, ht]
      by_cases ej : j < (w.2.2.1 s').length
      · rw [List.getElem?_append_left ej] at hp
        rw [pk_un (by omega), pk_un (by omega)]
        exact r6 s' z j p hp
      · rw [List.getElem?_append_right (by omega)] at hp
        have h0 : j - (w.2.2.1 s').length < 1 := (List.getElem?_eq_some_iff.mp hp).1
        have h9 : j = (w.2.2.1 s').length := by omega
        subst h9
        rw [Nat.sub_self] at hp
        cases hp
        rw [pk_us, pk_us]
        exact ⟨rfl, rfl⟩
    · rw [mu_ne e] at hp
      rw [hf (28 + s') (by omega) (by omega) (by omega) (by omega), hf (7 + s') (by omega) (by omega) (by omega) (by omega)]
      exact r6 s' z j p hp
  · dsimp only at h1
    by_cases e : s' = s
    · subst e
      rw [mu_self, ea, List.length_append, List.length_singleton] at h1
      rw [hw, pk_un (by omega)]
      exact r7 s' z j (by omega) h2
    · rw [mu_ne e] at h1
      rw [hf (28 + s') (by omega) (by omega) (by omega) (by omega)]
      exact r7 s' z j h1 h2
theorem K_X2_addSixteenths {s t k : Nat} (hW : WW w) (hR : WR h w) (hs : s < 20) (ht : t < 20) (hk : 0 < k) (h16 : tot (w.2.2.1 s) + k ≤ 16) : Con ad mX2_addSixteenths [.ref (ad 1), .int (nI s), .int (nI t), .int (nI k)] h (qI fun x h' => x = nI (tot (w.2.2.1 s) + k) ∧ WR h' (w.1, w.2.1, va_up w.2.2.1 s (addA t k (w.2.2.1 s)), w.2.2.2) ∧ Fr (fun a => 4 ≤ a ∧ a < 48) h h') := by
  have hlen := (hW.2.2.2.1 s).len
  have ha := hW.wt s t
  obtain ⟨r1, r2, r3, r4, r5, r6, r7⟩ := id hR
  have t0 := r4 s hs
  have l0 := r5 s hs
  refine Con.mk vX2_addSixteenths.1 vX2_addSixteenths.2.2.2.2 [some (.ref (ad 1)), some (.int (nI s)), some (.int (nI t)), some (.int (nI k)), none] rfl (Nat.le_of_ble_eq_true rfl) (fun Y hM => ?_)
  cases hx : aIx t (w.2.2.1 s) 0 with
  | some i =>
    obtain ⟨-, i1, i2⟩ := aIx_wt t _ 0 i hx
    have w0 := (r6 s hs i _ i2).2
    have hne : ¬ nI i = -1 := fun z => nI_pos (n := i) (by omega) (by rw [z]; decide)
    refine r_al aX2_addSixteenths_0 rfl ?_
    refine r_il aX2_addSixteenths_1 rfl ?_
    refine r_il aX2_addSixteenths_2 rfl ?_
    refine r_VI2 aX2_addSixteenths_3 vX2_arrowTo rfl (K_X2_arrowTo hW hR hs ht) (fun x3 h3 Q3 => ?_)
    rw [Q3.1, Q3.2, hx]
    refine r_ti (v := nI i) rfl ?_
    refine r_is4 aX2_addSixteenths_6 rfl ?_
    refine r_il aX2_addSixteenths_8 rfl ?_
    refine r_ki aX2_addSixteenths_10 ?_
    refine r_c_ne aX2_addSixteenths_11 (fun c11 => ?_) (fun c11 => ?_)
    · -- to 53
      refine r_il aX2_addSixteenths_53 rfl ?_
      refine r_ki aX2_addSixteenths_55 ?_
      refine r_c_eq aX2_addSixteenths_56 (fun c56 => ?_) (fun c56 => ?_)
      · exact absurd c56 hne
      · -- to 59
        refine r_al aX2_addSixteenths_59 rfl ?_
        refine r_getR aX2_addSixteenths_60 rfl rfl ?_
        refine r_il aX2_addSixteenths_63 rfl ?_
        refine r_aaldI aX2_addSixteenths_64 rfl hs (if_pos hs) ?_
        refine r_il aX2_addSixteenths_65 rfl ?_
        refine r_dup2 aX2_addSixteenths_67 rfl rfl ?_
        refine r_xI aX2_addSixteenths_68 (shW _ hs) (by omega) w0 ?_
        refine r_il aX2_addSixteenths_69 rfl ?_
        refine r_iaddN aX2_addSixteenths_70 ?_
        refine r_iast aX2_addSixteenths_71 (shW _ hs) (by omega) ?_
        refine r_al aX2_addSixteenths_72 rfl ?_
        refine r_getR aX2_addSixteenths_73 rfl rfl ?_
        refine r_il aX2_addSixteenths_76 rfl ?_
        refine r_dup2 aX2_addSixteenths_77 rfl rfl ?_
        refine r_xI aX2_addSixteenths_78 rfl (by omega) (v := nI (tot (w.2.2.1 s))) (Eq.trans (by simp [si_1]; omega) t0) ?_
        refine r_il aX2_addSixteenths_79 rfl ?_
        refine r_iaddN aX2_addSixteenths_80 ?_
        refine r_iast aX2_addSixteenths_81 rfl (by omega) ?_
        refine r_al aX2_addSixteenths_82 rfl ?_
        refine r_getR aX2_addSixteenths_83 rfl rfl ?_
        refine r_il aX2_addSixteenths_86 rfl ?_
        refine r_xI aX2_addSixteenths_87 rfl (by omega) (v := nI (tot (w.2.2.1 s) + k)) (by simp [si_1]) ?_
        exact r_iret hM aX2_addSixteenths_88 rfl ⟨rfl, hR.addOld hs hx (fun a z1 z2 => by rw [si_o z1, si_o z2]) (by rw [si_row, si_o (by omega)]) (by rw [si_o (by omega), si_row]), (Fr.si ⟨by omega, by omega⟩).tr (Fr.si ⟨by omega, by omega⟩)⟩
    · exact absurd c11 hne
  | none =>
    have w0 := r7 s hs (w.2.2.1 s).length (Nat.le_refl _) (by omega)
    refine r_al aX2_addSixteenths_0 rfl ?_
    refine r_il aX2_addSixteenths_1 rfl ?_
    refine r_il aX2_addSixteenths_2 rfl ?_
    refine r_VI2 aX2_addSixteenths_3 vX2_arrowTo rfl (K_X2_arrowTo hW hR hs ht) (fun x3 h3 Q3 => ?_)
    rw [Q3.1, Q3.2, hx]
    refine r_is4 aX2_addSixteenths_6 rfl ?_
    refine r_il aX2_addSixteenths_8 rfl ?_
    refine r_ki aX2_addSixteenths_10 ?_
    refine r_c_ne aX2_addSixteenths_11 (fun c11 => ?_) (fun c11 => ?_)
    · exact absurd rfl c11
    · -- to 14
      refine r_al aX2_addSixteenths_14 rfl ?_
      refine r_getR aX2_addSixteenths_15 rfl rfl ?_
      refine r_il aX2_addSixteenths_18 rfl ?_
      refine r_xI aX2_addSixteenths_19 rfl (by omega) l0 ?_
      refine r_ki aX2_addSixteenths_20 ?_
      refine r_n_ge aX2_addSixteenths_22 (by omega) (by omega) (fun c22 => ?_) (fun c22 => ?_)
      · omega
      · -- to 25
        refine r_al aX2_addSixteenths_25 rfl ?_
        refine r_getR aX2_addSixteenths_26 rfl rfl ?_
        refine r_il aX2_addSixteenths_29 rfl ?_
        refine r_xI aX2_addSixteenths_30 rfl (by omega) l0 ?_
        refine r_is4 aX2_addSixteenths_31 rfl ?_
        refine r_al aX2_addSixteenths_33 rfl ?_
        refine r_getR aX2_addSixteenths_34 rfl rfl ?_
        refine r_il aX2_addSixteenths_37 rfl ?_
        refine r_aaldI aX2_addSixteenths_38 rfl hs (if_pos hs) ?_
        refine r_il aX2_addSixteenths_39 rfl ?_
        refine r_il aX2_addSixteenths_41 rfl ?_
        refine r_iast aX2_addSixteenths_42 (shT _ hs) (by omega) ?_
        refine r_al aX2_addSixteenths_43 rfl ?_
        refine r_getR aX2_addSixteenths_44 rfl rfl ?_
        refine r_il aX2_addSixteenths_47 rfl ?_
        refine r_dup2 aX2_addSixteenths_48 rfl rfl ?_
        refine r_xI aX2_addSixteenths_49 rfl (by omega) (v := nI (w.2.2.1 s).length) (Eq.trans (by rw [si_o (by omega)]) l0) ?_
        refine r_ki aX2_addSixteenths_50 ?_
        refine r_iaddN aX2_addSixteenths_51 ?_
        refine r_iast aX2_addSixteenths_52 rfl (by omega) ?_
        refine r_il aX2_addSixteenths_53 rfl ?_
        refine r_ki aX2_addSixteenths_55 ?_
        refine r_c_eq aX2_addSixteenths_56 (fun c56 => absurd c56 (fun z => nI_pos (n := (w.2.2.1 s).length) (by omega) (by rw [z]; decide))) (fun c56 => ?_)
        refine r_al aX2_addSixteenths_59 rfl ?_
        refine r_getR aX2_addSixteenths_60 rfl rfl ?_
        refine r_il aX2_addSixteenths_63 rfl ?_
        refine r_aaldI aX2_addSixteenths_64 rfl hs (if_pos hs) ?_
        refine r_il aX2_addSixteenths_65 rfl ?_
        refine r_dup2 aX2_addSixteenths_67 rfl rfl ?_
        refine r_xI aX2_addSixteenths_68 (shW _ hs) (by omega) (v := nI 0) (Eq.trans (by rw [si_o (by omega), si_o (by omega)]) w0) ?_
        refine r_il aX2_addSixteenths_69 rfl ?_
        refine r_iaddN aX2_addSixteenths_70 ?_
        refine r_iast aX2_addSixteenths_71 (shW _ hs) (by omega) ?_
        refine r_al aX2_addSixteenths_72 rfl ?_
        refine r_getR aX2_addSixteenths_73 rfl rfl ?_
        refine r_il aX2_addSixteenths_76 rfl ?_
        refine r_dup2 aX2_addSixteenths_77 rfl rfl ?_
        refine r_xI aX2_addSixteenths_78 rfl (by omega) (v := nI (tot (w.2.2.1 s))) (Eq.trans (by rw [si_o (by omega), si_o (by omega), si_o (by omega)]) t0) ?_
        refine r_il aX2_addSixteenths_79 rfl ?_
        refine r_iaddN aX2_addSixteenths_80 ?_
        refine r_iast aX2_addSixteenths_81 rfl (by omega) ?_
        refine r_al aX2_addSixteenths_82 rfl ?_
        refine r_getR aX2_addSixteenths_83 rfl rfl ?_
        refine r_il aX2_addSixteenths_86 rfl ?_
        refine r_xI aX2_addSixteenths_87 rfl (by omega) (v := nI (tot (w.2.2.1 s) + k)) (by rw [si_row, pk_us]) ?_
        refine r_iret hM aX2_addSixteenths_88 rfl ⟨rfl, hR.addNew hs hx (fun a z1 z2 z3 z4 => by rw [si_o z1, si_o z4, si_o z2, si_o z3]) (by rw [si_row, si_o (by omega), si_o (by omega), si_o (by omega)]) (by rw [si_o (by omega), si_o (by omega), si_row, si_o (by omega)]) (by rw [si_o (by omega), si_o (by omega), si_o (by omega), si_row]) (by rw [si_o (by omega), si_row, si_o (by omega), si_o (by omega), Nat.zero_add]), (Fr.si ⟨by omega, by omega⟩).tr ((Fr.si ⟨by omega, by omega⟩).tr ((Fr.si ⟨by omega, by omega⟩).tr (Fr.si ⟨by omega, by omega⟩)))⟩
end CLASS2
end
section
theorem inN_nle {x : Int32} {n : Nat} (h : ¬ x ≤ nI n) (hn : n < 2147483647) : inN x (n + 1) = none := by
  apply inN_ge
  rw [Int32.le_iff_toInt_le, nI_toInt (by omega)] at h
  rw [Int32.le_iff_toInt_le, nI_toInt (by omega)]
  omega
theorem inN_le2 {x : Int32} {n : Nat} (h0 : ¬ x < 0) (h : x ≤ nI n) (hn : n < 2147483647) : ∃ k, k < n + 1 ∧ x = nI k ∧ inN x (n + 1) = some k := by
  have h1 : (inN x (n + 1)).isSome = true := inN_le h0 (fun z => by
    rw [Int32.lt_iff_toInt_lt] at z
    rw [Int32.le_iff_toInt_le] at h
    omega) hn
  obtain ⟨k, hk⟩ := Option.isSome_iff_exists.mp h1
  obtain ⟨a, b⟩ := (inN_s (by omega)).mp hk
  exact ⟨k, a, b, hk⟩
theorem inN_ex {x : Int32} {n : Nat} (hn : n < 2147483648) (h : (inN x n).isSome = true) : ∃ k, k < n ∧ x = nI k ∧ inN x n = some k := by
  obtain ⟨k, hk⟩ := Option.isSome_iff_exists.mp h
  obtain ⟨a, b⟩ := (inN_s hn).mp hk
  exact ⟨k, a, b, hk⟩
theorem inN_no {x : Int32} {n : Nat} (h : (inN x n).isSome = false) : inN x n = none := by
  cases hx : inN x n with
  | none => rfl
  | some k => rw [hx] at h; cases h
theorem CRep.fr0 {h h' : Mem} {σ : Sta} (C : CRep h σ) (hf : Fr (fun a => a = 0) h h') : WR h' σ.1 ∧ LO h' 55 σ.2.2.2.1 ∧ (∀ k, k < 3 → LO h' (70 + 7 * k) (σ.2.2.2.2 k)) ∧ (act σ → SV h' σ.1) := ⟨C.1.fr hf (fun a z => Or.inr z), C.2.2.2.1.fr hf (fun a z => Or.inl (by omega)), fun k hk => (C.2.2.2.2.1 k hk).fr hf (fun a z => Or.inl (by omega)), fun z => (C.2.2.2.2.2 z).fr hf (fun a z => Or.inl (by omega))⟩
/-- another listing, the rest stays -/
theorem CRep.now {h h' : Mem} {σ : Sta} {l : Option LL} {P : Nat → Prop} (C : CRep h σ) (hf : Fr P h h') (hp : ∀ a, P a → inLS 55 a ∨ (62 ≤ a ∧ a < 69)) (hL : LO h' 55 l) (hV : l ≠ none → SV h σ.1) : CRep h' (setNow σ l) := by
  have q : ∀ a, P a → (55 ≤ a ∧ a < 62) ∨ (51 ≤ a ∧ a < 55) ∨ (62 ≤ a ∧ a < 69) := fun a z => by
    rcases hp a z with (y | y) | y
    · exact Or.inl y
    · exact Or.inr (Or.inl y)
    · exact Or.inr (Or.inr y)
  have e0 : h'.1 0 = h.1 0 := (hf 0 (fun z => by have := q 0 z; omega)).1
  have hvf : SV h σ.1 → SV h' σ.1 := fun z => z.fr hf (fun a z => by have := q a z; omega)
  refine ⟨C.1.fr hf (fun a z => by have := q a z; omega), by rw [e0]; exact C.2.1, by rw [e0]; exact C.2.2.1, hL, fun k hk => (C.2.2.2.2.1 k hk).fr hf (fun a z => by have := q a z; omega), fun z => ?_⟩
  rcases z with z | z
  · exact hvf (hV z)
  · exact hvf (C.2.2.2.2.2 (Or.inr z))
theorem pth_law {w w' : Wk} (e : w'.2.2.1 = w.2.2.1) : ∀ (k s t : Nat), pth w' k s t ↔ pth w k s t
  | 0, s, t => Iff.rfl
  | k + 1, s, t => by
    unfold pth edg
    rw [e]
    exact ⟨fun ⟨u, h1, h2⟩ => ⟨u, h1, (pth_law e k u t).mp h2⟩, fun ⟨u, h1, h2⟩ => ⟨u, h1, (pth_law e k u t).mpr h2⟩⟩
theorem rB_law {w w' : Wk} (e : w'.2.2.1 = w.2.2.1) (s t : Nat) : rB w' s t = rB w s t := by
  rw [Bool.eq_iff_iff, rB_iff, rB_iff]
  exact ⟨fun ⟨k, hk⟩ => ⟨k, (pth_law e k s t).mp hk⟩, fun ⟨k, hk⟩ => ⟨k, (pth_law e k s t).mpr hk⟩⟩
theorem rmU_law {w w' : Wk} (e : w'.2.2.1 = w.2.2.1) (e1 : w'.2.1 = w.2.1) (s : Nat) : ∀ t, rmU w' s t = rmU w s t
  | 0 => rfl
  | t + 1 => by unfold rmU; rw [rmU_law e e1 s t, rB_law e, e1]
theorem rm_law {w w' : Wk} (e : w'.2.2.1 = w.2.2.1) (e1 : w'.2.1 = w.2.1) (e0 : w'.1 = w.1) (s : Nat) : rm w' s = rm w s := by unfold rm; rw [e0, rmU_law e e1]
theorem suU_law {w w' : Wk} (e : w'.2.2.1 = w.2.2.1) (e1 : w'.2.1 = w.2.1) (e0 : w'.1 = w.1) (s : Nat) : ∀ t, suU w' s t = suU w s t
  | 0 => rfl
  | t + 1 => by unfold suU; rw [suU_law e e1 e0 s t, rB_law e, rm_law e e1 e0]
theorem su_law {w w' : Wk} (e : w'.2.2.1 = w.2.2.1) (e1 : w'.2.1 = w.2.1) (e0 : w'.1 = w.1) (s : Nat) : su w' s = su w s := by unfold su; rw [e0, suU_law e e1 e0]
theorem SV.law {h : Mem} {w w' : Wk} (H : SV h w) (e : w'.2.2.1 = w.2.2.1) (e1 : w'.2.1 = w.2.1) (e0 : w'.1 = w.1) : SV h w' := by
  obtain ⟨a, b, c⟩ := H
  exact ⟨fun s hs t ht => by rw [rB_law e]; exact a s (e0 ▸ hs) t (e0 ▸ ht), fun s hs => by rw [rm_law e e1 e0]; exact b s (e0 ▸ hs), fun s hs => by rw [su_law e e1 e0]; exact c s (e0 ▸ hs)⟩
section CLASS3
variable {ad : Nat → Nat} {h : Mem} {σ : Sta}
theorem K_ex {q : Nat} {o : Option LL} (hq : IsL q) (H : LO h q o) (hb : ∀ l, o = some l → l.1 < 2147483648) : Con ad mX0_exists [.ref (ad q)] h (qZ fun b h' => h' = h ∧ b = o.isSome) := by
  refine Con.mk vX0_exists.1 vX0_exists.2.2.2.2 [some (.ref (ad q))] rfl (Nat.le_of_ble_eq_true rfl) (fun Y hM => ?_)
  refine r_al aX0_exists_0 rfl ?_
  refine r_getI aX0_exists_1 hq.1 rfl ?_
  refine r_ki aX0_exists_4 ?_
  refine r_c_eq aX0_exists_5 (fun c5 => ?_) (fun c5 => ?_)
  · -- to 12
    refine r_ki aX0_exists_12 ?_
    refine r_zF hM aX0_exists_13 rfl ⟨rfl, ?_⟩
    cases o with
    | none => rfl
    | some l => exact absurd (H.1.symm.trans c5) (fun z => nI_pos (n := l.1) (hb l rfl) (by rw [z]; decide))
  · -- to 8
    refine r_ki aX0_exists_8 ?_
    refine r_go aX0_exists_9 ?_
    refine r_zT hM aX0_exists_13 rfl ⟨rfl, ?_⟩
    cases o with
    | none => exact absurd H.1 c5
    | some l => rfl
theorem K_X3_order {x : Int32} (S : SI σ) (C : CRep h σ) : Con ad mX3_order [.ref (ad 0), .int x] h (qI fun r h' => r = (fOrder σ x).1 ∧ CRep h' (fOrder σ x).2 ∧ Fr (fun a => a < 91) h h') := by
  have e5 := C.2.1
  refine Con.mk vX3_order.1 vX3_order.2.2.2.2 [some (.ref (ad 0)), some (.int x), none] rfl (Nat.le_of_ble_eq_true rfl) (fun Y hM => ?_)
  refine r_il aX3_order_0 rfl ?_
  refine r_z_lt aX3_order_1 (fun c1 => ?_) (fun c1 => ?_)
  · -- to 9
    refine r_ki aX3_order_9 ?_
    exact r_iret hM aX3_order_10 rfl (by unfold fOrder; rw [inN_lt0 c1]; exact ⟨rfl, C, Fr.rf⟩)
  · -- to 4
    refine r_il aX3_order_4 rfl ?_
    refine r_ki aX3_order_5 ?_
    refine r_c_le aX3_order_6 (fun c6 => ?_) (fun c6 => ?_)
    · -- to 11
      obtain ⟨k, hk, rfl, hx⟩ := inN_le2 c1 c6 (by decide)
      refine r_al aX3_order_11 rfl ?_
      refine r_gI aX3_order_12 rfl rfl e5 ?_
      refine r_is2 aX3_order_15 rfl ?_
      refine r_al aX3_order_16 rfl ?_
      refine r_il aX3_order_17 rfl ?_
      refine r_putI aX3_order_18 rfl rfl rfl ?_
      refine r_il aX3_order_21 rfl ?_
      refine r_iret hM aX3_order_22 rfl ?_
      unfold fOrder
      rw [hx]
      obtain ⟨a, b, c, d⟩ := C.fr0 (h' := si h 0 5 (nI k)) (Fr.si rfl)
      exact ⟨rfl, ⟨a, by simp [si_1], by rw [si_1]; simp; exact C.2.2.1, b, c, d⟩, Fr.si (P := fun a => a < 91) (by omega)⟩
    · -- to 9
      refine r_ki aX3_order_9 ?_
      exact r_iret hM aX3_order_10 rfl (by unfold fOrder; rw [inN_nle c6 (by decide)]; exact ⟨rfl, C, Fr.rf⟩)
theorem K_X3_joined {b : Bool} (C : CRep h σ) : Con ad mX3_joined [.ref (ad 0), .int (bI b)] h (qI fun r h' => r = (fJoined σ b).1 ∧ CRep h' (fJoined σ b).2 ∧ Fr (fun a => a < 91) h h') := by
  have e6 := C.2.2.1
  have key : CRep (si h 0 6 (bI b)) (fJoined σ b).2 := by
    obtain ⟨a, b', c, d⟩ := C.fr0 (h' := si h 0 6 (bI b)) (Fr.si rfl)
    exact ⟨a, by rw [si_1]; simp; exact C.2.1, by simp [si_1, fJoined], b', c, d⟩
  refine Con.mk vX3_joined.1 vX3_joined.2.2.2.2 [some (.ref (ad 0)), some (.int (bI b)), none] rfl (Nat.le_of_ble_eq_true rfl) (fun Y hM => ?_)
  refine r_al aX3_joined_0 rfl ?_
  refine r_gI aX3_joined_1 rfl rfl e6 ?_
  refine r_b_eq aX3_joined_4 (fun c4 => ?_) (fun c4 => ?_)
  · -- to 11
    refine r_ki aX3_joined_11 ?_
    refine r_is2 aX3_joined_12 rfl ?_
    refine r_al aX3_joined_13 rfl ?_
    refine r_il aX3_joined_14 rfl ?_
    refine r_putZ aX3_joined_15 rfl rfl rfl ?_
    refine r_il aX3_joined_18 rfl ?_
    exact r_iret hM aX3_joined_19 rfl ⟨by unfold fJoined; rw [c4]; rfl, key, Fr.si (P := fun a => a < 91) (by omega)⟩
  · -- to 7
    refine r_ki aX3_joined_7 ?_
    refine r_go aX3_joined_8 ?_
    refine r_is2 aX3_joined_12 rfl ?_
    refine r_al aX3_joined_13 rfl ?_
    refine r_il aX3_joined_14 rfl ?_
    refine r_putZ aX3_joined_15 rfl rfl rfl ?_
    refine r_il aX3_joined_18 rfl ?_
    exact r_iret hM aX3_joined_19 rfl ⟨by unfold fJoined; rw [c4]; rfl, key, Fr.si (P := fun a => a < 91) (by omega)⟩
theorem nwS_crep {h' : Mem} {n : Nat} {out : Nat → Option Nat} {ar : Nat → List (Nat × Nat)} (C : CRep h σ) (h1 : WR h' (n, out, ar, noW)) (h2 : LO h' 55 none) (h3 : ∀ k, k < 3 → LO h' (70 + 7 * k) none) (h0 : h'.1 0 = h.1 0) : CRep h' (nwS σ n out ar) := by
  refine ⟨h1, by rw [h0]; exact C.2.1, by rw [h0]; exact C.2.2.1, h2, h3, fun z => ?_⟩
  rcases z with z | ⟨k, _, z⟩
  · exact absurd rfl z
  · exact absurd rfl z
theorem K_X3_state {x : Int32} (S : SI σ) (C : CRep h σ) : Con ad mX3_state [.ref (ad 0), .int x] h (qI fun r h' => r = (fState σ x).1 ∧ CRep h' (fState σ x).2 ∧ Fr (fun a => a < 91) h h') := by
  have hW := S.ww
  have h20 := hW.n
  have hR := C.1
  have hn := hR.1
  refine Con.mk vX3_state.1 vX3_state.2.2.2.2 [some (.ref (ad 0)), some (.int x)] rfl (Nat.le_of_ble_eq_true rfl) (fun Y hM => ?_)
  have go : ¬ (x ≠ -1 ∧ inN x 8 = none) → x = oI (inN x 8) → G Y ad mX3_state 14 [some (.ref (ad 0)), some (.int x)] [] h := by
    intro h1 h2
    refine r_al aX3_state_14 rfl ?_
    refine r_getR aX3_state_15 rfl rfl ?_
    refine r_gI aX3_state_18 rfl rfl hn ?_
    refine r_ki aX3_state_21 ?_
    refine r_n_lt aX3_state_23 (by omega) (by decide) (fun c23 => ?_) (fun c23 => ?_)
    · -- to 29
      refine r_al aX3_state_29 rfl ?_
      refine r_VV0 aX3_state_30 vX3_forgetWhatRestsOnWalk rfl (K_X3_forgetWhatRestsOnWalk hW hR) (fun h30 Q30 => ?_)
      obtain ⟨R1, L1, K1, F1⟩ := Q30
      have K := @K_X2_addState ad h30 σ.1.1 σ.1.2.1 σ.1.2.2.1 (inN x 8) R1 c23
      rw [← h2] at K
      refine r_al aX3_state_33 rfl ?_
      refine r_getR aX3_state_34 rfl rfl ?_
      refine r_il aX3_state_37 rfl ?_
      refine r_VI1 aX3_state_38 vX2_addState rfl K (fun x38 h38 Q38 => ?_)
      refine r_iret hM aX3_state_41 rfl ?_
      unfold fState
      rw [if_neg h1, if_neg (by omega)]
      obtain ⟨q1, q2, q3⟩ := Q38
      refine ⟨q1, nwS_crep C q2 (L1.fr q3 (fun a z => by omega)) (fun k hk => (K1 k hk).fr q3 (fun a z => by omega)) ?_, ?_⟩
      · rw [(q3 0 (by omega)).1, (F1 0 (by unfold forg; omega)).1]
      · exact (F1.mono (fun a z => by unfold forg at z; omega)).tr (q3.mono (fun a z => by omega))
    · -- to 26
      refine r_ki aX3_state_26 ?_
      exact r_iret hM aX3_state_28 rfl (by unfold fState; rw [if_neg h1, if_pos c23]; exact ⟨rfl, C, Fr.rf⟩)
  refine r_il aX3_state_0 rfl ?_
  refine r_ki aX3_state_1 ?_
  refine r_c_eq aX3_state_2 (fun c2 => ?_) (fun c2 => ?_)
  · -- to 14
    exact go (fun z => z.1 c2) (by rw [c2, inN_lt0 (by decide)]; rfl)
  · -- to 5
    refine r_il aX3_state_5 rfl ?_
    refine r_SZ1 aX3_state_6 vX3_isOutcome (K_X3_isOutcome) (fun x6 h6 Q6 => ?_)
    rw [Q6.1]
    refine r_b_ne aX3_state_9 (fun c9 => ?_) (fun c9 => ?_)
    · -- to 14
      obtain ⟨j, hj, e, hx⟩ := inN_ex (by decide) (Q6.2.symm.trans c9)
      exact go (fun z => by rw [hx] at z; cases z.2) (by rw [hx]; exact e)
    · -- to 12
      refine r_ki aX3_state_12 ?_
      exact r_iret hM aX3_state_13 rfl (by unfold fState; rw [if_pos ⟨c2, inN_no (Q6.2.symm.trans c9)⟩]; exact ⟨rfl, C, Fr.rf⟩)
theorem fArrow_b {x y z : Int32} (H : (∀ s, inN x σ.1.1 = some s → σ.1.2.1 s ≠ none) ∨ inN y σ.1.1 = none ∨ inN z 17 = none ∨ inN z 17 = some 0) : fArrow σ x y z = (-1, σ) := by
  unfold fArrow
  split
  · next s t k hs ht hk =>
    rw [if_pos]
    rcases H with H | H | H | H
    · exact Or.inl (H s hs)
    · rw [ht] at H; cases H
    · rw [hk] at H; cases H
    · rw [hk] at H; cases H; exact Or.inr rfl
  · rfl
theorem K_X3_arrow {x y z : Int32} (S : SI σ) (C : CRep h σ) : Con ad mX3_arrow [.ref (ad 0), .int x, .int y, .int z] h (qI fun r h' => r = (fArrow σ x y z).1 ∧ CRep h' (fArrow σ x y z).2 ∧ Fr (fun a => a < 91) h h') := by
  have hW := S.ww
  have h20 := hW.n
  have hR := C.1
  have bad : fArrow σ x y z = (-1, σ) → (-1 : Int32) = (fArrow σ x y z).1 ∧ CRep h (fArrow σ x y z).2 ∧ Fr (fun a => a < 91) h h := fun E => by rw [E]; exact ⟨rfl, C, Fr.rf⟩
  refine Con.mk vX3_arrow.1 vX3_arrow.2.2.2.2 [some (.ref (ad 0)), some (.int x), some (.int y), some (.int z)] rfl (Nat.le_of_ble_eq_true rfl) (fun Y hM => ?_)
  refine r_al aX3_arrow_0 rfl ?_
  refine r_getR aX3_arrow_1 rfl rfl ?_
  refine r_il aX3_arrow_4 rfl ?_
  refine r_VZ1 aX3_arrow_5 vX2_goesOn rfl (K_X2_goesOn hW hR) (fun x5 h5 Q5 => ?_)
  rw [Q5.1]
  refine r_b_eq aX3_arrow_8 (fun c8 => ?_) (fun c8 => ?_)
  · -- to 33
    refine r_ki aX3_arrow_33 ?_
    exact r_iret hM aX3_arrow_34 rfl (bad (fArrow_b (Or.inl (fun s hs e => (by have := (inN_s (by omega)).mp hs; rw [Q5.2.mpr ⟨s, this.1, this.2, e⟩] at c8; cases c8)))))
  · -- to 11
    refine r_al aX3_arrow_11 rfl ?_
    refine r_getR aX3_arrow_12 rfl rfl ?_
    refine r_il aX3_arrow_15 rfl ?_
    refine r_VZ1 aX3_arrow_16 vX2_has rfl (K_X2_has hW hR) (fun x16 h16 Q16 => ?_)
    rw [Q16.1]
    refine r_b_eq aX3_arrow_19 (fun c19 => ?_) (fun c19 => ?_)
    · -- to 33
      refine r_ki aX3_arrow_33 ?_
      exact r_iret hM aX3_arrow_34 rfl (bad (fArrow_b (Or.inr (Or.inl ((inN_n (by omega)).mpr (fun q => by rw [Q16.2.mpr q] at c19; cases c19))))))
    · -- to 22
      refine r_il aX3_arrow_22 rfl ?_
      refine r_ki aX3_arrow_23 ?_
      refine r_c_lt aX3_arrow_24 (fun c24 => ?_) (fun c24 => ?_)
      · -- to 33
        refine r_ki aX3_arrow_33 ?_
        refine r_iret hM aX3_arrow_34 rfl (bad (fArrow_b (Or.inr (Or.inr ?_))))
        by_cases q : z < 0
        · exact Or.inl (inN_lt0 q)
        · right
          apply (inN_s (by decide)).mpr
          obtain ⟨j, hj, e⟩ := nI_split (n := 1) q (fun y => by rw [Int32.lt_iff_toInt_lt] at c24; rw [Int32.le_iff_toInt_le] at y; omega) (by decide)
          exact ⟨by decide, by rw [e, show j = 0 by omega]⟩
      · -- to 27
        refine r_il aX3_arrow_27 rfl ?_
        refine r_ki aX3_arrow_28 ?_
        refine r_c_le aX3_arrow_30 (fun c30 => ?_) (fun c30 => ?_)
        · -- to 35
          obtain ⟨s, hs, rfl, hout⟩ := Q5.2.mp c8
          obtain ⟨t, ht, rfl⟩ := Q16.2.mp c19
          clear Q5 Q16
          have z0 : ¬ z < 0 := fun q => c24 (by rw [Int32.lt_iff_toInt_lt] at q ⊢; rw [nI_toInt (by decide)]; rw [Int32.toInt_zero] at q; omega)
          obtain ⟨k, hk, rfl, hzk⟩ := inN_le2 z0 c30 (by decide)
          have hk1 : 1 ≤ k := by
            rcases Nat.eq_zero_or_pos k with q | q
            · subst q; exact absurd (by decide) c24
            · exact q
          have ts := hR.2.2.2.1 s (by omega)
          have htt := hW.tot s
          have E0 : fArrow σ (nI s) (nI t) (nI k) = if 16 < tot (σ.1.2.2.1 s) + k then (-3, σ) else (nI (tot (σ.1.2.2.1 s) + k), nwS σ σ.1.1 σ.1.2.1 (va_up σ.1.2.2.1 s (addA t k (σ.1.2.2.1 s)))) := by
            unfold fArrow
            rw [inN_nI hs (by omega), inN_nI ht (by omega), hzk]
            dsimp only
            rw [if_neg (fun q => q.elim (fun q => q hout) (fun q => by omega))]
          rw [E0] at hM
          clear E0 bad hzk z0 c24 c30 c8 c19
          refine r_al aX3_arrow_35 rfl ?_
          refine r_getR aX3_arrow_36 rfl rfl ?_
          refine r_getR aX3_arrow_39 rfl rfl ?_
          refine r_il aX3_arrow_42 rfl ?_
          refine r_xI aX3_arrow_43 rfl (by omega) ts ?_
          refine r_il aX3_arrow_44 rfl ?_
          refine r_iaddN aX3_arrow_45 ?_
          refine r_ki aX3_arrow_46 ?_
          refine r_n_le aX3_arrow_48 (by omega) (by decide) (fun c48 => ?_) (fun c48 => ?_)
          · refine r_al aX3_arrow_54 rfl ?_
            refine r_VV0 aX3_arrow_55 vX3_forgetWhatRestsOnWalk rfl (K_X3_forgetWhatRestsOnWalk hW hR) (fun h55 Q55 => ?_)
            obtain ⟨R1, L1, K1, F1⟩ := Q55
            have hW1 : WW (σ.1.1, σ.1.2.1, σ.1.2.2.1, noW) := ⟨hW.1, hW.2.1, hW.2.2.1, hW.2.2.2.1, fun s t _ q => (by cases q), hW.2.2.2.2.2⟩
            refine r_al aX3_arrow_58 rfl ?_
            refine r_getR aX3_arrow_59 rfl rfl ?_
            refine r_il aX3_arrow_62 rfl ?_
            refine r_il aX3_arrow_63 rfl ?_
            refine r_il aX3_arrow_64 rfl ?_
            refine r_VI3 aX3_arrow_65 vX2_addSixteenths rfl (K_X2_addSixteenths hW1 R1 (by omega) (by omega) (by omega) c48) (fun x65 h65 Q65 => ?_)
            obtain ⟨q1, q2, q3⟩ := Q65
            refine r_iret hM aX3_arrow_68 rfl ?_
            rw [if_neg (by omega)]
            refine ⟨q1, nwS_crep C q2 (L1.fr q3 (fun a z => by omega)) (fun k hk => (K1 k hk).fr q3 (fun a z => by omega)) ?_, ?_⟩
            · rw [(q3 0 (by omega)).1, (F1 0 (by unfold forg; omega)).1]
            · exact (F1.mono (fun a z => by unfold forg at z; omega)).tr (q3.mono (fun a z => by omega))
          · refine r_ki aX3_arrow_51 ?_
            refine r_iret hM aX3_arrow_53 rfl ?_
            rw [if_pos (by omega)]
            exact ⟨rfl, C, Fr.rf⟩
        · -- to 33
          refine r_ki aX3_arrow_33 ?_
          exact r_iret hM aX3_arrow_34 rfl (bad (fArrow_b (Or.inr (Or.inr (Or.inl (inN_nle c30 (by decide)))))))
theorem setLaw_crep {s : Nat} {t : Option Nat} (C : CRep h σ) (hs : s < 20) : CRep (si h 3 s (oI t)) (setLaw σ s t) := by
  have hf : Fr (fun a => a = 3) h (si h 3 s (oI t)) := Fr.si rfl
  obtain ⟨⟨r1, r2, r3, r4, r5, r6, r7⟩, c2, c3, c4, c5, c6⟩ := C
  have f : ∀ a, a ≠ 3 → (si h 3 s (oI t)).1 a = h.1 a := fun a z => si_o z
  refine ⟨⟨by rw [f 1 (by omega)]; exact r1, fun s' z => by rw [f 2 (by omega)]; exact r2 s' z, fun s' z => ?_, fun s' z => by rw [f 4 (by omega)]; exact r4 s' z, fun s' z => by rw [f 5 (by omega)]; exact r5 s' z, fun s' z i p hp => by rw [f (7 + s') (by omega), f (28 + s') (by omega)]; exact r6 s' z i p hp, fun s' z i h1 h2 => by rw [f (28 + s') (by omega)]; exact r7 s' z i h1 h2⟩, by rw [f 0 (by omega)]; exact c2, by rw [f 0 (by omega)]; exact c3, c4.fr hf (fun a z => by omega), fun k hk => (c5 k hk).fr hf (fun a z => by omega), fun z => ((c6 z).fr hf (fun a z => by omega)).law rfl rfl rfl⟩
  show (si h 3 s (oI t)).1 3 s' = oI (va_up σ.1.2.2.2 s t s')
  by_cases e : s' = s
  · subst e; rw [si_row, pk_us, mu_self]
  · rw [si_row, pk_un e, mu_ne e]; exact r3 s' z
theorem K_X3_law {x y : Int32} (S : SI σ) (C : CRep h σ) : Con ad mX3_law [.ref (ad 0), .int x, .int y] h (qI fun r h' => r = (fLaw σ x y).1 ∧ CRep h' (fLaw σ x y).2 ∧ Fr (fun a => a < 91) h h') := by
  have hW := S.ww
  have h20 := hW.n
  have hR := C.1
  refine Con.mk vX3_law.1 vX3_law.2.2.2.2 [some (.ref (ad 0)), some (.int x), some (.int y)] rfl (Nat.le_of_ble_eq_true rfl) (fun Y hM => ?_)
  refine r_al aX3_law_0 rfl ?_
  refine r_getR aX3_law_1 rfl rfl ?_
  refine r_il aX3_law_4 rfl ?_
  refine r_VZ1 aX3_law_5 vX2_goesOn rfl (K_X2_goesOn hW hR) (fun x5 h5 Q5 => ?_)
  rw [Q5.1]
  refine r_b_eq aX3_law_8 (fun c8 => ?_) (fun c8 => ?_)
  · -- to 27
    refine r_ki aX3_law_27 ?_
    refine r_iret hM aX3_law_28 rfl ?_
    have E : fLaw σ x y = (-1, σ) := by
      unfold fLaw
      cases hx : inN x σ.1.1 with
      | none => rfl
      | some s =>
        have q := (inN_s (by omega)).mp hx
        dsimp only
        rw [if_pos (fun e => by rw [Q5.2.mpr ⟨s, q.1, q.2, e⟩] at c8; cases c8)]
    rw [E]
    exact ⟨rfl, C, Fr.rf⟩
  · -- to 11
    obtain ⟨s, hs, rfl, hout⟩ := Q5.2.mp c8
    clear Q5
    have E0 : fLaw σ (nI s) y = if y = -1 then (nI 1, setLaw σ s none) else match inN y σ.1.1 with
        | none => (-1, σ)
        | some t => if lawB σ.1 s t then (nI 1, setLaw σ s (some t)) else (-2, σ) := by
      unfold fLaw
      rw [inN_nI hs (by omega)]
      dsimp only
      rw [if_neg (fun q => q hout)]
      rfl
    rw [E0] at hM
    clear E0
    by_cases hy : y = -1
    · subst hy
      rw [if_pos rfl] at hM
      refine r_il aX3_law_11 rfl ?_
      refine r_ki aX3_law_12 ?_
      refine r_c_eq aX3_law_13 (fun c13 => ?_) (fun c13 => absurd rfl c13)
      refine r_il aX3_law_29 rfl ?_
      refine r_ki aX3_law_30 ?_
      refine r_c_eq aX3_law_31 (fun c31 => ?_) (fun c31 => absurd rfl c31)
      refine r_al aX3_law_49 rfl ?_
      refine r_getR aX3_law_50 rfl rfl ?_
      refine r_getR aX3_law_53 rfl rfl ?_
      refine r_il aX3_law_56 rfl ?_
      refine r_il aX3_law_57 rfl ?_
      refine r_iast aX3_law_58 rfl (by omega) ?_
      refine r_ki aX3_law_59 ?_
      exact r_iret hM aX3_law_60 rfl ⟨rfl, setLaw_crep (t := none) C (by omega), Fr.si (P := fun a => a < 91) (by omega)⟩
    · rw [if_neg hy] at hM
      refine r_il aX3_law_11 rfl ?_
      refine r_ki aX3_law_12 ?_
      refine r_c_eq aX3_law_13 (fun c13 => absurd c13 hy) (fun c13 => ?_)
      refine r_al aX3_law_16 rfl ?_
      refine r_getR aX3_law_17 rfl rfl ?_
      refine r_il aX3_law_20 rfl ?_
      refine r_VZ1 aX3_law_21 vX2_has rfl (K_X2_has hW hR) (fun x21 h21 Q21 => ?_)
      rw [Q21.1]
      refine r_b_ne aX3_law_24 (fun c24 => ?_) (fun c24 => ?_)
      · obtain ⟨t, ht, rfl⟩ := Q21.2.mp c24
        clear Q21
        rw [inN_nI ht (by omega)] at hM
        dsimp only at hM
        refine r_il aX3_law_29 rfl ?_
        refine r_ki aX3_law_30 ?_
        refine r_c_eq aX3_law_31 (fun c31 => absurd c31 hy) (fun c31 => ?_)
        refine r_al aX3_law_34 rfl ?_
        refine r_getR aX3_law_35 rfl rfl ?_
        refine r_il aX3_law_38 rfl ?_
        refine r_il aX3_law_39 rfl ?_
        refine r_VZ2 aX3_law_40 vX2_isProved rfl (K_X2_isProved hW hR (by omega) (by omega)) (fun x40 h40 Q40 => ?_)
        rw [Q40.1]
        have hb : lawB σ.1 s t = x40 := by rw [Bool.eq_iff_iff, lawB_iff, Q40.2]
        rw [hb] at hM
        refine r_b_ne aX3_law_43 (fun c43 => ?_) (fun c43 => ?_)
        · rw [c43, if_pos rfl] at hM
          refine r_al aX3_law_49 rfl ?_
          refine r_getR aX3_law_50 rfl rfl ?_
          refine r_getR aX3_law_53 rfl rfl ?_
          refine r_il aX3_law_56 rfl ?_
          refine r_il aX3_law_57 rfl ?_
          refine r_iast aX3_law_58 rfl (by omega) ?_
          refine r_ki aX3_law_59 ?_
          exact r_iret hM aX3_law_60 rfl ⟨rfl, setLaw_crep (t := some t) C (by omega), Fr.si (P := fun a => a < 91) (by omega)⟩
        · rw [c43, if_neg (by decide)] at hM
          refine r_ki aX3_law_46 ?_
          exact r_iret hM aX3_law_48 rfl ⟨rfl, C, Fr.rf⟩
      · rw [(inN_n (by omega)).mpr (fun q => by rw [Q21.2.mpr q] at c24; cases c24)] at hM
        dsimp only at hM
        refine r_ki aX3_law_27 ?_
        exact r_iret hM aX3_law_28 rfl ⟨rfl, C, Fr.rf⟩
theorem K_X3_begin {x : Int32} (S : SI σ) (C : CRep h σ) : Con ad mX3_begin [.ref (ad 0), .int x] h (qI fun r h' => r = (fBegin σ x).1 ∧ CRep h' (fBegin σ x).2 ∧ Fr (fun a => a < 91) h h') := by
  have hW := S.ww
  have h20 := hW.n
  have hR := C.1
  have inl : ∀ a, inL 55 a → inLS 55 a := fun a z => Or.inl z
  refine Con.mk vX3_begin.1 vX3_begin.2.2.2.2 [some (.ref (ad 0)), some (.int x)] rfl (Nat.le_of_ble_eq_true rfl) (fun Y hM => ?_)
  refine r_al aX3_begin_0 rfl ?_
  refine r_getR aX3_begin_1 rfl rfl ?_
  refine r_il aX3_begin_4 rfl ?_
  refine r_VZ1 aX3_begin_5 vX2_has rfl (K_X2_has hW hR) (fun x5 h5 Q5 => ?_)
  rw [Q5.1]
  refine r_b_ne aX3_begin_8 (fun c8 => ?_) (fun c8 => ?_)
  · -- to 13
    obtain ⟨s, hs, rfl⟩ := Q5.2.mp c8
    clear Q5
    have E0 : fBegin σ (nI s) = if wh σ.1 s then (rm σ.1 s, setNow σ (some (s, 0, begL s))) else (-2, σ) := by unfold fBegin; rw [inN_nI hs (by omega)]
    rw [E0] at hM
    clear E0
    refine r_al aX3_begin_13 rfl ?_
    refine r_getR aX3_begin_14 rfl rfl ?_
    refine r_VV0 aX3_begin_17 vX2_survey rfl (K_X2_survey hW hR) (fun h17 Q17 => ?_)
    obtain ⟨V1, F1⟩ := Q17
    have R1 := hR.fr F1 (fun a z => Or.inl z.1)
    have C1 : CRep h17 σ := ⟨R1, by rw [(F1 0 (by omega)).1]; exact C.2.1, by rw [(F1 0 (by omega)).1]; exact C.2.2.1, C.2.2.2.1.fr F1 (fun a z => by omega), fun k hk => (C.2.2.2.2.1 k hk).fr F1 (fun a z => by omega), fun _ => V1⟩
    have F91 : Fr (fun a => a < 91) h h17 := F1.mono (fun a z => by omega)
    refine r_al aX3_begin_20 rfl ?_
    refine r_getR aX3_begin_21 rfl rfl ?_
    refine r_il aX3_begin_24 rfl ?_
    refine r_VZ1 aX3_begin_25 vX2_isWholeFrom rfl (K_X2_isWholeFrom hW R1 hs (V1.1 s hs)) (fun x25 h25 Q25 => ?_)
    rw [Q25.1]
    refine r_b_ne aX3_begin_28 (fun c28 => ?_) (fun c28 => ?_)
    · rw [← Q25.2, c28, if_pos rfl] at hM
      refine r_al aX3_begin_34 rfl ?_
      refine r_getR aX3_begin_35 rfl rfl ?_
      refine r_il aX3_begin_38 rfl ?_
      refine r_VV1 aX3_begin_39 vX0_beginAt rfl (K_X0_beginAt isL55 (by omega)) (fun h39 Q39 => ?_)
      obtain ⟨L2, s2, t2, F2⟩ := Q39
      have e49 : h39.1 49 s = rm σ.1 s := by rw [(F2 49 (fun z => by have := z.1; omega)).1]; exact V1.2.1 s hs
      refine r_al aX3_begin_42 rfl ?_
      refine r_getR aX3_begin_43 rfl rfl ?_
      refine r_getR aX3_begin_46 rfl rfl ?_
      refine r_il aX3_begin_49 rfl ?_
      refine r_xI aX3_begin_50 rfl (by omega) e49 ?_
      exact r_iret hM aX3_begin_51 rfl ⟨rfl, C1.now F2 (fun a z => Or.inl (Or.inl z)) ⟨s2, t2, L2⟩ (fun _ => V1), F91.tr (F2.mono (fun a z => by have := z.2; omega))⟩
    · rw [← Q25.2, c28, if_neg (by decide)] at hM
      refine r_ki aX3_begin_31 ?_
      exact r_iret hM aX3_begin_33 rfl ⟨rfl, C1, F91⟩
  · -- to 11
    refine r_ki aX3_begin_11 ?_
    exact r_iret hM aX3_begin_12 rfl (by unfold fBegin; rw [(inN_n (by omega)).mpr (fun q => by rw [Q5.2.mpr q] at c8; cases c8)]; exact ⟨rfl, C, Fr.rf⟩)
end CLASS3
end
section
theorem fs_le {f g : Nat → Nat} (h : ∀ i, f i ≤ g i) : ∀ n, fs f n ≤ fs g n
  | 0 => Nat.le_refl _
  | n + 1 => Nat.add_le_add (fs_le h n) (h n)
theorem fs_add (f g : Nat → Nat) : ∀ n, fs (fun i => f i + g i) n = fs f n + fs g n
  | 0 => rfl
  | n + 1 => by unfold fs; rw [fs_add f g n]; omega
theorem fs_one (t u : Nat) : ∀ n, fs (fun s => if t = s then u else 0) n ≤ u
  | 0 => Nat.zero_le _
  | n + 1 => by
    have := fs_one t u n
    unfold fs
    by_cases e : t = n
    · have h0 : ∀ m, m ≤ t → fs (fun s => if t = s then u else 0) m = 0 := by
        intro m
        induction m with
        | zero => intro _; rfl
        | succ m ih => intro hm; unfold fs; rw [ih (by omega), if_neg (by omega)]
      rw [h0 n (by omega), if_pos e]; omega
    · rw [if_neg e]; omega
theorem fs_op : ∀ (L : List Itm) (n : Nat), fs (opAt L) n ≤ uSum L
  | [], n => by
    have : ∀ n, fs (opAt []) n = 0 := by
      intro n
      induction n with
      | zero => rfl
      | succ n ih => unfold fs; rw [ih]; rfl
    rw [this]; exact Nat.zero_le _
  | p :: L, n => by
    have e : opAt (p :: L) = fun s => (if p.1 = s then p.2.2 else 0) + opAt L s := by funext s; simp [opAt]
    rw [e, fs_add]
    have h1 := fs_one p.1 p.2.2 n
    have h2 := fs_op L n
    simp only [uSum, List.map_cons, List.sum_cons] at h2 ⊢
    omega
theorem fs_mono (f : Nat → Nat) {n m : Nat} (h : n ≤ m) : fs f n ≤ fs f m := by
  induction m with
  | zero => rw [show n = 0 by omega]; exact Nat.le_refl _
  | succ m ih =>
    by_cases e : n = m + 1
    · rw [e]; exact Nat.le_refl _
    · exact Nat.le_trans (ih (by omega)) (Nat.le_add_right _ _)
theorem fSum_le (F : Nat → Nat) (x : Int32) : ∀ n, fSum F x n ≤ fs F n
  | 0 => Nat.le_refl _
  | n + 1 => by
    have := fSum_le F x n
    unfold fSum fs
    split <;> omega
theorem loU_le (w : Wk) (ℓ : Lst) (x : Int32) : ∀ n, loU w ℓ x n ≤ fSum ℓ.2.1 x 8 + fs (fun s => ℓ.2.2 s + opAt ℓ.1 s) n
  | 0 => Nat.le_refl _
  | n + 1 => by
    have := loU_le w ℓ x n
    unfold loU fs
    split <;> omega
theorem hiU_le (w : Wk) (ℓ : Lst) (x : Int32) : ∀ n, hiU w ℓ x n ≤ fSum ℓ.2.1 x 8 + fs (fun s => ℓ.2.2 s + opAt ℓ.1 s) n
  | 0 => Nat.le_refl _
  | n + 1 => by
    have := hiU_le w ℓ x n
    unfold hiU fs
    split <;> omega
theorem lohi {w : Wk} {ℓ : Lst} (hW : WW w) (hI : LI w ℓ) (x : Int32) : lo w ℓ x ≤ 2 ^ 60 ∧ hi w ℓ x ≤ 2 ^ 60 := by
  have h1 := loU_le w ℓ x w.1
  have h2 := hiU_le w ℓ x w.1
  have h3 := fSum_le ℓ.2.1 x 8
  rw [fs_add] at h1 h2
  have h4 := fs_mono ℓ.2.2 hW.n
  have h5 := fs_op ℓ.1 w.1
  have h6 := hI.2.2
  have e1 : fs (fun i => ℓ.2.2 i) w.1 = fs ℓ.2.2 w.1 := rfl
  unfold lo hi
  omega
section TSW
variable {Y : Env3} {ad : Nat → Nat} {μ : Mth} {pc : Nat} {ls : List (Option Value)} {st : List Value} {h : Mem}
theorem r_tsI {x : Int32} {dflt lo hi : Int} {offs : Array Int} {len : Nat} {off : Int} {tgt : Nat} (hd : decode μ.2.1 pc = .ok (.tableswitch dflt lo hi offs, len)) (h1 : ¬ x.toInt < lo) (h2 : ¬ hi < x.toInt) (ho : offs[(x.toInt - lo).toNat]? = some off) (ht : (pc : Int) + off = (tgt : Int)) (k : G Y ad μ tgt ls st h) : G Y ad μ pc ls (.int x :: st) h := by
  intro C H locs lsc hH hl
  exact lv_tableIn C.1 C.2.1 hd h1 h2 ho ht (k C H locs lsc hH hl)
theorem r_tsO {x : Int32} {dflt lo hi : Int} {offs : Array Int} {len : Nat} {tgt : Nat} (hd : decode μ.2.1 pc = .ok (.tableswitch dflt lo hi offs, len)) (hx : x.toInt < lo ∨ hi < x.toInt) (ht : (pc : Int) + dflt = (tgt : Int)) (k : G Y ad μ tgt ls st h) : G Y ad μ pc ls (.int x :: st) h := by
  intro C H locs lsc hH hl
  exact lv_tableOut C.1 C.2.1 hd hx ht (k C H locs lsc hH hl)
end TSW
theorem tw_X3_told : decode mX3_told.2.1 1 = .ok (.tableswitch 72 0 4 #[35, 43, 51, 59, 67], 35) := by decide +kernel
section CLASS4
variable {ad : Nat → Nat} {h : Mem} {σ : Sta}
theorem SI.nb {σ : Sta} (S : SI σ) : ∀ l, σ.2.2.2.1 = some l → l.1 < 2147483648 := fun l hl => by
  have h1 := (S.2.2.1 l hl).1
  have h2 := S.1.1
  omega
theorem SI.kb {σ : Sta} (S : SI σ) (k : Nat) : ∀ l, σ.2.2.2.2 k = some l → l.1 < 2147483648 := fun l hl => by
  have h1 := (S.2.2.2 k l hl).1
  have h2 := S.1.1
  omega
theorem K_X3_grow {x : Int32} (S : SI σ) (C : CRep h σ) : Con ad mX3_grow [.ref (ad 0), .int x] h (qI fun r h' => r = (fGrow σ x).1 ∧ CRep h' (fGrow σ x).2 ∧ Fr (fun a => a < 91) h h') := by
  have e5 := C.2.1
  have ho := S.2.1
  refine Con.mk vX3_grow.1 vX3_grow.2.2.2.2 [some (.ref (ad 0)), some (.int x)] rfl (Nat.le_of_ble_eq_true rfl) (fun Y hM => ?_)
  refine r_il aX3_grow_0 rfl ?_
  refine r_z_lt aX3_grow_1 (fun c1 => ?_) (fun c1 => ?_)
  · -- to 11
    refine r_ki aX3_grow_11 ?_
    exact r_iret hM aX3_grow_12 rfl (by unfold fGrow; rw [inN_lt0 c1]; exact ⟨rfl, C, Fr.rf⟩)
  · -- to 4
    refine r_il aX3_grow_4 rfl ?_
    refine r_ki aX3_grow_5 ?_
    refine r_c_le aX3_grow_8 (fun c8 => ?_) (fun c8 => ?_)
    · -- to 13
      obtain ⟨n, hn, rfl, hx⟩ := inN_le2 c1 c8 (by decide)
      refine r_al aX3_grow_13 rfl ?_
      refine r_getR aX3_grow_14 rfl rfl ?_
      refine r_VZ0 aX3_grow_17 vX0_exists rfl (K_ex isL55 C.2.2.2.1 S.nb) (fun x17 h17 Q17 => ?_)
      rw [Q17.1]
      refine r_b_ne aX3_grow_20 (fun c20 => ?_) (fun c20 => ?_)
      · -- to 26
        obtain ⟨l, hl⟩ := Option.isSome_iff_exists.mp (Q17.2.symm.trans c20)
        have LO1 := C.2.2.2.1
        rw [hl] at LO1
        obtain ⟨a1, a2, a3⟩ := LO1
        have hI := S.2.2.1 l hl
        refine r_al aX3_grow_26 rfl ?_
        refine r_al aX3_grow_27 rfl ?_
        refine r_getR aX3_grow_28 rfl rfl ?_
        refine r_al aX3_grow_31 rfl ?_
        refine r_gI aX3_grow_32 rfl rfl e5 ?_
        refine r_il aX3_grow_35 rfl ?_
        refine r_VI3 aX3_grow_36 vX3_goOnTimes rfl (K_X3_goOnTimes isL55 (by omega) S.ww C.1 a3 hI.2 C.2.2.1 ho a2 (by omega)) (fun x36 h36 Q36 => ?_)
        refine r_iret hM aX3_grow_39 rfl ?_
        unfold fGrow
        rw [hx]
        dsimp only
        rw [hl]
        obtain ⟨q1, q2, q3, q4, q5⟩ := Q36
        exact ⟨q1, C.now q5 (fun a z => Or.inl z) ⟨q3.trans a1, q4, q2⟩ (fun _ => C.2.2.2.2.2 (Or.inl (by rw [hl]; exact fun z => by cases z))), q5.mono (fun a z => z.elim (fun z => by have := z.2; omega) (fun z => by have := z.2; omega))⟩
      · -- to 23
        refine r_ki aX3_grow_23 ?_
        exact r_iret hM aX3_grow_25 rfl (by unfold fGrow; rw [hx]; dsimp only; rw [Option.isSome_eq_false_iff.mp (Q17.2.symm.trans c20) |> Option.isNone_iff_eq_none.mp]; exact ⟨rfl, C, Fr.rf⟩)
    · -- to 11
      refine r_ki aX3_grow_11 ?_
      exact r_iret hM aX3_grow_12 rfl (by unfold fGrow; rw [inN_nle c8 (by decide)]; exact ⟨rfl, C, Fr.rf⟩)
theorem fUntil_b {x y z : Int32} (H : inN x 256 = none ∨ inN y 61 = none ∨ inN z 501 = none) : fUntil σ x y z = (-1, σ) := by
  unfold fUntil
  split
  · next a b c ha hb hc =>
    rcases H with H | H | H
    · rw [ha] at H; cases H
    · rw [hb] at H; cases H
    · rw [hc] at H; cases H
  · rfl
theorem K_X3_until {x y z : Int32} (S : SI σ) (C : CRep h σ) : Con ad mX3_until [.ref (ad 0), .int x, .int y, .int z] h (qI fun r h' => r = (fUntil σ x y z).1 ∧ CRep h' (fUntil σ x y z).2 ∧ Fr (fun a => a < 91) h h') := by
  have e5 := C.2.1
  have ho := S.2.1
  have bad : fUntil σ x y z = (-1, σ) → (-1 : Int32) = (fUntil σ x y z).1 ∧ CRep h (fUntil σ x y z).2 ∧ Fr (fun a => a < 91) h h := fun E => by rw [E]; exact ⟨rfl, C, Fr.rf⟩
  refine Con.mk vX3_until.1 vX3_until.2.2.2.2 [some (.ref (ad 0)), some (.int x), some (.int y), some (.int z), none, none, none] rfl (Nat.le_of_ble_eq_true rfl) (fun Y hM => ?_)
  refine r_il aX3_until_0 rfl ?_
  refine r_SZ1 aX3_until_1 vX3_isSet (K_X3_isSet) (fun x1 h1 Q1 => ?_)
  rw [Q1.1]
  refine r_b_eq aX3_until_4 (fun c4 => ?_) (fun c4 => ?_)
  · -- to 28
    refine r_ki aX3_until_28 ?_
    exact r_iret hM aX3_until_29 rfl (bad (fUntil_b (Or.inl (inN_no (Q1.2.symm.trans c4)))))
  · -- to 7
    refine r_il aX3_until_7 rfl ?_
    refine r_z_lt aX3_until_8 (fun c8 => ?_) (fun c8 => ?_)
    · -- to 28
      refine r_ki aX3_until_28 ?_
      exact r_iret hM aX3_until_29 rfl (bad (fUntil_b (Or.inr (Or.inl (inN_lt0 c8)))))
    · -- to 11
      refine r_il aX3_until_11 rfl ?_
      refine r_ki aX3_until_12 ?_
      refine r_c_gt aX3_until_14 (fun c14 => ?_) (fun c14 => ?_)
      · -- to 28
        refine r_ki aX3_until_28 ?_
        exact r_iret hM aX3_until_29 rfl (bad (fUntil_b (Or.inr (Or.inl (inN_gt c14 (by decide))))))
      · -- to 17
        refine r_il aX3_until_17 rfl ?_
        refine r_z_lt aX3_until_18 (fun c18 => ?_) (fun c18 => ?_)
        · -- to 28
          refine r_ki aX3_until_28 ?_
          exact r_iret hM aX3_until_29 rfl (bad (fUntil_b (Or.inr (Or.inr (inN_lt0 c18)))))
        · -- to 21
          refine r_il aX3_until_21 rfl ?_
          refine r_ki aX3_until_22 ?_
          refine r_c_le aX3_until_25 (fun c25 => ?_) (fun c25 => ?_)
          · -- to 30
            obtain ⟨b, -, -, hxb⟩ := inN_ex (by decide) (Q1.2.symm.trans c4)
            obtain ⟨v, hv, rfl, hyv⟩ := inN_ex (by decide) (inN_le c8 c14 (by decide))
            obtain ⟨n, hn, rfl, hzn⟩ := inN_le2 c18 c25 (by decide)
            have E0 : fUntil σ x (nI v) (nI n) = match σ.2.2.2.1 with
                | none => (-2, σ)
                | some l => (nI (untN σ.1 σ.2.2.1 σ.2.1 x (narr v) n l.2.2).1, setNow σ (some (l.1, l.2.1 + (untN σ.1 σ.2.2.1 σ.2.1 x (narr v) n l.2.2).1, (untN σ.1 σ.2.2.1 σ.2.1 x (narr v) n l.2.2).2))) := by
              unfold fUntil
              rw [hxb, hyv, hzn]
              rfl
            rw [E0] at hM
            clear E0 bad hxb hyv hzn c8 c14 c18 c25 Q1
            refine r_al aX3_until_30 rfl ?_
            refine r_getR aX3_until_31 rfl rfl ?_
            refine r_VZ0 aX3_until_34 vX0_exists rfl (K_ex isL55 C.2.2.2.1 S.nb) (fun x34 h34 Q34 => ?_)
            rw [Q34.1]
            refine r_b_ne aX3_until_37 (fun c37 => ?_) (fun c37 => ?_)
            · obtain ⟨l, hl⟩ := Option.isSome_iff_exists.mp (Q34.2.symm.trans c37)
              rw [hl] at hM
              dsimp only at hM
              have LO1 := C.2.2.2.1
              rw [hl] at LO1
              obtain ⟨a1, a2, a3⟩ := LO1
              have hI := S.2.2.1 l hl
              have hV := C.2.2.2.2.2 (Or.inl (by rw [hl]; exact fun z => by cases z))
              have key : ∀ (k i : Nat) (g : Mem) (m : Lst), n - i = k → i ≤ n → untN σ.1 σ.2.2.1 σ.2.1 x (narr v) n l.2.2 = (i + (untN σ.1 σ.2.2.1 σ.2.1 x (narr v) k m).1, (untN σ.1 σ.2.2.1 σ.2.1 x (narr v) k m).2) → LR g 55 m.1 m.2.1 m.2.2 → LI σ.1 m → g.1 55 0 = h.1 55 0 → g.1 55 1 = nI (l.2.1 + i) → Fr (inLS 55) h g → G Y ad mX3_until 54 [some (.ref (ad 0)), some (.int x), some (.int (nI v)), some (.int (nI n)), some (.long (narr v)), none, some (.int (nI i))] [] g := by
                intro k
                induction k with
                | zero =>
                  intro i g m hk0 hi hE hLg hIg g0 g1 hF
                  have e : i = n := by omega
                  subst e
                  refine r_il aX3_until_54 rfl ?_
                  refine r_il aX3_until_56 rfl ?_
                  refine r_n_ge aX3_until_57 (by omega) (by omega) (fun c57 => ?_) (fun c57 => by omega)
                  refine r_il aX3_until_99 rfl ?_
                  refine r_iret hM aX3_until_100 rfl ?_
                  rw [hE]
                  exact ⟨rfl, C.now hF (fun a z => Or.inl z) ⟨g0.trans a1, g1, hLg⟩ (fun _ => hV), hF.mono (fun a z => z.elim (fun z => by have := z.2; omega) (fun z => by have := z.2; omega))⟩
                | succ k ih =>
                  intro i g m hk0 hi hE hLg hIg g0 g1 hF
                  have hq : ∀ a, inLS 55 a → 51 ≤ a := fun a z => z.elim (fun z => by have := z.1; omega) (fun z => z.1)
                  have hRg := C.1.fr hF (fun a z => Or.inl (by have := hq a z; omega))
                  have hVg := hV.fr hF (fun a z => Or.inr (hq a z))
                  have e0 : g.1 0 = h.1 0 := (hF 0 (fun z => by have := hq 0 z; omega)).1
                  have o1 : n - (i + 1) = k := by omega
                  have o2 : i + 1 ≤ n := by omega
                  rw [untN] at hE
                  refine r_il aX3_until_54 rfl ?_
                  refine r_il aX3_until_56 rfl ?_
                  refine r_n_ge aX3_until_57 (by omega) (by omega) (fun c57 => by omega) (fun c57 => ?_)
                  refine r_al aX3_until_60 rfl ?_
                  refine r_al aX3_until_61 rfl ?_
                  refine r_getR aX3_until_62 rfl rfl ?_
                  refine r_il aX3_until_65 rfl ?_
                  refine r_VL2 aX3_until_66 vX3_width rfl (K_X3_width isL55 S.ww hRg hVg hLg) (fun x66 h66 Q66 => ?_)
                  rw [Q66.1, Q66.2]
                  refine r_ll aX3_until_69 rfl ?_
                  refine r_l_le aX3_until_71 aX3_until_72 (fun c71 => ?_) (fun c71 => ?_)
                  · rw [if_pos c71] at hE
                    refine r_il aX3_until_90 rfl ?_
                    refine r_iret hM aX3_until_92 rfl ?_
                    rw [hE]
                    exact ⟨rfl, C.now hF (fun a z => Or.inl z) ⟨g0.trans a1, g1, hLg⟩ (fun _ => hV), hF.mono (fun a z => z.elim (fun z => by have := z.2; omega) (fun z => by have := z.2; omega))⟩
                  · rw [if_neg c71] at hE
                    refine r_al aX3_until_75 rfl ?_
                    refine r_al aX3_until_76 rfl ?_
                    refine r_getR aX3_until_77 rfl rfl ?_
                    refine r_al aX3_until_80 rfl ?_
                    refine r_gI aX3_until_81 rfl rfl (v := nI σ.2.1) (by rw [e0]; exact e5) ?_
                    refine r_VZ2 aX3_until_84 vX3_goOnOnce rfl (K_X3_goOnOnce isL55 (by omega) S.ww hRg hLg hIg (by rw [e0]; exact C.2.2.1) ho g1) (fun x84 h84 Q84 => ?_)
                    obtain ⟨q1, q2, q3, q4, q5⟩ := Q84
                    cases hg : goS σ.1 σ.2.2.1 σ.2.1 m with
                    | none =>
                      rw [hg] at q1 q2 q4 hE
                      refine r_b_ne aX3_until_87 (fun c87 => by rw [q1] at c87; cases c87) (fun c87 => ?_)
                      refine r_il aX3_until_90 rfl ?_
                      refine r_iret hM aX3_until_92 rfl ?_
                      rw [hE]
                      exact ⟨rfl, C.now (hF.tr q5) (fun a z => Or.inl z) ⟨(q3.trans g0).trans a1, q4, q2⟩ (fun _ => hV), (hF.tr q5).mono (fun a z => z.elim (fun z => by have := z.2; omega) (fun z => by have := z.2; omega))⟩
                    | some m' =>
                      rw [hg] at q1 q2 q4 hE
                      refine r_b_ne aX3_until_87 (fun c87 => ?_) (fun c87 => by rw [q1] at c87; cases c87)
                      refine r_in6 aX3_until_93 rfl ?_
                      refine r_go aX3_until_96 ?_
                      exact ih (i + 1) h84 m' o1 o2 (by rw [hE]; dsimp only; rw [show i + 1 + (untN σ.1 σ.2.2.1 σ.2.1 x (narr v) k m').1 = i + ((untN σ.1 σ.2.2.1 σ.2.1 x (narr v) k m').1 + 1) by omega]) q2 (goS_li S.ww hIg hg) (q3.trans g0) (by rw [q4]; rfl) (hF.tr q5)
              refine r_kl aX3_until_43 ?_
              refine r_ki aX3_until_44 ?_
              refine r_il aX3_until_46 rfl ?_
              refine r_isubN aX3_until_47 (by omega) ?_
              refine r_lshl aX3_until_48 ?_
              refine r_ls4 aX3_until_49 rfl ?_
              refine r_ki aX3_until_51 ?_
              refine r_is6 aX3_until_52 rfl ?_
              exact key n 0 h l.2.2 rfl (by omega) (by rw [Nat.zero_add]) a3 hI.2 rfl a2 Fr.rf
            · rw [Option.isNone_iff_eq_none.mp (Option.isSome_eq_false_iff.mp (Q34.2.symm.trans c37))] at hM
              refine r_ki aX3_until_40 ?_
              exact r_iret hM aX3_until_42 rfl ⟨rfl, C, Fr.rf⟩
          · -- to 28
            refine r_ki aX3_until_28 ?_
            exact r_iret hM aX3_until_29 rfl (bad (fUntil_b (Or.inr (Or.inr (inN_nle c25 (by decide))))))
theorem K_X3_end {x y : Int32} (S : SI σ) (C : CRep h σ) : Con ad mX3_end [.ref (ad 0), .int x, .int y] h (qL fun r h' => r = fEnd σ x y ∧ CRep h' σ ∧ Fr (fun a => a < 91) h h') := by
  refine Con.mk vX3_end.1 vX3_end.2.2.2.2 [some (.ref (ad 0)), some (.int x), some (.int y)] rfl (Nat.le_of_ble_eq_true rfl) (fun Y hM => ?_)
  refine r_il aX3_end_0 rfl ?_
  refine r_SZ1 aX3_end_1 vX3_isSet (K_X3_isSet) (fun x1 h1 Q1 => ?_)
  rw [Q1.1]
  refine r_b_eq aX3_end_4 (fun c4 => ?_) (fun c4 => ?_)
  · -- to 24
    refine r_kl aX3_end_24 ?_
    exact r_lret hM aX3_end_25 rfl ⟨by unfold fEnd; rw [inN_no (Q1.2.symm.trans c4)], C, Fr.rf⟩
  · -- to 7
    refine r_il aX3_end_7 rfl ?_
    refine r_SZ1 aX3_end_8 vX3_isSide (K_X3_isSide) (fun x8 h8 Q8 => ?_)
    rw [Q8.1]
    refine r_b_eq aX3_end_11 (fun c11 => ?_) (fun c11 => ?_)
    · -- to 24
      refine r_kl aX3_end_24 ?_
      exact r_lret hM aX3_end_25 rfl ⟨by obtain ⟨a, -, -, ha⟩ := inN_ex (by decide) (Q1.2.symm.trans c4); unfold fEnd; rw [ha, inN_no (Q8.2.symm.trans c11)], C, Fr.rf⟩
    · -- to 14
      refine r_al aX3_end_14 rfl ?_
      refine r_getR aX3_end_15 rfl rfl ?_
      refine r_VZ0 aX3_end_18 vX0_exists rfl (K_ex isL55 C.2.2.2.1 S.nb) (fun x18 h18 Q18 => ?_)
      rw [Q18.1]
      obtain ⟨a, -, -, ha⟩ := inN_ex (by decide) (Q1.2.symm.trans c4)
      obtain ⟨b, hb, rfl, hb2⟩ := inN_ex (by decide) (Q8.2.symm.trans c11)
      refine r_b_ne aX3_end_21 (fun c21 => ?_) (fun c21 => ?_)
      · -- to 26
        obtain ⟨l, hl⟩ := Option.isSome_iff_exists.mp (Q18.2.symm.trans c21)
        have LO1 := C.2.2.2.1
        rw [hl] at LO1
        obtain ⟨a1, a2, a3⟩ := LO1
        have hV := C.2.2.2.2.2 (Or.inl (by rw [hl]; exact fun z => by cases z))
        refine r_il aX3_end_26 rfl ?_
        refine r_nz_ne aX3_end_27 (by omega) (fun c27 => ?_) (fun c27 => ?_)
        · -- to 42
          refine r_al aX3_end_42 rfl ?_
          refine r_al aX3_end_43 rfl ?_
          refine r_getR aX3_end_44 rfl rfl ?_
          refine r_il aX3_end_47 rfl ?_
          refine r_VL2 aX3_end_48 vX3_high rfl (K_X3_high isL55 S.ww C.1 hV a3) (fun x48 h48 Q48 => ?_)
          rw [Q48.1, Q48.2]
          exact r_lret hM aX3_end_51 rfl ⟨by unfold fEnd; rw [ha, hb2, hl, show b = 1 by omega]; rfl, C, Fr.rf⟩
        · -- to 30
          refine r_al aX3_end_30 rfl ?_
          refine r_al aX3_end_31 rfl ?_
          refine r_getR aX3_end_32 rfl rfl ?_
          refine r_il aX3_end_35 rfl ?_
          refine r_VL2 aX3_end_36 vX3_low rfl (K_X3_low isL55 S.ww C.1 hV a3) (fun x36 h36 Q36 => ?_)
          rw [Q36.1, Q36.2]
          refine r_go aX3_end_39 ?_
          exact r_lret hM aX3_end_51 rfl ⟨by unfold fEnd; rw [ha, hb2, hl, c27]; rfl, C, Fr.rf⟩
      · -- to 24
        refine r_kl aX3_end_24 ?_
        exact r_lret hM aX3_end_25 rfl ⟨by unfold fEnd; rw [ha, hb2, Option.isNone_iff_eq_none.mp (Option.isSome_eq_false_iff.mp (Q18.2.symm.trans c21))]; rcases (by omega : b = 0 ∨ b = 1) with z | z <;> (rw [z]; rfl), C, Fr.rf⟩
theorem fGiven_b {x y z : Int32} (H : inN x 256 = none ∨ inN y 256 = none ∨ inN z 2 = none) : fGiven σ x y z = -1 := by
  unfold fGiven
  split
  · next a b c ha hb hc =>
    rcases H with H | H | H
    · rw [ha] at H; cases H
    · rw [hb] at H; cases H
    · rw [hc] at H; cases H
  · rfl
theorem K_X3_given {x y z : Int32} (S : SI σ) (C : CRep h σ) : Con ad mX3_given [.ref (ad 0), .int x, .int y, .int z] h (qI fun r h' => r = fGiven σ x y z ∧ CRep h' σ ∧ Fr (fun a => a < 91) h h') := by
  refine Con.mk vX3_given.1 vX3_given.2.2.2.2 [some (.ref (ad 0)), some (.int x), some (.int y), some (.int z), none, none] rfl (Nat.le_of_ble_eq_true rfl) (fun Y hM => ?_)
  refine r_il aX3_given_0 rfl ?_
  refine r_SZ1 aX3_given_1 vX3_isSet (K_X3_isSet) (fun x1 h1 Q1 => ?_)
  rw [Q1.1]
  refine r_b_eq aX3_given_4 (fun c4 => ?_) (fun c4 => ?_)
  · -- to 21
    refine r_ki aX3_given_21 ?_
    exact r_iret hM aX3_given_22 rfl ⟨(fGiven_b (Or.inl (inN_no (Q1.2.symm.trans c4)))).symm, C, Fr.rf⟩
  · -- to 7
    refine r_il aX3_given_7 rfl ?_
    refine r_SZ1 aX3_given_8 vX3_isSet (K_X3_isSet) (fun x8 h8 Q8 => ?_)
    rw [Q8.1]
    refine r_b_eq aX3_given_11 (fun c11 => ?_) (fun c11 => ?_)
    · -- to 21
      refine r_ki aX3_given_21 ?_
      exact r_iret hM aX3_given_22 rfl ⟨(fGiven_b (Or.inr (Or.inl (inN_no (Q8.2.symm.trans c11))))).symm, C, Fr.rf⟩
    · -- to 14
      refine r_il aX3_given_14 rfl ?_
      refine r_SZ1 aX3_given_15 vX3_isSide (K_X3_isSide) (fun x15 h15 Q15 => ?_)
      rw [Q15.1]
      refine r_b_ne aX3_given_18 (fun c18 => ?_) (fun c18 => ?_)
      · -- to 23
        refine r_al aX3_given_23 rfl ?_
        refine r_getR aX3_given_24 rfl rfl ?_
        refine r_VZ0 aX3_given_27 vX0_exists rfl (K_ex isL55 C.2.2.2.1 S.nb) (fun x27 h27 Q27 => ?_)
        rw [Q27.1]
        obtain ⟨a, -, -, ha⟩ := inN_ex (by decide) (Q1.2.symm.trans c4)
        obtain ⟨b, -, -, hb⟩ := inN_ex (by decide) (Q8.2.symm.trans c11)
        obtain ⟨d, hd, rfl, hd2⟩ := inN_ex (by decide) (Q15.2.symm.trans c18)
        refine r_b_ne aX3_given_30 (fun c30 => ?_) (fun c30 => ?_)
        · -- to 36
          obtain ⟨l, hl⟩ := Option.isSome_iff_exists.mp (Q27.2.symm.trans c30)
          have LO1 := C.2.2.2.1
          rw [hl] at LO1
          obtain ⟨a1, a2, a3⟩ := LO1
          have hV := C.2.2.2.2.2 (Or.inl (by rw [hl]; exact fun z => by cases z))
          have hI := (S.2.2.1 l hl).2
          have b1 := lohi S.ww hI (x &&& y)
          have b2 := lohi S.ww hI (y &&& (x ^^^ -1))
          refine r_il aX3_given_36 rfl ?_
          refine r_il aX3_given_37 rfl ?_
          refine r_iand aX3_given_38 ?_
          refine r_is4 aX3_given_39 rfl ?_
          refine r_il aX3_given_41 rfl ?_
          refine r_il aX3_given_42 rfl ?_
          refine r_ki aX3_given_43 ?_
          refine r_ixor aX3_given_44 ?_
          refine r_iand aX3_given_45 ?_
          refine r_is5 aX3_given_46 rfl ?_
          refine r_il aX3_given_48 rfl ?_
          refine r_nz_ne aX3_given_49 (by omega) (fun c49 => ?_) (fun c49 => ?_)
          · -- to 76
            refine r_al aX3_given_76 rfl ?_
            refine r_al aX3_given_77 rfl ?_
            refine r_getR aX3_given_78 rfl rfl ?_
            refine r_il aX3_given_81 rfl ?_
            refine r_VL2 aX3_given_83 vX3_high rfl (K_X3_high isL55 S.ww C.1 hV a3) (fun x83 h83 Q83 => ?_)
            rw [Q83.1, Q83.2]
            refine r_al aX3_given_86 rfl ?_
            refine r_al aX3_given_87 rfl ?_
            refine r_getR aX3_given_88 rfl rfl ?_
            refine r_il aX3_given_91 rfl ?_
            refine r_VL2 aX3_given_93 vX3_low rfl (K_X3_low isL55 S.ww C.1 hV a3) (fun x93 h93 Q93 => ?_)
            rw [Q93.1, Q93.2]
            refine r_SI2 aX3_given_96 vX3_greatestPart (K_X3_greatestPart (by omega) (by omega)) (fun x96 h96 Q96 => ?_)
            rw [Q96.1, Q96.2]
            exact r_iret hM aX3_given_99 rfl ⟨by unfold fGiven; rw [ha, hb, hd2]; dsimp only; rw [hl]; dsimp only; rw [if_neg c49], C, Fr.rf⟩
          · -- to 52
            refine r_al aX3_given_52 rfl ?_
            refine r_al aX3_given_53 rfl ?_
            refine r_getR aX3_given_54 rfl rfl ?_
            refine r_il aX3_given_57 rfl ?_
            refine r_VL2 aX3_given_59 vX3_low rfl (K_X3_low isL55 S.ww C.1 hV a3) (fun x59 h59 Q59 => ?_)
            rw [Q59.1, Q59.2]
            refine r_al aX3_given_62 rfl ?_
            refine r_al aX3_given_63 rfl ?_
            refine r_getR aX3_given_64 rfl rfl ?_
            refine r_il aX3_given_67 rfl ?_
            refine r_VL2 aX3_given_69 vX3_high rfl (K_X3_high isL55 S.ww C.1 hV a3) (fun x69 h69 Q69 => ?_)
            rw [Q69.1, Q69.2]
            refine r_SI2 aX3_given_72 vX3_leastPart (K_X3_leastPart (by omega) (by omega)) (fun x72 h72 Q72 => ?_)
            rw [Q72.1, Q72.2]
            exact r_iret hM aX3_given_75 rfl ⟨by unfold fGiven; rw [ha, hb, hd2]; dsimp only; rw [hl]; dsimp only; rw [if_pos c49], C, Fr.rf⟩
        · -- to 33
          refine r_ki aX3_given_33 ?_
          exact r_iret hM aX3_given_35 rfl ⟨by unfold fGiven; rw [ha, hb, hd2]; dsimp only; rw [Option.isNone_iff_eq_none.mp (Option.isSome_eq_false_iff.mp (Q27.2.symm.trans c30))], C, Fr.rf⟩
      · -- to 21
        refine r_ki aX3_given_21 ?_
        exact r_iret hM aX3_given_22 rfl ⟨(fGiven_b (Or.inr (Or.inr (inN_no (Q15.2.symm.trans c18))))).symm, C, Fr.rf⟩
theorem fBest_b {x y : Int32} (H : inN x 256 = none ∨ inN y 201 = none) : fBest σ x y = -1 := by
  unfold fBest
  split
  · next a b ha hb =>
    rcases H with H | H
    · rw [ha] at H; cases H
    · rw [hb] at H; cases H
  · rfl
/-- the trial's cells are free -/
theorem CRep.tri {h h' : Mem} {σ : Sta} (C : CRep h σ) (hf : Fr (inLS 62) h h') : CRep h' σ := by
  have q : ∀ a, inLS 62 a → 51 ≤ a ∧ a < 55 ∨ 62 ≤ a ∧ a < 69 := fun a z => z.elim Or.inr Or.inl
  have e0 : h'.1 0 = h.1 0 := (hf 0 (fun z => by have := q 0 z; omega)).1
  exact ⟨C.1.fr hf (fun a z => by have := q a z; omega), by rw [e0]; exact C.2.1, by rw [e0]; exact C.2.2.1, C.2.2.2.1.fr hf (fun a z => by have := q a z; omega), fun k hk => (C.2.2.2.2.1 k hk).fr hf (fun a z => by have := q a z; omega), fun z => (C.2.2.2.2.2 z).fr hf (fun a z => by have := q a z; omega)⟩
theorem K_X3_best {x y : Int32} (S : SI σ) (C : CRep h σ) : Con ad mX3_best [.ref (ad 0), .int x, .int y] h (qI fun r h' => r = fBest σ x y ∧ CRep h' σ ∧ Fr (fun a => a < 91) h h') := by
  have f91 : ∀ a, inLS 62 a → a < 91 := fun a z => z.elim (fun z => by have := z.2; omega) (fun z => by have := z.2; omega)
  refine Con.mk vX3_best.1 vX3_best.2.2.2.2 [some (.ref (ad 0)), some (.int x), some (.int y), none, none, none, none, none, none] rfl (Nat.le_of_ble_eq_true rfl) (fun Y hM => ?_)
  refine r_il aX3_best_0 rfl ?_
  refine r_SZ1 aX3_best_1 vX3_isSet (K_X3_isSet) (fun x1 h1 Q1 => ?_)
  rw [Q1.1]
  refine r_b_eq aX3_best_4 (fun c4 => ?_) (fun c4 => ?_)
  · -- to 18
    refine r_ki aX3_best_18 ?_
    exact r_iret hM aX3_best_19 rfl ⟨(fBest_b (Or.inl (inN_no (Q1.2.symm.trans c4)))).symm, C, Fr.rf⟩
  · -- to 7
    refine r_il aX3_best_7 rfl ?_
    refine r_z_lt aX3_best_8 (fun c8 => ?_) (fun c8 => ?_)
    · -- to 18
      refine r_ki aX3_best_18 ?_
      exact r_iret hM aX3_best_19 rfl ⟨(fBest_b (Or.inr (inN_lt0 c8))).symm, C, Fr.rf⟩
    · -- to 11
      refine r_il aX3_best_11 rfl ?_
      refine r_ki aX3_best_12 ?_
      refine r_c_le aX3_best_15 (fun c15 => ?_) (fun c15 => ?_)
      · -- to 20
        refine r_al aX3_best_20 rfl ?_
        refine r_getR aX3_best_21 rfl rfl ?_
        refine r_VZ0 aX3_best_24 vX0_exists rfl (K_ex isL55 C.2.2.2.1 S.nb) (fun x24 h24 Q24 => ?_)
        rw [Q24.1]
        obtain ⟨a, -, -, ha⟩ := inN_ex (by decide) (Q1.2.symm.trans c4)
        obtain ⟨n, hn, rfl, hn2⟩ := inN_le2 c8 c15 (by decide)
        refine r_b_ne aX3_best_27 (fun c27 => ?_) (fun c27 => ?_)
        · -- to 33
          obtain ⟨l, hl⟩ := Option.isSome_iff_exists.mp (Q24.2.symm.trans c27)
          have E0 : fBest σ x (nI n) = if triW σ l.1 x n 1 < triW σ l.1 x n 0 then (if triW σ l.1 x n 2 < triW σ l.1 x n 1 then nI 2 else nI 1) else (if triW σ l.1 x n 2 < triW σ l.1 x n 0 then nI 2 else nI 0) := by
            unfold fBest
            rw [ha, hn2]
            dsimp only
            rw [hl]
          rw [E0] at hM
          clear E0 ha hn2 c8 c15 Q1 Q24
          have tr : ∀ (g : Mem) (kind : Nat), kind ≤ 2 → CRep g σ → Con ad mX3_trialWidth [.ref (ad 0), .int (nI kind), .int x, .int (nI n)] g (qL fun y h' => y = triW σ l.1 x n kind ∧ Fr (inLS 62) g h') := by
            intro g kind hk Cg
            have LO1 := Cg.2.2.2.1
            rw [hl] at LO1
            exact K_X3_trialWidth rfl S.ww Cg.1 (Cg.2.2.2.2.2 (Or.inl (by rw [hl]; exact fun z => by cases z))) Cg.2.2.1 LO1.1 (S.2.2.1 l hl).1 hk (by omega)
          have fin : ∀ (g : Mem) (bk : Nat) (bw : Int64), Fr (fun a => a < 91) h g → CRep g σ → nI bk = (if triW σ l.1 x n 1 < triW σ l.1 x n 0 then (if triW σ l.1 x n 2 < triW σ l.1 x n 1 then nI 2 else nI 1) else (if triW σ l.1 x n 2 < triW σ l.1 x n 0 then nI 2 else nI 0)) → G Y ad mX3_best 47 [some (.ref (ad 0)), some (.int x), some (.int (nI n)), some (.int (nI bk)), some (.long bw), none, some (.int (nI 3)), none, none] [] g := by
            intro g bk bw hF Cg hE
            refine r_il aX3_best_47 rfl ?_
            refine r_ki aX3_best_49 ?_
            refine r_n_gt aX3_best_50 (by decide) (by decide) (fun c50 => ?_) (fun c50 => by omega)
            refine r_il aX3_best_84 rfl ?_
            exact r_iret hM aX3_best_85 rfl ⟨hE, Cg, hF⟩
          have step : ∀ (g : Mem) (kd bk : Nat) (bw : Int64), kd ≤ 2 → Fr (fun a => a < 91) h g → CRep g σ → (∀ g', Fr (fun a => a < 91) h g' → CRep g' σ → G Y ad mX3_best 47 [some (.ref (ad 0)), some (.int x), some (.int (nI n)), some (.int (nI (if triW σ l.1 x n kd < bw then kd else bk))), some (.long (if triW σ l.1 x n kd < bw then triW σ l.1 x n kd else bw)), none, some (.int (nI (kd + 1))), none, none] [] g') → G Y ad mX3_best 47 [some (.ref (ad 0)), some (.int x), some (.int (nI n)), some (.int (nI bk)), some (.long bw), none, some (.int (nI kd)), none, none] [] g := by
            intro g kd bk bw hkd hF Cg out
            refine r_il aX3_best_47 rfl ?_
            refine r_ki aX3_best_49 ?_
            refine r_n_gt aX3_best_50 (by omega) (by decide) (fun c50 => by omega) (fun c50 => ?_)
            refine r_al aX3_best_53 rfl ?_
            refine r_il aX3_best_54 rfl ?_
            refine r_il aX3_best_56 rfl ?_
            refine r_il aX3_best_57 rfl ?_
            refine r_VL3 aX3_best_58 vX3_trialWidth rfl (tr g kd hkd Cg) (fun x58 h58 Q58 => ?_)
            obtain ⟨q1, q2⟩ := Q58
            subst q1
            have hF2 := hF.tr (q2.mono f91)
            refine r_ls7 aX3_best_61 rfl ?_
            refine r_ll aX3_best_63 rfl ?_
            refine r_ll aX3_best_65 rfl ?_
            refine r_l_ge aX3_best_67 aX3_best_68 (fun c67 => ?_) (fun c67 => ?_)
            · have hn : ¬ triW σ l.1 x n kd < bw := fun z => by rw [Int64.lt_iff_toInt_lt] at z; rw [Int64.le_iff_toInt_le] at c67; omega
              have := out h58 hF2 (Cg.tri q2)
              rw [if_neg hn, if_neg hn] at this
              refine r_in6 aX3_best_78 rfl ?_
              refine r_go aX3_best_81 ?_
              exact r_f7 this
            · have hn : triW σ l.1 x n kd < bw := by rw [Int64.lt_iff_toInt_lt]; rw [Int64.le_iff_toInt_le] at c67; omega
              have := out h58 hF2 (Cg.tri q2)
              rw [if_pos hn, if_pos hn] at this
              refine r_ll aX3_best_71 rfl ?_
              refine r_ls4 aX3_best_73 rfl ?_
              refine r_il aX3_best_75 rfl ?_
              refine r_is3 aX3_best_77 rfl ?_
              refine r_in6 aX3_best_78 rfl ?_
              refine r_go aX3_best_81 ?_
              exact r_f7 this
          refine r_ki aX3_best_33 ?_
          refine r_is3 aX3_best_34 rfl ?_
          refine r_al aX3_best_35 rfl ?_
          refine r_ki aX3_best_36 ?_
          refine r_il aX3_best_37 rfl ?_
          refine r_il aX3_best_38 rfl ?_
          refine r_VL3 aX3_best_39 vX3_trialWidth rfl (tr h 0 (by omega) C) (fun x39 h39 Q39 => ?_)
          obtain ⟨q1, q2⟩ := Q39
          subst q1
          refine r_ls4 aX3_best_42 rfl ?_
          refine r_ki aX3_best_44 ?_
          refine r_is6 aX3_best_45 rfl ?_
          refine step h39 1 0 _ (by omega) (q2.mono f91) (C.tri q2) (fun g1 F1 C1 => ?_)
          refine step g1 2 _ _ (by omega) F1 C1 (fun g2 F2 C2 => ?_)
          refine fin g2 _ _ F2 C2 ?_
          by_cases z1 : triW σ l.1 x n 1 < triW σ l.1 x n 0
          · rw [if_pos z1, if_pos z1, if_pos z1]
            by_cases z2 : triW σ l.1 x n 2 < triW σ l.1 x n 1
            · rw [if_pos z2, if_pos z2]
            · rw [if_neg z2, if_neg z2]
          · rw [if_neg z1, if_neg z1, if_neg z1]
            by_cases z2 : triW σ l.1 x n 2 < triW σ l.1 x n 0
            · rw [if_pos z2, if_pos z2]
            · rw [if_neg z2, if_neg z2]
        · -- to 30
          refine r_ki aX3_best_30 ?_
          exact r_iret hM aX3_best_32 rfl ⟨by unfold fBest; rw [ha, hn2]; dsimp only; rw [Option.isNone_iff_eq_none.mp (Option.isSome_eq_false_iff.mp (Q24.2.symm.trans c27))], C, Fr.rf⟩
      · -- to 18
        refine r_ki aX3_best_18 ?_
        exact r_iret hM aX3_best_19 rfl ⟨(fBest_b (Or.inr (inN_nle c15 (by decide)))).symm, C, Fr.rf⟩
end CLASS4
end
section
section CLASS5
variable {ad : Nat → Nat} {h : Mem} {σ : Sta}
theorem isN {α : Type} {o : Option α} (h : o.isSome = false) : o = none := Option.isNone_iff_eq_none.mp (Option.isSome_eq_false_iff.mp h)
theorem K_X3_item {x y : Int32} (S : SI σ) (C : CRep h σ) : Con ad mX3_item [.ref (ad 0), .int x, .int y] h (qI fun r h' => r = fItem σ x y ∧ CRep h' σ ∧ Fr (fun a => a < 91) h h') := by
  refine Con.mk vX3_item.1 vX3_item.2.2.2.2 [some (.ref (ad 0)), some (.int x), some (.int y)] rfl (Nat.le_of_ble_eq_true rfl) (fun Y hM => ?_)
  refine r_il aX3_item_0 rfl ?_
  refine r_z_lt aX3_item_1 (fun c1 => ?_) (fun c1 => ?_)
  · -- to 9
    refine r_ki aX3_item_9 ?_
    exact r_iret hM aX3_item_10 rfl ⟨by unfold fItem; rw [inN_lt0 c1], C, Fr.rf⟩
  · -- to 4
    refine r_il aX3_item_4 rfl ?_
    refine r_ki aX3_item_5 ?_
    refine r_c_le aX3_item_6 (fun c6 => ?_) (fun c6 => ?_)
    · -- to 11
      obtain ⟨k, hk, rfl, hy⟩ := inN_le2 c1 c6 (by decide)
      refine r_al aX3_item_11 rfl ?_
      refine r_getR aX3_item_12 rfl rfl ?_
      refine r_VZ0 aX3_item_15 vX0_exists rfl (K_ex isL55 C.2.2.2.1 S.nb) (fun x15 h15 Q15 => ?_)
      rw [Q15.1]
      refine r_b_ne aX3_item_18 (fun c18 => ?_) (fun c18 => ?_)
      · -- to 24
        obtain ⟨l, hl⟩ := Option.isSome_iff_exists.mp (Q15.2.symm.trans c18)
        have LO1 := C.2.2.2.1
        rw [hl] at LO1
        obtain ⟨a1, a2, a3⟩ := LO1
        have hI := (S.2.2.1 l hl).2
        have h60 := hI.1
        have E0 : fItem σ x (nI k) = match inN x l.2.2.1.length with
            | none => -1
            | some i => if k = 0 then nI (gi l.2.2.1 i).1 else nI (gi l.2.2.1 i).2.1 := by
          unfold fItem
          rw [hy]
          dsimp only
          rw [hl]
          rfl
        rw [E0] at hM
        refine r_al aX3_item_24 rfl ?_
        refine r_getR aX3_item_25 rfl rfl ?_
        refine r_il aX3_item_28 rfl ?_
        refine r_VZ1 aX3_item_29 vX0_hasItem rfl (K_X0_hasItem isL55 a3.1 h60) (fun x29 h29 Q29 => ?_)
        rw [Q29.1]
        refine r_b_ne aX3_item_32 (fun c32 => ?_) (fun c32 => ?_)
        · -- to 37
          obtain ⟨i, hi, rfl⟩ := Q29.2.mp c32
          clear Q29
          rw [inN_nI hi (by omega)] at hM
          dsimp only at hM
          obtain ⟨e1, e2, e3⟩ := a3.2.1.gi hi
          rw [n0] at e1 e2 e3
          refine r_il aX3_item_37 rfl ?_
          refine r_nz_ne aX3_item_38 (by omega) (fun c38 => ?_) (fun c38 => ?_)
          · -- to 53
            refine r_al aX3_item_53 rfl ?_
            refine r_getR aX3_item_54 rfl rfl ?_
            refine r_getR aX3_item_57 rfl rfl ?_
            refine r_il aX3_item_60 rfl ?_
            refine r_xI aX3_item_61 rfl (by omega) e2 ?_
            exact r_iret hM aX3_item_62 rfl ⟨by rw [if_neg c38], C, Fr.rf⟩
          · -- to 41
            refine r_al aX3_item_41 rfl ?_
            refine r_getR aX3_item_42 rfl rfl ?_
            refine r_getR aX3_item_45 rfl rfl ?_
            refine r_il aX3_item_48 rfl ?_
            refine r_xI aX3_item_49 rfl (by omega) e1 ?_
            refine r_go aX3_item_50 ?_
            exact r_iret hM aX3_item_62 rfl ⟨by rw [if_pos c38], C, Fr.rf⟩
        · -- to 35
          refine r_ki aX3_item_35 ?_
          exact r_iret hM aX3_item_36 rfl ⟨by rw [(inN_n (by omega)).mpr (fun q => by rw [Q29.2.mpr q] at c32; cases c32)], C, Fr.rf⟩
      · -- to 21
        refine r_ki aX3_item_21 ?_
        exact r_iret hM aX3_item_23 rfl ⟨by unfold fItem; rw [hy]; dsimp only; rw [isN (Q15.2.symm.trans c18)], C, Fr.rf⟩
    · -- to 9
      refine r_ki aX3_item_9 ?_
      exact r_iret hM aX3_item_10 rfl ⟨by unfold fItem; rw [inN_nle c6 (by decide)], C, Fr.rf⟩
theorem K_X3_units {x : Int32} (S : SI σ) (C : CRep h σ) : Con ad mX3_units [.ref (ad 0), .int x] h (qL fun r h' => r = fUnits σ x ∧ CRep h' σ ∧ Fr (fun a => a < 91) h h') := by
  refine Con.mk vX3_units.1 vX3_units.2.2.2.2 [some (.ref (ad 0)), some (.int x)] rfl (Nat.le_of_ble_eq_true rfl) (fun Y hM => ?_)
  refine r_al aX3_units_0 rfl ?_
  refine r_getR aX3_units_1 rfl rfl ?_
  refine r_VZ0 aX3_units_4 vX0_exists rfl (K_ex isL55 C.2.2.2.1 S.nb) (fun x4 h4 Q4 => ?_)
  rw [Q4.1]
  refine r_b_eq aX3_units_7 (fun c7 => ?_) (fun c7 => ?_)
  · -- to 33
    refine r_kl aX3_units_33 ?_
    exact r_lret hM aX3_units_34 rfl ⟨by unfold fUnits; rw [isN (Q4.2.symm.trans c7)], C, Fr.rf⟩
  · -- to 10
    obtain ⟨l, hl⟩ := Option.isSome_iff_exists.mp (Q4.2.symm.trans c7)
    have LO1 := C.2.2.2.1
    rw [hl] at LO1
    obtain ⟨a1, a2, a3⟩ := LO1
    have h60 := (S.2.2.1 l hl).2.1
    have E0 : fUnits σ x = match inN x l.2.2.1.length with
        | none => lN 0
        | some i => lN (gi l.2.2.1 i).2.2 := by
      unfold fUnits
      rw [hl]
      rfl
    rw [E0] at hM
    refine r_al aX3_units_10 rfl ?_
    refine r_getR aX3_units_11 rfl rfl ?_
    refine r_il aX3_units_14 rfl ?_
    refine r_VZ1 aX3_units_15 vX0_hasItem rfl (K_X0_hasItem isL55 a3.1 h60) (fun x15 h15 Q15 => ?_)
    rw [Q15.1]
    refine r_b_eq aX3_units_18 (fun c18 => ?_) (fun c18 => ?_)
    · -- to 33
      refine r_kl aX3_units_33 ?_
      exact r_lret hM aX3_units_34 rfl ⟨by rw [(inN_n (by omega)).mpr (fun q => by rw [Q15.2.mpr q] at c18; cases c18)], C, Fr.rf⟩
    · -- to 21
      obtain ⟨i, hi, rfl⟩ := Q15.2.mp c18
      clear Q15
      rw [inN_nI hi (by omega)] at hM
      obtain ⟨e1, e2, e3⟩ := a3.2.1.gi hi
      rw [n0] at e1 e2 e3
      refine r_al aX3_units_21 rfl ?_
      refine r_getR aX3_units_22 rfl rfl ?_
      refine r_getR aX3_units_25 rfl rfl ?_
      refine r_il aX3_units_28 rfl ?_
      refine r_xL aX3_units_29 rfl (by omega) e3 ?_
      refine r_go aX3_units_30 ?_
      exact r_lret hM aX3_units_34 rfl ⟨rfl, C, Fr.rf⟩
theorem K_X3_found {x : Int32} (S : SI σ) (C : CRep h σ) : Con ad mX3_found [.ref (ad 0), .int x] h (qL fun r h' => r = fFound σ x ∧ CRep h' σ ∧ Fr (fun a => a < 91) h h') := by
  refine Con.mk vX3_found.1 vX3_found.2.2.2.2 [some (.ref (ad 0)), some (.int x)] rfl (Nat.le_of_ble_eq_true rfl) (fun Y hM => ?_)
  refine r_al aX3_found_0 rfl ?_
  refine r_getR aX3_found_1 rfl rfl ?_
  refine r_VZ0 aX3_found_4 vX0_exists rfl (K_ex isL55 C.2.2.2.1 S.nb) (fun x4 h4 Q4 => ?_)
  rw [Q4.1]
  refine r_b_eq aX3_found_7 (fun c7 => ?_) (fun c7 => ?_)
  · -- to 29
    refine r_kl aX3_found_29 ?_
    exact r_lret hM aX3_found_30 rfl ⟨by unfold fFound; rw [isN (Q4.2.symm.trans c7)], C, Fr.rf⟩
  · -- to 10
    refine r_il aX3_found_10 rfl ?_
    refine r_SZ1 aX3_found_11 vX3_isOutcome (K_X3_isOutcome) (fun x11 h11 Q11 => ?_)
    rw [Q11.1]
    refine r_b_eq aX3_found_14 (fun c14 => ?_) (fun c14 => ?_)
    · -- to 29
      refine r_kl aX3_found_29 ?_
      exact r_lret hM aX3_found_30 rfl ⟨by unfold fFound; rw [inN_no (Q11.2.symm.trans c14)]; cases σ.2.2.2.1 <;> rfl, C, Fr.rf⟩
    · -- to 17
      obtain ⟨l, hl⟩ := Option.isSome_iff_exists.mp (Q4.2.symm.trans c7)
      have LO1 := C.2.2.2.1
      rw [hl] at LO1
      obtain ⟨a1, a2, a3⟩ := LO1
      obtain ⟨o, ho, rfl, hx⟩ := inN_ex (by decide) (Q11.2.symm.trans c14)
      have e := a3.2.2.1 o ho
      rw [n0] at e
      refine r_al aX3_found_17 rfl ?_
      refine r_getR aX3_found_18 rfl rfl ?_
      refine r_getR aX3_found_21 rfl rfl ?_
      refine r_il aX3_found_24 rfl ?_
      refine r_xL aX3_found_25 rfl (by omega) e ?_
      refine r_go aX3_found_26 ?_
      exact r_lret hM aX3_found_30 rfl ⟨by unfold fFound; rw [hl, hx], C, Fr.rf⟩
theorem K_X3_rests {x : Int32} (S : SI σ) (C : CRep h σ) : Con ad mX3_rests [.ref (ad 0), .int x] h (qL fun r h' => r = fRests σ x ∧ CRep h' σ ∧ Fr (fun a => a < 91) h h') := by
  have h20 := S.ww.n
  refine Con.mk vX3_rests.1 vX3_rests.2.2.2.2 [some (.ref (ad 0)), some (.int x)] rfl (Nat.le_of_ble_eq_true rfl) (fun Y hM => ?_)
  refine r_al aX3_rests_0 rfl ?_
  refine r_getR aX3_rests_1 rfl rfl ?_
  refine r_VZ0 aX3_rests_4 vX0_exists rfl (K_ex isL55 C.2.2.2.1 S.nb) (fun x4 h4 Q4 => ?_)
  rw [Q4.1]
  refine r_b_eq aX3_rests_7 (fun c7 => ?_) (fun c7 => ?_)
  · -- to 33
    refine r_kl aX3_rests_33 ?_
    exact r_lret hM aX3_rests_34 rfl ⟨by unfold fRests; rw [isN (Q4.2.symm.trans c7)], C, Fr.rf⟩
  · -- to 10
    refine r_al aX3_rests_10 rfl ?_
    refine r_getR aX3_rests_11 rfl rfl ?_
    refine r_il aX3_rests_14 rfl ?_
    refine r_VZ1 aX3_rests_15 vX2_has rfl (K_X2_has S.ww C.1) (fun x15 h15 Q15 => ?_)
    rw [Q15.1]
    refine r_b_eq aX3_rests_18 (fun c18 => ?_) (fun c18 => ?_)
    · -- to 33
      refine r_kl aX3_rests_33 ?_
      exact r_lret hM aX3_rests_34 rfl ⟨by unfold fRests; rw [(inN_n (by omega)).mpr (fun q => by rw [Q15.2.mpr q] at c18; cases c18)]; cases σ.2.2.2.1 <;> rfl, C, Fr.rf⟩
    · -- to 21
      obtain ⟨l, hl⟩ := Option.isSome_iff_exists.mp (Q4.2.symm.trans c7)
      have LO1 := C.2.2.2.1
      rw [hl] at LO1
      obtain ⟨a1, a2, a3⟩ := LO1
      obtain ⟨s, hs, rfl⟩ := Q15.2.mp c18
      clear Q15
      have e := a3.2.2.2.1 s (by omega)
      rw [n0] at e
      refine r_al aX3_rests_21 rfl ?_
      refine r_getR aX3_rests_22 rfl rfl ?_
      refine r_getR aX3_rests_25 rfl rfl ?_
      refine r_il aX3_rests_28 rfl ?_
      refine r_xL aX3_rests_29 rfl (by omega) e ?_
      refine r_go aX3_rests_30 ?_
      exact r_lret hM aX3_rests_34 rfl ⟨by unfold fRests; rw [hl, inN_nI hs (by omega)], C, Fr.rf⟩
theorem K_X3_save {x : Int32} (S : SI σ) (C : CRep h σ) : Con ad mX3_save [.ref (ad 0), .int x] h (qI fun r h' => r = (fSave σ x).1 ∧ CRep h' (fSave σ x).2 ∧ Fr (fun a => a < 91) h h') := by
  refine Con.mk vX3_save.1 vX3_save.2.2.2.2 [some (.ref (ad 0)), some (.int x)] rfl (Nat.le_of_ble_eq_true rfl) (fun Y hM => ?_)
  refine r_il aX3_save_0 rfl ?_
  refine r_SZ1 aX3_save_1 vX3_isSave (K_X3_isSave) (fun x1 h1 Q1 => ?_)
  rw [Q1.1]
  refine r_b_ne aX3_save_4 (fun c4 => ?_) (fun c4 => ?_)
  · -- to 9
    obtain ⟨k, hk, rfl, hx⟩ := inN_ex (by decide) (Q1.2.symm.trans c4)
    have hq := isLk k hk
    refine r_al aX3_save_9 rfl ?_
    refine r_getR aX3_save_10 rfl rfl ?_
    refine r_VZ0 aX3_save_13 vX0_exists rfl (K_ex isL55 C.2.2.2.1 S.nb) (fun x13 h13 Q13 => ?_)
    rw [Q13.1]
    refine r_b_ne aX3_save_16 (fun c16 => ?_) (fun c16 => ?_)
    · -- to 22
      obtain ⟨l, hl⟩ := Option.isSome_iff_exists.mp (Q13.2.symm.trans c16)
      have LO1 := C.2.2.2.1
      rw [hl] at LO1
      obtain ⟨a1, a2, a3⟩ := LO1
      have h60 := (S.2.2.1 l hl).2.1
      refine r_al aX3_save_22 rfl ?_
      refine r_getR aX3_save_23 rfl rfl ?_
      refine r_il aX3_save_26 rfl ?_
      refine r_aaldL aX3_save_27 rfl hk (if_pos hk) ?_
      refine r_al aX3_save_28 rfl ?_
      refine r_getR aX3_save_29 rfl rfl ?_
      refine r_VV1 aX3_save_32 vX0_copyFrom hq.1 (K_X0_copyFrom hq isL55 (by omega)) (fun h32 Q32 => ?_)
      obtain ⟨q1, q2, q3, q4⟩ := Q32
      have e55 : h32.1 55 2 = nI l.2.2.1.length := by rw [(q3 55 (fun z => by have := z.1; omega)).1]; exact a3.1
      refine r_al aX3_save_35 rfl ?_
      refine r_getR aX3_save_36 rfl rfl ?_
      refine r_gI aX3_save_39 rfl rfl e55 ?_
      refine r_iret hM aX3_save_42 rfl ?_
      have E0 : fSave σ (nI k) = (nI l.2.2.1.length, (σ.1, σ.2.1, σ.2.2.1, some l, va_up σ.2.2.2.2 k (some l))) := by
        unfold fSave
        rw [hx]
        dsimp only
        rw [hl]
      rw [E0]
      have hV := C.2.2.2.2.2 (Or.inl (by rw [hl]; exact fun z => by cases z))
      have p : ∀ a, inL (70 + 7 * k) a → 70 ≤ a ∧ a < 91 := fun a z => by have := z.1; have := z.2; omega
      have e0 : h32.1 0 = h.1 0 := (q3 0 (fun z => by have := z.1; omega)).1
      refine ⟨rfl, ⟨C.1.fr q3 (fun a z => by have := p a z; omega), by rw [e0]; exact C.2.1, by rw [e0]; exact C.2.2.1, ?_, fun j hj => ?_, fun _ => hV.fr q3 (fun a z => by have := p a z; omega)⟩, q3.mono (fun a z => (p a z).2)⟩
      · have := C.2.2.2.1.fr q3 (fun a z => by have := p a z; omega)
        rw [hl] at this
        exact this
      · show LO h32 (70 + 7 * j) (va_up σ.2.2.2.2 k (some l) j)
        by_cases e : j = k
        · subst e
          rw [mu_self]
          exact ⟨q1.trans a1, q2.trans a2, q4 _ _ _ h60 a3⟩
        · rw [mu_ne e]
          exact (C.2.2.2.2.1 j hj).fr q3 (fun a z => by have := z.1; have := z.2; omega)
    · -- to 19
      refine r_ki aX3_save_19 ?_
      exact r_iret hM aX3_save_21 rfl (by unfold fSave; rw [hx]; dsimp only; rw [isN (Q13.2.symm.trans c16)]; exact ⟨rfl, C, Fr.rf⟩)
  · -- to 7
    refine r_ki aX3_save_7 ?_
    exact r_iret hM aX3_save_8 rfl (by unfold fSave; rw [inN_no (Q1.2.symm.trans c4)]; exact ⟨rfl, C, Fr.rf⟩)
theorem K_X3_back {x : Int32} (S : SI σ) (C : CRep h σ) : Con ad mX3_back [.ref (ad 0), .int x] h (qI fun r h' => r = (fBack σ x).1 ∧ CRep h' (fBack σ x).2 ∧ Fr (fun a => a < 91) h h') := by
  refine Con.mk vX3_back.1 vX3_back.2.2.2.2 [some (.ref (ad 0)), some (.int x)] rfl (Nat.le_of_ble_eq_true rfl) (fun Y hM => ?_)
  refine r_il aX3_back_0 rfl ?_
  refine r_SZ1 aX3_back_1 vX3_isSave (K_X3_isSave) (fun x1 h1 Q1 => ?_)
  rw [Q1.1]
  refine r_b_ne aX3_back_4 (fun c4 => ?_) (fun c4 => ?_)
  · -- to 9
    obtain ⟨k, hk, rfl, hx⟩ := inN_ex (by decide) (Q1.2.symm.trans c4)
    have hq := isLk k hk
    refine r_al aX3_back_9 rfl ?_
    refine r_getR aX3_back_10 rfl rfl ?_
    refine r_il aX3_back_13 rfl ?_
    refine r_aaldL aX3_back_14 rfl hk (if_pos hk) ?_
    refine r_VZ0 aX3_back_15 vX0_exists hq.1 (K_ex hq (C.2.2.2.2.1 k hk) (S.kb k)) (fun x15 h15 Q15 => ?_)
    rw [Q15.1]
    refine r_b_ne aX3_back_18 (fun c18 => ?_) (fun c18 => ?_)
    · -- to 24
      obtain ⟨l, hl⟩ := Option.isSome_iff_exists.mp (Q15.2.symm.trans c18)
      have LO1 := C.2.2.2.2.1 k hk
      rw [hl] at LO1
      obtain ⟨a1, a2, a3⟩ := LO1
      have h60 := (S.2.2.2 k l hl).2.1
      refine r_al aX3_back_24 rfl ?_
      refine r_getR aX3_back_25 rfl rfl ?_
      refine r_al aX3_back_28 rfl ?_
      refine r_getR aX3_back_29 rfl rfl ?_
      refine r_il aX3_back_32 rfl ?_
      refine r_aaldL aX3_back_33 rfl hk (if_pos hk) ?_
      refine r_VV1 aX3_back_34 vX0_copyFrom rfl (K_X0_copyFrom isL55 hq (by omega)) (fun h34 Q34 => ?_)
      obtain ⟨q1, q2, q3, q4⟩ := Q34
      have L2 := q4 _ _ _ h60 a3
      refine r_al aX3_back_37 rfl ?_
      refine r_getR aX3_back_38 rfl rfl ?_
      refine r_gI aX3_back_41 rfl rfl L2.1 ?_
      refine r_iret hM aX3_back_44 rfl ?_
      have E0 : fBack σ (nI k) = (nI l.2.2.1.length, setNow σ (some l)) := by
        unfold fBack
        rw [hx]
        dsimp only
        rw [hl]
      rw [E0]
      exact ⟨rfl, C.now q3 (fun a z => Or.inl (Or.inl z)) ⟨q1.trans a1, q2.trans a2, L2⟩ (fun _ => C.2.2.2.2.2 (Or.inr ⟨k, hk, by rw [hl]; exact fun z => by cases z⟩)), q3.mono (fun a z => by have := z.2; omega)⟩
    · -- to 21
      refine r_ki aX3_back_21 ?_
      exact r_iret hM aX3_back_23 rfl (by unfold fBack; rw [hx]; dsimp only; rw [isN (Q15.2.symm.trans c18)]; exact ⟨rfl, C, Fr.rf⟩)
  · -- to 7
    refine r_ki aX3_back_7 ?_
    exact r_iret hM aX3_back_8 rfl (by unfold fBack; rw [inN_no (Q1.2.symm.trans c4)]; exact ⟨rfl, C, Fr.rf⟩)
theorem K_X3_told {x : Int32} (S : SI σ) (C : CRep h σ) : Con ad mX3_told [.ref (ad 0), .int x] h (qI fun r h' => r = fTold σ x ∧ CRep h' σ ∧ Fr (fun a => a < 91) h h') := by
  have h20 := S.ww.n
  have n5 := C.2.1
  have hn := C.1.1
  have L1 := C.2.2.2.1
  refine Con.mk vX3_told.1 vX3_told.2.2.2.2 [some (.ref (ad 0)), some (.int x)] rfl (Nat.le_of_ble_eq_true rfl) (fun Y hM => ?_)
  refine r_il aX3_told_0 rfl ?_
  cases hx : inN x 5 with
  | some j =>
    obtain ⟨hj, rfl⟩ := (inN_s (by decide)).mp hx
    have ti : (nI j).toInt = (j : Int) := nI_toInt (by omega)
    rcases (by omega : j = 0 ∨ j = 1 ∨ j = 2 ∨ j = 3 ∨ j = 4) with rfl | rfl | rfl | rfl | rfl
    · refine r_tsI tw_X3_told (by rw [ti]; decide) (by rw [ti]; decide) (off := 35) (by rw [ti]; decide) (tgt := 36) (by decide) ?_
      refine r_al aX3_told_36 rfl ?_
      refine r_getR aX3_told_37 rfl rfl ?_
      refine r_gI aX3_told_40 rfl rfl hn ?_
      exact r_iret hM aX3_told_43 rfl ⟨by unfold fTold; rw [hx]; rfl, C, Fr.rf⟩
    · refine r_tsI tw_X3_told (by rw [ti]; decide) (by rw [ti]; decide) (off := 43) (by rw [ti]; decide) (tgt := 44) (by decide) ?_
      refine r_al aX3_told_44 rfl ?_
      refine r_getR aX3_told_45 rfl rfl ?_
      refine r_getI aX3_told_48 rfl rfl ?_
      exact r_iret hM aX3_told_51 rfl ⟨by unfold fTold; rw [hx]; revert L1; cases σ.2.2.2.1 with | none => intro L1; exact L1.2.2 | some l => intro L1; exact L1.2.2.1, C, Fr.rf⟩
    · refine r_tsI tw_X3_told (by rw [ti]; decide) (by rw [ti]; decide) (off := 51) (by rw [ti]; decide) (tgt := 52) (by decide) ?_
      refine r_al aX3_told_52 rfl ?_
      refine r_getR aX3_told_53 rfl rfl ?_
      refine r_getI aX3_told_56 rfl rfl ?_
      exact r_iret hM aX3_told_59 rfl ⟨by unfold fTold; rw [hx]; revert L1; cases σ.2.2.2.1 with | none => intro L1; exact L1.2.1 | some l => intro L1; exact L1.2.1, C, Fr.rf⟩
    · refine r_tsI tw_X3_told (by rw [ti]; decide) (by rw [ti]; decide) (off := 59) (by rw [ti]; decide) (tgt := 60) (by decide) ?_
      refine r_al aX3_told_60 rfl ?_
      refine r_getR aX3_told_61 rfl rfl ?_
      refine r_getI aX3_told_64 rfl rfl ?_
      exact r_iret hM aX3_told_67 rfl ⟨by unfold fTold; rw [hx]; revert L1; cases σ.2.2.2.1 with | none => intro L1; exact L1.1 | some l => intro L1; exact L1.1, C, Fr.rf⟩
    · refine r_tsI tw_X3_told (by rw [ti]; decide) (by rw [ti]; decide) (off := 67) (by rw [ti]; decide) (tgt := 68) (by decide) ?_
      refine r_al aX3_told_68 rfl ?_
      refine r_gI aX3_told_69 rfl rfl n5 ?_
      exact r_iret hM aX3_told_72 rfl ⟨by unfold fTold; rw [hx]; rfl, C, Fr.rf⟩
  | none =>
    have hout : x.toInt < 0 ∨ 4 < x.toInt := by
      rcases Classical.em (x.toInt < 0 ∨ 4 < x.toInt) with z | z
      · exact z
      · exfalso
        have h0 : ¬ x < 0 := fun q => z (Or.inl (by rw [Int32.lt_iff_toInt_lt, Int32.toInt_zero] at q; exact q))
        have h5 : ¬ nI 5 ≤ x := fun q => z (Or.inr (by rw [Int32.le_iff_toInt_le, nI_toInt (by decide)] at q; omega))
        have := inN_in h0 h5
        rw [hx] at this
        cases this
    refine r_tsO tw_X3_told hout (tgt := 73) (by decide) ?_
    have E0 : fTold σ x = match inN (x - nI 10) σ.1.1 with
        | none => -1
        | some s => oI (σ.1.2.2.2 s) := by unfold fTold; rw [hx]; rfl
    rw [E0] at hM
    have small : x < nI 10 → inN (x - nI 10) σ.1.1 = none := by
      intro hlt
      apply (inN_n (by omega)).mpr
      rintro ⟨s, hs, e⟩
      have e2 : x = nI (s + 10) := by
        have : x - nI 10 + nI 10 = nI s + nI 10 := by rw [e]
        rw [Int32.sub_add_cancel, nI_add] at this
        exact this
      rw [e2, nI_ltI (by omega) (by omega)] at hlt
      omega
    refine r_il aX3_told_73 rfl ?_
    refine r_ki aX3_told_74 ?_
    refine r_c_lt aX3_told_76 (fun c76 => ?_) (fun c76 => ?_)
    · -- to 108
      refine r_ki aX3_told_108 ?_
      exact r_iret hM aX3_told_109 rfl ⟨by rw [small c76], C, Fr.rf⟩
    · -- to 79
      refine r_al aX3_told_79 rfl ?_
      refine r_getR aX3_told_80 rfl rfl ?_
      refine r_il aX3_told_83 rfl ?_
      refine r_ki aX3_told_84 ?_
      refine r_isub aX3_told_86 ?_
      refine r_VZ1 aX3_told_87 vX2_has rfl (K_X2_has S.ww C.1) (fun x87 h87 Q87 => ?_)
      rw [Q87.1]
      refine r_b_eq aX3_told_90 (fun c90 => ?_) (fun c90 => ?_)
      · -- to 108
        refine r_ki aX3_told_108 ?_
        exact r_iret hM aX3_told_109 rfl ⟨by rw [(inN_n (by omega)).mpr (fun q => by rw [Q87.2.mpr q] at c90; cases c90)], C, Fr.rf⟩
      · -- to 93
        obtain ⟨s, hs, e⟩ := Q87.2.mp c90
        rw [e, inN_nI hs (by omega)] at hM
        clear Q87
        have el := C.1.2.2.1 s hs
        refine r_al aX3_told_93 rfl ?_
        refine r_getR aX3_told_94 rfl rfl ?_
        refine r_getR aX3_told_97 rfl rfl ?_
        refine r_il aX3_told_100 rfl ?_
        refine r_ki aX3_told_101 ?_
        refine r_isub aX3_told_103 ?_
        refine r_ti e ?_
        refine r_xI aX3_told_104 rfl (by omega) el ?_
        refine r_go aX3_told_105 ?_
        exact r_iret hM aX3_told_109 rfl ⟨rfl, C, Fr.rf⟩
end CLASS5
end

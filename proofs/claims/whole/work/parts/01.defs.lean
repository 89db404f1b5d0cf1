/-! The words in which a method's rows are printed: a method, its instructions with the place behind them -/
/-- a method: name, bytes, number of locals, kind of answer, own class, frames and words of locals that its calls need -/
abbrev Mth : Type := MethodName × ByteArray × Nat × Option FieldType × String × Nat × Nat
def dk (μ : Mth) (pc : Nat) (i : Instr) (n npc : Nat) : Prop := decode μ.2.1 pc = .ok (i, n) ∧ npc = pc + n
def dKi (μ : Mth) (pc : Nat) (v : Int32) (npc : Nat) : Prop := (∃ n : Int, decode μ.2.1 pc = .ok (.iconst n, 1) ∧ Int32.ofInt n = v ∧ npc = pc + 1) ∨ (∃ n : Int, decode μ.2.1 pc = .ok (.bipush n, 2) ∧ (Int8.ofInt n).toInt32 = v ∧ npc = pc + 2) ∨ (∃ n : Int, decode μ.2.1 pc = .ok (.sipush n, 3) ∧ (Int16.ofInt n).toInt32 = v ∧ npc = pc + 3) ∨ (∃ ix : Nat, decode μ.2.1 pc = .ok (.ldc ix, 2) ∧ Cond.constant μ.2.2.2.2.1 ix v ∈ lw_tbl ∧ npc = pc + 2)
def dKl (μ : Mth) (pc : Nat) (v : Int64) (npc : Nat) : Prop := (∃ n : Fin 2, decode μ.2.1 pc = .ok (.lconst n, 1) ∧ Int64.ofNat n.val = v ∧ npc = pc + 1) ∨ (∃ ix : Nat, decode μ.2.1 pc = .ok (.ldc2_w ix, 3) ∧ Cond.constantLong μ.2.2.2.2.1 ix v ∈ lw_tbl ∧ npc = pc + 3)
def dIl (μ : Mth) (pc i npc : Nat) : Prop := (∃ k : Fin 4, decode μ.2.1 pc = .ok (.iload_n k, 1) ∧ k.val = i ∧ npc = pc + 1) ∨ (decode μ.2.1 pc = .ok (.iload i, 2) ∧ npc = pc + 2)
def dLl (μ : Mth) (pc i npc : Nat) : Prop := (∃ k : Fin 4, decode μ.2.1 pc = .ok (.lload_n k, 1) ∧ k.val = i ∧ npc = pc + 1) ∨ (decode μ.2.1 pc = .ok (.lload i, 2) ∧ npc = pc + 2)
def dAl (μ : Mth) (pc i npc : Nat) : Prop := (∃ k : Fin 4, decode μ.2.1 pc = .ok (.aload_n k, 1) ∧ k.val = i ∧ npc = pc + 1) ∨ (decode μ.2.1 pc = .ok (.aload i, 2) ∧ npc = pc + 2)
def dIs (μ : Mth) (pc i npc : Nat) : Prop := ((∃ k : Fin 4, decode μ.2.1 pc = .ok (.istore_n k, 1) ∧ k.val = i ∧ npc = pc + 1) ∨ (decode μ.2.1 pc = .ok (.istore i, 2) ∧ npc = pc + 2)) ∧ i < μ.2.2.1
def dLs (μ : Mth) (pc i npc : Nat) : Prop := ((∃ k : Fin 4, decode μ.2.1 pc = .ok (.lstore_n k, 1) ∧ k.val = i ∧ npc = pc + 1) ∨ (decode μ.2.1 pc = .ok (.lstore i, 2) ∧ npc = pc + 2)) ∧ i + 1 < μ.2.2.1
def dAs (μ : Mth) (pc i npc : Nat) : Prop := ((∃ k : Fin 4, decode μ.2.1 pc = .ok (.astore_n k, 1) ∧ k.val = i ∧ npc = pc + 1) ∨ (decode μ.2.1 pc = .ok (.astore i, 2) ∧ npc = pc + 2)) ∧ i < μ.2.2.1
def dIn (μ : Mth) (pc i : Nat) (k : Int32) (npc : Nat) : Prop := ∃ n : Int, decode μ.2.1 pc = .ok (.iinc i n, 3) ∧ Int32.ofInt n = k ∧ npc = pc + 3 ∧ i < μ.2.2.1
def dJ (μ : Mth) (pc tgt : Nat) : Prop := ∃ off : Int, decode μ.2.1 pc = .ok (.goto off, 3) ∧ (pc : Int) + off = (tgt : Int)
def dC (μ : Mth) (pc : Nat) (k : Jvm.ClassFile.Cond) (npc tgt : Nat) : Prop := ∃ off : Int, decode μ.2.1 pc = .ok (.if_icmp k off, 3) ∧ (pc : Int) + off = (tgt : Int) ∧ npc = pc + 3
def dZ (μ : Mth) (pc : Nat) (k : Jvm.ClassFile.Cond) (npc tgt : Nat) : Prop := ∃ off : Int, decode μ.2.1 pc = .ok (.ifCond k off, 3) ∧ (pc : Int) + off = (tgt : Int) ∧ npc = pc + 3
/-- the classes, by number -/
def dW (w : Cond) : Prop := w ∈ lw_tbl
theorem dW_at {w : Cond} (i : Nat) (h : lw_tbl[i]? = some w) : dW w := List.mem_of_getElem? h

/-! methods and the words of the tables -/
def tb : List Cond := lw_tbl.filter goodWord
theorem tb_of {w : Cond} (h : w ∈ lw_tbl) (hg : goodWord w = true) : w ∈ tb := List.mem_filter.mpr ⟨h, hg⟩
theorem tb_good : GoodIn tb tb := fun w h => ⟨h, good_of_word (List.mem_filter.mp h).2⟩
/-- a method: name, bytes, locals, what it returns, its decoded instructions -/
abbrev MD : Type := MethodName × ByteArray × Nat × Option FieldType × List (Nat × Instr × Nat)
abbrev MD.y (d : MD) : MethodName := d.1
abbrev MD.b (d : MD) : ByteArray := d.2.1
abbrev MD.n (d : MD) : Nat := d.2.2.1
abbrev MD.r (d : MD) : Option FieldType := d.2.2.2.1
abbrev MD.c (d : MD) : List (Nat × Instr × Nat) := d.2.2.2.2
def qlk : List (Nat × Instr × Nat) → Nat → Option (Instr × Nat)
  | [], _ => none
  | q :: l, pc => if q.1 = pc then some q.2 else qlk l pc
theorem qlk_mem {l : List (Nat × Instr × Nat)} {pc : Nat} {x : Instr × Nat} (h : qlk l pc = some x) : (pc, x) ∈ l := by
  induction l with
  | nil => cases h
  | cons q l ih =>
    unfold qlk at h
    by_cases e : q.1 = pc
    · rw [if_pos e] at h
      cases h
      rw [← e]
      exact List.mem_cons_self
    · rw [if_neg e] at h
      exact List.mem_cons_of_mem _ (ih h)
def qDec (d : MD) : Prop := ∀ q ∈ d.c, decode d.b q.1 = .ok q.2
theorem qDec.at {d : MD} (h : qDec d) {pc : Nat} {x : Instr × Nat} (hl : qlk d.c pc = some x) : decode d.b pc = .ok x := h (pc, x) (qlk_mem hl)
/-- what is checked once of a method -/
def qOK (md : MD) (na : Nat) : Prop := plainFor md.y = true ∧ qDec md ∧ Cond.code md.y md.b md.n md.r ∈ tb ∧ Cond.initialized md.y.cls ∈ tb ∧ (md.y.cls ≠ "java/lang/invoke/MethodHandle" ∧ md.y.cls ≠ "java/lang/invoke/VarHandle") ∧ (parseMethodDescriptor md.y.desc).map (fun d => d.parameters.length) = some na

/-! ===== the shape of the tables ===== -/
/-- an entry of a constant pool: its kind; two numbers; a value. Kinds: 0 field (object kind, place), 1 virtual, 2 static, 3 constructor (method, number of parameters), 4 Object's constructor, 5 an object kind, 6 an exception, 7 an int, 8 a long, 10 a text, 11 12 13 as 1 2 3 of a nest mate, 14 arraycopy, 15 an exception's constructor -/
abbrev za_row : Type := Nat × Nat × Nat × Int
/-- a method: name, code, locals, what it returns, its constant pool, the most cells and slots that it makes, its table, its instructions -/
abbrev za_MI : Type := MethodName × ByteArray × Nat × Option FieldType × Nat × Nat × Nat × List (Nat × Nat × Nat × Nat) × List (Nat × Instr)
abbrev za_nL (M : za_MI) : Nat := M.2.2.1
abbrev za_rt (M : za_MI) : Option FieldType := M.2.2.2.1
abbrev za_cl (M : za_MI) : Nat := M.2.2.2.2.1
abbrev za_mc (M : za_MI) : Nat := M.2.2.2.2.2.1
abbrev za_ms (M : za_MI) : Nat := M.2.2.2.2.2.2.1
abbrev za_hh (M : za_MI) : List (Nat × Nat × Nat × Nat) := M.2.2.2.2.2.2.2.1
abbrev za_is (M : za_MI) : List (Nat × Instr) := M.2.2.2.2.2.2.2.2
def za_tyX (ci k : Nat) : FieldType := match ci with
  | 0 => tyX0 k
  | 1 => tyX1 k
  | 2 => tyX2 k
  | 3 => tyX3 k
  | 4 => tyX4 k
  | 5 => tyX5 k
  | 6 => tyX6 k
  | 7 => tyX7 k
  | 8 => tyX8 k
  | 9 => tyX9 k
  | 10 => tyX10 k
  | 11 => tyX11 k
  | _ => tyX12 k
def za_nX (ci : Nat) : Nat := match ci with
  | 0 => 10
  | 1 => 12
  | 2 => 3
  | 3 => 2
  | 4 => 4
  | 5 => 4
  | 6 => 3
  | 7 => 6
  | 8 => 8
  | 9 => 6
  | 10 => 20
  | 11 => 18
  | _ => 85
/-- the instruction at pc -/
def za_fe : List (Nat × Instr) → Nat → Option Instr
  | [], _ => none
  | q :: l, pc => bif Nat.beq q.1 pc then some q.2 else za_fe l pc

/-! ===== TYPES of the pure machine's program ===== -/
/-- a row: its place in the code, the instruction, its length, what its pool's entry says -/
abbrev PRow : Type := Nat × Instr × Nat × Nat × Nat × Nat
/-- a handler: from, to (places in the code), its row, which exceptions -/
abbrev PHd : Type := Nat × Nat × Nat × Nat
/-- a method to the interpreter: rows, maxLocals, how many args, handlers, its answer's type, its class -/
abbrev PMet : Type := List PRow × Nat × Nat × List PHd × Option FieldType × Nat
/-- the exceptions -/
def qEx (e : Nat) : String := match e with
  | 0 => "java/lang/IllegalArgumentException" | 1 => "java/lang/IllegalStateException" | _ => "java/lang/IndexOutOfBoundsException"
/-- types of the fields of the classes, how many -/
def pT (ci : Nat) : Nat → FieldType := match ci with
  | 0 => tyX0 | 1 => tyX1 | 2 => tyX2 | 3 => tyX3 | 4 => tyX4 | 5 => tyX5 | 6 => tyX6 | 7 => tyX7 | 8 => tyX8 | 9 => tyX9 | _ => tyX0
def pF (ci : Nat) : Nat := match ci with
  | 0 => 3 | 1 => 4 | 2 => 4 | 3 => 11 | 4 => 6 | 5 => 6 | 6 => 18 | 7 => 4 | 8 => 3 | 9 => 2 | 10 => 3 | 11 => 3 | _ => 0
/-- the fields of the classes -/
def qTf (ci : Nat) : u_T := match ci with
  | 0 => TX0 | 1 => TX1 | 2 => TX2 | 3 => TX3 | 4 => TX4 | 5 => TX5 | 6 => TX6 | 7 => TX7 | 8 => TX8 | 9 => TX9 | _ => TX0

/-! THE SMALL MACHINE: one step of a frame, runs by fuel, and what a run comes to (Ev) -/
def zTy (ci k : Nat) : FieldType := match ci with
  | 0 => tyX0 k | 1 => tyX1 k | 2 => tyX2 k | 3 => tyX3 k | 4 => tyX4 k | 5 => tyX5 k | 6 => tyX6 k | 7 => tyX7 k | 8 => tyX8 k | _ => tyX9 k
def zNf (ci : Nat) : Nat := match ci with
  | 0 => 12 | 1 => 6 | 2 => 2 | 3 => 5 | 4 => 13 | 5 => 7 | 6 => 14 | 7 => 11 | 8 => 10 | _ => 22
def zfs (ci : Nat) : List Value := (List.range (zNf ci)).map (fun k => defaultValue (zTy ci k))
def zfv (ty : FieldType) (v : Value) : Bool := match ty, v with
  | .int, .int _ => true
  | .long, .long _ => true
  | .boolean, .int x => x == 0 || x == 1
  | .object _, .ref _ => true
  | .array _, .ref _ => true
  | _, _ => false

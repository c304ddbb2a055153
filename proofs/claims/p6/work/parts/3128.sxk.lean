/-! Checks of instructions that the second machine has beside the first -/
/-- the targets of a switch stand in the rows behind it -/
def sx_tg (cd : ev_Cd) (ix : Nat) : Nat := (cd.getD ix (0, 0, 0, 0, 0, 0, 0)).2.2.1
def sx_k85 (cc : ByteArray) (cd : ev_Cd) (ix : Nat) (i : ev_I) : Bool := match decode cc (ev_pc cd ix) with
  | .ok (.tableswitch dflt lo hi offs, _) => decide (lo = (i.2.2.1 : Int) - 2147483648 ∧ hi = lo + i.2.2.2.1 - 1 ∧ ((ev_pc cd ix : Nat) : Int) + dflt = ((ev_pc cd i.2.2.2.2.2.1 : Nat) : Int)) && (List.range i.2.2.2.1).all (fun k => match offs[k]? with
    | some off => decide (((ev_pc cd ix : Nat) : Int) + off = ((ev_pc cd (sx_tg cd (ix + 1 + k)) : Nat) : Int))
    | none => false)
  | _ => false
def sx_k90 (Gc : List (List Cond)) (kt : List FieldType) (own : String) (cc : ByteArray) (cd : ev_Cd) (ix : Nat) (i : ev_I) : Bool := decide (decode cc (ev_pc cd ix) = .ok (.invokestatic i.2.2.2.2.1, 3)) && decide (ev_pc cd (ix + 1) = ev_pc cd ix + 3) && decide (kt[i.2.2.1]? = some .long) && decide (ev_hg Gc i.2.2.2.2.2.2 = some (Cond.methodLink own i.2.2.2.2.1 arraycopyName)) && decide (ev_hg Gc i.2.2.2.1 = some (Cond.native arraycopyName)) && decide (ev_hg Gc (i.2.2.2.1 + 1) = some (Cond.static arraycopyName)) && decide (ev_hg Gc (i.2.2.2.1 + 2) = some (Cond.initialized "java/lang/System"))
def sx_k86 (Gc : List (List Cond)) (tt : List (String × String × String × Nat)) (own : String) (cc : ByteArray) (cd : ev_Cd) (ix : Nat) (i : ev_I) : Bool := decide (decode cc (ev_pc cd ix) = .ok (.getstatic i.2.2.2.2.1, 3)) && decide (ev_pc cd (ix + 1) = ev_pc cd ix + 3) && (match tt[i.2.2.1]? with
    | some q => decide (ev_hg Gc i.2.2.2.2.2.2 = some (Cond.fieldLink own i.2.2.2.2.1 q.1 q.2.1 q.2.2.1))
    | none => false)
def sx_k87 (cc : ByteArray) (cd : ev_Cd) (ix : Nat) : Bool := decide (decode cc (ev_pc cd ix) = .ok (.i2s, 1)) && decide (ev_pc cd (ix + 1) = ev_pc cd ix + 1)
def sx_k88 (cc : ByteArray) (cd : ev_Cd) (ix : Nat) : Bool := decide (decode cc (ev_pc cd ix) = .ok (.ldiv, 1)) && decide (ev_pc cd (ix + 1) = ev_pc cd ix + 1)
def sx_k89 (cc : ByteArray) (cd : ev_Cd) (ix : Nat) : Bool := decide (decode cc (ev_pc cd ix) = .ok (.lneg, 1)) && decide (ev_pc cd (ix + 1) = ev_pc cd ix + 1)
def sx_k91 (Gc : List (List Cond)) (own : String) (cc : ByteArray) (cd : ev_Cd) (ix : Nat) (i : ev_I) : Bool := decide (decode cc (ev_pc cd ix) = .ok (.invokestatic i.2.2.2.2.1, 3)) && decide (ev_pc cd (ix + 1) = ev_pc cd ix + 3) && decide (ev_hg Gc i.2.2.2.2.2.2 = some (Cond.methodLink own i.2.2.2.2.1 Lib.Math.min.name)) && decide (ev_hg Gc i.2.2.1 = some (Cond.static Lib.Math.min.name)) && decide (ev_hg Gc (i.2.2.1 + 1) = some (Cond.initialized "java/lang/Math")) && decide (ev_hg Gc (i.2.2.1 + 2) = some (Cond.code Lib.Math.min.name Lib.Math.min.code 2 (some .int)))

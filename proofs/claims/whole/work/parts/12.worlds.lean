/-! the worlds: an annuity of the class is five cells (object, deaths, full amounts, carries, payments) -/
abbrev jTY (cI cJ cZ cO : ClassId) : List (ClassId × FieldType) := [(cI, .int), (cJ, .long), (cZ, .boolean), (cO, .object "JointAnnuity$Annuity")]
abbrev jO (aa an : Nat → Nat) (kp : Int64) : Nat × va_E := (aa 0, .inr (0, [.int (nI (an 0)), .int (nI (an 1)), .int (nI (an 0 + an 2)), .int (nI (an 3)), .int (nI (an 4)), .int (nI (an 5)), .int (nI (an 6)), .int (nI (an 7)), .ref (aa 1), .ref (aa 2), .ref (aa 3), .ref (aa 4), .long (kp)]))
abbrev jAW (cI cJ : ClassId) (aa an : Nat → Nat) (iv : Nat → Int32) (kp : Int64) (py : Nat → Int64) : va_W := [jO aa an kp, (aa 1, .inl (cI, 2, .inl (fun j => nI (an (8 + j))))), (aa 2, .inl (cI, 20, .inl (fun j => nI (jF an iv j)))), (aa 3, .inl (cI, 20, .inl (fun j => jC an iv j))), (aa 4, .inl (cJ, 240, .inr (.inl (py))))]
/-- the numbers of an annuity that was just added -/
def jN (s am g : Nat) : Nat → Nat := fun i => match i with
  | 0 => s
  | 1 => am
  | 2 => g
  | 3 => 100
  | 8 => 240
  | 9 => 240
  | _ => 0

/-! the worlds: an annuity of the class is five cells (object, deaths, full amounts, carries, payments) -/
abbrev jTY (cI cJ _cZ cO : ClassId) : List (ClassId × FieldType) := [(cI, .int), (cJ, .long), (cI, .int), (cO, .object "JointAnnuity$Annuity")]
abbrev jO (aa an : Nat → Nat) (kp : Int64) : Nat × va_E := (aa 0, .inr (0, [.int (nI (an 0)), .int (nI (an 1)), .int (nI (an 0 + an 2)), .int (nI (an 3)), .int (nI (an 4)), .int (nI (an 5)), .int (nI (an 6)), .int (nI (an 7)), .ref (aa 1), .ref (aa 2), .ref (aa 3), .ref (aa 4), .long (kp)]))
abbrev jAW (cI cJ : ClassId) (aa an : Nat → Nat) (iv : Nat → Int32) (kp : Int64) (py : Nat → Int64) : va_W := [jO aa an kp, (aa 1, .inl (cI, 2, .inl (fun j => nI (if j = 0 then an 8 else an 9)))), (aa 2, .inl (cI, 20, .inl (fun j => nI (jF an iv j)))), (aa 3, .inl (cI, 20, .inl (fun j => jC an iv j))), (aa 4, .inl (cJ, 240, .inr (.inl (py))))]
/-- the numbers of an annuity that was just added -/
def jN (s am g : Nat) : Nat → Nat := fun i => match i with
  | 0 => s
  | 1 => am
  | 2 => g
  | 3 => 100
  | 8 => 240
  | 9 => 240
  | _ => 0
theorem jd0 (x y : Nat) : (fun j => nI (if j = 0 then x else y)) (nI 0).toNatClampNeg = nI x := rfl
theorem jd1 (x y : Nat) : (fun j => nI (if j = 0 then x else y)) (nI 1).toNatClampNeg = nI y := rfl
def upN (f : Nat → Nat) (i v : Nat) : Nat → Nat := fun j => if j = i then v else f j
abbrev jXo (ax : Nat → Nat) (n mo : Nat) : Nat × va_E := (ax 0, .inr (1, [.ref (ax 1), .ref (ax 2), .int (nI n), .int (nI mo)]))
abbrev jXa (cO : ClassId) (ax : Nat → Nat) (ao : Nat → Option Nat) : Nat × va_E := (ax 1, .inl (cO, 20, .inr (.inr (.inr (.inr (ao))))))
abbrev jXi (cI : ClassId) (ax : Nat → Nat) (iv : Nat → Int32) : Nat × va_E := (ax 2, .inl (cI, 20, .inl (iv)))
/-- the desk and one annuity of it -/
abbrev jFW (cI cJ cO : ClassId) (ax : Nat → Nat) (ao : Nat → Option Nat) (n mo : Nat) (iv : Nat → Int32) (aa an : Nat → Nat) (kp : Int64) (py : Nat → Int64) : va_W := jXo ax n mo :: jXa cO ax ao :: jXi cI ax iv :: jAW cI cJ aa an iv kp py
theorem jzn {v : Nat} (h : v ≤ 1) : narrow .boolean (.int (nI v)) = .int (nI v) ∧ fits .boolean (.int (nI v)) = true := by
  rcases (show v = 0 ∨ v = 1 by omega) with rfl | rfl <;> exact ⟨rfl, rfl⟩
theorem jV5 {an : Nat → Nat} (hv : jV an) {v : Nat} (h : v ≤ 200) : jV (upN an 5 v) := ⟨hv.1, hv.2.1, hv.2.2.1, hv.2.2.2.1, hv.2.2.2.2.1, h, hv.2.2.2.2.2.2⟩

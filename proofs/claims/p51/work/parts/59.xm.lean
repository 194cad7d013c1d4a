-- the model's cells: the object at place 60, its arrays at 61 to 105
def xa_nt : List y_R1 → Nat → Option y_R1
  | [], _ => none
  | r :: _, 0 => some r
  | _ :: t, n + 1 => xa_nt t n
def xm_ro (q : Nat) : Nat := bif Nat.beq q 60 then 12 else q - 5
def xm_I : xa_I := fun q => bif Nat.ble 60 q && Nat.ble q 105 then (match xa_nt y_Rm.1 (xm_ro q) with
  | some ro => some (ro, fun j => (y_sp ro j).2.1.toNat + 5)
  | none => none) else none

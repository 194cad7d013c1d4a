def s_E0 : s_E := [(-2147483648, 2147483647), (-2147483648, 2147483647), (-2147483648, 2147483647), (-2147483648, 2147483647), (-2147483648, 2147483647)]
def s_X0 : s_X := (s_cl, [(0, (7, 0))], [], 0, 0, (s_E0, [], [], []))
def s_r0 (F : Nat) : Option (List s_X) := s_loop (s_run s_codes s_ft s_mi F 30) s_cl s_ft s_mi true 13 8 false 600002 7302232 F s_X0
def s_is (r : Option (List s_X)) : Nat := match r with
  | some [X] => match X.1 with
    | r :: _ => r.1 + 1000 * X.2.2.2.2.2.2.2.2.length
    | _ => 1
  | some [] => 2
  | some (_ :: _ :: _) => 3
  | none => 4
set_option maxRecDepth 100000 in
theorem t0 : Nat.beq (s_is (s_r0 1000000)) 107039 = true := by decide +kernel

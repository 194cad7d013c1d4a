-- dial, keep: cut at their first argument
def s_litD (c lo hi : Int) : s_X := match s_lit c c with
  | (code, L, st, cn, sn, (E, R, B, H)) => (code, L, st, cn, sn, (E.set 1 (lo, hi), R, B, H))
def s_okD (c lo hi : Int) : Bool := match s_law 6 (s_litD c lo hi) with
  | some outs => outs.all s_good
  | none => false
set_option maxRecDepth 100000 in
theorem s_dm_0 : s_okD 37 0 27 = true := by decide +kernel
set_option maxRecDepth 100000 in
theorem s_dm_1 : s_okD 37 28 55 = true := by decide +kernel
set_option maxRecDepth 100000 in
theorem s_dm_2 : s_okD 37 56 83 = true := by decide +kernel
set_option maxRecDepth 100000 in
theorem s_dm_3 : s_okD 37 84 111 = true := by decide +kernel
set_option maxRecDepth 100000 in
theorem s_dm_4 : s_okD 37 112 139 = true := by decide +kernel
set_option maxRecDepth 100000 in
theorem s_dm_5 : s_okD 37 140 167 = true := by decide +kernel
set_option maxRecDepth 100000 in
theorem s_dm_6 : s_okD 37 168 195 = true := by decide +kernel
set_option maxRecDepth 100000 in
theorem s_dm_7 : s_okD 37 196 222 = true := by decide +kernel
set_option maxRecDepth 100000 in
theorem s_dm_lo : s_okD 37 (-2147483648) (-1) = true := by decide +kernel
set_option maxRecDepth 100000 in
theorem s_dm_hi : s_okD 37 223 2147483647 = true := by decide +kernel

-- the law's other cases (made by wip/p24/law/gen99j.py)
set_option maxRecDepth 100000 in
theorem zc_0 : z_case 12 213 [0, 0, 0, 0] false false 252 = true ∧ (g_me 12).2.1 = 11 ∧ (g_me 213).2.1 = 12 := by decide +kernel
set_option maxRecDepth 100000 in
theorem zc_1 : z_case 19 216 [0, 0, 0, 0] false false 313 = true ∧ (g_me 19).2.1 = 11 ∧ (g_me 216).2.1 = 12 := by decide +kernel
set_option maxRecDepth 100000 in
theorem zc_2 : z_case 27 218 [0, 0] false false 374 = true ∧ (g_me 27).2.1 = 11 ∧ (g_me 218).2.1 = 12 := by decide +kernel
set_option maxRecDepth 100000 in
theorem zc_3 : z_case 30 219 [0, 0, 0, 0] false false 411 = true ∧ (g_me 30).2.1 = 11 ∧ (g_me 219).2.1 = 12 := by decide +kernel
set_option maxRecDepth 100000 in
theorem zc_4 : z_case 36 220 [0, 0] false false 472 = true ∧ (g_me 36).2.1 = 11 ∧ (g_me 220).2.1 = 12 := by decide +kernel
set_option maxRecDepth 100000 in
theorem zc_5 : z_case 43 222 [] false false 509 = true ∧ (g_me 43).2.1 = 11 ∧ (g_me 222).2.1 = 12 := by decide +kernel
set_option maxRecDepth 100000 in
theorem zc_7 : z_case 45 225 [0] false false 562 = true ∧ (g_me 45).2.1 = 11 ∧ (g_me 225).2.1 = 12 := by decide +kernel
set_option maxRecDepth 100000 in
theorem zc_8 : z_case 61 232 [] false false 587 = true ∧ (g_me 61).2.1 = 11 ∧ (g_me 232).2.1 = 12 := by decide +kernel
set_option maxRecDepth 100000 in
theorem zc_9 : z_case 62 233 [] false false 600 = true ∧ (g_me 62).2.1 = 11 ∧ (g_me 233).2.1 = 12 := by decide +kernel
set_option maxRecDepth 100000 in
theorem zc_10 : z_case 63 234 [0] false false 613 = true ∧ (g_me 63).2.1 = 11 ∧ (g_me 234).2.1 = 12 := by decide +kernel
set_option maxRecDepth 100000 in
theorem zc_11 : z_case 66 272 [0, 0] false false 638 = true ∧ (g_me 66).2.1 = 11 ∧ (g_me 272).2.1 = 12 := by decide +kernel
set_option maxRecDepth 100000 in
theorem zc_12 : z_case 72 274 [0, 0] false false 675 = true ∧ (g_me 72).2.1 = 11 ∧ (g_me 274).2.1 = 12 := by decide +kernel
set_option maxRecDepth 100000 in
theorem zc_13 : z_case 73 235 [0] false false 712 = true ∧ (g_me 73).2.1 = 11 ∧ (g_me 235).2.1 = 12 := by decide +kernel
set_option maxRecDepth 100000 in
theorem zc_14 : z_case 85 237 [0, 0] false false 737 = true ∧ (g_me 85).2.1 = 11 ∧ (g_me 237).2.1 = 12 := by decide +kernel
set_option maxRecDepth 100000 in
theorem zc_15 : z_case 99 244 [0, 0, 0] false false 774 = true ∧ (g_me 99).2.1 = 11 ∧ (g_me 244).2.1 = 12 := by decide +kernel
set_option maxRecDepth 100000 in
theorem zc_16 : z_case 101 245 [0, 0, 0] false false 823 = true ∧ (g_me 101).2.1 = 11 ∧ (g_me 245).2.1 = 12 := by decide +kernel
set_option maxRecDepth 100000 in
theorem zc_17 : z_case 106 247 [0] false false 872 = true ∧ (g_me 106).2.1 = 11 ∧ (g_me 247).2.1 = 12 := by decide +kernel
set_option maxRecDepth 100000 in
theorem zc_18 : z_case 107 249 [0, 0] false false 897 = true ∧ (g_me 107).2.1 = 11 ∧ (g_me 249).2.1 = 12 := by decide +kernel
set_option maxRecDepth 100000 in
theorem zc_19 : z_case 110 250 [0] false false 934 = true ∧ (g_me 110).2.1 = 11 ∧ (g_me 250).2.1 = 12 := by decide +kernel
set_option maxRecDepth 100000 in
theorem zc_20 : z_case 112 251 [0] false false 959 = true ∧ (g_me 112).2.1 = 11 ∧ (g_me 251).2.1 = 12 := by decide +kernel
set_option maxRecDepth 100000 in
theorem zc_21 : z_case 114 252 [] false false 984 = true ∧ (g_me 114).2.1 = 11 ∧ (g_me 252).2.1 = 12 := by decide +kernel
set_option maxRecDepth 100000 in
theorem zc_22 : z_case 121 256 [0, 0] false false 997 = true ∧ (g_me 121).2.1 = 11 ∧ (g_me 256).2.1 = 12 := by decide +kernel
set_option maxRecDepth 100000 in
theorem zc_23 : z_case 122 257 [0, 0] false false 1034 = true ∧ (g_me 122).2.1 = 11 ∧ (g_me 257).2.1 = 12 := by decide +kernel
set_option maxRecDepth 100000 in
theorem zc_24 : z_case 129 259 [0] false false 1071 = true ∧ (g_me 129).2.1 = 11 ∧ (g_me 259).2.1 = 12 := by decide +kernel
set_option maxRecDepth 100000 in
theorem zc_25 : z_case 132 261 [0] false false 1096 = true ∧ (g_me 132).2.1 = 11 ∧ (g_me 261).2.1 = 12 := by decide +kernel
set_option maxRecDepth 100000 in
theorem zc_26 : z_case 137 262 [0, 0, 0] false false 1121 = true ∧ (g_me 137).2.1 = 11 ∧ (g_me 262).2.1 = 12 := by decide +kernel
set_option maxRecDepth 100000 in
theorem zc_27 : z_case 140 263 [0] false false 1170 = true ∧ (g_me 140).2.1 = 11 ∧ (g_me 263).2.1 = 12 := by decide +kernel
set_option maxRecDepth 100000 in
theorem zc_28 : z_case 149 266 [] false false 1195 = true ∧ (g_me 149).2.1 = 11 ∧ (g_me 266).2.1 = 12 := by decide +kernel
set_option maxRecDepth 100000 in
theorem zc_29 : z_case 151 267 [] false false 1208 = true ∧ (g_me 151).2.1 = 11 ∧ (g_me 267).2.1 = 12 := by decide +kernel
set_option maxRecDepth 100000 in
theorem zc_30 : z_case 162 270 [0, 0, 0, 0] false false 1221 = true ∧ (g_me 162).2.1 = 11 ∧ (g_me 270).2.1 = 12 := by decide +kernel
set_option maxRecDepth 100000 in
theorem zc_31 : z_case 163 271 [0, 0] false false 1282 = true ∧ (g_me 163).2.1 = 11 ∧ (g_me 271).2.1 = 12 := by decide +kernel
set_option maxRecDepth 100000 in
theorem zc_32 : z_case 164 275 [0, 0, 0] false false 1319 = true ∧ (g_me 164).2.1 = 11 ∧ (g_me 275).2.1 = 12 := by decide +kernel
set_option maxRecDepth 100000 in
theorem zc_33 : z_case 166 277 [0, 0, 0] false false 1368 = true ∧ (g_me 166).2.1 = 11 ∧ (g_me 277).2.1 = 12 := by decide +kernel
set_option maxRecDepth 100000 in
theorem zc_34 : z_case 167 278 [0] false false 1417 = true ∧ (g_me 167).2.1 = 11 ∧ (g_me 278).2.1 = 12 := by decide +kernel
set_option maxRecDepth 100000 in
theorem zc_35 : z_case 170 279 [0] false false 1442 = true ∧ (g_me 170).2.1 = 11 ∧ (g_me 279).2.1 = 12 := by decide +kernel
set_option maxRecDepth 100000 in
theorem zc_36 : z_case 174 281 [] false false 1467 = true ∧ (g_me 174).2.1 = 11 ∧ (g_me 281).2.1 = 12 := by decide +kernel
set_option maxRecDepth 100000 in
theorem zc_37 : z_case 179 283 [0, 1] false false 1480 = true ∧ (g_me 179).2.1 = 11 ∧ (g_me 283).2.1 = 12 := by decide +kernel
set_option maxRecDepth 100000 in
theorem zc_38 : z_case 181 284 [0, 1] false false 1533 = true ∧ (g_me 181).2.1 = 11 ∧ (g_me 284).2.1 = 12 := by decide +kernel
set_option maxRecDepth 100000 in
theorem zc_39 : z_case 183 285 [0] false false 1586 = true ∧ (g_me 183).2.1 = 11 ∧ (g_me 285).2.1 = 12 := by decide +kernel
set_option maxRecDepth 100000 in
theorem zc_40 : z_case 185 286 [] false false 1611 = true ∧ (g_me 185).2.1 = 11 ∧ (g_me 286).2.1 = 12 := by decide +kernel
set_option maxRecDepth 100000 in
theorem zc_41 : z_case 188 288 [] false false 1624 = true ∧ (g_me 188).2.1 = 11 ∧ (g_me 288).2.1 = 12 := by decide +kernel
set_option maxRecDepth 100000 in
theorem zc_42 : z_case 190 289 [] false false 1637 = true ∧ (g_me 190).2.1 = 11 ∧ (g_me 289).2.1 = 12 := by decide +kernel
set_option maxRecDepth 100000 in
theorem zc_43 : z_case 192 290 [0, 0, 0, 0] false false 1650 = true ∧ (g_me 192).2.1 = 11 ∧ (g_me 290).2.1 = 12 := by decide +kernel
set_option maxRecDepth 100000 in
theorem zc_44 : z_case 194 291 [] false false 1711 = true ∧ (g_me 194).2.1 = 11 ∧ (g_me 291).2.1 = 12 := by decide +kernel
set_option maxRecDepth 100000 in
theorem zc_45 : z_case 200 293 [0] false false 1724 = true ∧ (g_me 200).2.1 = 11 ∧ (g_me 293).2.1 = 12 := by decide +kernel
set_option maxRecDepth 100000 in
theorem zc_46 : z_case 203 295 [0] false false 1749 = true ∧ (g_me 203).2.1 = 11 ∧ (g_me 295).2.1 = 12 := by decide +kernel
set_option maxRecDepth 100000 in
theorem zc_47 : z_case 205 297 [0, 0] false false 1774 = true ∧ (g_me 205).2.1 = 11 ∧ (g_me 297).2.1 = 12 := by decide +kernel
set_option maxRecDepth 100000 in
theorem zc_48 : z_case 207 300 [0] false false 1811 = true ∧ (g_me 207).2.1 = 11 ∧ (g_me 300).2.1 = 12 := by decide +kernel
section L65
variable {p : Program} {l : Launch} {e : Env} {s : State} {m : MethodId} {below : List Frame} {meth : Method} {c : Code} {b : Nat} {xs : Nat → Int32} {D : va_G} {dA : Nat → ClassId} {L9 : Nat} {A : Nat → Nat} {i : Int}
theorem lw_case (hflags : l.flags = flags0) (C0 : lw_At p s m meth c b L9 xs) (hK : g_K4 D dA s) (hP : z_cl L9 b xs (lw_PP p l e s m below meth c b D dA)) {k : Nat} {off : Int} (ho : z_offs[k]? = some off) (hE : ∀ ν, z_ok L9 b xs (z_Ev i L9 b A xs ν)) {cells slots : Nat} (hc1 : cells + 10 ≤ 1105985) (hc2 : slots + 133 ≤ 5778149) (hn : ∀ c' s', c' ≤ cells + 10 → s' ≤ slots + 133 → z_next (lw_PP p l e s m below meth c b D dA) (rw_J A) i L9 b A xs c' s') {Ls : g_L} (hL : z_gL (z_Ev i L9 b A xs (fun _ => 0)) z_L0 Ls) {h : g_H} (hI : rw_J A h) : lw_PP p l e s m below meth c b D dA ((39 + off).toNat, Ls, [], cells, slots, h) := by
  have go : ∀ {jx jm : Nat} {spec : List Nat} {cmp : Bool} {tg : Nat}, (z_case jx jm spec cmp false tg = true ∧ (g_me jx).2.1 = 11 ∧ (g_me jm).2.1 = 12) → iv_pair (rw_J A) A jx jm spec cmp false → lw_PP p l e s m below meth c b D dA (tg, Ls, [], cells, slots, h) := fun hz hpr => z_case_ok hP hE hz.2.1 hz.2.2 hz.1 hpr (fun h => by cases h) (fun h hI => iv_sh_ok (rw_J_inv hI)) hc1 hc2 hn hL hI
  have hk : k < 50 := (List.getElem?_eq_some_iff.mp ho).1
  rcases k with _ | k
  · cases ho
    exact go zc_0 (rw_pair (iv_p12 A false) (by decide +kernel) (by decide +kernel))
  rcases k with _ | k
  · cases ho
    exact go zc_1 (rw_pair (iv_p19 A false) (by decide +kernel) (by decide +kernel))
  rcases k with _ | k
  · cases ho
    exact go zc_2 (rw_pair (iv_p27 A false) (by decide +kernel) (by decide +kernel))
  rcases k with _ | k
  · cases ho
    exact go zc_3 (rw_pair (iv_p30 A false) (by decide +kernel) (by decide +kernel))
  rcases k with _ | k
  · cases ho
    exact go zc_4 (rw_pair (iv_p36 A false) (by decide +kernel) (by decide +kernel))
  rcases k with _ | k
  · cases ho
    exact go zc_5 (rw_pair (iv_p43 A false) (by decide +kernel) (by decide +kernel))
  rcases k with _ | k
  · cases ho
    exact lw_of hflags C0 hK hP hE hc1 hc2 hn hL hI
  rcases k with _ | k
  · cases ho
    exact go zc_7 (rw_p45 A false)
  rcases k with _ | k
  · cases ho
    exact go zc_8 (rw_p61 A false)
  rcases k with _ | k
  · cases ho
    exact go zc_9 (rw_p62 A false)
  rcases k with _ | k
  · cases ho
    exact go zc_10 (rw_p63 A false)
  rcases k with _ | k
  · cases ho
    exact go zc_11 (rw_p66 A false)
  rcases k with _ | k
  · cases ho
    exact go zc_12 (rw_p72 A false)
  rcases k with _ | k
  · cases ho
    exact go zc_13 (rw_p73 A false)
  rcases k with _ | k
  · cases ho
    exact go zc_14 (rw_p85 A false)
  rcases k with _ | k
  · cases ho
    exact go zc_15 (rw_p99 A false)
  rcases k with _ | k
  · cases ho
    exact go zc_16 (rw_p101 A false)
  rcases k with _ | k
  · cases ho
    exact go zc_17 (rw_p106 A)
  rcases k with _ | k
  · cases ho
    exact go zc_18 (rw_p107 A false)
  rcases k with _ | k
  · cases ho
    exact go zc_19 (rw_pair (iv_p110 A false) (by decide +kernel) (by decide +kernel))
  rcases k with _ | k
  · cases ho
    exact go zc_20 (rw_pair (iv_p112 A false) (by decide +kernel) (by decide +kernel))
  rcases k with _ | k
  · cases ho
    exact go zc_21 (rw_pair (iv_p114 A false) (by decide +kernel) (by decide +kernel))
  rcases k with _ | k
  · cases ho
    exact go zc_22 (rw_pair (iv_p121 A false) (by decide +kernel) (by decide +kernel))
  rcases k with _ | k
  · cases ho
    exact go zc_23 (rw_p122 A false)
  rcases k with _ | k
  · cases ho
    exact go zc_24 (rw_p129 A false)
  rcases k with _ | k
  · cases ho
    exact go zc_25 (rw_p132 A false)
  rcases k with _ | k
  · cases ho
    exact go zc_26 (rw_pair (iv_p137 A false) (by decide +kernel) (by decide +kernel))
  rcases k with _ | k
  · cases ho
    exact go zc_27 (rw_p140 A false)
  rcases k with _ | k
  · cases ho
    exact go zc_28 (rw_pair (iv_pairR hxR_149 hmR_266) (by decide +kernel) (by decide +kernel))
  rcases k with _ | k
  · cases ho
    exact go zc_29 (rw_p151 A false)
  rcases k with _ | k
  · cases ho
    exact go zc_30 (rw_p162 A false)
  rcases k with _ | k
  · cases ho
    exact go zc_31 (rw_p163 A false)
  rcases k with _ | k
  · cases ho
    exact go zc_32 (rw_p164 A false)
  rcases k with _ | k
  · cases ho
    exact go zc_33 (rw_p166 A false)
  rcases k with _ | k
  · cases ho
    exact go zc_34 (rw_p167 A false)
  rcases k with _ | k
  · cases ho
    exact go zc_35 (rw_p170 A false)
  rcases k with _ | k
  · cases ho
    exact go zc_36 (rw_p174 A false)
  rcases k with _ | k
  · cases ho
    exact go zc_37 (rw_pair (iv_p179 A false) (by decide +kernel) (by decide +kernel))
  rcases k with _ | k
  · cases ho
    exact go zc_38 (rw_pair (iv_p181 A false) (by decide +kernel) (by decide +kernel))
  rcases k with _ | k
  · cases ho
    exact go zc_39 (rw_pair (iv_p183 A false) (by decide +kernel) (by decide +kernel))
  rcases k with _ | k
  · cases ho
    exact go zc_40 (rw_p185 A false)
  rcases k with _ | k
  · cases ho
    exact go zc_41 (rw_p188 A false)
  rcases k with _ | k
  · cases ho
    exact go zc_42 (rw_pair (iv_pairR hxR_190 hmR_289) (by decide +kernel) (by decide +kernel))
  rcases k with _ | k
  · cases ho
    exact go zc_43 (rw_pair (iv_p192 A false) (by decide +kernel) (by decide +kernel))
  rcases k with _ | k
  · cases ho
    exact go zc_44 (rw_p194 A false)
  rcases k with _ | k
  · cases ho
    exact go zc_45 (rw_pair (iv_p200 A false) (by decide +kernel) (by decide +kernel))
  rcases k with _ | k
  · cases ho
    exact go zc_46 (rw_pair (iv_p203 A false) (by decide +kernel) (by decide +kernel))
  rcases k with _ | k
  · cases ho
    exact go zc_47 (rw_p205 A false)
  rcases k with _ | k
  · cases ho
    exact go zc_48 (rw_pair (iv_pairR hxR_207 hmR_300) (by decide +kernel) (by decide +kernel))
  rcases k with _ | k
  · cases ho
    exact lw_row hflags C0 hK hP hE hc1 hc2 hn hL hI
  omega
end L65

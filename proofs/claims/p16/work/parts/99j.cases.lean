-- the law's other cases (made by wip/p24/law/gen99j.py)
set_option maxRecDepth 100000 in
theorem zc_0 : z_case 12 213 [0, 0, 0, 0] false false 252 = true ∧ (g_me 12).2.1 = 11 ∧ (g_me 213).2.1 = 12 := by decide +kernel
set_option maxRecDepth 100000 in
theorem zc_1 : z_case 19 216 [0, 0, 0, 0] false false 313 = true ∧ (g_me 19).2.1 = 11 ∧ (g_me 216).2.1 = 12 := by decide +kernel
set_option maxRecDepth 100000 in
theorem zc_2 : z_case 27 218 [0, 0] false false 374 = true ∧ (g_me 27).2.1 = 11 ∧ (g_me 218).2.1 = 12 := by decide +kernel
set_option maxRecDepth 100000 in
theorem zc_3 : z_case 30 219 [0, 0, 0, 0] false false 411 = true ∧ (g_me 30).2.1 = 11 ∧ (g_me 219).2.1 = 12 := by decide +kernel
set_option maxRecDepth 100000 in
theorem zc_4 : z_case 36 220 [0, 0] false false 472 = true ∧ (g_me 36).2.1 = 11 ∧ (g_me 220).2.1 = 12 := by decide +kernel
set_option maxRecDepth 100000 in
theorem zc_5 : z_case 43 222 [] false false 509 = true ∧ (g_me 43).2.1 = 11 ∧ (g_me 222).2.1 = 12 := by decide +kernel
set_option maxRecDepth 100000 in
theorem zc_7 : z_case 45 225 [0] false false 562 = true ∧ (g_me 45).2.1 = 11 ∧ (g_me 225).2.1 = 12 := by decide +kernel
set_option maxRecDepth 100000 in
theorem zc_8 : z_case 61 232 [] false false 587 = true ∧ (g_me 61).2.1 = 11 ∧ (g_me 232).2.1 = 12 := by decide +kernel
set_option maxRecDepth 100000 in
theorem zc_9 : z_case 62 233 [] false false 600 = true ∧ (g_me 62).2.1 = 11 ∧ (g_me 233).2.1 = 12 := by decide +kernel
set_option maxRecDepth 100000 in
theorem zc_10 : z_case 63 234 [0] false false 613 = true ∧ (g_me 63).2.1 = 11 ∧ (g_me 234).2.1 = 12 := by decide +kernel
set_option maxRecDepth 100000 in
theorem zc_11 : z_case 66 272 [0, 0] false false 638 = true ∧ (g_me 66).2.1 = 11 ∧ (g_me 272).2.1 = 12 := by decide +kernel
set_option maxRecDepth 100000 in
theorem zc_12 : z_case 72 274 [0, 0] false false 675 = true ∧ (g_me 72).2.1 = 11 ∧ (g_me 274).2.1 = 12 := by decide +kernel
set_option maxRecDepth 100000 in
theorem zc_13 : z_case 73 235 [0] false false 712 = true ∧ (g_me 73).2.1 = 11 ∧ (g_me 235).2.1 = 12 := by decide +kernel
set_option maxRecDepth 100000 in
theorem zc_14 : z_case 85 237 [0, 0] true false 737 = true ∧ (g_me 85).2.1 = 11 ∧ (g_me 237).2.1 = 12 := by decide +kernel
set_option maxRecDepth 100000 in
theorem zc_15 : z_case 99 244 [0, 0, 0] false false 774 = true ∧ (g_me 99).2.1 = 11 ∧ (g_me 244).2.1 = 12 := by decide +kernel
set_option maxRecDepth 100000 in
theorem zc_16 : z_case 101 245 [0, 0, 0] false false 823 = true ∧ (g_me 101).2.1 = 11 ∧ (g_me 245).2.1 = 12 := by decide +kernel
set_option maxRecDepth 100000 in
theorem zc_17 : z_case 106 247 [0] false false 872 = true ∧ (g_me 106).2.1 = 11 ∧ (g_me 247).2.1 = 12 := by decide +kernel
set_option maxRecDepth 100000 in
theorem zc_18 : z_case 107 249 [0, 0] false false 897 = true ∧ (g_me 107).2.1 = 11 ∧ (g_me 249).2.1 = 12 := by decide +kernel
set_option maxRecDepth 100000 in
theorem zc_19 : z_case 110 250 [0] false false 934 = true ∧ (g_me 110).2.1 = 11 ∧ (g_me 250).2.1 = 12 := by decide +kernel
set_option maxRecDepth 100000 in
theorem zc_20 : z_case 112 251 [0] false false 959 = true ∧ (g_me 112).2.1 = 11 ∧ (g_me 251).2.1 = 12 := by decide +kernel
set_option maxRecDepth 100000 in
theorem zc_21 : z_case 114 252 [] false false 984 = true ∧ (g_me 114).2.1 = 11 ∧ (g_me 252).2.1 = 12 := by decide +kernel
set_option maxRecDepth 100000 in
theorem zc_22 : z_case 121 256 [0, 0] false false 997 = true ∧ (g_me 121).2.1 = 11 ∧ (g_me 256).2.1 = 12 := by decide +kernel
set_option maxRecDepth 100000 in
theorem zc_23 : z_case 122 257 [0, 0] false false 1034 = true ∧ (g_me 122).2.1 = 11 ∧ (g_me 257).2.1 = 12 := by decide +kernel
set_option maxRecDepth 100000 in
theorem zc_24 : z_case 129 259 [0] false false 1071 = true ∧ (g_me 129).2.1 = 11 ∧ (g_me 259).2.1 = 12 := by decide +kernel
set_option maxRecDepth 100000 in
theorem zc_25 : z_case 132 261 [0] false false 1096 = true ∧ (g_me 132).2.1 = 11 ∧ (g_me 261).2.1 = 12 := by decide +kernel
set_option maxRecDepth 100000 in
theorem zc_26 : z_case 137 262 [0, 0, 0] false false 1121 = true ∧ (g_me 137).2.1 = 11 ∧ (g_me 262).2.1 = 12 := by decide +kernel
set_option maxRecDepth 100000 in
theorem zc_27 : z_case 140 263 [0] false false 1170 = true ∧ (g_me 140).2.1 = 11 ∧ (g_me 263).2.1 = 12 := by decide +kernel
set_option maxRecDepth 100000 in
theorem zc_28 : z_case 149 266 [] false false 1195 = true ∧ (g_me 149).2.1 = 11 ∧ (g_me 266).2.1 = 12 := by decide +kernel
set_option maxRecDepth 100000 in
theorem zc_29 : z_case 151 267 [] false false 1208 = true ∧ (g_me 151).2.1 = 11 ∧ (g_me 267).2.1 = 12 := by decide +kernel
set_option maxRecDepth 100000 in
theorem zc_30 : z_case 162 270 [0, 0, 0, 0] false false 1221 = true ∧ (g_me 162).2.1 = 11 ∧ (g_me 270).2.1 = 12 := by decide +kernel
set_option maxRecDepth 100000 in
theorem zc_31 : z_case 163 271 [0, 0] false false 1282 = true ∧ (g_me 163).2.1 = 11 ∧ (g_me 271).2.1 = 12 := by decide +kernel
set_option maxRecDepth 100000 in
theorem zc_32 : z_case 164 275 [0, 0, 0] false false 1319 = true ∧ (g_me 164).2.1 = 11 ∧ (g_me 275).2.1 = 12 := by decide +kernel
set_option maxRecDepth 100000 in
theorem zc_33 : z_case 166 277 [0, 0, 0] false false 1368 = true ∧ (g_me 166).2.1 = 11 ∧ (g_me 277).2.1 = 12 := by decide +kernel
set_option maxRecDepth 100000 in
theorem zc_34 : z_case 167 278 [0] false false 1417 = true ∧ (g_me 167).2.1 = 11 ∧ (g_me 278).2.1 = 12 := by decide +kernel
set_option maxRecDepth 100000 in
theorem zc_35 : z_case 170 279 [0] false false 1442 = true ∧ (g_me 170).2.1 = 11 ∧ (g_me 279).2.1 = 12 := by decide +kernel
set_option maxRecDepth 100000 in
theorem zc_36 : z_case 174 281 [] false false 1467 = true ∧ (g_me 174).2.1 = 11 ∧ (g_me 281).2.1 = 12 := by decide +kernel
set_option maxRecDepth 100000 in
theorem zc_37 : z_case 179 283 [0, 1] false false 1480 = true ∧ (g_me 179).2.1 = 11 ∧ (g_me 283).2.1 = 12 := by decide +kernel
set_option maxRecDepth 100000 in
theorem zc_38 : z_case 181 284 [0, 1] false false 1533 = true ∧ (g_me 181).2.1 = 11 ∧ (g_me 284).2.1 = 12 := by decide +kernel
set_option maxRecDepth 100000 in
theorem zc_39 : z_case 183 285 [0] false false 1586 = true ∧ (g_me 183).2.1 = 11 ∧ (g_me 285).2.1 = 12 := by decide +kernel
set_option maxRecDepth 100000 in
theorem zc_40 : z_case 185 286 [] false false 1611 = true ∧ (g_me 185).2.1 = 11 ∧ (g_me 286).2.1 = 12 := by decide +kernel
set_option maxRecDepth 100000 in
theorem zc_41 : z_case 188 288 [] false false 1624 = true ∧ (g_me 188).2.1 = 11 ∧ (g_me 288).2.1 = 12 := by decide +kernel
set_option maxRecDepth 100000 in
theorem zc_42 : z_case 190 289 [] false false 1637 = true ∧ (g_me 190).2.1 = 11 ∧ (g_me 289).2.1 = 12 := by decide +kernel
set_option maxRecDepth 100000 in
theorem zc_43 : z_case 192 290 [0, 0, 0, 0] false false 1650 = true ∧ (g_me 192).2.1 = 11 ∧ (g_me 290).2.1 = 12 := by decide +kernel
set_option maxRecDepth 100000 in
theorem zc_44 : z_case 194 291 [] false false 1711 = true ∧ (g_me 194).2.1 = 11 ∧ (g_me 291).2.1 = 12 := by decide +kernel
set_option maxRecDepth 100000 in
theorem zc_45 : z_case 200 293 [0] false false 1724 = true ∧ (g_me 200).2.1 = 11 ∧ (g_me 293).2.1 = 12 := by decide +kernel
set_option maxRecDepth 100000 in
theorem zc_46 : z_case 203 295 [0] false false 1749 = true ∧ (g_me 203).2.1 = 11 ∧ (g_me 295).2.1 = 12 := by decide +kernel
set_option maxRecDepth 100000 in
theorem zc_47 : z_case 205 297 [0, 0] false false 1774 = true ∧ (g_me 205).2.1 = 11 ∧ (g_me 297).2.1 = 12 := by decide +kernel
set_option maxRecDepth 100000 in
theorem zc_48 : z_case 207 300 [0] false false 1811 = true ∧ (g_me 207).2.1 = 11 ∧ (g_me 300).2.1 = 12 := by decide +kernel
section L65
variable {p : Program} {l : Launch} {e : Env} {s : State} {m : MethodId} {below : List Frame} {meth : Method} {c : Code} {b : Nat} {xs : Nat → Int32} {D : va_G} {dA : Nat → ClassId} {L9 : Nat} {A : Nat → Nat} {i : Int}
theorem lw_case (hflags : l.flags = flags0) (C0 : lw_At p s m meth c b L9 xs) (hK : g_K4 D dA s) (hP : z_cl L9 b xs (lw_PP p l e s m below meth c b D dA)) {k : Nat} {off : Int} (ho : z_offs[k]? = some off) (hE : ∀ ν, z_ok L9 b xs (z_Ev i L9 b A xs ν)) {cells slots : Nat} (hc1 : cells + 10 ≤ 601024) (hc2 : slots + 133 ≤ 7293034) (hn : ∀ c' s', c' ≤ cells + 10 → s' ≤ slots + 133 → z_next (lw_PP p l e s m below meth c b D dA) (iv_J A) i L9 b A xs c' s') {Ls : g_L} (hL : z_gL (z_Ev i L9 b A xs (fun _ => 0)) z_L0 Ls) {h : g_H} (hI : iv_J A h) : lw_PP p l e s m below meth c b D dA ((39 + off).toNat, Ls, [], cells, slots, h) := by
  have go : ∀ {jx jm : Nat} {spec : List Nat} {cmp : Bool} {tg : Nat}, (z_case jx jm spec cmp false tg = true ∧ (g_me jx).2.1 = 11 ∧ (g_me jm).2.1 = 12) → iv_pair (iv_J A) A jx jm spec cmp false → lw_PP p l e s m below meth c b D dA (tg, Ls, [], cells, slots, h) := fun hz hpr => z_case_ok hP hE hz.2.1 hz.2.2 hz.1 hpr (fun h => by cases h) (fun h hI => iv_sh_ok (iv_J_inv hI)) hc1 hc2 hn hL hI
  have hk : k < 50 := (List.getElem?_eq_some_iff.mp ho).1
  rcases k with _ | k
  · cases ho
    exact go zc_0 (iv_p12 A false)
  rcases k with _ | k
  · cases ho
    exact go zc_1 (iv_p19 A false)
  rcases k with _ | k
  · cases ho
    exact go zc_2 (iv_p27 A false)
  rcases k with _ | k
  · cases ho
    exact go zc_3 (iv_p30 A false)
  rcases k with _ | k
  · cases ho
    exact go zc_4 (iv_p36 A false)
  rcases k with _ | k
  · cases ho
    exact go zc_5 (iv_p43 A false)
  rcases k with _ | k
  · cases ho
    exact lw_of hflags C0 hK hP hE hc1 hc2 hn hL hI
  rcases k with _ | k
  · cases ho
    exact go zc_7 (iv_pairR hxR_45 hmR_225)
  rcases k with _ | k
  · cases ho
    exact go zc_8 (iv_pairR hxR_61 hmR_232)
  rcases k with _ | k
  · cases ho
    exact go zc_9 (iv_pairR hxR_62 hmR_233)
  rcases k with _ | k
  · cases ho
    exact go zc_10 (iv_pairR hxR_63 hmR_234)
  rcases k with _ | k
  · cases ho
    exact go zc_11 (iv_pairR hxR_66 hmR_272)
  rcases k with _ | k
  · cases ho
    exact go zc_12 (iv_pairR hxR_72 hmR_274)
  rcases k with _ | k
  · cases ho
    exact go zc_13 (iv_pairR hxR_73 hmR_235)
  rcases k with _ | k
  · cases ho
    exact go zc_14 (iv_p85 A true)
  rcases k with _ | k
  · cases ho
    exact go zc_15 (iv_p99 A false)
  rcases k with _ | k
  · cases ho
    exact go zc_16 (iv_pairR hxR_101 hmR_245)
  rcases k with _ | k
  · cases ho
    exact go zc_17 (iv_pairR hxR_106 hmR_247)
  rcases k with _ | k
  · cases ho
    exact go zc_18 (iv_pairR hxR_107 hmR_249)
  rcases k with _ | k
  · cases ho
    exact go zc_19 (iv_p110 A false)
  rcases k with _ | k
  · cases ho
    exact go zc_20 (iv_p112 A false)
  rcases k with _ | k
  · cases ho
    exact go zc_21 (iv_p114 A false)
  rcases k with _ | k
  · cases ho
    exact go zc_22 (iv_pairR hxR_121 hmR_256)
  rcases k with _ | k
  · cases ho
    exact go zc_23 (iv_pairR hxR_122 hmR_257)
  rcases k with _ | k
  · cases ho
    exact go zc_24 (iv_pairR hxR_129 hmR_259)
  rcases k with _ | k
  · cases ho
    exact go zc_25 (iv_pairR hxR_132 hmR_261)
  rcases k with _ | k
  · cases ho
    exact go zc_26 (iv_pairR hxR_137 hmR_262)
  rcases k with _ | k
  · cases ho
    exact go zc_27 (iv_pairR hxR_140 hmR_263)
  rcases k with _ | k
  · cases ho
    exact go zc_28 (iv_pairR hxR_149 hmR_266)
  rcases k with _ | k
  · cases ho
    exact go zc_29 (iv_pairR hxR_151 hmR_267)
  rcases k with _ | k
  · cases ho
    exact go zc_30 (iv_pairR hxR_162 hmR_270)
  rcases k with _ | k
  · cases ho
    exact go zc_31 (iv_pairR hxR_163 hmR_271)
  rcases k with _ | k
  · cases ho
    exact go zc_32 (iv_pairR hxR_164 hmR_275)
  rcases k with _ | k
  · cases ho
    exact go zc_33 (iv_pairR hxR_166 hmR_277)
  rcases k with _ | k
  · cases ho
    exact go zc_34 (iv_pairR hxR_167 hmR_278)
  rcases k with _ | k
  · cases ho
    exact go zc_35 (iv_p170 A false)
  rcases k with _ | k
  · cases ho
    exact go zc_36 (iv_p174 A false)
  rcases k with _ | k
  · cases ho
    exact go zc_37 (iv_pairR hxR_179 hmR_283)
  rcases k with _ | k
  · cases ho
    exact go zc_38 (iv_pairR hxR_181 hmR_284)
  rcases k with _ | k
  · cases ho
    exact go zc_39 (iv_pairR hxR_183 hmR_285)
  rcases k with _ | k
  · cases ho
    exact go zc_40 (iv_pairR hxR_185 hmR_286)
  rcases k with _ | k
  · cases ho
    exact go zc_41 (iv_pairR hxR_188 hmR_288)
  rcases k with _ | k
  · cases ho
    exact go zc_42 (iv_pairR hxR_190 hmR_289)
  rcases k with _ | k
  · cases ho
    exact go zc_43 (iv_pairR hxR_192 hmR_290)
  rcases k with _ | k
  · cases ho
    exact go zc_44 (iv_pairR hxR_194 hmR_291)
  rcases k with _ | k
  · cases ho
    exact go zc_45 (iv_p200 A false)
  rcases k with _ | k
  · cases ho
    exact go zc_46 (iv_p203 A false)
  rcases k with _ | k
  · cases ho
    exact go zc_47 (iv_pairR hxR_205 hmR_297)
  rcases k with _ | k
  · cases ho
    exact go zc_48 (iv_pairR hxR_207 hmR_300)
  rcases k with _ | k
  · cases ho
    exact lw_row hflags C0 hK hP hE hc1 hc2 hn hL hI
  omega
end L65

-- the row's numbers on both sides (made by wip/u/mkrw.py)
set_option maxRecDepth 20000
/-- arrays of longs stay -/
def rw_K (t : Nat) : Bool := Nat.beq t 1
def rw_B : List Nat := [45, 46, 47, 48, 49, 53, 59, 60, 61, 62, 63, 66, 68, 71, 72, 73, 84, 85, 91, 92, 93, 94, 98, 99, 101, 103, 104, 106, 107, 108, 122, 123, 126, 129, 130, 132, 134, 140, 141, 145, 148, 151, 155, 162, 163, 164, 166, 167, 169, 170, 171, 174, 175, 178, 185, 186, 188, 189, 194, 205, 225, 226, 227, 230, 231, 232, 233, 234, 235, 237, 242, 244, 245, 246, 247, 249, 257, 259, 261, 263, 267, 270, 271, 272, 273, 274, 275, 277, 278, 279, 281, 282, 286, 288, 291, 297]
set_option maxRecDepth 100000 in
theorem rw_T_0 : f_TB rz_E rw_K rw_B 0 20 = true := by decide +kernel
set_option maxRecDepth 100000 in
theorem rw_T_1 : f_TB rz_E rw_K rw_B 20 20 = true := by decide +kernel
set_option maxRecDepth 100000 in
theorem rw_T_2 : f_TB rz_E rw_K rw_B 40 20 = true := by decide +kernel
set_option maxRecDepth 100000 in
theorem rw_T_3 : f_TB rz_E rw_K rw_B 60 20 = true := by decide +kernel
set_option maxRecDepth 100000 in
theorem rw_T_4 : f_TB rz_E rw_K rw_B 80 20 = true := by decide +kernel
set_option maxRecDepth 100000 in
theorem rw_T_5 : f_TB rz_E rw_K rw_B 100 20 = true := by decide +kernel
set_option maxRecDepth 100000 in
theorem rw_T_6 : f_TB rz_E rw_K rw_B 120 20 = true := by decide +kernel
set_option maxRecDepth 100000 in
theorem rw_T_7 : f_TB rz_E rw_K rw_B 140 20 = true := by decide +kernel
set_option maxRecDepth 100000 in
theorem rw_T_8 : f_TB rz_E rw_K rw_B 160 20 = true := by decide +kernel
set_option maxRecDepth 100000 in
theorem rw_T_9 : f_TB rz_E rw_K rw_B 180 20 = true := by decide +kernel
set_option maxRecDepth 100000 in
theorem rw_T_10 : f_TB rz_E rw_K rw_B 200 20 = true := by decide +kernel
set_option maxRecDepth 100000 in
theorem rw_T_11 : f_TB rz_E rw_K rw_B 220 20 = true := by decide +kernel
set_option maxRecDepth 100000 in
theorem rw_T_12 : f_TB rz_E rw_K rw_B 240 20 = true := by decide +kernel
set_option maxRecDepth 100000 in
theorem rw_T_13 : f_TB rz_E rw_K rw_B 260 20 = true := by decide +kernel
set_option maxRecDepth 100000 in
theorem rw_T_14 : f_TB rz_E rw_K rw_B 280 20 = true := by decide +kernel
set_option maxRecDepth 100000 in
theorem rw_T_15 : f_TB rz_E rw_K rw_B 300 2 = true := by decide +kernel
theorem rw_T_ok : f_all rz_E rw_K rw_B := by
  intro j hj
  have hl : j < 302 := by
    unfold f_T at hj
    rw [Bool.and_eq_true, Nat.blt_eq] at hj
    exact hj.1
  by_cases c0 : j < 20
  · exact f_TB_at rw_T_0 (by omega) (by omega) hj
  by_cases c1 : j < 40
  · exact f_TB_at rw_T_1 (by omega) (by omega) hj
  by_cases c2 : j < 60
  · exact f_TB_at rw_T_2 (by omega) (by omega) hj
  by_cases c3 : j < 80
  · exact f_TB_at rw_T_3 (by omega) (by omega) hj
  by_cases c4 : j < 100
  · exact f_TB_at rw_T_4 (by omega) (by omega) hj
  by_cases c5 : j < 120
  · exact f_TB_at rw_T_5 (by omega) (by omega) hj
  by_cases c6 : j < 140
  · exact f_TB_at rw_T_6 (by omega) (by omega) hj
  by_cases c7 : j < 160
  · exact f_TB_at rw_T_7 (by omega) (by omega) hj
  by_cases c8 : j < 180
  · exact f_TB_at rw_T_8 (by omega) (by omega) hj
  by_cases c9 : j < 200
  · exact f_TB_at rw_T_9 (by omega) (by omega) hj
  by_cases c10 : j < 220
  · exact f_TB_at rw_T_10 (by omega) (by omega) hj
  by_cases c11 : j < 240
  · exact f_TB_at rw_T_11 (by omega) (by omega) hj
  by_cases c12 : j < 260
  · exact f_TB_at rw_T_12 (by omega) (by omega) hj
  by_cases c13 : j < 280
  · exact f_TB_at rw_T_13 (by omega) (by omega) hj
  by_cases c14 : j < 300
  · exact f_TB_at rw_T_14 (by omega) (by omega) hj
  exact f_TB_at rw_T_15 (by omega) (by omega) hj
/-- the row is one: the class's memory, the reference's -/
def rw_I (M N : xa_M) : Prop := M 48 1 = N 60 20 ∧ M 48 1 ≤ 16 ∧ ∀ i : Int, 0 ≤ i → i < M 48 1 → M 49 i = N 74 i
def rw_J (A : Nat → Nat) (h : g_H) : Prop := iv_J A h ∧ rw_I (iv_num h) (iv_num h)
theorem rw_J_inv {A : Nat → Nat} {h : g_H} (hJ : rw_J A h) : iv_inv A h := iv_J_inv hJ.1
theorem rw_I_k {M N M' N' : xa_M} (hI : rw_I M N) (h1 : M' 48 1 = M 48 1) (h2 : N' 60 20 = N 60 20) (h3 : ∀ i : Int, 0 ≤ i → i < M 48 1 → M' 49 i = M 49 i) (h4 : ∀ i : Int, 0 ≤ i → i < N 60 20 → N' 74 i = N 74 i) : rw_I M' N' :=
  ⟨by rw [h1, h2]; exact hI.1, by rw [h1]; exact hI.2.1, fun i i0 i1 => by
    rw [h1] at i1
    rw [h3 i i0 i1, h4 i i0 (by rw [← hI.1]; exact i1)]
    exact hI.2.2 i i0 i1⟩
/-- a frame leaves it -/
theorem rw_fra {h h' : g_H} (hF : f_Fr rz_E rw_K h h') {q a n : Nat} {f : Nat → Value} (e : h[q]? = some (a, true, 1, n, f)) (j : Int) : iv_num h' q j = iv_num h q j := by
  obtain ⟨f', e', g⟩ := hF.2 q a 1 n f e
  refine iv_num_c ?_
  rw [iv_ctZ e', iv_ctZ e, g rfl]
theorem rw_fr {A : Nat → Nat} {h h' : g_H} (hI : iv_inv A h) (hF : f_Fr rz_E rw_K h h') : (iv_num h' 48 1 = iv_num h 48 1 ∧ iv_num h' 60 20 = iv_num h 60 20) ∧ ∀ j : Int, iv_num h' 49 j = iv_num h 49 j ∧ iv_num h' 74 j = iv_num h 74 j := by
  obtain ⟨⟨W, β, hH, hW⟩, M, hM, -⟩ := hI
  obtain ⟨ro, f, e1, e2, -⟩ := hH.2.1 48 (A 48) 10 (hW 48 10 rfl)
  cases e1
  obtain ⟨ro1, f1, d1, d2, -⟩ := hH.2.1 49 (A 49) 51 (hW 49 51 rfl)
  cases d1
  obtain ⟨f2, e3, -⟩ := hM.2.1 60 _ _ rfl
  obtain ⟨f3, e4, -⟩ := hM.2.1 74 _ _ rfl
  exact ⟨⟨iv_num_F (k := 1) hF e2 (by decide), iv_num_F (k := 20) hF e3 (by decide)⟩, fun j => ⟨rw_fra hF d2 j, rw_fra hF e4 j⟩⟩
theorem rw_J_fr {A : Nat → Nat} {h h' : g_H} (hJ : rw_J A h) (hJ' : iv_J A h') (hF : f_Fr rz_E rw_K h h') : rw_J A h' := by
  obtain ⟨⟨a1, a2⟩, a3⟩ := rw_fr (iv_J_inv hJ.1) hF
  exact ⟨hJ', rw_I_k hJ.2 a1 a2 (fun i _ _ => (a3 i).1) (fun i _ _ => (a3 i).2)⟩
/-- a pair of calls that tell nothing and write no longs -/
theorem rw_pair {A : Nat → Nat} {jx jm : Nat} {spec : List Nat} {cmp lg : Bool} (hp : iv_pair (iv_J A) A jx jm spec cmp lg) (hx : f_T rw_B jx = true) (hm : f_T rw_B jm = true) : iv_pair (rw_J A) A jx jm spec cmp lg := by
  intro h as hI hs
  obtain ⟨mc, ms, m1, m2, hr⟩ := hp h as hI.1 hs
  refine ⟨mc, ms, m1, m2, f_run rw_T_ok _ _ _ _ _ _ _ _ hx hr (fun r1 h1 hp1 hF1 => ?_)⟩
  obtain ⟨v1, e1, hsh, hr2⟩ := hp1
  refine ⟨v1, e1, hsh, f_run rw_T_ok _ _ _ _ _ _ _ _ hm hr2 (fun r2 h2 hp2 hF2 => ?_)⟩
  exact ⟨hp2.1, rw_J_fr hI hp2.2 (f_trans hF1 hF2)⟩
theorem rw_n49 {A : Nat → Nat} {b : Bool} {M1 : xa_M} {h h1 : g_H} (hX : xa_H (xl_I b) A M1 h h1) {i : Int} (i0 : 0 ≤ i) (i1 : i < 16) : iv_num h1 49 i = M1 49 i := by
  obtain ⟨n, rfl⟩ := Int.eq_ofNat_of_zero_le i0
  exact iv_num_M (j := (n : Int)) hX rfl i0 i1 (by show (1 : Nat) < 2; decide)
theorem rw_n74 {A : Nat → Nat} {M1 : xa_M} {h h1 : g_H} (hM : xa_H xm_I A M1 h h1) {i : Int} (i0 : 0 ≤ i) (i1 : i < 32) : iv_num h1 74 i = M1 74 i := by
  obtain ⟨n, rfl⟩ := Int.eq_ofNat_of_zero_le i0
  exact iv_num_M (j := (n : Int)) hM rfl i0 i1 (by show (1 : Nat) < 2; decide)
theorem rw_n48 {A : Nat → Nat} {b : Bool} {M1 : xa_M} {h h1 : g_H} (hX : xa_H (xl_I b) A M1 h h1) : iv_num h1 48 1 = M1 48 1 := iv_num_M (j := 1) hX rfl (by decide) (by decide) (by show (0 : Nat) < 2; decide)
theorem rw_n60 {A : Nat → Nat} {M1 : xa_M} {h h1 : g_H} (hM : xa_H xm_I A M1 h h1) : iv_num h1 60 20 = M1 60 20 := iv_num_M (j := 20) hM rfl (by decide) (by decide) (by show (0 : Nat) < 2; decide)
theorem rw_I_h {A : Nat → Nat} {b : Bool} {h : g_H} {W : y_W} {M : xa_M} (hJ : iv_JW A W b h) (hM : xa_H xm_I A M h h) (hI : rw_I (iv_num h) (iv_num h)) : rw_I (iv_num h) M := by
  have e := rw_n60 hM
  have b20 := xm_f20 (xa_H_Mok hM)
  refine ⟨hI.1.trans e, hI.2.1, fun i i0 i1 => (hI.2.2 i i0 i1).trans (rw_n74 hM i0 ?_)⟩
  have := hI.1.trans e
  omega
/-- a pair of calls, told by what each does, with the row -/
theorem rw_armV {A : Nat → Nat} {jx jm : Nat} {spec : List Nat} {cmp : Bool} (H : ∀ (W : y_W) (b : Bool) (h : g_H) (as : List Value) (M : xa_M), iv_JW A W b h → xa_H xm_I A M h h → xm_Inv M → iv_sp spec as → lm_R b (xj (iv_num h) M) → rw_I (iv_num h) M → ∃ (vs ms : List xa_V) (Px Pm : Int → xa_M → Prop), xa_gS A vs (.ref (A 0) :: as) ∧ xa_gS A ms (.ref (A 60) :: as) ∧ (∀ n n' M1 M2, Px n M1 → Pm n' M2 → (cmp = true → n = n') ∧ (∀ x, M2 104 x = M 104 x) ∧ (∀ x, M2 105 x = M 105 x) ∧ lm_R b (xj M1 M2) ∧ rw_I M1 M2) ∧ xa_C (xl_I b) A h 60 jx vs (iv_num h) (fun o M1 => ∃ lo hi n, o = some (0, 0, lo, hi, n) ∧ Px n M1) ∧ ∀ h1 : g_H, xa_C xm_I A h1 60 jm ms M (fun o M2 => (∃ lo hi n, o = some (0, 0, lo, hi, n) ∧ Pm n M2) ∧ xm_Inv M2)) : iv_pair (rw_J A) A jx jm spec cmp false := by
  intro h as hI hs
  obtain ⟨⟨W, b, hJ⟩, hz0⟩ := hI
  obtain ⟨M, hM, hInv⟩ := hJ.1.2.2
  obtain ⟨vs, ms, Px, Pm, g1, g2, g0, g3, g4⟩ := H W b h as M hJ hM hInv hs (iv_xj hJ hM) (rw_I_h hJ hM hz0)
  refine ⟨0, 0, by decide, by decide, g_run_mono (iv_xrun hJ g1 g3) (fun r1 h1 hp => ?_)⟩
  obtain ⟨v, M1, ⟨lo, hi, n, rfl, hn⟩, hr, hX⟩ := hp
  obtain ⟨hI1, km⟩ := xc_B (xl_fit b) hJ.1 hX
  have hM1 := km M hM
  obtain ⟨z, rfl, hz⟩ := iv_gRi hr
  refine ⟨z, rfl, iv_sh_ok (iv_iW_inv hI1), g_run_mono (iv_mrun hM1 g2 (g4 h1)) (fun r2 h2 hp2 => ?_)⟩
  obtain ⟨v2, M2, ⟨⟨lo2, hi2, n2, rfl, hn2⟩, hInv2⟩, hr2, hM2⟩ := hp2
  obtain ⟨z2, rfl, hz2⟩ := iv_gRi hr2
  obtain ⟨q0, q4, q5, qR, qz⟩ := g0 _ _ _ _ hn hn2
  refine ⟨⟨z2, rfl, fun hc => Int32.toInt_inj.mp (by rw [hz, hz2]; exact q0 hc)⟩, ⟨W, b, iv_join hJ hM hX hM2 hInv2 q4 q5 qR⟩, ?_⟩
  have b48 := qz.2.1
  have a1 : iv_num h2 48 1 = M1 48 1 := (iv_num_h (hM2.2.2 48 (xm_I_none (by omega))) 1).trans (rw_n48 hX)
  refine rw_I_k qz a1 (rw_n60 hM2) (fun i i0 i1 => (iv_num_h (hM2.2.2 49 (xm_I_none (by omega))) i).trans (rw_n49 hX i0 (by omega))) (fun i i0 i1 => rw_n74 hM2 i0 (by have := qz.1; omega))
/-- the row: told (e numbers, V), or as it was; s its size, R its numbers -/
def rw_c (p : Prop) (s : Int) (R : Int → Int) (s' : Int) (R' : Int → Int) (e : Int) (V : Int → Int) : Prop := (p ∧ s' = e ∧ ∀ i : Int, 0 ≤ i → i < e → R' i = V i) ∨ (¬ p ∧ s' = s ∧ ∀ i : Int, 0 ≤ i → i < s → R' i = R i)
theorem rw_c1 {p p' : Prop} {M N M1 N1 : xa_M} {e : Int} {V V' : Int → Int} (h : rw_c p (M 48 1) (M 49) (M1 48 1) (M1 49) e V) (h' : rw_c p' (N 60 20) (N 74) (N1 60 20) (N1 74) e V') (hp : p ↔ p') (he : p → e ≤ 16) (hV : p → ∀ i : Int, 0 ≤ i → i < e → V i = V' i) (hI : rw_I M N) : rw_I M1 N1 := by
  rcases h with ⟨a, b, c⟩ | ⟨a, b, c⟩ <;> rcases h' with ⟨a', b', c'⟩ | ⟨a', b', c'⟩
  · exact ⟨b.trans b'.symm, by rw [b]; exact he a, fun i i0 i1 => (c i i0 (by omega)).trans ((hV a i i0 (by omega)).trans (c' i i0 (by omega)).symm)⟩
  · exact absurd (hp.mp a) a'
  · exact absurd (hp.mpr a') a
  · exact rw_I_k hI b b' c c'
/-- numbers one by one -/
def rw_v (l : List Int) (i : Int) : Int := l.getD i.toNat 0
def rw_T (R : Int → Int) (l : List Int) : Prop := ∀ i : Int, 0 ≤ i → i < (l.length : Int) → R i = rw_v l i
theorem rw_T0 {R : Int → Int} : rw_T R [] := fun i i0 i1 => absurd i1 (by show ¬ i < 0; omega)
theorem rw_T1 {R R' : Int → Int} {l : List Int} {x : Int} (h : rw_T R l) (e : ∀ i : Int, ¬ i = (l.length : Int) → R' i = R i) (ex : R' (l.length : Int) = x) : rw_T R' (l ++ [x]) := fun i i0 i1 => by
  rw [List.length_append] at i1
  have i1 : i < (l.length : Int) + 1 := by
    have e1 : ([x] : List Int).length = 1 := rfl
    omega
  unfold rw_v
  by_cases c : i = (l.length : Int)
  · subst c
    rw [ex, Int.toNat_natCast, List.getD_eq_getElem?_getD, List.getElem?_append_right (Nat.le_refl _), Nat.sub_self]
    rfl
  · rw [e i c, h i i0 (by omega)]
    unfold rw_v
    rw [List.getD_eq_getElem?_getD, List.getD_eq_getElem?_getD, List.getElem?_append_left (by omega)]

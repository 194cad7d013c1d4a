-- the row's size on both sides (made by wip/u/mkrz.py)
set_option maxRecDepth 20000
/-- a number whose bits are those that P names -/
def of_B (P : Nat → Prop) (r : Int) : Prop := r = (Int32.ofInt r).toInt ∧ ∀ w : Nat, w < 32 → ((Int32.ofInt r).toBitVec.getLsbD w = true ↔ P w)
theorem of_Bu {P : Nat → Prop} {a b : Int} (h : of_B P a) (h2 : of_B P b) : a = b := by
  refine h.1.trans ((congrArg Int32.toInt (Int32.toBitVec_inj.mp (BitVec.eq_of_getLsbD_eq (fun w hw => ?_)))).trans h2.1.symm)
  have e := (h.2 w hw).trans (h2.2 w hw).symm
  exact Bool.eq_iff_iff.mpr e
theorem of_Bc {P Q : Nat → Prop} {a : Int} (h : of_B P a) (e : ∀ w : Nat, w < 32 → (P w ↔ Q w)) : of_B Q a := ⟨h.1, fun w hw => (h.2 w hw).trans (e w hw)⟩
theorem of_B0 : of_B (fun w => (w : Int) = -1) 0 := by
  refine ⟨rfl, fun w hw => ?_⟩
  rw [show (Int32.ofInt 0).toBitVec = 0#32 from rfl, BitVec.getLsbD_zero]
  exact ⟨fun h => absurd h (by decide), fun h => by omega⟩
theorem of_Bz (z : Int32) : z.toInt = (Int32.ofInt z.toInt).toInt := by rw [Int32.ofInt_toInt]
theorem of_Bor {P Q : Nat → Prop} {a b : Int} (h : of_B P a) (h2 : of_B Q b) : of_B (fun w => P w ∨ Q w) (xa_ib 4 a b) := by
  have e : xa_ib 4 a b = (Int32.ofInt a ||| Int32.ofInt b).toInt := rfl
  rw [e]
  refine ⟨of_Bz _, fun w hw => ?_⟩
  rw [Int32.ofInt_toInt, Int32.toBitVec_or, BitVec.getLsbD_or, Bool.or_eq_true, h.2 w hw, h2.2 w hw]
theorem of_Bsh {k : Int} (k0 : 0 ≤ k) (k1 : k < 14) : of_B (fun w => (w : Int) = k) (xa_ib 6 1 k) := by
  have e : xa_ib 6 1 k = (Int32.ofInt 1 <<< (Int32.ofInt k &&& 31)).toInt := rfl
  rw [e]
  refine ⟨of_Bz _, fun w hw => ?_⟩
  rw [Int32.ofInt_toInt]
  have key : (List.range 14).all (fun k => (List.range 32).all (fun w => (Int32.ofInt 1 <<< (Int32.ofInt (k : Int) &&& 31)).toBitVec.getLsbD w == (k == w))) = true := by decide +kernel
  have h := List.all_eq_true.mp (List.all_eq_true.mp key k.toNat (List.mem_range.mpr (by omega))) w (List.mem_range.mpr hw)
  rw [Int.toNat_of_nonneg k0, beq_iff_eq] at h
  rw [h, beq_iff_eq]
  omega
/-- fields that may be written, but for the row's size of both -/
def rz_E (ci k : Nat) : Bool := !((Nat.beq ci 6 && Nat.beq k 1) || (Nat.beq ci 12 && Nat.beq k 20))
def rz_B : List Nat := [45, 59, 60, 61, 63, 66, 71, 72, 73, 84, 85, 98, 101, 104, 107, 108, 122, 123, 126, 129, 130, 132, 134, 140, 141, 145, 148, 151, 155, 162, 163, 164, 167, 169, 170, 171, 174, 175, 178, 185, 186, 188, 189, 194, 205, 225, 230, 231, 232, 234, 235, 237, 245, 249, 257, 259, 261, 263, 267, 270, 271, 272, 274, 275, 278, 279, 281, 282, 286, 288, 291, 297]
set_option maxRecDepth 100000 in
theorem rz_T_0 : f_TB rz_E iv_K rz_B 0 20 = true := by decide +kernel
set_option maxRecDepth 100000 in
theorem rz_T_1 : f_TB rz_E iv_K rz_B 20 20 = true := by decide +kernel
set_option maxRecDepth 100000 in
theorem rz_T_2 : f_TB rz_E iv_K rz_B 40 20 = true := by decide +kernel
set_option maxRecDepth 100000 in
theorem rz_T_3 : f_TB rz_E iv_K rz_B 60 20 = true := by decide +kernel
set_option maxRecDepth 100000 in
theorem rz_T_4 : f_TB rz_E iv_K rz_B 80 20 = true := by decide +kernel
set_option maxRecDepth 100000 in
theorem rz_T_5 : f_TB rz_E iv_K rz_B 100 20 = true := by decide +kernel
set_option maxRecDepth 100000 in
theorem rz_T_6 : f_TB rz_E iv_K rz_B 120 20 = true := by decide +kernel
set_option maxRecDepth 100000 in
theorem rz_T_7 : f_TB rz_E iv_K rz_B 140 20 = true := by decide +kernel
set_option maxRecDepth 100000 in
theorem rz_T_8 : f_TB rz_E iv_K rz_B 160 20 = true := by decide +kernel
set_option maxRecDepth 100000 in
theorem rz_T_9 : f_TB rz_E iv_K rz_B 180 20 = true := by decide +kernel
set_option maxRecDepth 100000 in
theorem rz_T_10 : f_TB rz_E iv_K rz_B 200 20 = true := by decide +kernel
set_option maxRecDepth 100000 in
theorem rz_T_11 : f_TB rz_E iv_K rz_B 220 20 = true := by decide +kernel
set_option maxRecDepth 100000 in
theorem rz_T_12 : f_TB rz_E iv_K rz_B 240 20 = true := by decide +kernel
set_option maxRecDepth 100000 in
theorem rz_T_13 : f_TB rz_E iv_K rz_B 260 20 = true := by decide +kernel
set_option maxRecDepth 100000 in
theorem rz_T_14 : f_TB rz_E iv_K rz_B 280 20 = true := by decide +kernel
set_option maxRecDepth 100000 in
theorem rz_T_15 : f_TB rz_E iv_K rz_B 300 2 = true := by decide +kernel
theorem rz_T_ok : f_all rz_E iv_K rz_B := by
  intro j hj
  have hl : j < 302 := by
    unfold f_T at hj
    rw [Bool.and_eq_true, Nat.blt_eq] at hj
    exact hj.1
  by_cases c0 : j < 20
  · exact f_TB_at rz_T_0 (by omega) (by omega) hj
  by_cases c1 : j < 40
  · exact f_TB_at rz_T_1 (by omega) (by omega) hj
  by_cases c2 : j < 60
  · exact f_TB_at rz_T_2 (by omega) (by omega) hj
  by_cases c3 : j < 80
  · exact f_TB_at rz_T_3 (by omega) (by omega) hj
  by_cases c4 : j < 100
  · exact f_TB_at rz_T_4 (by omega) (by omega) hj
  by_cases c5 : j < 120
  · exact f_TB_at rz_T_5 (by omega) (by omega) hj
  by_cases c6 : j < 140
  · exact f_TB_at rz_T_6 (by omega) (by omega) hj
  by_cases c7 : j < 160
  · exact f_TB_at rz_T_7 (by omega) (by omega) hj
  by_cases c8 : j < 180
  · exact f_TB_at rz_T_8 (by omega) (by omega) hj
  by_cases c9 : j < 200
  · exact f_TB_at rz_T_9 (by omega) (by omega) hj
  by_cases c10 : j < 220
  · exact f_TB_at rz_T_10 (by omega) (by omega) hj
  by_cases c11 : j < 240
  · exact f_TB_at rz_T_11 (by omega) (by omega) hj
  by_cases c12 : j < 260
  · exact f_TB_at rz_T_12 (by omega) (by omega) hj
  by_cases c13 : j < 280
  · exact f_TB_at rz_T_13 (by omega) (by omega) hj
  by_cases c14 : j < 300
  · exact f_TB_at rz_T_14 (by omega) (by omega) hj
  exact f_TB_at rz_T_15 (by omega) (by omega) hj
/-- the row has as many numbers on both sides -/
def rz (h : g_H) : Prop := iv_num h 48 1 = iv_num h 60 20
def rz_J (A : Nat → Nat) (h : g_H) : Prop := iv_J A h ∧ rz h
theorem rz_J_inv {A : Nat → Nat} {h : g_H} (hJ : rz_J A h) : iv_inv A h := iv_J_inv hJ.1
/-- a frame leaves it -/
theorem rz_fr1 {h h' : g_H} {q a ci n k : Nat} {f : Nat → Value} (hF : f_Fr rz_E iv_K h h') (e : h[q]? = some (a, false, ci, n, f)) (hk : rz_E ci k = false) : iv_num h' q (k : Int) = iv_num h q (k : Int) := by
  obtain ⟨f', e', g⟩ := hF.1 q a ci n f e
  refine iv_num_c ?_
  rw [Int.toNat_natCast, iv_ctZ e', iv_ctZ e]
  exact g k hk
theorem rz_fr {A : Nat → Nat} {h h' : g_H} (hI : iv_inv A h) (hF : f_Fr rz_E iv_K h h') : iv_num h' 48 1 = iv_num h 48 1 ∧ iv_num h' 60 20 = iv_num h 60 20 := by
  obtain ⟨⟨W, β, hH, hW⟩, M, hM, -⟩ := hI
  constructor
  · obtain ⟨ro, f, e1, e2, -⟩ := hH.2.1 48 (A 48) 10 (hW 48 10 rfl)
    cases e1
    exact rz_fr1 (k := 1) hF e2 (by decide)
  · obtain ⟨f, e2, -⟩ := hM.2.1 60 _ _ rfl
    exact rz_fr1 (k := 20) hF e2 (by decide)
/-- a pair of calls that tell nothing -/
theorem rz_pair {A : Nat → Nat} {jx jm : Nat} {spec : List Nat} {cmp lg : Bool} (hp : iv_pair (iv_J A) A jx jm spec cmp lg) (hx : f_T rz_B jx = true) (hm : f_T rz_B jm = true) : iv_pair (rz_J A) A jx jm spec cmp lg := by
  intro h as hI hs
  obtain ⟨mc, ms, m1, m2, hr⟩ := hp h as hI.1 hs
  refine ⟨mc, ms, m1, m2, f_run rz_T_ok _ _ _ _ _ _ _ _ hx hr (fun r1 h1 hp1 hF1 => ?_)⟩
  obtain ⟨v1, e1, hsh, hr2⟩ := hp1
  refine ⟨v1, e1, hsh, f_run rz_T_ok _ _ _ _ _ _ _ _ hm hr2 (fun r2 h2 hp2 hF2 => ?_)⟩
  refine ⟨hp2.1, hp2.2, ?_⟩
  obtain ⟨a1, a2⟩ := rz_fr (iv_J_inv hI.1) (f_trans hF1 hF2)
  show iv_num h2 48 1 = iv_num h2 60 20
  rw [a1, a2]
  exact hI.2
/-- a pair of calls, told by what each does, with the row's size -/
theorem rz_armV {A : Nat → Nat} {jx jm : Nat} {spec : List Nat} {cmp : Bool} (H : ∀ (W : y_W) (b : Bool) (h : g_H) (as : List Value) (M : xa_M), iv_JW A W b h → xa_H xm_I A M h h → xm_Inv M → iv_sp spec as → lm_R b (xj (iv_num h) M) → iv_num h 48 1 = M 60 20 → ∃ (vs ms : List xa_V) (Px Pm : Int → xa_M → Prop), xa_gS A vs (.ref (A 0) :: as) ∧ xa_gS A ms (.ref (A 60) :: as) ∧ (∀ n n' M1 M2, Px n M1 → Pm n' M2 → (cmp = true → n = n') ∧ (∀ x, M2 104 x = M 104 x) ∧ (∀ x, M2 105 x = M 105 x) ∧ lm_R b (xj M1 M2) ∧ M1 48 1 = M2 60 20) ∧ xa_C (xl_I b) A h 60 jx vs (iv_num h) (fun o M1 => ∃ lo hi n, o = some (0, 0, lo, hi, n) ∧ Px n M1) ∧ ∀ h1 : g_H, xa_C xm_I A h1 60 jm ms M (fun o M2 => (∃ lo hi n, o = some (0, 0, lo, hi, n) ∧ Pm n M2) ∧ xm_Inv M2)) : iv_pair (rz_J A) A jx jm spec cmp false := by
  intro h as hI hs
  obtain ⟨⟨W, b, hJ⟩, hz0⟩ := hI
  obtain ⟨M, hM, hInv⟩ := hJ.1.2.2
  have e60 : iv_num h 60 20 = M 60 20 := iv_num_M (j := 20) hM rfl (by decide) (by decide) (by show (0 : Nat) < 2; decide)
  obtain ⟨vs, ms, Px, Pm, g1, g2, g0, g3, g4⟩ := H W b h as M hJ hM hInv hs (iv_xj hJ hM) (hz0.trans e60)
  refine ⟨0, 0, by decide, by decide, g_run_mono (iv_xrun hJ g1 g3) (fun r1 h1 hp => ?_)⟩
  obtain ⟨v, M1, ⟨lo, hi, n, rfl, hn⟩, hr, hX⟩ := hp
  obtain ⟨hI1, km⟩ := xc_B (xl_fit b) hJ.1 hX
  have hM1 := km M hM
  obtain ⟨z, rfl, hz⟩ := iv_gRi hr
  refine ⟨z, rfl, iv_sh_ok (iv_iW_inv hI1), g_run_mono (iv_mrun hM1 g2 (g4 h1)) (fun r2 h2 hp2 => ?_)⟩
  obtain ⟨v2, M2, ⟨⟨lo2, hi2, n2, rfl, hn2⟩, hInv2⟩, hr2, hM2⟩ := hp2
  obtain ⟨z2, rfl, hz2⟩ := iv_gRi hr2
  obtain ⟨q0, q4, q5, qR, qz⟩ := g0 _ _ _ _ hn hn2
  refine ⟨⟨z2, rfl, fun hc => Int32.toInt_inj.mp (by rw [hz, hz2]; exact q0 hc)⟩, ⟨W, b, iv_join hJ hM hX hM2 hInv2 q4 q5 qR⟩, ?_⟩
  have a1 : iv_num h2 48 1 = M1 48 1 := (iv_num_h (hM2.2.2 48 (xm_I_none (by omega))) 1).trans (iv_num_M (j := 1) hX rfl (by decide) (by decide) (by show (0 : Nat) < 2; decide))
  have a2 : iv_num h2 60 20 = M2 60 20 := iv_num_M (j := 20) hM2 rfl (by decide) (by decide) (by show (0 : Nat) < 2; decide)
  exact a1.trans (qz.trans a2.symm)
/-- the row's size: told (e numbers), or as it was -/
def rz_c (p : Prop) (s s' e : Int) : Prop := (p ∧ s' = e) ∨ (¬ p ∧ s' = s)
theorem rz_c1 {p p' : Prop} {s s' t t' e : Int} (h : rz_c p s s' e) (h' : rz_c p' t t' e) (hp : p ↔ p') (hs : s = t) : s' = t' := by
  rcases h with ⟨a, b⟩ | ⟨a, b⟩ <;> rcases h' with ⟨c, d⟩ | ⟨c, d⟩
  · exact b.trans d.symm
  · exact absurd (hp.mp a) c
  · exact absurd (hp.mpr c) a
  · exact b.trans (hs.trans d.symm)
theorem rz_c2 {n n' s s' t t' e : Int} (en : n = n') (h : rz_c (0 ≤ n) s s' e) (h' : rz_c (0 ≤ n') t t' e) (hs : s = t) : s' = t' := rz_c1 h h' (by rw [en]) hs
/-- a call of the reference that doesn't write the row's size -/
theorem rz_fx {A : Nat → Nat} {h0 : g_H} {d j : Nat} {vs : List xa_V} {M : xa_M} {post : Option xa_V → xa_M → Prop} (hj : f_T rz_B j = true) (hC : xa_C xm_I A h0 d j vs M (fun o M1 => M1 60 20 = M 60 20 → post o M1)) : xa_C xm_I A h0 d j vs M post := by
  intro h xs hM hx P hP
  refine f_run rz_T_ok _ _ _ _ _ _ _ _ hj (hC h xs hM hx (fun r h' => f_Fr rz_E iv_K h h' → P r h') (fun v M' x h' hv hx' hM' hF => hP v M' x h' (hv ?_) hx' hM')) (fun r h' hp hF => hp hF)
  obtain ⟨f, e2, -⟩ := hM.2.1 60 _ _ rfl
  have a1 : iv_num h 60 20 = M 60 20 := iv_num_M (j := 20) hM rfl (by decide) (by decide) (by show (0 : Nat) < 2; decide)
  have a2 : iv_num h' 60 20 = M' 60 20 := iv_num_M (j := 20) hM' rfl (by decide) (by decide) (by show (0 : Nat) < 2; decide)
  rw [← a1, ← a2]
  exact rz_fr1 (k := 20) hF e2 (by decide)
/-- a call of the class that doesn't write the row's size -/
theorem rz_fc {b : Bool} {A : Nat → Nat} {h0 : g_H} {d j : Nat} {vs : List xa_V} {M : xa_M} {post : Option xa_V → xa_M → Prop} (hj : f_T rz_B j = true) (hC : xa_C (xl_I b) A h0 d j vs M (fun o M1 => M1 48 1 = M 48 1 → post o M1)) : xa_C (xl_I b) A h0 d j vs M post := by
  intro h xs hM hx P hP
  refine f_run rz_T_ok _ _ _ _ _ _ _ _ hj (hC h xs hM hx (fun r h' => f_Fr rz_E iv_K h h' → P r h') (fun v M' x h' hv hx' hM' hF => hP v M' x h' (hv ?_) hx' hM')) (fun r h' hp hF => hp hF)
  obtain ⟨f, e2, -⟩ := hM.2.1 48 _ _ rfl
  have a1 : iv_num h 48 1 = M 48 1 := iv_num_M (j := 1) hM rfl (by decide) (by decide) (by show (0 : Nat) < 2; decide)
  have a2 : iv_num h' 48 1 = M' 48 1 := iv_num_M (j := 1) hM' rfl (by decide) (by decide) (by show (0 : Nat) < 2; decide)
  rw [← a1, ← a2]
  exact rz_fr1 (k := 1) hF e2 (by decide)
theorem rz_Bsh {k : Int} (k0 : 0 ≤ k) (k1 : k < 31) : of_B (fun w => (w : Int) = k) (xa_ib 6 1 k) := by
  have e : xa_ib 6 1 k = (Int32.ofInt 1 <<< (Int32.ofInt k &&& 31)).toInt := rfl
  rw [e]
  refine ⟨of_Bz _, fun w hw => ?_⟩
  rw [Int32.ofInt_toInt]
  have key : (List.range 31).all (fun k => (List.range 32).all (fun w => (Int32.ofInt 1 <<< (Int32.ofInt (k : Int) &&& 31)).toBitVec.getLsbD w == (k == w))) = true := by decide +kernel
  have h := List.all_eq_true.mp (List.all_eq_true.mp key k.toNat (List.mem_range.mpr (by omega))) w (List.mem_range.mpr hw)
  rw [Int.toNat_of_nonneg k0, beq_iff_eq] at h
  rw [h, beq_iff_eq]
  omega
theorem rz_nn {Q : Nat → Prop} {r : Int} (h : of_B Q r) (h31 : ¬ Q 31) : 0 ≤ r := by
  have e : (Int32.ofInt r).toBitVec.getLsbD 31 = false := by
    cases c : (Int32.ofInt r).toBitVec.getLsbD 31
    · rfl
    · exact absurd ((h.2 31 (by decide)).mp c) h31
  have m : (Int32.ofInt r).toBitVec.msb = false := by
    rw [BitVec.msb_eq_getLsbD_last]
    exact e
  rw [h.1]
  show 0 ≤ (Int32.ofInt r).toBitVec.toInt
  rw [BitVec.toInt_eq_toNat_of_msb m]
  exact Int.natCast_nonneg _
theorem rz_wB {P : Int → Prop} : ∀ n : Nat, n ≤ 31 → of_B (fun w => w < n ∧ P (w : Int)) (wd_b P n) := by
  intro n
  induction n with
  | zero => exact fun _ => of_Bc of_B0 (fun w hw => ⟨fun h => by omega, fun h => by omega⟩)
  | succ n ih =>
    intro hn
    have ih := ih (by omega)
    by_cases c : P (n : Int)
    · rw [wd_b1 c]
      exact of_Bc (of_Bor ih (rz_Bsh (by omega) (by omega))) (fun w hw => ⟨fun h => by
        rcases h with h | h
        · exact ⟨by omega, h.2⟩
        · refine ⟨by omega, ?_⟩
          rw [h]
          exact c, fun h => by
        by_cases e : (w : Int) = (n : Int)
        · exact Or.inr e
        · exact Or.inl ⟨by omega, h.2⟩⟩)
    · rw [wd_b0 c]
      exact of_Bc ih (fun w hw => ⟨fun h => ⟨by omega, h.2⟩, fun h => ⟨by
        by_cases e : (w : Int) = (n : Int)
        · have h2 := h.2
          rw [e] at h2
          exact absurd h2 c
        · omega, h.2⟩⟩)
theorem rz_wn {P : Int → Prop} (n : Nat) (hn : n ≤ 31) : 0 ≤ wd_b P n := rz_nn (rz_wB n hn) (fun h => by omega)
theorem rz_Sle {N0 C : xa_M} {a v : Int} (h : tu_S N0 a v C) : v ≤ 0 := by
  rcases h with ⟨-, h⟩ | ⟨-, w, hw, -, ⟨-, h⟩ | ⟨-, -, h⟩ | ⟨-, -, h⟩⟩ <;> omega
theorem rz_Hle {N0 C : xa_M} {a v : Int} (h : tu_H N0 a v C) : v ≤ 0 := by
  rcases h with ⟨-, h⟩ | ⟨-, ⟨-, h⟩ | ⟨-, h⟩⟩
  · exact rz_Sle h
  · omega
  · omega
theorem rz_td {x g : Int} (hx : 0 ≤ x) (hg : 0 ≤ g) (h : x.tdiv g ≤ 100000) : 0 ≤ xa_w32 (x.tdiv g) := by
  have p := Int.tdiv_nonneg hx hg
  rw [xa_w32_id (by omega) (by omega)]
  exact p

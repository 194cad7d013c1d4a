-- the row's size on both sides (made by wip/u/mkrz.py)
set_option maxRecDepth 20000
/-- a number whose bits are those that P names -/
def of_B (P : Nat → Prop) (r : Int) : Prop := r = (Int32.ofInt r).toInt ∧ ∀ w : Nat, w < 32 → ((Int32.ofInt r).toBitVec.getLsbD w = true ↔ P w)
theorem of_Bu {P : Nat → Prop} {a b : Int} (h : of_B P a) (h2 : of_B P b) : a = b := by
  refine h.1.trans ((congrArg Int32.toInt (Int32.toBitVec_inj.mp (BitVec.eq_of_getLsbD_eq (fun w hw => ?_)))).trans h2.1.symm)
  have e := (h.2 w hw).trans (h2.2 w hw).symm
  exact Bool.eq_iff_iff.mpr e
theorem of_Bc {P Q : Nat → Prop} {a : Int} (h : of_B P a) (e : ∀ w : Nat, w < 32 → (P w ↔ Q w)) : of_B Q a := ⟨h.1, fun w hw => (h.2 w hw).trans (e w hw)⟩
theorem of_B0 : of_B (fun w => (w : Int) = -1) 0 := by
  refine ⟨rfl, fun w hw => ?_⟩
  rw [show (Int32.ofInt 0).toBitVec = 0#32 from rfl, BitVec.getLsbD_zero]
  exact ⟨fun h => absurd h (by decide), fun h => by omega⟩
theorem of_Bz (z : Int32) : z.toInt = (Int32.ofInt z.toInt).toInt := by rw [Int32.ofInt_toInt]
theorem of_Bor {P Q : Nat → Prop} {a b : Int} (h : of_B P a) (h2 : of_B Q b) : of_B (fun w => P w ∨ Q w) (xa_ib 4 a b) := by
  have e : xa_ib 4 a b = (Int32.ofInt a ||| Int32.ofInt b).toInt := rfl
  rw [e]
  refine ⟨of_Bz _, fun w hw => ?_⟩
  rw [Int32.ofInt_toInt, Int32.toBitVec_or, BitVec.getLsbD_or, Bool.or_eq_true, h.2 w hw, h2.2 w hw]
theorem of_Bsh {k : Int} (k0 : 0 ≤ k) (k1 : k < 14) : of_B (fun w => (w : Int) = k) (xa_ib 6 1 k) := by
  have e : xa_ib 6 1 k = (Int32.ofInt 1 <<< (Int32.ofInt k &&& 31)).toInt := rfl
  rw [e]
  refine ⟨of_Bz _, fun w hw => ?_⟩
  rw [Int32.ofInt_toInt]
  have key : (List.range 14).all (fun k => (List.range 32).all (fun w => (Int32.ofInt 1 <<< (Int32.ofInt (k : Int) &&& 31)).toBitVec.getLsbD w == (k == w))) = true := by decide +kernel
  have h := List.all_eq_true.mp (List.all_eq_true.mp key k.toNat (List.mem_range.mpr (by omega))) w (List.mem_range.mpr hw)
  rw [Int.toNat_of_nonneg k0, beq_iff_eq] at h
  rw [h, beq_iff_eq]
  omega
/-- fields that may be written, but for the row's size of both -/
def rz_E (ci k : Nat) : Bool := !((Nat.beq ci 6 && Nat.beq k 1) || (Nat.beq ci 12 && Nat.beq k 20))
def rz_B : List Nat := [45, 59, 60, 61, 63, 66, 71, 72, 73, 84, 85, 98, 101, 104, 107, 108, 122, 123, 126, 129, 130, 132, 134, 140, 141, 145, 148, 151, 155, 162, 163, 164, 167, 169, 170, 171, 174, 175, 178, 185, 186, 188, 189, 194, 205, 225, 230, 231, 232, 234, 235, 237, 245, 249, 257, 259, 261, 263, 267, 270, 271, 272, 274, 275, 278, 279, 281, 282, 286, 288, 291, 297]
set_option maxRecDepth 100000 in
theorem rz_T_0 : f_TB rz_E iv_K rz_B 0 20 = true := by decide +kernel
set_option maxRecDepth 100000 in
theorem rz_T_1 : f_TB rz_E iv_K rz_B 20 20 = true := by decide +kernel
set_option maxRecDepth 100000 in
theorem rz_T_2 : f_TB rz_E iv_K rz_B 40 20 = true := by decide +kernel
set_option maxRecDepth 100000 in
theorem rz_T_3 : f_TB rz_E iv_K rz_B 60 20 = true := by decide +kernel
set_option maxRecDepth 100000 in
theorem rz_T_4 : f_TB rz_E iv_K rz_B 80 20 = true := by decide +kernel
set_option maxRecDepth 100000 in
theorem rz_T_5 : f_TB rz_E iv_K rz_B 100 20 = true := by decide +kernel
set_option maxRecDepth 100000 in
theorem rz_T_6 : f_TB rz_E iv_K rz_B 120 20 = true := by decide +kernel
set_option maxRecDepth 100000 in
theorem rz_T_7 : f_TB rz_E iv_K rz_B 140 20 = true := by decide +kernel
set_option maxRecDepth 100000 in
theorem rz_T_8 : f_TB rz_E iv_K rz_B 160 20 = true := by decide +kernel
set_option maxRecDepth 100000 in
theorem rz_T_9 : f_TB rz_E iv_K rz_B 180 20 = true := by decide +kernel
set_option maxRecDepth 100000 in
theorem rz_T_10 : f_TB rz_E iv_K rz_B 200 20 = true := by decide +kernel
set_option maxRecDepth 100000 in
theorem rz_T_11 : f_TB rz_E iv_K rz_B 220 20 = true := by decide +kernel
set_option maxRecDepth 100000 in
theorem rz_T_12 : f_TB rz_E iv_K rz_B 240 20 = true := by decide +kernel
set_option maxRecDepth 100000 in
theorem rz_T_13 : f_TB rz_E iv_K rz_B 260 20 = true := by decide +kernel
set_option maxRecDepth 100000 in
theorem rz_T_14 : f_TB rz_E iv_K rz_B 280 20 = true := by decide +kernel
set_option maxRecDepth 100000 in
theorem rz_T_15 : f_TB rz_E iv_K rz_B 300 2 = true := by decide +kernel
theorem rz_T_ok : f_all rz_E iv_K rz_B := by
  intro j hj
  have hl : j < 302 := by
    unfold f_T at hj
    rw [Bool.and_eq_true, Nat.blt_eq] at hj
    exact hj.1
  by_cases c0 : j < 20
  · exact f_TB_at rz_T_0 (by omega) (by omega) hj
  by_cases c1 : j < 40
  · exact f_TB_at rz_T_1 (by omega) (by omega) hj
  by_cases c2 : j < 60
  · exact f_TB_at rz_T_2 (by omega) (by omega) hj
  by_cases c3 : j < 80
  · exact f_TB_at rz_T_3 (by omega) (by omega) hj
  by_cases c4 : j < 100
  · exact f_TB_at rz_T_4 (by omega) (by omega) hj
  by_cases c5 : j < 120
  · exact f_TB_at rz_T_5 (by omega) (by omega) hj
  by_cases c6 : j < 140
  · exact f_TB_at rz_T_6 (by omega) (by omega) hj
  by_cases c7 : j < 160
  · exact f_TB_at rz_T_7 (by omega) (by omega) hj
  by_cases c8 : j < 180
  · exact f_TB_at rz_T_8 (by omega) (by omega) hj
  by_cases c9 : j < 200
  · exact f_TB_at rz_T_9 (by omega) (by omega) hj
  by_cases c10 : j < 220
  · exact f_TB_at rz_T_10 (by omega) (by omega) hj
  by_cases c11 : j < 240
  · exact f_TB_at rz_T_11 (by omega) (by omega) hj
  by_cases c12 : j < 260
  · exact f_TB_at rz_T_12 (by omega) (by omega) hj
  by_cases c13 : j < 280
  · exact f_TB_at rz_T_13 (by omega) (by omega) hj
  by_cases c14 : j < 300
  · exact f_TB_at rz_T_14 (by omega) (by omega) hj
  exact f_TB_at rz_T_15 (by omega) (by omega) hj
/-- the row has as many numbers on both sides -/
def rz (h : g_H) : Prop := iv_num h 48 1 = iv_num h 60 20
def rz_J (A : Nat → Nat) (h : g_H) : Prop := iv_J A h ∧ rz h
theorem rz_J_inv {A : Nat → Nat} {h : g_H} (hJ : rz_J A h) : iv_inv A h := iv_J_inv hJ.1
/-- a frame leaves it -/
theorem rz_fr1 {h h' : g_H} {q a ci n k : Nat} {f : Nat → Value} (hF : f_Fr rz_E iv_K h h') (e : h[q]? = some (a, false, ci, n, f)) (hk : rz_E ci k = false) : iv_num h' q (k : Int) = iv_num h q (k : Int) := by
  obtain ⟨f', e', g⟩ := hF.1 q a ci n f e
  refine iv_num_c ?_
  rw [Int.toNat_natCast, iv_ctZ e', iv_ctZ e]
  exact g k hk
theorem rz_fr {A : Nat → Nat} {h h' : g_H} (hI : iv_inv A h) (hF : f_Fr rz_E iv_K h h') : iv_num h' 48 1 = iv_num h 48 1 ∧ iv_num h' 60 20 = iv_num h 60 20 := by
  obtain ⟨⟨W, β, hH, hW⟩, M, hM, -⟩ := hI
  constructor
  · obtain ⟨ro, f, e1, e2, -⟩ := hH.2.1 48 (A 48) 10 (hW 48 10 rfl)
    cases e1
    exact rz_fr1 (k := 1) hF e2 (by decide)
  · obtain ⟨f, e2, -⟩ := hM.2.1 60 _ _ rfl
    exact rz_fr1 (k := 20) hF e2 (by decide)
/-- a pair of calls that tell nothing -/
theorem rz_pair {A : Nat → Nat} {jx jm : Nat} {spec : List Nat} {cmp lg : Bool} (hp : iv_pair (iv_J A) A jx jm spec cmp lg) (hx : f_T rz_B jx = true) (hm : f_T rz_B jm = true) : iv_pair (rz_J A) A jx jm spec cmp lg := by
  intro h as hI hs
  obtain ⟨mc, ms, m1, m2, hr⟩ := hp h as hI.1 hs
  refine ⟨mc, ms, m1, m2, f_run rz_T_ok _ _ _ _ _ _ _ _ hx hr (fun r1 h1 hp1 hF1 => ?_)⟩
  obtain ⟨v1, e1, hsh, hr2⟩ := hp1
  refine ⟨v1, e1, hsh, f_run rz_T_ok _ _ _ _ _ _ _ _ hm hr2 (fun r2 h2 hp2 hF2 => ?_)⟩
  refine ⟨hp2.1, hp2.2, ?_⟩
  obtain ⟨a1, a2⟩ := rz_fr (iv_J_inv hI.1) (f_trans hF1 hF2)
  show iv_num h2 48 1 = iv_num h2 60 20
  rw [a1, a2]
  exact hI.2
/-- a pair of calls, told by what each does, with the row's size -/
theorem rz_armV {A : Nat → Nat} {jx jm : Nat} {spec : List Nat} {cmp : Bool} (H : ∀ (W : y_W) (b : Bool) (h : g_H) (as : List Value) (M : xa_M), iv_JW A W b h → xa_H xm_I A M h h → xm_Inv M → iv_sp spec as → lm_R b (xj (iv_num h) M) → iv_num h 48 1 = M 60 20 → ∃ (vs ms : List xa_V) (Px Pm : Int → xa_M → Prop), xa_gS A vs (.ref (A 0) :: as) ∧ xa_gS A ms (.ref (A 60) :: as) ∧ (∀ n n' M1 M2, Px n M1 → Pm n' M2 → (cmp = true → n = n') ∧ (∀ x, M2 104 x = M 104 x) ∧ (∀ x, M2 105 x = M 105 x) ∧ lm_R b (xj M1 M2) ∧ M1 48 1 = M2 60 20) ∧ xa_C (xl_I b) A h 60 jx vs (iv_num h) (fun o M1 => ∃ lo hi n, o = some (0, 0, lo, hi, n) ∧ Px n M1) ∧ ∀ h1 : g_H, xa_C xm_I A h1 60 jm ms M (fun o M2 => (∃ lo hi n, o = some (0, 0, lo, hi, n) ∧ Pm n M2) ∧ xm_Inv M2)) : iv_pair (rz_J A) A jx jm spec cmp false := by
  intro h as hI hs
  obtain ⟨⟨W, b, hJ⟩, hz0⟩ := hI
  obtain ⟨M, hM, hInv⟩ := hJ.1.2.2
  have e60 : iv_num h 60 20 = M 60 20 := iv_num_M (j := 20) hM rfl (by decide) (by decide) (by show (0 : Nat) < 2; decide)
  obtain ⟨vs, ms, Px, Pm, g1, g2, g0, g3, g4⟩ := H W b h as M hJ hM hInv hs (iv_xj hJ hM) (hz0.trans e60)
  refine ⟨0, 0, by decide, by decide, g_run_mono (iv_xrun hJ g1 g3) (fun r1 h1 hp => ?_)⟩
  obtain ⟨v, M1, ⟨lo, hi, n, rfl, hn⟩, hr, hX⟩ := hp
  obtain ⟨hI1, km⟩ := xc_B (xl_fit b) hJ.1 hX
  have hM1 := km M hM
  obtain ⟨z, rfl, hz⟩ := iv_gRi hr
  refine ⟨z, rfl, iv_sh_ok (iv_iW_inv hI1), g_run_mono (iv_mrun hM1 g2 (g4 h1)) (fun r2 h2 hp2 => ?_)⟩
  obtain ⟨v2, M2, ⟨⟨lo2, hi2, n2, rfl, hn2⟩, hInv2⟩, hr2, hM2⟩ := hp2
  obtain ⟨z2, rfl, hz2⟩ := iv_gRi hr2
  obtain ⟨q0, q4, q5, qR, qz⟩ := g0 _ _ _ _ hn hn2
  refine ⟨⟨z2, rfl, fun hc => Int32.toInt_inj.mp (by rw [hz, hz2]; exact q0 hc)⟩, ⟨W, b, iv_join hJ hM hX hM2 hInv2 q4 q5 qR⟩, ?_⟩
  have a1 : iv_num h2 48 1 = M1 48 1 := (iv_num_h (hM2.2.2 48 (xm_I_none (by omega))) 1).trans (iv_num_M (j := 1) hX rfl (by decide) (by decide) (by show (0 : Nat) < 2; decide))
  have a2 : iv_num h2 60 20 = M2 60 20 := iv_num_M (j := 20) hM2 rfl (by decide) (by decide) (by show (0 : Nat) < 2; decide)
  exact a1.trans (qz.trans a2.symm)
/-- the row's size: told (e numbers), or as it was -/
def rz_c (p : Prop) (s s' e : Int) : Prop := (p ∧ s' = e) ∨ (¬ p ∧ s' = s)
theorem rz_c1 {p p' : Prop} {s s' t t' e : Int} (h : rz_c p s s' e) (h' : rz_c p' t t' e) (hp : p ↔ p') (hs : s = t) : s' = t' := by
  rcases h with ⟨a, b⟩ | ⟨a, b⟩ <;> rcases h' with ⟨c, d⟩ | ⟨c, d⟩
  · exact b.trans d.symm
  · exact absurd (hp.mp a) c
  · exact absurd (hp.mpr c) a
  · exact b.trans (hs.trans d.symm)
theorem rz_c2 {n n' s s' t t' e : Int} (en : n = n') (h : rz_c (0 ≤ n) s s' e) (h' : rz_c (0 ≤ n') t t' e) (hs : s = t) : s' = t' := rz_c1 h h' (by rw [en]) hs
/-- a call of the reference that doesn't write the row's size -/
theorem rz_fx {A : Nat → Nat} {h0 : g_H} {d j : Nat} {vs : List xa_V} {M : xa_M} {post : Option xa_V → xa_M → Prop} (hj : f_T rz_B j = true) (hC : xa_C xm_I A h0 d j vs M (fun o M1 => M1 60 20 = M 60 20 → post o M1)) : xa_C xm_I A h0 d j vs M post := by
  intro h xs hM hx P hP
  refine f_run rz_T_ok _ _ _ _ _ _ _ _ hj (hC h xs hM hx (fun r h' => f_Fr rz_E iv_K h h' → P r h') (fun v M' x h' hv hx' hM' hF => hP v M' x h' (hv ?_) hx' hM')) (fun r h' hp hF => hp hF)
  obtain ⟨f, e2, -⟩ := hM.2.1 60 _ _ rfl
  have a1 : iv_num h 60 20 = M 60 20 := iv_num_M (j := 20) hM rfl (by decide) (by decide) (by show (0 : Nat) < 2; decide)
  have a2 : iv_num h' 60 20 = M' 60 20 := iv_num_M (j := 20) hM' rfl (by decide) (by decide) (by show (0 : Nat) < 2; decide)
  rw [← a1, ← a2]
  exact rz_fr1 (k := 20) hF e2 (by decide)
/-- a call of the class that doesn't write the row's size -/
theorem rz_fc {b : Bool} {A : Nat → Nat} {h0 : g_H} {d j : Nat} {vs : List xa_V} {M : xa_M} {post : Option xa_V → xa_M → Prop} (hj : f_T rz_B j = true) (hC : xa_C (xl_I b) A h0 d j vs M (fun o M1 => M1 48 1 = M 48 1 → post o M1)) : xa_C (xl_I b) A h0 d j vs M post := by
  intro h xs hM hx P hP
  refine f_run rz_T_ok _ _ _ _ _ _ _ _ hj (hC h xs hM hx (fun r h' => f_Fr rz_E iv_K h h' → P r h') (fun v M' x h' hv hx' hM' hF => hP v M' x h' (hv ?_) hx' hM')) (fun r h' hp hF => hp hF)
  obtain ⟨f, e2, -⟩ := hM.2.1 48 _ _ rfl
  have a1 : iv_num h 48 1 = M 48 1 := iv_num_M (j := 1) hM rfl (by decide) (by decide) (by show (0 : Nat) < 2; decide)
  have a2 : iv_num h' 48 1 = M' 48 1 := iv_num_M (j := 1) hM' rfl (by decide) (by decide) (by show (0 : Nat) < 2; decide)
  rw [← a1, ← a2]
  exact rz_fr1 (k := 1) hF e2 (by decide)
theorem rz_Bsh {k : Int} (k0 : 0 ≤ k) (k1 : k < 31) : of_B (fun w => (w : Int) = k) (xa_ib 6 1 k) := by
  have e : xa_ib 6 1 k = (Int32.ofInt 1 <<< (Int32.ofInt k &&& 31)).toInt := rfl
  rw [e]
  refine ⟨of_Bz _, fun w hw => ?_⟩
  rw [Int32.ofInt_toInt]
  have key : (List.range 31).all (fun k => (List.range 32).all (fun w => (Int32.ofInt 1 <<< (Int32.ofInt (k : Int) &&& 31)).toBitVec.getLsbD w == (k == w))) = true := by decide +kernel
  have h := List.all_eq_true.mp (List.all_eq_true.mp key k.toNat (List.mem_range.mpr (by omega))) w (List.mem_range.mpr hw)
  rw [Int.toNat_of_nonneg k0, beq_iff_eq] at h
  rw [h, beq_iff_eq]
  omega
theorem rz_nn {Q : Nat → Prop} {r : Int} (h : of_B Q r) (h31 : ¬ Q 31) : 0 ≤ r := by
  have e : (Int32.ofInt r).toBitVec.getLsbD 31 = false := by
    cases c : (Int32.ofInt r).toBitVec.getLsbD 31
    · rfl
    · exact absurd ((h.2 31 (by decide)).mp c) h31
  have m : (Int32.ofInt r).toBitVec.msb = false := by
    rw [BitVec.msb_eq_getLsbD_last]
    exact e
  rw [h.1]
  show 0 ≤ (Int32.ofInt r).toBitVec.toInt
  rw [BitVec.toInt_eq_toNat_of_msb m]
  exact Int.natCast_nonneg _
theorem rz_wB {P : Int → Prop} : ∀ n : Nat, n ≤ 31 → of_B (fun w => w < n ∧ P (w : Int)) (wd_b P n) := by
  intro n
  induction n with
  | zero => exact fun _ => of_Bc of_B0 (fun w hw => ⟨fun h => by omega, fun h => by omega⟩)
  | succ n ih =>
    intro hn
    have ih := ih (by omega)
    by_cases c : P (n : Int)
    · rw [wd_b1 c]
      exact of_Bc (of_Bor ih (rz_Bsh (by omega) (by omega))) (fun w hw => ⟨fun h => by
        rcases h with h | h
        · exact ⟨by omega, h.2⟩
        · refine ⟨by omega, ?_⟩
          rw [h]
          exact c, fun h => by
        by_cases e : (w : Int) = (n : Int)
        · exact Or.inr e
        · exact Or.inl ⟨by omega, h.2⟩⟩)
    · rw [wd_b0 c]
      exact of_Bc ih (fun w hw => ⟨fun h => ⟨by omega, h.2⟩, fun h => ⟨by
        by_cases e : (w : Int) = (n : Int)
        · have h2 := h.2
          rw [e] at h2
          exact absurd h2 c
        · omega, h.2⟩⟩)
theorem rz_wn {P : Int → Prop} (n : Nat) (hn : n ≤ 31) : 0 ≤ wd_b P n := rz_nn (rz_wB n hn) (fun h => by omega)
theorem rz_Sle {N0 C : xa_M} {a v : Int} (h : tu_S N0 a v C) : v ≤ 0 := by
  rcases h with ⟨-, h⟩ | ⟨-, w, hw, -, ⟨-, h⟩ | ⟨-, -, h⟩ | ⟨-, -, h⟩⟩ <;> omega
theorem rz_Hle {N0 C : xa_M} {a v : Int} (h : tu_H N0 a v C) : v ≤ 0 := by
  rcases h with ⟨-, h⟩ | ⟨-, ⟨-, h⟩ | ⟨-, h⟩⟩
  · exact rz_Sle h
  · omega
  · omega
theorem rz_td {x g : Int} (hx : 0 ≤ x) (hg : 0 ≤ g) (h : x.tdiv g ≤ 100000) : 0 ≤ xa_w32 (x.tdiv g) := by
  have p := Int.tdiv_nonneg hx hg
  rw [xa_w32_id (by omega) (by omega)]
  exact p
theorem rz_60 {b : Bool} {A : Nat → Nat} {h0 : g_H} {d : Nat} {M : xa_M} {post : Option xa_V → xa_M → Prop} {l1 u1 x1 : Int} (h1 : (0 : Int) ≤ M 48 1 ∧ M 48 1 < 16) (k : ∀ M1 : xa_M, (∀ (q : Nat) (j : Int), ¬ (q = 48 ∨ q = 49) → M1 q j = M q j) → (0 : Int) ≤ M1 48 1 → M1 48 1 = M 48 1 + 1 → post none M1) : xa_C (xl_I b) A h0 (d + 2) 60 [(2, 48, 0, 0, 0), (1, 0, l1, u1, x1)] M post :=
  cx_60_48 h1.1 (fun h => absurd h1.2 (by omega)) (fun h => k _ (fun q j hq => (xa_up_ne (by omega)).trans (xa_up_ne (by omega))) (by
    rw [xa_up_eq, xa_w32_id (by omega) (by omega)]
    omega) (by
    rw [xa_up_eq, xa_w32_id (by omega) (by omega)]))
theorem rz_71 {b : Bool} {A : Nat → Nat} {h0 : g_H} {d : Nat} {M : xa_M} {post : Option xa_V → xa_M → Prop} {l1 u1 l2 u2 x y : Int} (h0' : (0 : Int) ≤ M 48 1 ∧ M 48 1 < 15) (hx : -9223372036854775807 ≤ x ∧ x ≤ 9223372036854775807) (hy : 1 ≤ y ∧ y ≤ 9223372036854775807) (k : ∀ M1 : xa_M, (∀ (q : Nat) (j : Int), ¬ (q = 48 ∨ q = 49) → M1 q j = M q j) → (0 : Int) ≤ M1 48 1 → M1 48 1 = M 48 1 + 2 → post none M1) : xa_C (xl_I b) A h0 (d + 3) 71 [(2, 48, 0, 0, 0), (1, 0, l1, u1, x), (1, 0, l2, u2, y)] M post := by
  refine xa_C_arg [(2, 48, 0, 0, 0), (1, 0, (-9223372036854775808), 9223372036854775807, x), (1, 0, (-9223372036854775808), 9223372036854775807, y)] (xa_svR (xa_svL (fun _ _ _ _ => by omega) (xa_svL (fun _ _ _ _ => by omega) xa_sv0))) ?_
  refine xa_meth (Q0 := (7, 0, false, 0, 0, 6)) (by decide +kernel) ⟨rfl, rfl⟩ (full := s_c_71) rfl rfl ?_
  intro hM hv Q hgo
  refine hgo.1 19 [] 0 _ _ _ ?_
  show xa_C (xl_I b) A h0 _ 55 [(1, 0, (-9223372036854775808), 9223372036854775807, x), (1, 0, (-9223372036854775808), 9223372036854775807, y)] M _
  refine cx_55y (by omega) (by omega) ?_
  intro g101 (i1 : g101 = (Int.gcd (x) (y) : Int)) (i2 : 1 ≤ g101) (i3 : g101 ≤ 9223372036854775807)
  show xa_C (xl_I b) A h0 _ 21 [(1, 0, (-9223372036854775808), 9223372036854775807, x), (1, 0, 0, 9223372036854775807, g101)] M _
  refine cx_21t rfl (show 1 ≤ g101 ∧ g101 ≤ 9223372036854775807 by omega) ?_
  show xa_C (xl_I b) A h0 _ 60 [(2, 48, 0, 0, 0), (1, 0, (-9223372036854775808), 9223372036854775807, (x).tdiv g101)] M _
  refine rz_60 (by show (0 : Int) ≤ M 48 1 ∧ M 48 1 < 16; omega) ?_
  intro M102 (i4 : ∀ (q : Nat) (j : Int), ¬ (q = 48 ∨ q = 49) → M102 q j = M q j) (i5 : (0 : Int) ≤ M102 48 1) (zM102 : M102 48 1 = M 48 1 + 1)
  show xa_C (xl_I b) A h0 _ 21 [(1, 0, (-9223372036854775808), 9223372036854775807, y), (1, 0, 0, 9223372036854775807, g101)] M102 _
  refine cx_21t rfl (show 1 ≤ g101 ∧ g101 ≤ 9223372036854775807 by omega) ?_
  show xa_C (xl_I b) A h0 _ 60 [(2, 48, 0, 0, 0), (1, 0, (-9223372036854775808), 9223372036854775807, (y).tdiv g101)] M102 _
  refine rz_60 (by show (0 : Int) ≤ M102 48 1 ∧ M102 48 1 < 16; omega) ?_
  intro M103 (i6 : ∀ (q : Nat) (j : Int), ¬ (q = 48 ∨ q = 49) → M103 q j = M102 q j) (i7 : (0 : Int) ≤ M103 48 1) (zM103 : M103 48 1 = M102 48 1 + 1)
  show post none M103
  exact k _ (fun q j h2 => (i6 q j h2).trans (i4 q j h2)) i7 (by omega)
theorem rx_45 {b : Bool} {A : Nat → Nat} {h0 : g_H} {d : Nat} {M : xa_M} {post : Option xa_V → xa_M → Prop} {l1 u1 x1 : Int} {N0 : xa_M} (hM0 : tu_M N0) (hC0 : tu_C M N0) (k : ∀ (lo hi v : Int) (M1 : xa_M), tw_A N0 x1 v (fun _ v => v = 0) → (∀ (q : Nat) (j : Int), ¬ (12 ≤ q ∧ q ≤ 14) → ¬ (q = 48 ∨ q = 49) → M1 q j = M q j) → rz_c ((v : Int) = 0) (M 48 1) (M1 48 1) (2) → post (some (0, 0, lo, hi, v)) M1) : xa_C (xl_I b) A h0 (d + 8) 45 [(2, 0, 0, 0, 0), (0, 0, l1, u1, x1)] M post := by
  refine xa_C_arg [(2, 0, 0, 0, 0), (0, 0, (-2147483648), 2147483647, x1)] (xa_svR (xa_svI (fun _ _ _ _ => by omega) (xa_sv0))) ?_
  refine xa_meth (Q0 := (3, 1, false, 0, 0, 11)) (by decide +kernel) ⟨rfl, rfl⟩ (full := s_c_45) rfl rfl ?_
  intro hM hv Q hgo
  refine hgo.1 29 [] 0 _ _ _ ?_
  show xa_C (xl_I b) A h0 _ 46 [(2, 0, 0, 0, 0), (0, 0, (-2147483648), 2147483647, x1)] M _
  refine cx_46t hM0 hC0 ?_
  intro v101 M102 (i1 : tu_S N0 x1 v101 M102) (i2 : tu_G M M102)
  refine And.intro ?_ ?_
  · intro (c3 : v101 = 0)
    rw [c3] at i1
    have ax := (tu_S0 i1).1
    show xa_C (xl_I b) A h0 _ 59 [(2, 48, 0, 0, 0)] M102 _
    refine cx_59_48 ?_
    show xa_C (xl_I b) A h0 _ 54 [(2, 12, 0, 0, 0), (0, 0, (-2147483648), 2147483647, x1)] (xa_up M102 48 1 0) _
    refine cx_54_12 (show 0 ≤ x1 ∧ x1 < 10 by omega) ?_
    show xa_C (xl_I b) A h0 _ 60 [(2, 48, 0, 0, 0), (1, 0, (-9223372036854775808), 9223372036854775807, M102 13 x1)] (xa_up M102 48 1 0) _
    refine rz_60 (by show (0 : Int) ≤ 0 ∧ 0 < 16; omega) ?_
    intro M103 (i4 : ∀ (q : Nat) (j : Int), ¬ (q = 48 ∨ q = 49) → M103 q j = (xa_up M102 48 1 0) q j) (i5 : (0 : Int) ≤ M103 48 1) (zM103 : M103 48 1 = 0 + 1)
    show xa_C (xl_I b) A h0 _ 51 [(2, 12, 0, 0, 0), (0, 0, (-2147483648), 2147483647, x1)] M103 _
    refine cx_51_12 (show 0 ≤ x1 ∧ x1 < 10 by omega) ?_
    show xa_C (xl_I b) A h0 _ 60 [(2, 48, 0, 0, 0), (1, 0, (-9223372036854775808), 9223372036854775807, M103 14 x1)] M103 _
    refine rz_60 (by show (0 : Int) ≤ M103 48 1 ∧ M103 48 1 < 16; omega) ?_
    intro M104 (i6 : ∀ (q : Nat) (j : Int), ¬ (q = 48 ∨ q = 49) → M104 q j = M103 q j) (i7 : (0 : Int) ≤ M104 48 1) (zM104 : M104 48 1 = M103 48 1 + 1)
    show post (some (0, 0, 0, 0, 0)) M104
    exact k _ _ _ _ (tw_A_of i1 (fun e _ _ _ => e)) (fun q j h1 h2 => (i6 q j h2).trans ((i4 q j h2).trans ((xa_up_ne (by omega)).trans (i2 q j h1)))) (by have zi2 := i2 48 1 (by omega); unfold rz_c; omega)
  · intro (c3 : ¬ v101 = 0)
    show post (some (0, 0, (-5), 0, v101)) M102
    exact k _ _ _ _ (tw_A_of i1 (fun e _ _ _ => e)) (fun q j h1 h2 => i2 q j h1) (by have zi2 := i2 48 1 (by omega); have rr := rz_Sle i1; unfold rz_c; omega)
theorem rx_61 {b : Bool} {A : Nat → Nat} {h0 : g_H} {d : Nat} {M : xa_M} {post : Option xa_V → xa_M → Prop} {N0 : xa_M} (hM0 : tu_M N0) (hC0 : tu_C M N0) (k : ∀ (lo hi v : Int) (M1 : xa_M), tw_61 N0 v → (∀ (q : Nat) (j : Int), ¬ (12 ≤ q ∧ q ≤ 14) → ¬ (q = 48 ∨ q = 49) → M1 q j = M q j) → rz_c (0 ≤ (v : Int)) (M 48 1) (M1 48 1) (1) → post (some (0, 0, lo, hi, v)) M1) : xa_C (xl_I b) A h0 (d + 7) 61 [(2, 0, 0, 0, 0)] M post := by
  refine xa_meth (Q0 := (5, 1, false, 0, 0, 11)) (by decide +kernel) ⟨rfl, rfl⟩ (full := s_c_61) rfl rfl ?_
  intro hM hv Q hgo
  have loop : ∀ (f : Nat) (a x y : Int) (M1 : xa_M), 0 ≤ a ∧ a ≤ 10 → tu_G M M1 → x = wd_b (fun a => ¬ M1 14 a = 0) a.toNat → (∀ v, v = wd_b (fun a => ¬ M1 14 a = 0) 10 → tw_61 N0 v) → 10 - a < (f : Int) → Q 26 [(4, (0, 0, 0, 10, a)), (3, (0, 0, (-2147483648), 2147483647, y)), (2, (0, 0, (-2147483648), 2147483647, x)), (0, (2, 0, 0, 0, 0))] [] M1 := by
    intro f
    induction f with
    | zero => intro a x y M1 a1 hG hb hS hms; clear hb hS; omega
    | succ f ih =>
      intro a x y M1 a1 hG hb hS hms
      refine hgo.1 34 [26] 26 _ _ _ ?_
      refine And.intro ?_ ?_
      · intro (c1 : 10 ≤ a)
        show xa_C (xl_I b) A h0 _ 59 [(2, 48, 0, 0, 0)] M1 _
        refine cx_59_48 ?_
        show xa_C (xl_I b) A h0 _ 60 [(2, 48, 0, 0, 0), (1, 0, (-2147483648), 2147483647, y)] (xa_up M1 48 1 0) _
        refine rz_60 (by show (0 : Int) ≤ 0 ∧ 0 < 16; omega) ?_
        intro M101 (i2 : ∀ (q : Nat) (j : Int), ¬ (q = 48 ∨ q = 49) → M101 q j = (xa_up M1 48 1 0) q j) (i3 : (0 : Int) ≤ M101 48 1) (zM101 : M101 48 1 = 0 + 1)
        show post (some (0, 0, (-2147483648), 2147483647, x)) M101
        exact k _ _ _ _ (hS _ (by rw [hb, show a.toNat = 10 by omega])) (fun q j h1 h2 => (i2 q j h2).trans ((xa_up_ne (by omega)).trans (hG q j h1))) (by have rr : 0 ≤ x := (by rw [hb]; exact rz_wn _ (by omega)); unfold rz_c; omega)
      · intro (c1 : a < 10)
        show xa_C (xl_I b) A h0 _ 50 [(2, 12, 0, 0, 0), (0, 0, 0, 10, a)] M1 _
        refine cx_50_12 (show 0 ≤ a ∧ a < 10 by omega) ?_ ?_
        · intro (i4 : (M1 14 a) = 0)
          show Q 26 [(4, (0, 0, 1, 11, a + 1)), (3, (0, 0, (-2147483648), 2147483647, y)), (2, (0, 0, (-2147483648), 2147483647, x)), (0, (2, 0, 0, 0, 0))] [] M1
          refine hgo.2.1 26 _ [(4, (0, 0, 0, 10, a + 1)), (3, (0, 0, (-2147483648), 2147483647, y)), (2, (0, 0, (-2147483648), 2147483647, x)), (0, (2, 0, 0, 0, 0))] _ _ (xa_subI rfl rfl (fun _ _ _ _ => by omega) (xa_subI rfl rfl (fun _ _ _ _ => by omega) (xa_subI rfl rfl (fun _ _ _ _ => by omega) (xa_subR rfl (xa_sub0))))) ?_
          exact ih (a + 1) x y M1 (by omega) hG (tw_b0 a1.1 (fun h => h i4) hb) hS (by omega)
        · intro (i5 : ¬ (M1 14 a) = 0)
          show xa_C (xl_I b) A h0 _ 54 [(2, 12, 0, 0, 0), (0, 0, 0, 10, a)] M1 _
          refine cx_54_12 (show 0 ≤ a ∧ a < 10 by omega) ?_
          refine And.intro ?_ ?_
          · intro (c6 : (M1 13 a) ≤ 0)
            show Q 26 [(4, (0, 0, 1, 11, a + 1)), (3, (0, 0, (-2147483648), 2147483647, xa_ib 4 y 0)), (2, (0, 0, (-2147483648), 2147483647, xa_ib 4 x (xa_ib 6 1 a))), (0, (2, 0, 0, 0, 0))] [] M1
            refine hgo.2.1 26 _ [(4, (0, 0, 0, 10, a + 1)), (3, (0, 0, (-2147483648), 2147483647, xa_ib 4 y 0)), (2, (0, 0, (-2147483648), 2147483647, xa_ib 4 x (xa_ib 6 1 a))), (0, (2, 0, 0, 0, 0))] _ _ (xa_subI rfl rfl (fun _ _ _ _ => by omega) (xa_subI rfl rfl (fun _ _ _ _ => by omega) (xa_subI rfl rfl (fun _ _ _ _ => by omega) (xa_subR rfl (xa_sub0))))) ?_
            exact ih (a + 1) (xa_ib 4 x (xa_ib 6 1 a)) (xa_ib 4 y 0) M1 (by omega) hG (tw_b1 a1.1 i5 hb) hS (by omega)
          · intro (c6 : 0 < (M1 13 a))
            show Q 26 [(4, (0, 0, 1, 11, a + 1)), (3, (0, 0, (-2147483648), 2147483647, xa_ib 4 y (xa_ib 6 1 a))), (2, (0, 0, (-2147483648), 2147483647, xa_ib 4 x (xa_ib 6 1 a))), (0, (2, 0, 0, 0, 0))] [] M1
            refine hgo.2.1 26 _ [(4, (0, 0, 0, 10, a + 1)), (3, (0, 0, (-2147483648), 2147483647, xa_ib 4 y (xa_ib 6 1 a))), (2, (0, 0, (-2147483648), 2147483647, xa_ib 4 x (xa_ib 6 1 a))), (0, (2, 0, 0, 0, 0))] _ _ (xa_subI rfl rfl (fun _ _ _ _ => by omega) (xa_subI rfl rfl (fun _ _ _ _ => by omega) (xa_subI rfl rfl (fun _ _ _ _ => by omega) (xa_subR rfl (xa_sub0))))) ?_
            exact ih (a + 1) (xa_ib 4 x (xa_ib 6 1 a)) (xa_ib 4 y (xa_ib 6 1 a)) M1 (by omega) hG (tw_b1 a1.1 i5 hb) hS (by omega)
  refine hgo.1 20 [26] 0 _ _ _ ?_
  show xa_C (xl_I b) A h0 _ 47 [(2, 12, 0, 0, 0), (2, 1, 0, 0, 0), (0, 0, (-1), (-1), (-1))] M _
  refine cx_47t hM0 hC0 ?_
  intro v102 M103 (i1 : v102 = 0 ∨ v102 = -3 ∨ v102 = -5) (i2 : tu_V (-1) N0 v102 M103) (i3 : tu_G M M103)
  refine And.intro ?_ ?_
  · intro (c4 : v102 = 0)
    show Q 26 [(4, (0, 0, 0, 0, 0)), (3, (0, 0, 0, 0, 0)), (2, (0, 0, 0, 0, 0)), (1, (0, 0, (-5), 0, v102)), (0, (2, 0, 0, 0, 0))] [] M103
    refine hgo.2.1 26 _ [(4, (0, 0, 0, 10, 0)), (3, (0, 0, (-2147483648), 2147483647, 0)), (2, (0, 0, (-2147483648), 2147483647, 0)), (0, (2, 0, 0, 0, 0))] _ _ (xa_subI rfl rfl (fun _ _ _ _ => by omega) (xa_subI rfl rfl (fun _ _ _ _ => by omega) (xa_subI rfl rfl (fun _ _ _ _ => by omega) (xa_subR rfl (xa_sub0))))) ?_
    exact loop 11 0 0 0 M103 (by omega) i3 rfl (fun v e => tw_61_of i2 (Or.inr ⟨by omega, e⟩)) (by omega)
  · intro (c4 : ¬ v102 = 0)
    show post (some (0, 0, (-5), 0, v102)) M103
    exact k _ _ _ _ (tw_61_of i2 (Or.inl ⟨by omega, rfl⟩)) (fun q j h1 h2 => i3 q j h1) (by have zi3 := i3 48 1 (by omega); unfold rz_c; omega)
theorem rx_66 {b : Bool} {A : Nat → Nat} {h0 : g_H} {d : Nat} {M : xa_M} {post : Option xa_V → xa_M → Prop} {l1 u1 l2 u2 x1 x2 : Int} {N0 : xa_M} (hM0 : tu_M N0) (hC0 : tu_C M N0) (k : ∀ (lo hi v : Int) (M1 : xa_M), tw_66 N0 x1 x2 v → (∀ (q : Nat) (j : Int), ¬ (12 ≤ q ∧ q ≤ 14) → ¬ (q = 48 ∨ q = 49) → M1 q j = M q j) → rz_c ((v : Int) = 0) (M 48 1) (M1 48 1) (2) → post (some (0, 0, lo, hi, v)) M1) : xa_C (xl_I b) A h0 (d + 9) 66 [(2, 0, 0, 0, 0), (0, 0, l1, u1, x1), (0, 0, l2, u2, x2)] M post := by
  refine xa_C_arg [(2, 0, 0, 0, 0), (0, 0, (-2147483648), 2147483647, x1), (0, 0, (-2147483648), 2147483647, x2)] (xa_svR (xa_svI (fun _ _ _ _ => by omega) (xa_svI (fun _ _ _ _ => by omega) (xa_sv0)))) ?_
  refine xa_meth (Q0 := (6, 1, false, 0, 0, 11)) (by decide +kernel) ⟨rfl, rfl⟩ (full := s_c_66) rfl rfl ?_
  intro hM hv Q hgo
  refine hgo.1 37 [] 0 _ _ _ ?_
  show xa_C (xl_I b) A h0 _ 67 [(0, 0, (-2147483648), 2147483647, x2)] M _
  refine cx_67 ?_ ?_ ?_
  · intro (i1 : x2 < 0)
    show post (some (0, 0, (-1), (-1), (-1))) M
    exact k _ _ _ _ (Or.inl ⟨by omega, rfl⟩) (fun _ _ _ _ => rfl) (by unfold rz_c; omega)
  · intro (i2 : 0 ≤ x2) (i3 : 2000 < x2)
    show post (some (0, 0, (-1), (-1), (-1))) M
    exact k _ _ _ _ (Or.inl ⟨by omega, rfl⟩) (fun _ _ _ _ => rfl) (by unfold rz_c; omega)
  · intro (i4 : 0 ≤ x2) (i5 : x2 ≤ 2000)
    show xa_C (xl_I b) A h0 _ 68 [(2, 0, 0, 0, 0), (0, 0, (-2147483648), 2147483647, x1)] M _
    refine cx_68t hM0 hC0 ?_
    intro v101 M102 (i6 : tu_H N0 x1 v101 M102) (i7 : tu_G M M102)
    refine And.intro ?_ ?_
    · intro (c8 : v101 = 0)
      rw [c8] at i6
      obtain ⟨hs0, nL⟩ := tu_H0 i6
      obtain ⟨ax, N9, t1, t2, t3, t4, t5, t6, t7⟩ := tu_S0 hs0
      show xa_C (xl_I b) A h0 _ 51 [(2, 12, 0, 0, 0), (0, 0, (-2147483648), 2147483647, x1)] M102 _
      refine cx_51_12 (show 0 ≤ x1 ∧ x1 < 10 by omega) ?_
      show xa_C (xl_I b) A h0 _ 59 [(2, 48, 0, 0, 0)] M102 _
      refine cx_59_48 ?_
      show xa_C (xl_I b) A h0 _ 54 [(2, 12, 0, 0, 0), (0, 0, (-2147483648), 2147483647, x1)] (xa_up M102 48 1 0) _
      refine cx_54_12 (show 0 ≤ x1 ∧ x1 < 10 by omega) ?_
      show xa_C (xl_I b) A h0 _ 56 [(1, 0, (-9223372036854775808), 9223372036854775807, M102 13 x1)] (xa_up M102 48 1 0) _
      refine ct_abs (lo := 0) (hi := 1000000000000000) (show -9223372036854775808 < (M102 13 x1) by omega) (fun a103 h104 => ⟨by omega, ?_⟩)
      show xa_C (xl_I b) A h0 _ 70 [(1, 0, (-9223372036854775808), 9223372036854775807, xa_w64 (a103 * x2)), (1, 0, (-9223372036854775808), 9223372036854775807, M102 14 x1)] (xa_up M102 48 1 0) _
      refine cx_70r (show 1 ≤ (M102 14 x1) by omega) ?_
      intro r105 (i9 : -(M102 14 x1) < r105 ∧ r105 < (M102 14 x1))
      show xa_C (xl_I b) A h0 _ 71 [(2, 48, 0, 0, 0), (1, 0, (-9223372036854775808), 9223372036854775807, r105), (1, 0, (-9223372036854775808), 9223372036854775807, M102 14 x1)] (xa_up M102 48 1 0) _
      refine rz_71 (by show (0 : Int) ≤ 0 ∧ 0 < 15; omega) (by omega) (by omega) ?_
      intro M106 (i10 : ∀ (q : Nat) (j : Int), ¬ (q = 48 ∨ q = 49) → M106 q j = (xa_up M102 48 1 0) q j) (i11 : (0 : Int) ≤ M106 48 1) (zM106 : M106 48 1 = 0 + 2)
      show post (some (0, 0, 0, 0, 0)) M106
      exact k _ _ _ _ (Or.inr ⟨by omega, tw_H i6⟩) (fun q j h1 h2 => (i10 q j h2).trans ((xa_up_ne (by omega)).trans (i7 q j h1))) (by have zi7 := i7 48 1 (by omega); unfold rz_c; omega)
    · intro (c8 : ¬ v101 = 0)
      show post (some (0, 0, (-5), 0, v101)) M102
      exact k _ _ _ _ (Or.inr ⟨by omega, tw_H i6⟩) (fun q j h1 h2 => i7 q j h1) (by have zi7 := i7 48 1 (by omega); have rr := rz_Hle i6; unfold rz_c; omega)
theorem rx_72 {b : Bool} {A : Nat → Nat} {h0 : g_H} {d : Nat} {M : xa_M} {post : Option xa_V → xa_M → Prop} {l1 u1 l2 u2 x1 x2 : Int} {N0 : xa_M} (hM0 : tu_M N0) (hC0 : tu_C M N0) (k : ∀ (lo hi v : Int) (M1 : xa_M), tw_72 N0 x1 x2 v → (∀ (q : Nat) (j : Int), ¬ (12 ≤ q ∧ q ≤ 14) → ¬ (q = 48 ∨ q = 49) → M1 q j = M q j) → rz_c (0 ≤ (v : Int)) (M 48 1) (M1 48 1) (1) → post (some (0, 0, lo, hi, v)) M1) : xa_C (xl_I b) A h0 (d + 8) 72 [(2, 0, 0, 0, 0), (0, 0, l1, u1, x1), (0, 0, l2, u2, x2)] M post := by
  refine xa_C_arg [(2, 0, 0, 0, 0), (0, 0, (-2147483648), 2147483647, x1), (0, 0, (-2147483648), 2147483647, x2)] (xa_svR (xa_svI (fun _ _ _ _ => by omega) (xa_svI (fun _ _ _ _ => by omega) (xa_sv0)))) ?_
  refine xa_meth (Q0 := (12, 1, false, 0, 0, 11)) (by decide +kernel) ⟨rfl, rfl⟩ (full := s_c_72) rfl rfl ?_
  intro hM hv Q hgo
  refine hgo.1 84 [] 0 _ _ _ ?_
  show xa_C (xl_I b) A h0 _ 14 [(0, 0, (-2147483648), 2147483647, x1)] M _
  refine cx_14 ?_ ?_ ?_
  · intro (i1 : x1 < 0)
    show post (some (0, 0, (-1), (-1), (-1))) M
    exact k _ _ _ _ (tw_Pn (by omega)) (fun _ _ _ _ => rfl) (by unfold rz_c; omega)
  · intro (i2 : 0 ≤ x1) (i3 : 10 ≤ x1)
    show post (some (0, 0, (-1), (-1), (-1))) M
    exact k _ _ _ _ (tw_Pn (by omega)) (fun _ _ _ _ => rfl) (by unfold rz_c; omega)
  · intro (i4 : 0 ≤ x1) (i5 : x1 < 10)
    show xa_C (xl_I b) A h0 _ 14 [(0, 0, (-2147483648), 2147483647, x2)] M _
    refine cx_14 ?_ ?_ ?_
    · intro (i6 : x2 < 0)
      show post (some (0, 0, (-1), (-1), (-1))) M
      exact k _ _ _ _ (Or.inl ⟨by omega, rfl⟩) (fun _ _ _ _ => rfl) (by unfold rz_c; omega)
    · intro (i7 : 0 ≤ x2) (i8 : 10 ≤ x2)
      show post (some (0, 0, (-1), (-1), (-1))) M
      exact k _ _ _ _ (Or.inl ⟨by omega, rfl⟩) (fun _ _ _ _ => rfl) (by unfold rz_c; omega)
    · intro (i9 : 0 ≤ x2) (i10 : x2 < 10)
      show xa_C (xl_I b) A h0 _ 46 [(2, 0, 0, 0, 0), (0, 0, (-2147483648), 2147483647, x1)] M _
      refine cx_46t hM0 hC0 ?_
      intro v101 M102 (i11 : tu_S N0 x1 v101 M102) (i12 : tu_G M M102)
      refine And.intro ?_ ?_
      · intro (c13 : v101 = 0)
        rw [c13] at i11
        have ax := (tu_S0 i11).1
        show xa_C (xl_I b) A h0 _ 50 [(2, 12, 0, 0, 0), (0, 0, (-2147483648), 2147483647, x2)] M102 _
        refine cx_50_12 (show 0 ≤ x2 ∧ x2 < 10 by omega) ?_ ?_
        · intro (i14 : (M102 14 x2) = 0)
          show post (some (0, 0, (-2), (-2), (-2))) M102
          refine k _ _ _ _ (Or.inr ⟨by omega, tw_A_to i11 (fun N _ hR h7 h8 _ => ?_)⟩) (fun q j h1 h2 => i12 q j h1) (by have zi12 := i12 48 1 (by omega); unfold rz_c; omega)
          have z := tu_z hR (show 0 ≤ x2 by omega) (by omega)
          exact Or.inl ⟨by omega, rfl⟩
        · intro (i15 : ¬ (M102 14 x2) = 0)
          obtain ⟨ax, N9, t1, t2, t3, t4, t5, t6, t7⟩ := tu_S0 i11
          show xa_C (xl_I b) A h0 _ 69 [(2, 12, 0, 0, 0), (0, 0, (-2147483648), 2147483647, x1)] M102 _
          refine cx_69t (show 0 ≤ x1 ∧ x1 < 10 by omega) t5 ?_
          intro r103 (i16 : (r103 = 1 ∧ tu_L M102 x1) ∨ (r103 = 0 ∧ ¬ tu_L M102 x1))
          refine And.intro ?_ ?_
          · intro (c17 : ¬ r103 = 0)
            show post (some (0, 0, (-5), (-5), (-5))) M102
            refine k _ _ _ _ (Or.inr ⟨by omega, tw_A_to i11 (fun N _ hR h7 h8 _ => ?_)⟩) (fun q j h1 h2 => i12 q j h1) (by have zi12 := i12 48 1 (by omega); unfold rz_c; omega)
            obtain ⟨b7, b8⟩ := tu_at hR (show 0 ≤ x2 ∧ x2 < 10 by omega) i15
            rcases i16 with ⟨-, e⟩ | ⟨e, -⟩
            · exact Or.inr (Or.inl ⟨b7, Or.inl ((tw_Lc h8).mp e), rfl⟩)
            · exfalso
              omega
          · intro (c17 : r103 = 0)
            have nLa : ¬ tu_L M102 x1 := by
              rcases i16 with ⟨e, -⟩ | ⟨-, e⟩
              · omega
              · exact e
            show xa_C (xl_I b) A h0 _ 69 [(2, 12, 0, 0, 0), (0, 0, (-2147483648), 2147483647, x2)] M102 _
            refine cx_69t (show 0 ≤ x2 ∧ x2 < 10 by omega) (tu_pq t2 (by omega) (by omega)).1 ?_
            intro r104 (i18 : (r104 = 1 ∧ tu_L M102 x2) ∨ (r104 = 0 ∧ ¬ tu_L M102 x2))
            refine And.intro ?_ ?_
            · intro (c19 : r104 = 0)
              have nLb : ¬ tu_L M102 x2 := by
                rcases i18 with ⟨e, -⟩ | ⟨-, e⟩
                · omega
                · exact e
              have pb := (tu_pq t2 (show 0 ≤ x2 ∧ x2 < 10 by omega) i15).2
              have hw := tw_w nLa nLb t6.1 pb.1
              show xa_C (xl_I b) A h0 _ 54 [(2, 12, 0, 0, 0), (0, 0, (-2147483648), 2147483647, x1)] M102 _
              refine cx_54_12 (show 0 ≤ x1 ∧ x1 < 10 by omega) ?_
              show xa_C (xl_I b) A h0 _ 51 [(2, 12, 0, 0, 0), (0, 0, (-2147483648), 2147483647, x2)] M102 _
              refine cx_51_12 (show 0 ≤ x2 ∧ x2 < 10 by omega) ?_
              show xa_C (xl_I b) A h0 _ 54 [(2, 12, 0, 0, 0), (0, 0, (-2147483648), 2147483647, x2)] M102 _
              refine cx_54_12 (show 0 ≤ x2 ∧ x2 < 10 by omega) ?_
              show xa_C (xl_I b) A h0 _ 51 [(2, 12, 0, 0, 0), (0, 0, (-2147483648), 2147483647, x1)] M102 _
              refine cx_51_12 (show 0 ≤ x1 ∧ x1 < 10 by omega) ?_
              show xa_C (xl_I b) A h0 _ 51 [(2, 12, 0, 0, 0), (0, 0, (-2147483648), 2147483647, x1)] M102 _
              refine cx_51_12 (show 0 ≤ x1 ∧ x1 < 10 by omega) ?_
              show xa_C (xl_I b) A h0 _ 51 [(2, 12, 0, 0, 0), (0, 0, (-2147483648), 2147483647, x2)] M102 _
              refine cx_51_12 (show 0 ≤ x2 ∧ x2 < 10 by omega) ?_
              show xa_C (xl_I b) A h0 _ 55 [(1, 0, (-9223372036854775808), 9223372036854775807, xa_w64 ((xa_w64 ((M102 13 x1) * (M102 14 x2))) - (xa_w64 ((M102 13 x2) * (M102 14 x1))))), (1, 0, (-9223372036854775808), 9223372036854775807, xa_w64 ((M102 14 x1) * (M102 14 x2)))] M102 _
              refine cx_55y (by omega) (by omega) ?_
              intro g105 (i20 : g105 = (Int.gcd (xa_w64 ((xa_w64 ((M102 13 x1) * (M102 14 x2))) - (xa_w64 ((M102 13 x2) * (M102 14 x1))))) (xa_w64 ((M102 14 x1) * (M102 14 x2))) : Int)) (i21 : 1 ≤ g105) (i22 : g105 ≤ 9223372036854775807)
              show xa_C (xl_I b) A h0 _ 21 [(1, 0, (-9223372036854775808), 9223372036854775807, xa_w64 ((M102 14 x1) * (M102 14 x2))), (1, 0, 0, 9223372036854775807, g105)] M102 _
              refine cx_21t rfl (show 1 ≤ g105 ∧ g105 ≤ 9223372036854775807 by omega) ?_
              refine And.intro ?_ ?_
              · intro (c23 : ((xa_w64 ((M102 14 x1) * (M102 14 x2))).tdiv g105) ≤ 100000)
                show xa_C (xl_I b) A h0 _ 59 [(2, 48, 0, 0, 0)] M102 _
                refine cx_59_48 ?_
                show xa_C (xl_I b) A h0 _ 21 [(1, 0, (-9223372036854775808), 9223372036854775807, xa_w64 ((xa_w64 ((M102 13 x1) * (M102 14 x2))) - (xa_w64 ((M102 13 x2) * (M102 14 x1))))), (1, 0, 0, 9223372036854775807, g105)] (xa_up M102 48 1 0) _
                refine cx_21t rfl (show 1 ≤ g105 ∧ g105 ≤ 9223372036854775807 by omega) ?_
                show xa_C (xl_I b) A h0 _ 60 [(2, 48, 0, 0, 0), (1, 0, (-9223372036854775808), 9223372036854775807, (xa_w64 ((xa_w64 ((M102 13 x1) * (M102 14 x2))) - (xa_w64 ((M102 13 x2) * (M102 14 x1))))).tdiv g105)] (xa_up M102 48 1 0) _
                refine rz_60 (by show (0 : Int) ≤ 0 ∧ 0 < 16; omega) ?_
                intro M106 (i24 : ∀ (q : Nat) (j : Int), ¬ (q = 48 ∨ q = 49) → M106 q j = (xa_up M102 48 1 0) q j) (i25 : (0 : Int) ≤ M106 48 1) (zM106 : M106 48 1 = 0 + 1)
                show post (some (0, 0, (-2147483648), 2147483647, xa_w32 ((xa_w64 ((M102 14 x1) * (M102 14 x2))).tdiv g105))) M106
                refine k _ _ _ _ (Or.inr ⟨by omega, tw_A_to i11 (fun N _ hR h7 h8 _ => ?_)⟩) (fun q j h1 h2 => (i24 q j h2).trans ((xa_up_ne (by omega)).trans (i12 q j h1))) (by have zi12 := i12 48 1 (by omega); have rr := rz_td (x := xa_w64 ((M102 14 x1) * (M102 14 x2))) (g := g105) (by rw [hw.2.1]; have q5 := hw.2.2.2.1.1; omega) (by omega) (by omega); unfold rz_c; omega)
                obtain ⟨b7, b8⟩ := tu_at hR (show 0 ≤ x2 ∧ x2 < 10 by omega) i15
                refine Or.inr (Or.inr ⟨b7, fun h => h.elim (fun e => nLa ((tw_Lc h8).mpr e)) (fun e => nLb ((tw_Lc b8).mpr e)), ?_⟩)
                rw [← h8.1, ← h8.2, ← b8.1, ← b8.2]
                rw [hw.2.2.1, hw.2.1] at i20
                rw [hw.2.1] at c23
                rw [hw.2.1]
                exact tw_y2 hw.2.2.2.1.1 i20 c23
              · intro (c23 : 100000 < ((xa_w64 ((M102 14 x1) * (M102 14 x2))).tdiv g105))
                show post (some (0, 0, (-6), (-6), (-6))) M102
                refine k _ _ _ _ (Or.inr ⟨by omega, tw_A_to i11 (fun N _ hR h7 h8 _ => ?_)⟩) (fun q j h1 h2 => i12 q j h1) (by have zi12 := i12 48 1 (by omega); unfold rz_c; omega)
                obtain ⟨b7, b8⟩ := tu_at hR (show 0 ≤ x2 ∧ x2 < 10 by omega) i15
                refine Or.inr (Or.inr ⟨b7, fun h => h.elim (fun e => nLa ((tw_Lc h8).mpr e)) (fun e => nLb ((tw_Lc b8).mpr e)), ?_⟩)
                rw [← h8.1, ← h8.2, ← b8.1, ← b8.2]
                rw [hw.2.2.1, hw.2.1] at i20
                rw [hw.2.1] at c23
                exact tw_y6 i20 c23
            · intro (c19 : ¬ r104 = 0)
              show post (some (0, 0, (-5), (-5), (-5))) M102
              refine k _ _ _ _ (Or.inr ⟨by omega, tw_A_to i11 (fun N _ hR h7 h8 _ => ?_)⟩) (fun q j h1 h2 => i12 q j h1) (by have zi12 := i12 48 1 (by omega); unfold rz_c; omega)
              obtain ⟨b7, b8⟩ := tu_at hR (show 0 ≤ x2 ∧ x2 < 10 by omega) i15
              rcases i18 with ⟨-, e⟩ | ⟨e, -⟩
              · exact Or.inr (Or.inl ⟨b7, Or.inr ((tw_Lc b8).mp e), rfl⟩)
              · exfalso
                omega
      · intro (c13 : ¬ v101 = 0)
        show post (some (0, 0, (-5), 0, v101)) M102
        exact k _ _ _ _ (Or.inr ⟨by omega, tw_A_of i11 (fun e => absurd e (by omega))⟩) (fun q j h1 h2 => i12 q j h1) (by have zi12 := i12 48 1 (by omega); have rr := rz_Sle i11; unfold rz_c; omega)
theorem rx_63_50 {A : Nat → Nat} {h0 : g_H} {d : Nat} {M : xa_M} {post : Option xa_V → xa_M → Prop} {l1 u1 x1 : Int} {N0 : xa_M} (hM0 : tu_M N0) (hC0 : tu_C M N0) (hB : tk_B 50 M N0) (k : ∀ (lo hi v : Int) (M1 : xa_M), tw_A N0 x1 v (tw_gC N0 x1) → (∀ (q : Nat) (j : Int), ¬ (12 ≤ q ∧ q ≤ 14) → ¬ (q = 48 ∨ q = 49) → M1 q j = M q j) → rz_c (0 ≤ (v : Int)) (M 48 1) (M1 48 1) (1) → post (some (0, 0, lo, hi, v)) M1) : xa_C (xl_I false) A h0 (d + 8) 63 [(2, 0, 0, 0, 0), (0, 0, l1, u1, x1)] M post := by
  refine xa_C_arg [(2, 0, 0, 0, 0), (0, 0, (-2147483648), 2147483647, x1)] (xa_svR (xa_svI (fun _ _ _ _ => by omega) (xa_sv0))) ?_
  refine xa_meth (Q0 := (7, 1, false, 0, 0, 11)) (by decide +kernel) ⟨rfl, rfl⟩ (full := s_c_63) rfl rfl ?_
  intro hM hv Q hgo
  have n11 := hB.2.1
  have loop : ∀ (f : Nat) (p x : Int) (M1 : xa_M), 0 ≤ p ∧ p ≤ 8 → p ≤ N0 60 11 → tu_G M M1 → tu_S N0 x1 0 M1 → x = wd_b (fun p => xa_w64 (((M1 13 x1).natAbs : Int) * M1 52 p) = xa_w64 (M1 14 x1 * M1 51 p)) p.toNat → 8 - p < (f : Int) → Q 17 [(4, (0, 0, 0, 8, p)), (3, (0, 0, (-2147483648), 2147483647, x)), (1, (0, 0, (-2147483648), 2147483647, x1)), (0, (2, 0, 0, 0, 0))] [] M1 := by
    intro f
    induction f with
    | zero => intro p x M1 p1 hle hG hs hb hms; clear hb; omega
    | succ f ih =>
      intro p x M1 p1 hle hG hs hb hms
      have e4 : M1 50 4 = N0 60 11 := (hG 50 4 (by omega)).trans hB.1
      obtain ⟨ax, N9, t1, t2, t3, t4, t5, t6, t7⟩ := tu_S0 hs
      refine hgo.1 41 [17] 17 _ _ _ ?_
      refine And.intro ?_ ?_
      · intro (c1 : (M1 50 4) ≤ p)
        show xa_C (xl_I _) A h0 _ 59 [(2, 48, 0, 0, 0)] M1 _
        refine cx_59_48 ?_
        show xa_C (xl_I _) A h0 _ 54 [(2, 12, 0, 0, 0), (0, 0, (-2147483648), 2147483647, x1)] (xa_up M1 48 1 0) _
        refine cx_54_12 (show 0 ≤ x1 ∧ x1 < 10 by omega) ?_
        refine And.intro ?_ ?_
        · intro (c2 : (M1 13 x1) ≤ 0)
          show xa_C (xl_I _) A h0 _ 60 [(2, 48, 0, 0, 0), (1, 0, 0, 0, 0)] (xa_up M1 48 1 0) _
          refine rz_60 (by show (0 : Int) ≤ 0 ∧ 0 < 16; omega) ?_
          intro M101 (i3 : ∀ (q : Nat) (j : Int), ¬ (q = 48 ∨ q = 49) → M101 q j = (xa_up M1 48 1 0) q j) (i4 : (0 : Int) ≤ M101 48 1) (zM101 : M101 48 1 = 0 + 1)
          show post (some (0, 0, (-2147483648), 2147483647, x)) M101
          exact k _ _ _ _ (tw_gf hB hG hs (by omega) hb (by decide)) (fun q j h1 h2 => (i3 q j h2).trans ((xa_up_ne (by omega)).trans (hG q j h1))) (by have rr : 0 ≤ x := (by rw [hb]; exact rz_wn _ (by omega)); unfold rz_c; omega)
        · intro (c2 : 0 < (M1 13 x1))
          show xa_C (xl_I _) A h0 _ 60 [(2, 48, 0, 0, 0), (1, 0, (-2147483648), 2147483647, x)] (xa_up M1 48 1 0) _
          refine rz_60 (by show (0 : Int) ≤ 0 ∧ 0 < 16; omega) ?_
          intro M102 (i5 : ∀ (q : Nat) (j : Int), ¬ (q = 48 ∨ q = 49) → M102 q j = (xa_up M1 48 1 0) q j) (i6 : (0 : Int) ≤ M102 48 1) (zM102 : M102 48 1 = 0 + 1)
          show post (some (0, 0, (-2147483648), 2147483647, x)) M102
          exact k _ _ _ _ (tw_gf hB hG hs (by omega) hb (by decide)) (fun q j h1 h2 => (i5 q j h2).trans ((xa_up_ne (by omega)).trans (hG q j h1))) (by have rr : 0 ≤ x := (by rw [hb]; exact rz_wn _ (by omega)); unfold rz_c; omega)
      · intro (c1 : p < (M1 50 4))
        show xa_C (xl_I _) A h0 _ 54 [(2, 12, 0, 0, 0), (0, 0, (-2147483648), 2147483647, x1)] M1 _
        refine cx_54_12 (show 0 ≤ x1 ∧ x1 < 10 by omega) ?_
        show xa_C (xl_I _) A h0 _ 56 [(1, 0, (-9223372036854775808), 9223372036854775807, M1 13 x1)] M1 _
        refine ct_abs (lo := 0) (hi := 1000000000000000) (show -9223372036854775808 < (M1 13 x1) by omega) (fun a103 h104 => ⟨by omega, ?_⟩)
        show xa_C (xl_I _) A h0 _ 64 [(2, 50, 0, 0, 0), (0, 0, 0, 8, p)] M1 _
        refine cx_64_50 (show 0 ≤ p ∧ p < 8 by omega) ?_
        show xa_C (xl_I _) A h0 _ 51 [(2, 12, 0, 0, 0), (0, 0, (-2147483648), 2147483647, x1)] M1 _
        refine cx_51_12 (show 0 ≤ x1 ∧ x1 < 10 by omega) ?_
        show xa_C (xl_I _) A h0 _ 65 [(2, 50, 0, 0, 0), (0, 0, 0, 8, p)] M1 _
        refine cx_65_50 (show 0 ≤ p ∧ p < 8 by omega) ?_
        refine And.intro ?_ ?_
        · intro (c7 : ¬ (xa_w64 (a103 * (M1 52 p))) = (xa_w64 ((M1 14 x1) * (M1 51 p))))
          show Q 17 [(4, (0, 0, 1, 9, p + 1)), (3, (0, 0, (-2147483648), 2147483647, xa_ib 4 x 0)), (5, (1, 0, (-9223372036854775808), 9223372036854775807, xa_w64 (a103 * (M1 52 p)))), (1, (0, 0, (-2147483648), 2147483647, x1)), (0, (2, 0, 0, 0, 0))] [] M1
          refine hgo.2.1 17 _ [(4, (0, 0, 0, 8, p + 1)), (3, (0, 0, (-2147483648), 2147483647, xa_ib 4 x 0)), (1, (0, 0, (-2147483648), 2147483647, x1)), (0, (2, 0, 0, 0, 0))] _ _ (xa_subI rfl rfl (fun _ _ _ _ => by omega) (xa_subI rfl rfl (fun _ _ _ _ => by omega) (xa_subI rfl rfl (fun _ _ _ _ => by omega) (xa_subR rfl (xa_sub0))))) ?_
          have ea := h104
          exact ih (p + 1) (xa_ib 4 x 0) M1 (by omega) (by omega) hG hs (tw_bz p1.1 (fun h => c7 (by rw [ea]; exact h)) hb) (by omega)
        · intro (c7 : (xa_w64 (a103 * (M1 52 p))) = (xa_w64 ((M1 14 x1) * (M1 51 p))))
          show Q 17 [(4, (0, 0, 1, 9, p + 1)), (3, (0, 0, (-2147483648), 2147483647, xa_ib 4 x (xa_ib 6 1 p))), (5, (1, 0, (-9223372036854775808), 9223372036854775807, xa_w64 (a103 * (M1 52 p)))), (1, (0, 0, (-2147483648), 2147483647, x1)), (0, (2, 0, 0, 0, 0))] [] M1
          refine hgo.2.1 17 _ [(4, (0, 0, 0, 8, p + 1)), (3, (0, 0, (-2147483648), 2147483647, xa_ib 4 x (xa_ib 6 1 p))), (1, (0, 0, (-2147483648), 2147483647, x1)), (0, (2, 0, 0, 0, 0))] _ _ (xa_subI rfl rfl (fun _ _ _ _ => by omega) (xa_subI rfl rfl (fun _ _ _ _ => by omega) (xa_subI rfl rfl (fun _ _ _ _ => by omega) (xa_subR rfl (xa_sub0))))) ?_
          have ea := h104
          exact ih (p + 1) (xa_ib 4 x (xa_ib 6 1 p)) M1 (by omega) (by omega) hG hs (tw_b1 p1.1 (by rw [ea] at c7; exact c7) hb) (by omega)
  refine hgo.1 15 [17] 0 _ _ _ ?_
  show xa_C (xl_I _) A h0 _ 46 [(2, 0, 0, 0, 0), (0, 0, (-2147483648), 2147483647, x1)] M _
  refine cx_46t hM0 hC0 ?_
  intro v105 M106 (i1 : tu_S N0 x1 v105 M106) (i2 : tu_G M M106)
  refine And.intro ?_ ?_
  · intro (c3 : v105 = 0)
    rw [c3] at i1
    have ax := (tu_S0 i1).1
    show Q 17 [(4, (0, 0, 0, 0, 0)), (3, (0, 0, 0, 0, 0)), (2, (0, 0, (-5), 0, v105)), (0, (2, 0, 0, 0, 0)), (1, (0, 0, (-2147483648), 2147483647, x1))] [] M106
    refine hgo.2.1 17 _ [(4, (0, 0, 0, 8, 0)), (3, (0, 0, (-2147483648), 2147483647, 0)), (1, (0, 0, (-2147483648), 2147483647, x1)), (0, (2, 0, 0, 0, 0))] _ _ (xa_subI rfl rfl (fun _ _ _ _ => by omega) (xa_subI rfl rfl (fun _ _ _ _ => by omega) (xa_subI rfl rfl (fun _ _ _ _ => by omega) (xa_subR rfl (xa_sub0))))) ?_
    exact loop 9 0 0 M106 (by omega) (by omega) i2 i1 rfl (by omega)
  · intro (c3 : ¬ v105 = 0)
    show post (some (0, 0, (-5), 0, v105)) M106
    exact k _ _ _ _ (tw_A_of i1 (fun e => absurd e (by omega))) (fun q j h1 h2 => i2 q j h1) (by have zi2 := i2 48 1 (by omega); have rr := rz_Sle i1; unfold rz_c; omega)
theorem rx_63_55 {A : Nat → Nat} {h0 : g_H} {d : Nat} {M : xa_M} {post : Option xa_V → xa_M → Prop} {l1 u1 x1 : Int} {N0 : xa_M} (hM0 : tu_M N0) (hC0 : tu_C M N0) (hB : tk_B 55 M N0) (k : ∀ (lo hi v : Int) (M1 : xa_M), tw_A N0 x1 v (tw_gC N0 x1) → (∀ (q : Nat) (j : Int), ¬ (12 ≤ q ∧ q ≤ 14) → ¬ (q = 48 ∨ q = 49) → M1 q j = M q j) → rz_c (0 ≤ (v : Int)) (M 48 1) (M1 48 1) (1) → post (some (0, 0, lo, hi, v)) M1) : xa_C (xl_I true) A h0 (d + 8) 63 [(2, 0, 0, 0, 0), (0, 0, l1, u1, x1)] M post := by
  refine xa_C_arg [(2, 0, 0, 0, 0), (0, 0, (-2147483648), 2147483647, x1)] (xa_svR (xa_svI (fun _ _ _ _ => by omega) (xa_sv0))) ?_
  refine xa_meth (Q0 := (7, 1, false, 0, 0, 11)) (by decide +kernel) ⟨rfl, rfl⟩ (full := s_c_63) rfl rfl ?_
  intro hM hv Q hgo
  have n11 := hB.2.1
  have loop : ∀ (f : Nat) (p x : Int) (M1 : xa_M), 0 ≤ p ∧ p ≤ 8 → p ≤ N0 60 11 → tu_G M M1 → tu_S N0 x1 0 M1 → x = wd_b (fun p => xa_w64 (((M1 13 x1).natAbs : Int) * M1 57 p) = xa_w64 (M1 14 x1 * M1 56 p)) p.toNat → 8 - p < (f : Int) → Q 17 [(4, (0, 0, 0, 8, p)), (3, (0, 0, (-2147483648), 2147483647, x)), (1, (0, 0, (-2147483648), 2147483647, x1)), (0, (2, 0, 0, 0, 0))] [] M1 := by
    intro f
    induction f with
    | zero => intro p x M1 p1 hle hG hs hb hms; clear hb; omega
    | succ f ih =>
      intro p x M1 p1 hle hG hs hb hms
      have e4 : M1 55 4 = N0 60 11 := (hG 55 4 (by omega)).trans hB.1
      obtain ⟨ax, N9, t1, t2, t3, t4, t5, t6, t7⟩ := tu_S0 hs
      refine hgo.1 41 [17] 17 _ _ _ ?_
      refine And.intro ?_ ?_
      · intro (c1 : (M1 55 4) ≤ p)
        show xa_C (xl_I _) A h0 _ 59 [(2, 48, 0, 0, 0)] M1 _
        refine cx_59_48 ?_
        show xa_C (xl_I _) A h0 _ 54 [(2, 12, 0, 0, 0), (0, 0, (-2147483648), 2147483647, x1)] (xa_up M1 48 1 0) _
        refine cx_54_12 (show 0 ≤ x1 ∧ x1 < 10 by omega) ?_
        refine And.intro ?_ ?_
        · intro (c2 : (M1 13 x1) ≤ 0)
          show xa_C (xl_I _) A h0 _ 60 [(2, 48, 0, 0, 0), (1, 0, 0, 0, 0)] (xa_up M1 48 1 0) _
          refine rz_60 (by show (0 : Int) ≤ 0 ∧ 0 < 16; omega) ?_
          intro M101 (i3 : ∀ (q : Nat) (j : Int), ¬ (q = 48 ∨ q = 49) → M101 q j = (xa_up M1 48 1 0) q j) (i4 : (0 : Int) ≤ M101 48 1) (zM101 : M101 48 1 = 0 + 1)
          show post (some (0, 0, (-2147483648), 2147483647, x)) M101
          exact k _ _ _ _ (tw_gf hB hG hs (by omega) hb (by decide)) (fun q j h1 h2 => (i3 q j h2).trans ((xa_up_ne (by omega)).trans (hG q j h1))) (by have rr : 0 ≤ x := (by rw [hb]; exact rz_wn _ (by omega)); unfold rz_c; omega)
        · intro (c2 : 0 < (M1 13 x1))
          show xa_C (xl_I _) A h0 _ 60 [(2, 48, 0, 0, 0), (1, 0, (-2147483648), 2147483647, x)] (xa_up M1 48 1 0) _
          refine rz_60 (by show (0 : Int) ≤ 0 ∧ 0 < 16; omega) ?_
          intro M102 (i5 : ∀ (q : Nat) (j : Int), ¬ (q = 48 ∨ q = 49) → M102 q j = (xa_up M1 48 1 0) q j) (i6 : (0 : Int) ≤ M102 48 1) (zM102 : M102 48 1 = 0 + 1)
          show post (some (0, 0, (-2147483648), 2147483647, x)) M102
          exact k _ _ _ _ (tw_gf hB hG hs (by omega) hb (by decide)) (fun q j h1 h2 => (i5 q j h2).trans ((xa_up_ne (by omega)).trans (hG q j h1))) (by have rr : 0 ≤ x := (by rw [hb]; exact rz_wn _ (by omega)); unfold rz_c; omega)
      · intro (c1 : p < (M1 55 4))
        show xa_C (xl_I _) A h0 _ 54 [(2, 12, 0, 0, 0), (0, 0, (-2147483648), 2147483647, x1)] M1 _
        refine cx_54_12 (show 0 ≤ x1 ∧ x1 < 10 by omega) ?_
        show xa_C (xl_I _) A h0 _ 56 [(1, 0, (-9223372036854775808), 9223372036854775807, M1 13 x1)] M1 _
        refine ct_abs (lo := 0) (hi := 1000000000000000) (show -9223372036854775808 < (M1 13 x1) by omega) (fun a103 h104 => ⟨by omega, ?_⟩)
        show xa_C (xl_I _) A h0 _ 64 [(2, 55, 0, 0, 0), (0, 0, 0, 8, p)] M1 _
        refine cx_64_55 (show 0 ≤ p ∧ p < 8 by omega) ?_
        show xa_C (xl_I _) A h0 _ 51 [(2, 12, 0, 0, 0), (0, 0, (-2147483648), 2147483647, x1)] M1 _
        refine cx_51_12 (show 0 ≤ x1 ∧ x1 < 10 by omega) ?_
        show xa_C (xl_I _) A h0 _ 65 [(2, 55, 0, 0, 0), (0, 0, 0, 8, p)] M1 _
        refine cx_65_55 (show 0 ≤ p ∧ p < 8 by omega) ?_
        refine And.intro ?_ ?_
        · intro (c7 : ¬ (xa_w64 (a103 * (M1 57 p))) = (xa_w64 ((M1 14 x1) * (M1 56 p))))
          show Q 17 [(4, (0, 0, 1, 9, p + 1)), (3, (0, 0, (-2147483648), 2147483647, xa_ib 4 x 0)), (5, (1, 0, (-9223372036854775808), 9223372036854775807, xa_w64 (a103 * (M1 57 p)))), (1, (0, 0, (-2147483648), 2147483647, x1)), (0, (2, 0, 0, 0, 0))] [] M1
          refine hgo.2.1 17 _ [(4, (0, 0, 0, 8, p + 1)), (3, (0, 0, (-2147483648), 2147483647, xa_ib 4 x 0)), (1, (0, 0, (-2147483648), 2147483647, x1)), (0, (2, 0, 0, 0, 0))] _ _ (xa_subI rfl rfl (fun _ _ _ _ => by omega) (xa_subI rfl rfl (fun _ _ _ _ => by omega) (xa_subI rfl rfl (fun _ _ _ _ => by omega) (xa_subR rfl (xa_sub0))))) ?_
          have ea := h104
          exact ih (p + 1) (xa_ib 4 x 0) M1 (by omega) (by omega) hG hs (tw_bz p1.1 (fun h => c7 (by rw [ea]; exact h)) hb) (by omega)
        · intro (c7 : (xa_w64 (a103 * (M1 57 p))) = (xa_w64 ((M1 14 x1) * (M1 56 p))))
          show Q 17 [(4, (0, 0, 1, 9, p + 1)), (3, (0, 0, (-2147483648), 2147483647, xa_ib 4 x (xa_ib 6 1 p))), (5, (1, 0, (-9223372036854775808), 9223372036854775807, xa_w64 (a103 * (M1 57 p)))), (1, (0, 0, (-2147483648), 2147483647, x1)), (0, (2, 0, 0, 0, 0))] [] M1
          refine hgo.2.1 17 _ [(4, (0, 0, 0, 8, p + 1)), (3, (0, 0, (-2147483648), 2147483647, xa_ib 4 x (xa_ib 6 1 p))), (1, (0, 0, (-2147483648), 2147483647, x1)), (0, (2, 0, 0, 0, 0))] _ _ (xa_subI rfl rfl (fun _ _ _ _ => by omega) (xa_subI rfl rfl (fun _ _ _ _ => by omega) (xa_subI rfl rfl (fun _ _ _ _ => by omega) (xa_subR rfl (xa_sub0))))) ?_
          have ea := h104
          exact ih (p + 1) (xa_ib 4 x (xa_ib 6 1 p)) M1 (by omega) (by omega) hG hs (tw_b1 p1.1 (by rw [ea] at c7; exact c7) hb) (by omega)
  refine hgo.1 15 [17] 0 _ _ _ ?_
  show xa_C (xl_I _) A h0 _ 46 [(2, 0, 0, 0, 0), (0, 0, (-2147483648), 2147483647, x1)] M _
  refine cx_46t hM0 hC0 ?_
  intro v105 M106 (i1 : tu_S N0 x1 v105 M106) (i2 : tu_G M M106)
  refine And.intro ?_ ?_
  · intro (c3 : v105 = 0)
    rw [c3] at i1
    have ax := (tu_S0 i1).1
    show Q 17 [(4, (0, 0, 0, 0, 0)), (3, (0, 0, 0, 0, 0)), (2, (0, 0, (-5), 0, v105)), (0, (2, 0, 0, 0, 0)), (1, (0, 0, (-2147483648), 2147483647, x1))] [] M106
    refine hgo.2.1 17 _ [(4, (0, 0, 0, 8, 0)), (3, (0, 0, (-2147483648), 2147483647, 0)), (1, (0, 0, (-2147483648), 2147483647, x1)), (0, (2, 0, 0, 0, 0))] _ _ (xa_subI rfl rfl (fun _ _ _ _ => by omega) (xa_subI rfl rfl (fun _ _ _ _ => by omega) (xa_subI rfl rfl (fun _ _ _ _ => by omega) (xa_subR rfl (xa_sub0))))) ?_
    exact loop 9 0 0 M106 (by omega) (by omega) i2 i1 rfl (by omega)
  · intro (c3 : ¬ v105 = 0)
    show post (some (0, 0, (-5), 0, v105)) M106
    exact k _ _ _ _ (tw_A_of i1 (fun e => absurd e (by omega))) (fun q j h1 h2 => i2 q j h1) (by have zi2 := i2 48 1 (by omega); have rr := rz_Sle i1; unfold rz_c; omega)
theorem rx_164_50 {A : Nat → Nat} {h0 : g_H} {d : Nat} {M : xa_M} {post : Option xa_V → xa_M → Prop} {l1 u1 l2 u2 l3 u3 x1 x2 x3 : Int} {N0 : xa_M} (hM0 : tu_M N0) (hC0 : tu_C M N0) (hB : tk_B 50 M N0) (k : ∀ (lo hi v : Int) (M1 : xa_M), tw_P ((0 ≤ x2 ∧ x2 < N0 60 11) ∧ (0 ≤ x3 ∧ x3 ≤ 2000)) N0 x1 v (tw_nT N0 x1 x2 x3) → (∀ (q : Nat) (j : Int), ¬ (12 ≤ q ∧ q ≤ 14) → ¬ (q = 48 ∨ q = 49) → M1 q j = M q j) → rz_c (0 ≤ (v : Int)) (M 48 1) (M1 48 1) (2) → post (some (0, 0, lo, hi, v)) M1) : xa_C (xl_I false) A h0 (d + 9) 164 [(2, 0, 0, 0, 0), (0, 0, l1, u1, x1), (0, 0, l2, u2, x2), (0, 0, l3, u3, x3)] M post := by
  refine xa_C_arg [(2, 0, 0, 0, 0), (0, 0, (-2147483648), 2147483647, x1), (0, 0, (-2147483648), 2147483647, x2), (0, 0, (-2147483648), 2147483647, x3)] (xa_svR (xa_svI (fun _ _ _ _ => by omega) (xa_svI (fun _ _ _ _ => by omega) (xa_svI (fun _ _ _ _ => by omega) (xa_sv0))))) ?_
  refine xa_meth (Q0 := (7, 1, false, 0, 0, 11)) (by decide +kernel) ⟨rfl, rfl⟩ (full := s_c_164) rfl rfl ?_
  intro hM hv Q hgo
  refine hgo.1 45 [] 0 _ _ _ ?_
  show xa_C (xl_I _) A h0 _ 87 [(2, 50, 0, 0, 0), (0, 0, (-2147483648), 2147483647, x2)] M _
  refine cx_87_50 ?_ ?_ ?_
  · intro (i1 : x2 < 0)
    show post (some (0, 0, (-1), (-1), (-1))) M
    exact k _ _ _ _ (Or.inl ⟨by have e := hB.1; omega, rfl⟩) (fun _ _ _ _ => rfl) (by unfold rz_c; omega)
  · intro (i2 : 0 ≤ x2) (i3 : (M 50 4) ≤ x2)
    show post (some (0, 0, (-1), (-1), (-1))) M
    exact k _ _ _ _ (Or.inl ⟨by have e := hB.1; omega, rfl⟩) (fun _ _ _ _ => rfl) (by unfold rz_c; omega)
  · intro (i4 : 0 ≤ x2) (i5 : x2 < (M 50 4))
    show xa_C (xl_I _) A h0 _ 67 [(0, 0, (-2147483648), 2147483647, x3)] M _
    refine cx_67 ?_ ?_ ?_
    · intro (i6 : x3 < 0)
      show post (some (0, 0, (-1), (-1), (-1))) M
      exact k _ _ _ _ (Or.inl ⟨by have e := hB.1; omega, rfl⟩) (fun _ _ _ _ => rfl) (by unfold rz_c; omega)
    · intro (i7 : 0 ≤ x3) (i8 : 2000 < x3)
      show post (some (0, 0, (-1), (-1), (-1))) M
      exact k _ _ _ _ (Or.inl ⟨by have e := hB.1; omega, rfl⟩) (fun _ _ _ _ => rfl) (by unfold rz_c; omega)
    · intro (i9 : 0 ≤ x3) (i10 : x3 ≤ 2000)
      show xa_C (xl_I _) A h0 _ 68 [(2, 0, 0, 0, 0), (0, 0, (-2147483648), 2147483647, x1)] M _
      refine cx_68t hM0 hC0 ?_
      intro v101 M102 (i11 : tu_H N0 x1 v101 M102) (i12 : tu_G M M102)
      refine And.intro ?_ ?_
      · intro (c13 : v101 = 0)
        have nB4 := hB.1
        rw [c13] at i11
        obtain ⟨hs0, nL⟩ := tu_H0 i11
        obtain ⟨ax, N9, t1, t2, t3, t4, t5, t6, t7⟩ := tu_S0 hs0
        obtain ⟨⟨f1, f2⟩, f3, f4⟩ := hB.2.2 x2 (by omega) (by omega)
        have n11 := hB.2.1
        have e70 : M102 51 x2 = N0 70 x2 := (i12 51 x2 (by omega)).trans f1
        have e71 : M102 52 x2 = N0 71 x2 := (i12 52 x2 (by omega)).trans f2
        have nL2 : M102 14 x1 ≤ 1000000000 := by
          unfold tu_L at nL
          omega
        have w4 := tw_w4 (D := M102 14 x1) (l := M102 52 x2) (by omega) (by rw [e71]; exact f4)
        show xa_C (xl_I _) A h0 _ 165 [(2, 0, 0, 0, 0), (0, 0, (-2147483648), 2147483647, x1), (0, 0, (-2147483648), 2147483647, x2)] M102 _
        refine cx_165g_50 (by omega) (by omega) nL t6.1 e70 e71 (by omega) (by omega) ?_
        intro g103 (i14 : g103 = ((M102 13 x1).natAbs : Int) * N0 71 x2 - M102 14 x1 * N0 70 x2) (i15 : -2000000000000 ≤ g103 ∧ g103 ≤ 2000000000000)
        have w3 := tw_w3 i15 (show 0 ≤ x3 ∧ x3 ≤ 2000 by omega)
        show xa_C (xl_I _) A h0 _ 59 [(2, 48, 0, 0, 0)] M102 _
        refine cx_59_48 ?_
        show xa_C (xl_I _) A h0 _ 51 [(2, 12, 0, 0, 0), (0, 0, (-2147483648), 2147483647, x1)] (xa_up M102 48 1 0) _
        refine cx_51_12 (show 0 ≤ x1 ∧ x1 < 10 by omega) ?_
        show xa_C (xl_I _) A h0 _ 64 [(2, 50, 0, 0, 0), (0, 0, (-2147483648), 2147483647, x2)] (xa_up M102 48 1 0) _
        refine cx_64_50 (show 0 ≤ x2 ∧ x2 < 8 by omega) ?_
        show xa_C (xl_I _) A h0 _ 71 [(2, 48, 0, 0, 0), (1, 0, (-9223372036854775808), 9223372036854775807, xa_w64 (g103 * x3)), (1, 0, (-9223372036854775808), 9223372036854775807, xa_w64 ((M102 14 x1) * (M102 52 x2)))] (xa_up M102 48 1 0) _
        refine rz_71 (by show (0 : Int) ≤ 0 ∧ 0 < 15; omega) (by omega) (by omega) ?_
        intro M104 (i16 : ∀ (q : Nat) (j : Int), ¬ (q = 48 ∨ q = 49) → M104 q j = (xa_up M102 48 1 0) q j) (i17 : (0 : Int) ≤ M104 48 1) (zM104 : M104 48 1 = 0 + 2)
        show xa_C (xl_I _) A h0 _ 131 [(1, 0, (-9223372036854775808), 9223372036854775807, xa_w64 (g103 * x3))] M104 _
        refine cx_131 ?_ ?_ ?_
        · intro (i18 : ¬ (xa_w64 (g103 * x3)) = 0) (i19 : (xa_w64 (g103 * x3)) ≤ 0)
          show post (some (0, 0, 2, 2, 2)) M104
          refine k _ _ _ _ (Or.inr ⟨⟨by have e := hB.1; omega, by omega⟩, tw_A_to hs0 (fun N _ _ _ h8 _ => Or.inr ⟨fun e => nL ((tw_Lc h8).mpr e), ?_⟩)⟩) (fun q j h1 h2 => (i16 q j h2).trans ((xa_up_ne (by omega)).trans (i12 q j h1))) (by have zi12 := i12 48 1 (by omega); unfold rz_c; omega)
          have ge : tw_gp N0 x1 x2 N = g103 := by
            unfold tw_gp
            rw [i14, h8.1, h8.2]
          unfold tw_sg
          rw [ge]
          omega
        · intro (i20 : ¬ (xa_w64 (g103 * x3)) = 0) (i21 : 0 < (xa_w64 (g103 * x3)))
          show post (some (0, 0, 1, 1, 1)) M104
          refine k _ _ _ _ (Or.inr ⟨⟨by have e := hB.1; omega, by omega⟩, tw_A_to hs0 (fun N _ _ _ h8 _ => Or.inr ⟨fun e => nL ((tw_Lc h8).mpr e), ?_⟩)⟩) (fun q j h1 h2 => (i16 q j h2).trans ((xa_up_ne (by omega)).trans (i12 q j h1))) (by have zi12 := i12 48 1 (by omega); unfold rz_c; omega)
          have ge : tw_gp N0 x1 x2 N = g103 := by
            unfold tw_gp
            rw [i14, h8.1, h8.2]
          unfold tw_sg
          rw [ge]
          omega
        · intro (i22 : (xa_w64 (g103 * x3)) = 0)
          show post (some (0, 0, 0, 0, 0)) M104
          refine k _ _ _ _ (Or.inr ⟨⟨by have e := hB.1; omega, by omega⟩, tw_A_to hs0 (fun N _ _ _ h8 _ => Or.inr ⟨fun e => nL ((tw_Lc h8).mpr e), ?_⟩)⟩) (fun q j h1 h2 => (i16 q j h2).trans ((xa_up_ne (by omega)).trans (i12 q j h1))) (by have zi12 := i12 48 1 (by omega); unfold rz_c; omega)
          have ge : tw_gp N0 x1 x2 N = g103 := by
            unfold tw_gp
            rw [i14, h8.1, h8.2]
          unfold tw_sg
          rw [ge]
          omega
      · intro (c13 : ¬ v101 = 0)
        show post (some (0, 0, (-5), 0, v101)) M102
        exact k _ _ _ _ (Or.inr ⟨⟨by have e := hB.1; omega, by omega⟩, tw_Hn i11 (by omega) (fun N h => Or.inl ⟨h, rfl⟩)⟩) (fun q j h1 h2 => i12 q j h1) (by have zi12 := i12 48 1 (by omega); have rr := rz_Hle i11; unfold rz_c; omega)
theorem rx_164_55 {A : Nat → Nat} {h0 : g_H} {d : Nat} {M : xa_M} {post : Option xa_V → xa_M → Prop} {l1 u1 l2 u2 l3 u3 x1 x2 x3 : Int} {N0 : xa_M} (hM0 : tu_M N0) (hC0 : tu_C M N0) (hB : tk_B 55 M N0) (k : ∀ (lo hi v : Int) (M1 : xa_M), tw_P ((0 ≤ x2 ∧ x2 < N0 60 11) ∧ (0 ≤ x3 ∧ x3 ≤ 2000)) N0 x1 v (tw_nT N0 x1 x2 x3) → (∀ (q : Nat) (j : Int), ¬ (12 ≤ q ∧ q ≤ 14) → ¬ (q = 48 ∨ q = 49) → M1 q j = M q j) → rz_c (0 ≤ (v : Int)) (M 48 1) (M1 48 1) (2) → post (some (0, 0, lo, hi, v)) M1) : xa_C (xl_I true) A h0 (d + 9) 164 [(2, 0, 0, 0, 0), (0, 0, l1, u1, x1), (0, 0, l2, u2, x2), (0, 0, l3, u3, x3)] M post := by
  refine xa_C_arg [(2, 0, 0, 0, 0), (0, 0, (-2147483648), 2147483647, x1), (0, 0, (-2147483648), 2147483647, x2), (0, 0, (-2147483648), 2147483647, x3)] (xa_svR (xa_svI (fun _ _ _ _ => by omega) (xa_svI (fun _ _ _ _ => by omega) (xa_svI (fun _ _ _ _ => by omega) (xa_sv0))))) ?_
  refine xa_meth (Q0 := (7, 1, false, 0, 0, 11)) (by decide +kernel) ⟨rfl, rfl⟩ (full := s_c_164) rfl rfl ?_
  intro hM hv Q hgo
  refine hgo.1 45 [] 0 _ _ _ ?_
  show xa_C (xl_I _) A h0 _ 87 [(2, 55, 0, 0, 0), (0, 0, (-2147483648), 2147483647, x2)] M _
  refine cx_87_55 ?_ ?_ ?_
  · intro (i1 : x2 < 0)
    show post (some (0, 0, (-1), (-1), (-1))) M
    exact k _ _ _ _ (Or.inl ⟨by have e := hB.1; omega, rfl⟩) (fun _ _ _ _ => rfl) (by unfold rz_c; omega)
  · intro (i2 : 0 ≤ x2) (i3 : (M 55 4) ≤ x2)
    show post (some (0, 0, (-1), (-1), (-1))) M
    exact k _ _ _ _ (Or.inl ⟨by have e := hB.1; omega, rfl⟩) (fun _ _ _ _ => rfl) (by unfold rz_c; omega)
  · intro (i4 : 0 ≤ x2) (i5 : x2 < (M 55 4))
    show xa_C (xl_I _) A h0 _ 67 [(0, 0, (-2147483648), 2147483647, x3)] M _
    refine cx_67 ?_ ?_ ?_
    · intro (i6 : x3 < 0)
      show post (some (0, 0, (-1), (-1), (-1))) M
      exact k _ _ _ _ (Or.inl ⟨by have e := hB.1; omega, rfl⟩) (fun _ _ _ _ => rfl) (by unfold rz_c; omega)
    · intro (i7 : 0 ≤ x3) (i8 : 2000 < x3)
      show post (some (0, 0, (-1), (-1), (-1))) M
      exact k _ _ _ _ (Or.inl ⟨by have e := hB.1; omega, rfl⟩) (fun _ _ _ _ => rfl) (by unfold rz_c; omega)
    · intro (i9 : 0 ≤ x3) (i10 : x3 ≤ 2000)
      show xa_C (xl_I _) A h0 _ 68 [(2, 0, 0, 0, 0), (0, 0, (-2147483648), 2147483647, x1)] M _
      refine cx_68t hM0 hC0 ?_
      intro v101 M102 (i11 : tu_H N0 x1 v101 M102) (i12 : tu_G M M102)
      refine And.intro ?_ ?_
      · intro (c13 : v101 = 0)
        have nB4 := hB.1
        rw [c13] at i11
        obtain ⟨hs0, nL⟩ := tu_H0 i11
        obtain ⟨ax, N9, t1, t2, t3, t4, t5, t6, t7⟩ := tu_S0 hs0
        obtain ⟨⟨f1, f2⟩, f3, f4⟩ := hB.2.2 x2 (by omega) (by omega)
        have n11 := hB.2.1
        have e70 : M102 56 x2 = N0 70 x2 := (i12 56 x2 (by omega)).trans f1
        have e71 : M102 57 x2 = N0 71 x2 := (i12 57 x2 (by omega)).trans f2
        have nL2 : M102 14 x1 ≤ 1000000000 := by
          unfold tu_L at nL
          omega
        have w4 := tw_w4 (D := M102 14 x1) (l := M102 57 x2) (by omega) (by rw [e71]; exact f4)
        show xa_C (xl_I _) A h0 _ 165 [(2, 0, 0, 0, 0), (0, 0, (-2147483648), 2147483647, x1), (0, 0, (-2147483648), 2147483647, x2)] M102 _
        refine cx_165g_55 (by omega) (by omega) nL t6.1 e70 e71 (by omega) (by omega) ?_
        intro g103 (i14 : g103 = ((M102 13 x1).natAbs : Int) * N0 71 x2 - M102 14 x1 * N0 70 x2) (i15 : -2000000000000 ≤ g103 ∧ g103 ≤ 2000000000000)
        have w3 := tw_w3 i15 (show 0 ≤ x3 ∧ x3 ≤ 2000 by omega)
        show xa_C (xl_I _) A h0 _ 59 [(2, 48, 0, 0, 0)] M102 _
        refine cx_59_48 ?_
        show xa_C (xl_I _) A h0 _ 51 [(2, 12, 0, 0, 0), (0, 0, (-2147483648), 2147483647, x1)] (xa_up M102 48 1 0) _
        refine cx_51_12 (show 0 ≤ x1 ∧ x1 < 10 by omega) ?_
        show xa_C (xl_I _) A h0 _ 64 [(2, 55, 0, 0, 0), (0, 0, (-2147483648), 2147483647, x2)] (xa_up M102 48 1 0) _
        refine cx_64_55 (show 0 ≤ x2 ∧ x2 < 8 by omega) ?_
        show xa_C (xl_I _) A h0 _ 71 [(2, 48, 0, 0, 0), (1, 0, (-9223372036854775808), 9223372036854775807, xa_w64 (g103 * x3)), (1, 0, (-9223372036854775808), 9223372036854775807, xa_w64 ((M102 14 x1) * (M102 57 x2)))] (xa_up M102 48 1 0) _
        refine rz_71 (by show (0 : Int) ≤ 0 ∧ 0 < 15; omega) (by omega) (by omega) ?_
        intro M104 (i16 : ∀ (q : Nat) (j : Int), ¬ (q = 48 ∨ q = 49) → M104 q j = (xa_up M102 48 1 0) q j) (i17 : (0 : Int) ≤ M104 48 1) (zM104 : M104 48 1 = 0 + 2)
        show xa_C (xl_I _) A h0 _ 131 [(1, 0, (-9223372036854775808), 9223372036854775807, xa_w64 (g103 * x3))] M104 _
        refine cx_131 ?_ ?_ ?_
        · intro (i18 : ¬ (xa_w64 (g103 * x3)) = 0) (i19 : (xa_w64 (g103 * x3)) ≤ 0)
          show post (some (0, 0, 2, 2, 2)) M104
          refine k _ _ _ _ (Or.inr ⟨⟨by have e := hB.1; omega, by omega⟩, tw_A_to hs0 (fun N _ _ _ h8 _ => Or.inr ⟨fun e => nL ((tw_Lc h8).mpr e), ?_⟩)⟩) (fun q j h1 h2 => (i16 q j h2).trans ((xa_up_ne (by omega)).trans (i12 q j h1))) (by have zi12 := i12 48 1 (by omega); unfold rz_c; omega)
          have ge : tw_gp N0 x1 x2 N = g103 := by
            unfold tw_gp
            rw [i14, h8.1, h8.2]
          unfold tw_sg
          rw [ge]
          omega
        · intro (i20 : ¬ (xa_w64 (g103 * x3)) = 0) (i21 : 0 < (xa_w64 (g103 * x3)))
          show post (some (0, 0, 1, 1, 1)) M104
          refine k _ _ _ _ (Or.inr ⟨⟨by have e := hB.1; omega, by omega⟩, tw_A_to hs0 (fun N _ _ _ h8 _ => Or.inr ⟨fun e => nL ((tw_Lc h8).mpr e), ?_⟩)⟩) (fun q j h1 h2 => (i16 q j h2).trans ((xa_up_ne (by omega)).trans (i12 q j h1))) (by have zi12 := i12 48 1 (by omega); unfold rz_c; omega)
          have ge : tw_gp N0 x1 x2 N = g103 := by
            unfold tw_gp
            rw [i14, h8.1, h8.2]
          unfold tw_sg
          rw [ge]
          omega
        · intro (i22 : (xa_w64 (g103 * x3)) = 0)
          show post (some (0, 0, 0, 0, 0)) M104
          refine k _ _ _ _ (Or.inr ⟨⟨by have e := hB.1; omega, by omega⟩, tw_A_to hs0 (fun N _ _ _ h8 _ => Or.inr ⟨fun e => nL ((tw_Lc h8).mpr e), ?_⟩)⟩) (fun q j h1 h2 => (i16 q j h2).trans ((xa_up_ne (by omega)).trans (i12 q j h1))) (by have zi12 := i12 48 1 (by omega); unfold rz_c; omega)
          have ge : tw_gp N0 x1 x2 N = g103 := by
            unfold tw_gp
            rw [i14, h8.1, h8.2]
          unfold tw_sg
          rw [ge]
          omega
      · intro (c13 : ¬ v101 = 0)
        show post (some (0, 0, (-5), 0, v101)) M102
        exact k _ _ _ _ (Or.inr ⟨⟨by have e := hB.1; omega, by omega⟩, tw_Hn i11 (by omega) (fun N h => Or.inl ⟨h, rfl⟩)⟩) (fun q j h1 h2 => i12 q j h1) (by have zi12 := i12 48 1 (by omega); have rr := rz_Hle i11; unfold rz_c; omega)
theorem rx_63 {b : Bool} {A : Nat → Nat} {h0 : g_H} {d : Nat} {M : xa_M} {post : Option xa_V → xa_M → Prop} {l1 u1 x1 : Int} {N0 : xa_M} (hM0 : tu_M N0) (hC0 : tu_C M N0) (hB : tk_B (bk_p b) M N0) (k : ∀ (lo hi v : Int) (M1 : xa_M), tw_A N0 x1 v (tw_gC N0 x1) → (∀ (q : Nat) (j : Int), ¬ (12 ≤ q ∧ q ≤ 14) → ¬ (q = 48 ∨ q = 49) → M1 q j = M q j) → rz_c (0 ≤ v) (M 48 1) (M1 48 1) (1) → post (some (0, 0, lo, hi, v)) M1) : xa_C (xl_I b) A h0 (d + 8) 63 [(2, 0, 0, 0, 0), (0, 0, l1, u1, x1)] M post := by
  cases b
  · exact rx_63_50 hM0 hC0 hB k
  · exact rx_63_55 hM0 hC0 hB k
theorem rx_164 {b : Bool} {A : Nat → Nat} {h0 : g_H} {d : Nat} {M : xa_M} {post : Option xa_V → xa_M → Prop} {l1 u1 l2 u2 l3 u3 x1 x2 x3 : Int} {N0 : xa_M} (hM0 : tu_M N0) (hC0 : tu_C M N0) (hB : tk_B (bk_p b) M N0) (k : ∀ (lo hi v : Int) (M1 : xa_M), tw_P ((0 ≤ x2 ∧ x2 < N0 60 11) ∧ (0 ≤ x3 ∧ x3 ≤ 2000)) N0 x1 v (tw_nT N0 x1 x2 x3) → (∀ (q : Nat) (j : Int), ¬ (12 ≤ q ∧ q ≤ 14) → ¬ (q = 48 ∨ q = 49) → M1 q j = M q j) → rz_c (0 ≤ v) (M 48 1) (M1 48 1) (2) → post (some (0, 0, lo, hi, v)) M1) : xa_C (xl_I b) A h0 (d + 9) 164 [(2, 0, 0, 0, 0), (0, 0, l1, u1, x1), (0, 0, l2, u2, x2), (0, 0, l3, u3, x3)] M post := by
  cases b
  · exact rx_164_50 hM0 hC0 hB k
  · exact rx_164_55 hM0 hC0 hB k
theorem rm_turn {A : Nat → Nat} {h0 : g_H} {d : Nat} {M : xa_M} {post : Option xa_V → xa_M → Prop} {l1 u1 : Int} {a : Int} (hI : xm_Inv M) (k : ∀ (o : Option xa_V) (M1 : xa_M), (∃ lo hi n, o = some (0, 0, lo, hi, n) ∧ tw_A M a n (fun _ v => v = 0) ∧ rz_c ((n : Int) = 0) (M 60 20) (M1 60 20) (2)) → xm_cor M M1 → post o M1) : xa_C xm_I A h0 (d + 6) 225 [(2, 60, 0, 0, 0), (0, 0, l1, u1, a)] M post := by
  refine xa_C_arg [(2, 60, 0, 0, 0), (0, 0, (-2147483648), 2147483647, a)] (xa_svR (xa_svI (fun _ _ _ _ => by omega) xa_sv0)) ?_
  refine xa_meth (Q0 := (3, 1, false, 0, 0, 12)) (by decide +kernel) ⟨rfl, rfl⟩ (full := s_c_225) rfl rfl ?_
  intro hM hv Q hgo
  refine hgo.1 31 [] 0 _ _ _ ?_
  show xa_C xm_I A h0 _ 215 [(0, 0, (-2147483648), 2147483647, a)] (xa_up M 60 21 0) _
  refine ct_isAxle ?_ ?_
  · intro (i1 : 0 ≤ a ∧ a ≤ 9)
    show xa_C xm_I A h0 _ 226 [(2, 60, 0, 0, 0), (0, 0, (-2147483648), 2147483647, a)] (xa_up M 60 21 0) _
    refine rz_fx (j := 226) (by decide) (xa_C_mok (ct_stateOfF (xm_Inv_cor (xm_cor_f (by omega) xm_cor_r) hI) (by omega) (by omega) (fun v2 w2 M2 hc2 hT2 hF2 hw2 hv2 hs2 hM2 => ?_)))
    intro (zM2 : M2 60 20 = M 60 20)
    refine And.intro ?_ ?_
    · intro (c3 : 0 ≤ v2)
      refine And.intro (show 0 ≤ a ∧ a < 10 by omega) ?_
      refine And.intro (show 0 ≤ a ∧ a < 10 by omega) ?_
      show xa_C xm_I A h0 _ 230 [(2, 60, 0, 0, 0), (1, 0, (-1000000000000000), 1000000000000000, M2 75 a), (1, 0, 0, 1000000000000000, M2 76 a)] (xa_up M2 60 20 0) _
      refine ct_tellPart (n := 0) (by first | rfl | (simp [xa_up]; done)) (by decide) (by decide) (by decide) (by omega) (fun g4 eg4 pg4 qg4 => ?_)
      show post (some (0, 0, 0, 0, 0)) (xa_up (xa_up (xa_up (xa_up (xa_up M2 60 20 0) 74 0 ((M2 75 a).tdiv g4)) 60 20 1) 74 1 ((M2 76 a).tdiv g4)) 60 20 2)
      exact k _ _ ⟨_, _, _, rfl, Or.inr ⟨i1, w2, M2, ⟨_, xm_cor_f (by omega) xm_cor_r, hF2⟩, Or.inr (Or.inr ⟨by omega, by omega, rfl⟩)⟩, by show rz_c ((0 : Int) = 0) (M 60 20) (2) (2); unfold rz_c; omega⟩ (xm_cor_f (by omega) (xm_cor_a rfl (xm_cor_f (by omega) (xm_cor_a rfl (xm_cor_f (by omega) (xm_cor_t (xm_cor_f (by omega) xm_cor_r) hc2))))))
    · intro (c3 : v2 < 0)
      show post (some (0, 0, (-5), 0, v2)) M2
      exact k _ _ ⟨_, _, _, rfl, Or.inr ⟨i1, w2, M2, ⟨_, xm_cor_f (by omega) xm_cor_r, hF2⟩, tw_s3 (T := fun _ v => v = 0) hs2 (by omega)⟩, by show rz_c ((v2 : Int) = 0) (M 60 20) (M2 60 20) (2); unfold rz_c; omega⟩ (xm_cor_t (xm_cor_f (by omega) xm_cor_r) hc2)
  · intro (i1 : ¬ (0 ≤ a ∧ a ≤ 9))
    show post (some (0, 0, (-1), (-1), (-1))) (xa_up M 60 21 0)
    exact k _ _ ⟨_, _, _, rfl, Or.inl ⟨i1, rfl⟩, by show rz_c (((-1) : Int) = 0) (M 60 20) (M 60 20) (2); unfold rz_c; omega⟩ (xm_cor_f (by omega) xm_cor_r)
theorem rm_turning {A : Nat → Nat} {h0 : g_H} {d : Nat} {M : xa_M} {post : Option xa_V → xa_M → Prop} (hI : xm_Inv M) (k : ∀ (o : Option xa_V) (M1 : xa_M), (∃ lo hi n, o = some (0, 0, lo, hi, n) ∧ tw_61 M n ∧ rz_c (0 ≤ (n : Int)) (M 60 20) (M1 60 20) (1)) → xm_cor M M1 → post o M1) : xa_C xm_I A h0 (d + 5) 232 [(2, 60, 0, 0, 0)] M post := by
  refine xa_meth (Q0 := (5, 1, false, 0, 0, 12)) (by decide +kernel) ⟨rfl, rfl⟩ (full := s_c_232) rfl rfl ?_
  intro hM hv Q hgo
  have loop : ∀ (n : Nat) (a b c : Int) (M1 : xa_M), 0 ≤ a → a ≤ 10 → xm_cor M M1 → b = wd_b (fun a => ¬ M1 77 a = 0) a.toNat → (∀ v, v = wd_b (fun a => ¬ M1 77 a = 0) 10 → tw_61 M v) → 10 - a < (n : Int) → Q 24 [(4, (0, 0, 0, 10, a)), (3, (0, 0, (-2147483648), 2147483647, c)), (2, (0, 0, (-2147483648), 2147483647, b)), (0, (2, 60, 0, 0, 0))] [] M1 := by
    intro n
    induction n with
    | zero => intro a b c M1 h1 h2 hc hb hS hms; clear hb hS; omega
    | succ n ih =>
      intro a b c M1 h1 h2 hc hb hS hms
      refine hgo.1 40 [24] 24 _ _ _ ?_
      refine And.intro ?_ ?_
      · intro (c1 : 10 ≤ a)
        show xa_C xm_I A h0 _ 231 [(2, 60, 0, 0, 0), (1, 0, (-2147483648), 2147483647, c)] (xa_up M1 60 20 0) _
        refine ct_tell (n := 0) (by first | rfl | (simp [xa_up]; done) | omega) (by omega) (by omega) ?_
        show post (some (0, 0, (-2147483648), 2147483647, b)) (xa_up (xa_up (xa_up M1 60 20 0) 74 0 c) 60 20 1)
        exact k _ _ ⟨_, _, _, rfl, hS _ (by rw [hb, show a.toNat = 10 by omega]), by show rz_c (0 ≤ (b : Int)) (M 60 20) (1) (1); have rr : 0 ≤ b := (by rw [hb]; exact rz_wn _ (by omega)); unfold rz_c; omega⟩ (xm_cor_f (by omega) (xm_cor_a rfl (xm_cor_f (by omega) hc)))
      · intro (c1 : a < 10)
        refine And.intro (show 0 ≤ a ∧ a < 10 by omega) ?_
        refine And.intro ?_ ?_
        · intro (c2 : (M1 77 a) = 0)
          refine And.intro (show 0 ≤ a ∧ a < 10 by omega) ?_
          refine And.intro ?_ ?_
          · intro (c3 : (M1 77 a) = 0)
            show Q 24 [(4, (0, 0, 1, 11, a + 1)), (3, (0, 0, (-2147483648), 2147483647, xa_ib 4 c 0)), (2, (0, 0, (-2147483648), 2147483647, xa_ib 4 b 0)), (0, (2, 60, 0, 0, 0))] [] M1
            refine hgo.2.1 24 _ [(4, (0, 0, 0, 10, a + 1)), (3, (0, 0, (-2147483648), 2147483647, xa_ib 4 c 0)), (2, (0, 0, (-2147483648), 2147483647, xa_ib 4 b 0)), (0, (2, 60, 0, 0, 0))] _ _ (xa_subI rfl rfl (fun _ _ _ _ => by omega) (xa_subI rfl rfl (fun _ _ _ _ => by omega) (xa_subI rfl rfl (fun _ _ _ _ => by omega) (xa_subR rfl xa_sub0)))) ?_
            exact ih (a + 1) (xa_ib 4 b 0) (xa_ib 4 c 0) M1 (by omega) (by omega) hc (tw_bz h1 (fun h => h c2) hb) hS (by omega)
          · intro (c3 : ¬ (M1 77 a) = 0)
            refine And.intro (show 0 ≤ a ∧ a < 10 by omega) ?_
            refine And.intro ?_ ?_
            · intro (c4 : (M1 75 a) ≤ 0)
              show Q 24 [(4, (0, 0, 1, 11, a + 1)), (3, (0, 0, (-2147483648), 2147483647, xa_ib 4 c 0)), (2, (0, 0, (-2147483648), 2147483647, xa_ib 4 b 0)), (0, (2, 60, 0, 0, 0))] [] M1
              refine hgo.2.1 24 _ [(4, (0, 0, 0, 10, a + 1)), (3, (0, 0, (-2147483648), 2147483647, xa_ib 4 c 0)), (2, (0, 0, (-2147483648), 2147483647, xa_ib 4 b 0)), (0, (2, 60, 0, 0, 0))] _ _ (xa_subI rfl rfl (fun _ _ _ _ => by omega) (xa_subI rfl rfl (fun _ _ _ _ => by omega) (xa_subI rfl rfl (fun _ _ _ _ => by omega) (xa_subR rfl xa_sub0)))) ?_
              exact ih (a + 1) (xa_ib 4 b 0) (xa_ib 4 c 0) M1 (by omega) (by omega) hc (tw_bz h1 (fun h => h c2) hb) hS (by omega)
            · intro (c4 : 0 < (M1 75 a))
              show Q 24 [(4, (0, 0, 1, 11, a + 1)), (3, (0, 0, (-2147483648), 2147483647, xa_ib 4 c (xa_ib 6 1 a))), (2, (0, 0, (-2147483648), 2147483647, xa_ib 4 b 0)), (0, (2, 60, 0, 0, 0))] [] M1
              refine hgo.2.1 24 _ [(4, (0, 0, 0, 10, a + 1)), (3, (0, 0, (-2147483648), 2147483647, xa_ib 4 c (xa_ib 6 1 a))), (2, (0, 0, (-2147483648), 2147483647, xa_ib 4 b 0)), (0, (2, 60, 0, 0, 0))] _ _ (xa_subI rfl rfl (fun _ _ _ _ => by omega) (xa_subI rfl rfl (fun _ _ _ _ => by omega) (xa_subI rfl rfl (fun _ _ _ _ => by omega) (xa_subR rfl xa_sub0)))) ?_
              exact ih (a + 1) (xa_ib 4 b 0) (xa_ib 4 c (xa_ib 6 1 a)) M1 (by omega) (by omega) hc (tw_bz h1 (fun h => h c2) hb) hS (by omega)
        · intro (c2 : ¬ (M1 77 a) = 0)
          refine And.intro (show 0 ≤ a ∧ a < 10 by omega) ?_
          refine And.intro ?_ ?_
          · intro (c5 : (M1 77 a) = 0)
            show Q 24 [(4, (0, 0, 1, 11, a + 1)), (3, (0, 0, (-2147483648), 2147483647, xa_ib 4 c 0)), (2, (0, 0, (-2147483648), 2147483647, xa_ib 4 b (xa_ib 6 1 a))), (0, (2, 60, 0, 0, 0))] [] M1
            refine hgo.2.1 24 _ [(4, (0, 0, 0, 10, a + 1)), (3, (0, 0, (-2147483648), 2147483647, xa_ib 4 c 0)), (2, (0, 0, (-2147483648), 2147483647, xa_ib 4 b (xa_ib 6 1 a))), (0, (2, 60, 0, 0, 0))] _ _ (xa_subI rfl rfl (fun _ _ _ _ => by omega) (xa_subI rfl rfl (fun _ _ _ _ => by omega) (xa_subI rfl rfl (fun _ _ _ _ => by omega) (xa_subR rfl xa_sub0)))) ?_
            exact ih (a + 1) (xa_ib 4 b (xa_ib 6 1 a)) (xa_ib 4 c 0) M1 (by omega) (by omega) hc (tw_b1 h1 c2 hb) hS (by omega)
          · intro (c5 : ¬ (M1 77 a) = 0)
            refine And.intro (show 0 ≤ a ∧ a < 10 by omega) ?_
            refine And.intro ?_ ?_
            · intro (c6 : (M1 75 a) ≤ 0)
              show Q 24 [(4, (0, 0, 1, 11, a + 1)), (3, (0, 0, (-2147483648), 2147483647, xa_ib 4 c 0)), (2, (0, 0, (-2147483648), 2147483647, xa_ib 4 b (xa_ib 6 1 a))), (0, (2, 60, 0, 0, 0))] [] M1
              refine hgo.2.1 24 _ [(4, (0, 0, 0, 10, a + 1)), (3, (0, 0, (-2147483648), 2147483647, xa_ib 4 c 0)), (2, (0, 0, (-2147483648), 2147483647, xa_ib 4 b (xa_ib 6 1 a))), (0, (2, 60, 0, 0, 0))] _ _ (xa_subI rfl rfl (fun _ _ _ _ => by omega) (xa_subI rfl rfl (fun _ _ _ _ => by omega) (xa_subI rfl rfl (fun _ _ _ _ => by omega) (xa_subR rfl xa_sub0)))) ?_
              exact ih (a + 1) (xa_ib 4 b (xa_ib 6 1 a)) (xa_ib 4 c 0) M1 (by omega) (by omega) hc (tw_b1 h1 c2 hb) hS (by omega)
            · intro (c6 : 0 < (M1 75 a))
              show Q 24 [(4, (0, 0, 1, 11, a + 1)), (3, (0, 0, (-2147483648), 2147483647, xa_ib 4 c (xa_ib 6 1 a))), (2, (0, 0, (-2147483648), 2147483647, xa_ib 4 b (xa_ib 6 1 a))), (0, (2, 60, 0, 0, 0))] [] M1
              refine hgo.2.1 24 _ [(4, (0, 0, 0, 10, a + 1)), (3, (0, 0, (-2147483648), 2147483647, xa_ib 4 c (xa_ib 6 1 a))), (2, (0, 0, (-2147483648), 2147483647, xa_ib 4 b (xa_ib 6 1 a))), (0, (2, 60, 0, 0, 0))] _ _ (xa_subI rfl rfl (fun _ _ _ _ => by omega) (xa_subI rfl rfl (fun _ _ _ _ => by omega) (xa_subI rfl rfl (fun _ _ _ _ => by omega) (xa_subR rfl xa_sub0)))) ?_
              exact ih (a + 1) (xa_ib 4 b (xa_ib 6 1 a)) (xa_ib 4 c (xa_ib 6 1 a)) M1 (by omega) (by omega) hc (tw_b1 h1 c2 hb) hS (by omega)
  refine hgo.1 20 [24] 0 _ _ _ ?_
  show xa_C xm_I A h0 _ 227 [(2, 60, 0, 0, 0), (0, 0, (-1), (-1), (-1))] (xa_up M 60 21 0) _
  refine rz_fx (j := 227) (by decide) (xa_C_mok (ct_findTurns (xm_Inv_cor (xm_cor_f (by omega) xm_cor_r) hI) (fun v1 M1 hv1 hc1 hT1 hF1 hM1 => ?_)))
  intro (zM1 : M1 60 20 = M 60 20)
  refine And.intro ?_ ?_
  · intro (c2 : 0 ≤ v1)
    show Q 24 [(4, (0, 0, 0, 0, 0)), (3, (0, 0, 0, 0, 0)), (2, (0, 0, 0, 0, 0)), (1, (0, 0, (-5), 0, v1)), (0, (2, 60, 0, 0, 0))] [] M1
    refine hgo.2.1 24 _ [(4, (0, 0, 0, 10, 0)), (3, (0, 0, (-2147483648), 2147483647, 0)), (2, (0, 0, (-2147483648), 2147483647, 0)), (0, (2, 60, 0, 0, 0))] _ _ (xa_subI rfl rfl (fun _ _ _ _ => by omega) (xa_subI rfl rfl (fun _ _ _ _ => by omega) (xa_subI rfl rfl (fun _ _ _ _ => by omega) (xa_subR rfl xa_sub0)))) ?_
    exact loop 11 0 0 0 M1 (by omega) (by omega) (xm_cor_t (xm_cor_f (by omega) xm_cor_r) hc1) rfl (fun v e => ⟨v1, M1, ⟨_, xm_cor_f (by omega) xm_cor_r, hF1⟩, Or.inr ⟨by omega, e⟩⟩) (by omega)
  · intro (c2 : v1 < 0)
    show post (some (0, 0, (-5), 0, v1)) M1
    exact k _ _ ⟨_, _, _, rfl, ⟨v1, M1, ⟨_, xm_cor_f (by omega) xm_cor_r, hF1⟩, Or.inl ⟨by omega, rfl⟩⟩, by show rz_c (0 ≤ (v1 : Int)) (M 60 20) (M1 60 20) (1); unfold rz_c; omega⟩ (xm_cor_t (xm_cor_f (by omega) xm_cor_r) hc1)
theorem rm_show {A : Nat → Nat} {h0 : g_H} {d : Nat} {M : xa_M} {post : Option xa_V → xa_M → Prop} {l1 u1 l2 u2 : Int} {a b : Int} (hI : xm_Inv M) (k : ∀ (o : Option xa_V) (M1 : xa_M), (∃ lo hi n, o = some (0, 0, lo, hi, n) ∧ tw_66 M a b n ∧ rz_c ((n : Int) = 0) (M 60 20) (M1 60 20) (2)) → xm_cor M M1 → post o M1) : xa_C xm_I A h0 (d + 7) 272 [(2, 60, 0, 0, 0), (0, 0, l1, u1, a), (0, 0, l2, u2, b)] M post := by
  refine xa_C_arg [(2, 60, 0, 0, 0), (0, 0, (-2147483648), 2147483647, a), (0, 0, (-2147483648), 2147483647, b)] (xa_svR (xa_svI (fun _ _ _ _ => by omega) (xa_svI (fun _ _ _ _ => by omega) xa_sv0))) ?_
  refine xa_meth (Q0 := (4, 1, false, 0, 0, 12)) (by decide +kernel) ⟨rfl, rfl⟩ (full := s_c_272) rfl rfl ?_
  intro hM hv Q hgo
  refine hgo.1 17 [25] 0 _ _ _ ?_
  show xa_C xm_I A h0 _ 215 [(0, 0, (-2147483648), 2147483647, a)] (xa_up M 60 21 0) _
  refine ct_isAxle ?_ ?_
  · intro (i1 : 0 ≤ a ∧ a ≤ 9)
    show xa_C xm_I A h0 _ 214 [(0, 0, (-2147483648), 2147483647, b), (0, 0, 0, 0, 0), (0, 0, 2000, 2000, 2000)] (xa_up M 60 21 0) _
    refine ct_in ?_ ?_
    · intro (i2 : 0 ≤ b ∧ b ≤ 2000)
      show Q 25 [(0, (2, 60, 0, 0, 0)), (1, (0, 0, (-2147483648), 2147483647, a)), (2, (0, 0, (-2147483648), 2147483647, b))] [] (xa_up M 60 21 0)
      refine hgo.2.1 25 _ [(0, (2, 60, 0, 0, 0)), (1, (0, 0, 0, 9, a)), (2, (0, 0, 0, 2000, b))] _ _ (xa_subR rfl (xa_subI rfl rfl (fun _ _ _ _ => by omega) (xa_subI rfl rfl (fun _ _ _ _ => by omega) xa_sub0))) ?_
      refine hgo.1 34 [] 25 _ _ _ ?_
      show xa_C xm_I A h0 _ 273 [(2, 60, 0, 0, 0), (0, 0, 0, 9, a)] (xa_up M 60 21 0) _
      refine rz_fx (j := 273) (by decide) (xa_C_mok (ct_fairStateF (xm_Inv_cor (xm_cor_f (by omega) xm_cor_r) hI) (by omega) (by omega) (fun v103 w103 M103 hc103 hT103 hF103 hw103 hv103 hs103 hM103 => ?_)))
      intro (zM103 : M103 60 20 = M 60 20)
      refine And.intro ?_ ?_
      · intro (c104 : 0 ≤ v103)
        show xa_C xm_I A h0 _ 56 [(1, 0, (-1000000000000000), 1000000000000000, M103 75 a)] (xa_up M103 60 20 0) _
        refine ct_absb 1000000000000000 (by decide) (by decide) (by decide) (fun a105 ea105 => ?_)
        refine And.intro (show 0 < (M103 76 a) by omega) ?_
        show xa_C xm_I A h0 _ 230 [(2, 60, 0, 0, 0), (1, 0, 0, 999999999999999, (a105 * b) % (M103 76 a)), (1, 0, 0, 1000000000000000, M103 76 a)] (xa_up M103 60 20 0) _
        refine ct_tellPart (n := 0) (by first | rfl | (simp [xa_up]; done)) (by decide) (by decide) (by decide) (by omega) (fun g106 eg106 pg106 qg106 => ?_)
        show post (some (0, 0, 0, 0, 0)) (xa_up (xa_up (xa_up (xa_up (xa_up M103 60 20 0) 74 0 (((a105 * b) % (M103 76 a)).tdiv g106)) 60 20 1) 74 1 ((M103 76 a).tdiv g106)) 60 20 2)
        exact k _ _ ⟨_, _, _, rfl, Or.inr ⟨i2, Or.inr ⟨i1, w103, M103, ⟨_, xm_cor_f (by omega) xm_cor_r, hF103⟩, tw_s4 (v := v103) hs103 (by omega)⟩⟩, by show rz_c ((0 : Int) = 0) (M 60 20) (2) (2); unfold rz_c; omega⟩ (xm_cor_f (by omega) (xm_cor_a rfl (xm_cor_f (by omega) (xm_cor_a rfl (xm_cor_f (by omega) (xm_cor_t (xm_cor_f (by omega) xm_cor_r) hc103))))))
      · intro (c104 : v103 < 0)
        show post (some (0, 0, (-5), 0, v103)) M103
        exact k _ _ ⟨_, _, _, rfl, Or.inr ⟨i2, Or.inr ⟨i1, w103, M103, ⟨_, xm_cor_f (by omega) xm_cor_r, hF103⟩, tw_s4 hs103 rfl⟩⟩, by show rz_c ((v103 : Int) = 0) (M 60 20) (M103 60 20) (2); unfold rz_c; omega⟩ (xm_cor_t (xm_cor_f (by omega) xm_cor_r) hc103)
    · intro (i2 : ¬ (0 ≤ b ∧ b ≤ 2000))
      show post (some (0, 0, (-1), (-1), (-1))) (xa_up M 60 21 0)
      exact k _ _ ⟨_, _, _, rfl, Or.inl ⟨i2, rfl⟩, by show rz_c (((-1) : Int) = 0) (M 60 20) (M 60 20) (2); unfold rz_c; omega⟩ (xm_cor_f (by omega) xm_cor_r)
  · intro (i1 : ¬ (0 ≤ a ∧ a ≤ 9))
    show post (some (0, 0, (-1), (-1), (-1))) (xa_up M 60 21 0)
    exact k _ _ ⟨_, _, _, rfl, tw_Pn i1, by show rz_c (((-1) : Int) = 0) (M 60 20) (M 60 20) (2); unfold rz_c; omega⟩ (xm_cor_f (by omega) xm_cor_r)
theorem rm_together {A : Nat → Nat} {h0 : g_H} {d : Nat} {M : xa_M} {post : Option xa_V → xa_M → Prop} {l1 u1 l2 u2 : Int} {a b : Int} (hI : xm_Inv M) (k : ∀ (o : Option xa_V) (M1 : xa_M), (∃ lo hi n, o = some (0, 0, lo, hi, n) ∧ tw_72 M a b n ∧ rz_c (0 ≤ (n : Int)) (M 60 20) (M1 60 20) (1)) → xm_cor M M1 → post o M1) : xa_C xm_I A h0 (d + 7) 274 [(2, 60, 0, 0, 0), (0, 0, l1, u1, a), (0, 0, l2, u2, b)] M post := by
  refine xa_C_arg [(2, 60, 0, 0, 0), (0, 0, (-2147483648), 2147483647, a), (0, 0, (-2147483648), 2147483647, b)] (xa_svR (xa_svI (fun _ _ _ _ => by omega) (xa_svI (fun _ _ _ _ => by omega) xa_sv0))) ?_
  refine xa_meth (Q0 := (10, 1, false, 0, 0, 12)) (by decide +kernel) ⟨rfl, rfl⟩ (full := s_c_274) rfl rfl ?_
  intro hM hv Q hgo
  refine hgo.1 89 [] 0 _ _ _ ?_
  show xa_C xm_I A h0 _ 215 [(0, 0, (-2147483648), 2147483647, a)] (xa_up M 60 21 0) _
  refine ct_isAxle ?_ ?_
  · intro (i1 : 0 ≤ a ∧ a ≤ 9)
    show xa_C xm_I A h0 _ 215 [(0, 0, (-2147483648), 2147483647, b)] (xa_up M 60 21 0) _
    refine ct_isAxle ?_ ?_
    · intro (i2 : 0 ≤ b ∧ b ≤ 9)
      show xa_C xm_I A h0 _ 227 [(2, 60, 0, 0, 0), (0, 0, (-1), (-1), (-1))] (xa_up M 60 21 0) _
      refine rz_fx (j := 227) (by decide) (xa_C_mok (ct_findTurns (xm_Inv_cor (xm_cor_f (by omega) xm_cor_r) hI) (fun v3 M3 hv3 hc3 hT3 hF3 hM3 => ?_)))
      intro (zM3 : M3 60 20 = M 60 20)
      have hr0 := xm_rng_I hM hI
      have F3 : tw_F M (-1) v3 M3 := ⟨_, xm_cor_f (by omega) xm_cor_r, hF3⟩
      have t3a := xm_t77 hM3 a i1.1 (by omega)
      have t3b := xm_t77 hM3 b i2.1 (by omega)
      refine And.intro ?_ ?_
      · intro (c4 : 0 ≤ v3)
        refine And.intro (show 0 ≤ a ∧ a < 10 by omega) ?_
        refine And.intro ?_ ?_
        · intro (c5 : (M3 77 a) = 0)
          show post (some (0, 0, (-2), (-2), (-2))) M3
          exact k _ _ ⟨_, _, _, rfl, Or.inr ⟨i2, Or.inr ⟨i1, v3, M3, F3, Or.inr (Or.inl ⟨by omega, c5, rfl⟩)⟩⟩, by show rz_c (0 ≤ ((-2) : Int)) (M 60 20) (M3 60 20) (1); unfold rz_c; omega⟩ (xm_cor_t (xm_cor_f (by omega) xm_cor_r) hc3)
        · intro (c5 : ¬ (M3 77 a) = 0)
          refine And.intro (show 0 ≤ b ∧ b < 10 by omega) ?_
          refine And.intro ?_ ?_
          · intro (c6 : ¬ (M3 77 b) = 0)
            show xa_C xm_I A h0 _ 273 [(2, 60, 0, 0, 0), (0, 0, (-2147483648), 2147483647, a)] M3 _
            refine rz_fx (j := 273) (by decide) (xa_C_mok (ct_fairStateF (xm_Inv_cor (xm_cor_t (xm_cor_f (by omega) xm_cor_r) hc3) hI) (by omega) (by omega) (fun v7 w7 M7 hc7 hT7 hF7 hw7 hv7 hs7 hM7 => ?_)))
            intro (zM7 : M7 60 20 = M3 60 20)
            have F7 : tw_F M (-1) w7 M7 := ⟨M3, xm_cor_t (xm_cor_f (by omega) xm_cor_r) hc3, hF7⟩
            obtain ⟨d7, g7⟩ := tw_F_det hr0 F3 F7
            obtain ⟨-, g7⟩ := g7 (by omega)
            obtain ⟨-, a7, -⟩ := g7 a i1.1 (by omega)
            obtain ⟨-, b7, -⟩ := g7 b i2.1 (by omega)
            refine And.intro ?_ ?_
            · intro (c8 : v7 < 0)
              show post (some (0, 0, (-5), (-5), (-5))) M7
              exact k _ _ ⟨_, _, _, rfl, Or.inr ⟨i2, Or.inr ⟨i1, w7, M7, F7, Or.inr (Or.inr ⟨by omega, by omega, Or.inr (Or.inl ⟨by omega, Or.inl (tw_f5 (tw_s5 hs7 (by omega) (by omega)) c8), rfl⟩)⟩)⟩⟩, by show rz_c (0 ≤ ((-5) : Int)) (M 60 20) (M7 60 20) (1); unfold rz_c; omega⟩ (xm_cor_t (xm_cor_t (xm_cor_f (by omega) xm_cor_r) hc3) hc7)
            · intro (c8 : 0 ≤ v7)
              show xa_C xm_I A h0 _ 273 [(2, 60, 0, 0, 0), (0, 0, (-2147483648), 2147483647, b)] M7 _
              refine rz_fx (j := 273) (by decide) (xa_C_mok (ct_fairStateF (xm_Inv_cor (xm_cor_t (xm_cor_t (xm_cor_f (by omega) xm_cor_r) hc3) hc7) hI) (by omega) (by omega) (fun v9 w9 M9 hc9 hT9 hF9 hw9 hv9 hs9 hM9 => ?_)))
              intro (zM9 : M9 60 20 = M7 60 20)
              have F9 : tw_F M (-1) w9 M9 := ⟨M7, xm_cor_t (xm_cor_t (xm_cor_f (by omega) xm_cor_r) hc3) hc7, hF9⟩
              obtain ⟨d9, g9⟩ := tw_F_det hr0 F3 F9
              obtain ⟨-, g9⟩ := g9 (by omega)
              obtain ⟨-, a9, -⟩ := g9 a i1.1 (by omega)
              obtain ⟨-, b9, -⟩ := g9 b i2.1 (by omega)
              have dt := xm_FT_det hc7 (xm_rng_c (xm_cor_t (xm_cor_f (by omega) xm_cor_r) hc3) (xm_rng_I hM hI)) hF7 hF9
              have y3 : 0 ≤ v7 → 0 ≤ v9 → (M9 75 a = M7 75 a ∧ M9 76 a = M7 76 a) := fun z1 z2 => by
                have y1 := hv7 z1
                have y2 := hv9 z2
                have d3 := (dt.2 (by omega)).2 a (by omega) (by omega)
                exact d3.2.2 y1.2.1
              have w64 : 0 ≤ v7 → 0 ≤ v9 → (xa_w64 (M9 75 a * M9 76 b) = M9 75 a * M9 76 b ∧ xa_w64 (M9 75 b * M9 76 a) = M9 75 b * M9 76 a ∧ xa_w64 (M9 76 a * M9 76 b) = M9 76 a * M9 76 b ∧ xa_w64 (xa_w64 (M9 75 a * M9 76 b) - xa_w64 (M9 75 b * M9 76 a)) = M9 75 a * M9 76 b - M9 75 b * M9 76 a ∧ 1 ≤ M9 76 a * M9 76 b ∧ (-1000000000000000000 ≤ M9 75 a * M9 76 b ∧ M9 75 a * M9 76 b ≤ 1000000000000000000) ∧ (-1000000000000000000 ≤ M9 75 b * M9 76 a ∧ M9 75 b * M9 76 a ≤ 1000000000000000000)) := fun z1 z2 => by
                have y1 := hv7 z1
                have y2 := hv9 z2
                have y3 := y3 z1 z2
                have p1 := xm_mul9 (p := M9 75 a) (q := M9 76 b) (by omega) (by omega) (by omega) (by omega)
                have p2 := xm_mul9 (p := M9 75 b) (q := M9 76 a) (by omega) (by omega) (by omega) (by omega)
                have p3 := xm_mul9 (p := M9 76 a) (q := M9 76 b) (by omega) (by omega) (by omega) (by omega)
                have p4 := Int.mul_pos (show 0 < M9 76 a by omega) (show 0 < M9 76 b by omega)
                exact ⟨xa_w64_id (by omega) (by omega), xa_w64_id (by omega) (by omega), xa_w64_id (by omega) (by omega), by rw [xa_w64_id (n := M9 75 a * M9 76 b) (by omega) (by omega), xa_w64_id (n := M9 75 b * M9 76 a) (by omega) (by omega), xa_w64_id (by omega) (by omega)], by omega, p1, p2⟩
              refine And.intro ?_ ?_
              · intro (c10 : 0 ≤ v9)
                have nL : ¬ (tw_L M9 a ∨ tw_L M9 b) := by
                  obtain ⟨y1, y2⟩ := y3 c8 c10
                  have n7 := tw_f0 (tw_s5 hs7 (by omega) (by omega)) c8
                  have n9 := tw_f0 (tw_s5 hs9 (by omega) (by omega)) c10
                  unfold tw_L at n7 n9 ⊢
                  rw [y1, y2]
                  omega
                refine And.intro (show 0 ≤ a ∧ a < 10 by omega) ?_
                refine And.intro (show 0 ≤ b ∧ b < 10 by omega) ?_
                refine And.intro (show 0 ≤ b ∧ b < 10 by omega) ?_
                refine And.intro (show 0 ≤ a ∧ a < 10 by omega) ?_
                refine And.intro (show 0 ≤ a ∧ a < 10 by omega) ?_
                refine And.intro (show 0 ≤ b ∧ b < 10 by omega) ?_
                show xa_C xm_I A h0 _ 229 [(1, 0, (-9223372036854775808), 9223372036854775807, xa_w64 ((xa_w64 ((M9 75 a) * (M9 76 b))) - (xa_w64 ((M9 75 b) * (M9 76 a))))), (1, 0, (-9223372036854775808), 9223372036854775807, xa_w64 ((M9 76 a) * (M9 76 b)))] M9 _
                refine ct_gcd2 (by omega) (by omega) (fun g11 eg11 pg11 qg11 => ?_)
                refine And.intro ?_ ?_
                · intro (c12 : ((xa_w64 ((M9 76 a) * (M9 76 b))).tdiv g11) ≤ 100000)
                  show xa_C xm_I A h0 _ 231 [(2, 60, 0, 0, 0), (1, 0, (-9223372036854775808), 9223372036854775807, (xa_w64 ((xa_w64 ((M9 75 a) * (M9 76 b))) - (xa_w64 ((M9 75 b) * (M9 76 a))))).tdiv g11)] (xa_up M9 60 20 0) _
                  refine ct_tell (n := 0) (by first | rfl | (simp [xa_up]; done) | omega) (by omega) (by omega) ?_
                  show post (some (0, 0, (-2147483648), 2147483647, xa_w32 ((xa_w64 ((M9 76 a) * (M9 76 b))).tdiv g11))) (xa_up (xa_up (xa_up M9 60 20 0) 74 0 ((xa_w64 ((xa_w64 ((M9 75 a) * (M9 76 b))) - (xa_w64 ((M9 75 b) * (M9 76 a))))).tdiv g11)) 60 20 1)
                  obtain ⟨q1, q2, q3, q4, q5, -⟩ := w64 c8 c10
                  rw [q4, q3] at eg11
                  rw [q3] at c12
                  exact k _ _ ⟨_, _, _, rfl, Or.inr ⟨i2, Or.inr ⟨i1, w9, M9, F9, Or.inr (Or.inr ⟨by omega, by omega, Or.inr (Or.inr ⟨by omega, nL, by rw [q3]; exact tw_y2 q5 eg11 c12⟩)⟩)⟩⟩, by show rz_c (0 ≤ ((xa_w32 ((xa_w64 ((M9 76 a) * (M9 76 b))).tdiv g11)) : Int)) (M 60 20) (1) (1); have rr : 0 ≤ xa_w32 ((xa_w64 ((M9 76 a) * (M9 76 b))).tdiv g11) := (by rw [q3]; exact rz_td (by omega) (by rw [eg11]; exact Int.natCast_nonneg _) c12); unfold rz_c; omega⟩ (xm_cor_f (by omega) (xm_cor_a rfl (xm_cor_f (by omega) (xm_cor_t (xm_cor_t (xm_cor_t (xm_cor_f (by omega) xm_cor_r) hc3) hc7) hc9))))
                · intro (c12 : 100000 < ((xa_w64 ((M9 76 a) * (M9 76 b))).tdiv g11))
                  show post (some (0, 0, (-6), (-6), (-6))) M9
                  obtain ⟨q1, q2, q3, q4, q5, -⟩ := w64 c8 c10
                  rw [q4, q3] at eg11
                  rw [q3] at c12
                  exact k _ _ ⟨_, _, _, rfl, Or.inr ⟨i2, Or.inr ⟨i1, w9, M9, F9, Or.inr (Or.inr ⟨by omega, by omega, Or.inr (Or.inr ⟨by omega, nL, tw_y6 eg11 c12⟩)⟩)⟩⟩, by show rz_c (0 ≤ ((-6) : Int)) (M 60 20) (M9 60 20) (1); unfold rz_c; omega⟩ (xm_cor_t (xm_cor_t (xm_cor_t (xm_cor_f (by omega) xm_cor_r) hc3) hc7) hc9)
              · intro (c10 : v9 < 0)
                show post (some (0, 0, (-5), (-5), (-5))) M9
                exact k _ _ ⟨_, _, _, rfl, Or.inr ⟨i2, Or.inr ⟨i1, w9, M9, F9, Or.inr (Or.inr ⟨by omega, by omega, Or.inr (Or.inl ⟨by omega, Or.inr (tw_f5 (tw_s5 hs9 (by omega) (by omega)) c10), rfl⟩)⟩)⟩⟩, by show rz_c (0 ≤ ((-5) : Int)) (M 60 20) (M9 60 20) (1); unfold rz_c; omega⟩ (xm_cor_t (xm_cor_t (xm_cor_t (xm_cor_f (by omega) xm_cor_r) hc3) hc7) hc9)
          · intro (c6 : (M3 77 b) = 0)
            show post (some (0, 0, (-2), (-2), (-2))) M3
            exact k _ _ ⟨_, _, _, rfl, Or.inr ⟨i2, Or.inr ⟨i1, v3, M3, F3, Or.inr (Or.inr ⟨by omega, by omega, Or.inl ⟨c6, rfl⟩⟩)⟩⟩, by show rz_c (0 ≤ ((-2) : Int)) (M 60 20) (M3 60 20) (1); unfold rz_c; omega⟩ (xm_cor_t (xm_cor_f (by omega) xm_cor_r) hc3)
      · intro (c4 : v3 < 0)
        show post (some (0, 0, (-5), 0, v3)) M3
        exact k _ _ ⟨_, _, _, rfl, Or.inr ⟨i2, Or.inr ⟨i1, v3, M3, F3, Or.inl ⟨by omega, rfl⟩⟩⟩, by show rz_c (0 ≤ (v3 : Int)) (M 60 20) (M3 60 20) (1); unfold rz_c; omega⟩ (xm_cor_t (xm_cor_f (by omega) xm_cor_r) hc3)
    · intro (i2 : ¬ (0 ≤ b ∧ b ≤ 9))
      show post (some (0, 0, (-1), (-1), (-1))) (xa_up M 60 21 0)
      exact k _ _ ⟨_, _, _, rfl, Or.inl ⟨i2, rfl⟩, by show rz_c (0 ≤ ((-1) : Int)) (M 60 20) (M 60 20) (1); unfold rz_c; omega⟩ (xm_cor_f (by omega) xm_cor_r)
  · intro (i1 : ¬ (0 ≤ a ∧ a ≤ 9))
    show post (some (0, 0, (-1), (-1), (-1))) (xa_up M 60 21 0)
    exact k _ _ ⟨_, _, _, rfl, tw_Pn i1, by show rz_c (0 ≤ ((-1) : Int)) (M 60 20) (M 60 20) (1); unfold rz_c; omega⟩ (xm_cor_f (by omega) xm_cor_r)
theorem rm_gives {A : Nat → Nat} {h0 : g_H} {d : Nat} {M : xa_M} {post : Option xa_V → xa_M → Prop} {l1 u1 : Int} {a : Int} (hI : xm_Inv M) (k : ∀ (o : Option xa_V) (M1 : xa_M), (∃ lo hi n, o = some (0, 0, lo, hi, n) ∧ tw_A M a n (tw_gR M a) ∧ rz_c (0 ≤ (n : Int)) (M 60 20) (M1 60 20) (1)) → xm_cor M M1 → post o M1) : xa_C xm_I A h0 (d + 6) 234 [(2, 60, 0, 0, 0), (0, 0, l1, u1, a)] M post := by
  refine xa_C_arg [(2, 60, 0, 0, 0), (0, 0, (-2147483648), 2147483647, a)] (xa_svR (xa_svI (fun _ _ _ _ => by omega) xa_sv0)) ?_
  refine xa_meth (Q0 := (6, 1, false, 0, 0, 12)) (by decide +kernel) ⟨rfl, rfl⟩ (full := s_c_234) rfl rfl ?_
  intro hM hv Q hgo
  have loop : ∀ (n : Nat) (p b : Int) (M1 : xa_M), 0 ≤ p → p ≤ 8 → xm_cor M M1 → b = wd_b (tw_gq M a M1) p.toNat → p ≤ M 60 11 → (∀ v, v = wd_b (tw_gq M a M1) (M 60 11).toNat → tw_A M a v (tw_gR M a)) → 8 - p < (n : Int) → 0 ≤ a → a ≤ 9 → Q 31 [(4, (0, 0, 0, 8, p)), (3, (0, 0, (-2147483648), 2147483647, b)), (1, (0, 0, 0, 9, a)), (0, (2, 60, 0, 0, 0))] [] M1 := by
    intro n
    induction n with
    | zero => intro p b M1 h1 h2 hc hb hle hS hms; clear hb hS; omega
    | succ n ih =>
      intro p b M1 h1 h2 hc hb hle hS hms
      intro ha0 ha1
      refine hgo.2.2 _ _ _ _ (fun hM1 _ => ?_)
      have hI1 := xm_Inv_cor hc hI
      have b11 := xm_f11 hM1
      have e11 := xm_corf hc 11 (by omega)
      have e70 := xm_corq hc 70 rfl p
      have e71 := xm_corq hc 71 rfl p
      have t70 : p < M1 60 11 → 0 ≤ M1 70 p ∧ M1 70 p ≤ 2000 := fun h => xm_t70 hM1 p h1 (by omega)
      have t71 : p < M1 60 11 → 0 ≤ M1 71 p ∧ M1 71 p ≤ 2000 := fun h => xm_t71 hM1 p h1 (by omega)
      have hp := hI1.2.2.1 p h1
      refine hgo.1 55 [31] 31 _ _ _ ?_
      refine And.intro ?_ ?_
      · intro (c1 : (M1 60 11) ≤ p)
        refine And.intro ?_ ?_
        · intro (c2 : (M1 75 a) ≤ 0)
          show xa_C xm_I A h0 _ 231 [(2, 60, 0, 0, 0), (1, 0, 0, 0, 0)] (xa_up M1 60 20 0) _
          refine ct_tell (n := 0) (by first | rfl | (simp [xa_up]; done) | omega) (by omega) (by omega) ?_
          show post (some (0, 0, (-2147483648), 2147483647, b)) (xa_up (xa_up (xa_up M1 60 20 0) 74 0 0) 60 20 1)
          exact k _ _ ⟨_, _, _, rfl, hS _ (by rw [hb, show p = M 60 11 by omega]), by show rz_c (0 ≤ (b : Int)) (M 60 20) (1) (1); have rr : 0 ≤ b := (by rw [hb]; exact rz_wn _ (by omega)); unfold rz_c; omega⟩ (xm_cor_f (by omega) (xm_cor_a rfl (xm_cor_f (by omega) hc)))
        · intro (c2 : 0 < (M1 75 a))
          show xa_C xm_I A h0 _ 231 [(2, 60, 0, 0, 0), (1, 0, (-2147483648), 2147483647, b)] (xa_up M1 60 20 0) _
          refine ct_tell (n := 0) (by first | rfl | (simp [xa_up]; done) | omega) (by omega) (by omega) ?_
          show post (some (0, 0, (-2147483648), 2147483647, b)) (xa_up (xa_up (xa_up M1 60 20 0) 74 0 b) 60 20 1)
          exact k _ _ ⟨_, _, _, rfl, hS _ (by rw [hb, show p = M 60 11 by omega]), by show rz_c (0 ≤ (b : Int)) (M 60 20) (1) (1); have rr : 0 ≤ b := (by rw [hb]; exact rz_wn _ (by omega)); unfold rz_c; omega⟩ (xm_cor_f (by omega) (xm_cor_a rfl (xm_cor_f (by omega) hc)))
      · intro (c1 : p < (M1 60 11))
        refine And.intro (show 0 ≤ p ∧ p < 8 by omega) ?_
        refine And.intro (show 0 ≤ p ∧ p < 8 by omega) ?_
        show xa_C xm_I A h0 _ 229 [(1, 0, 0, 2000, M1 70 p), (1, 0, 0, 2000, M1 71 p)] M1 _
        refine ct_gcd1 (by decide) (by decide) (by omega) (fun g3 eg3 pg3 qg3 => ?_)
        have wg3 := xa_w32_id (n := g3) (by omega) (by omega)
        show xa_C xm_I A h0 _ 56 [(1, 0, (-1000000000000000), 1000000000000000, M1 75 a)] M1 _
        refine ct_absb 1000000000000000 (by decide) (by decide) (by decide) (fun a4 ea4 => ?_)
        refine And.intro (show 0 ≤ p ∧ p < 8 by omega) ?_
        refine And.intro (show 0 < (xa_w32 g3) by omega) ?_
        refine And.intro ?_ ?_
        · intro (c5 : ¬ a4 = ((M1 70 p) / (xa_w32 g3)))
          show Q 31 [(4, (0, 0, 1, 9, p + 1)), (5, (0, 0, (-2147483648), 2147483647, xa_w32 g3)), (3, (0, 0, (-2147483648), 2147483647, b)), (1, (0, 0, 0, 9, a)), (0, (2, 60, 0, 0, 0))] [] M1
          refine hgo.2.1 31 _ [(4, (0, 0, 0, 8, p + 1)), (3, (0, 0, (-2147483648), 2147483647, b)), (1, (0, 0, 0, 9, a)), (0, (2, 60, 0, 0, 0))] _ _ (xa_subI rfl rfl (fun _ _ _ _ => by omega) (xa_subI rfl rfl (fun _ _ _ _ => by omega) (xa_subI rfl rfl (fun _ _ _ _ => by omega) (xa_subR rfl xa_sub0)))) ?_
          exact ih (p + 1) b _ (by omega) (by omega) hc (tw_b0 h1 (fun h => by unfold tw_gq at h; rw [← e70, ← e71, ← eg3, ← wg3, ← ea4] at h; exact c5 h.1) hb) (by omega) hS (by omega) ha0 ha1
        · intro (c5 : a4 = ((M1 70 p) / (xa_w32 g3)))
          refine And.intro (show 0 ≤ p ∧ p < 8 by omega) ?_
          refine And.intro (show 0 < (xa_w32 g3) by omega) ?_
          refine And.intro ?_ ?_
          · intro (c6 : ¬ (M1 76 a) = ((M1 71 p) / (xa_w32 g3)))
            show Q 31 [(4, (0, 0, 1, 9, p + 1)), (5, (0, 0, (-2147483648), 2147483647, xa_w32 g3)), (3, (0, 0, (-2147483648), 2147483647, b)), (1, (0, 0, 0, 9, a)), (0, (2, 60, 0, 0, 0))] [] M1
            refine hgo.2.1 31 _ [(4, (0, 0, 0, 8, p + 1)), (3, (0, 0, (-2147483648), 2147483647, b)), (1, (0, 0, 0, 9, a)), (0, (2, 60, 0, 0, 0))] _ _ (xa_subI rfl rfl (fun _ _ _ _ => by omega) (xa_subI rfl rfl (fun _ _ _ _ => by omega) (xa_subI rfl rfl (fun _ _ _ _ => by omega) (xa_subR rfl xa_sub0)))) ?_
            exact ih (p + 1) b _ (by omega) (by omega) hc (tw_b0 h1 (fun h => by unfold tw_gq at h; rw [← e70, ← e71, ← eg3, ← wg3, ← ea4] at h; exact c6 h.2) hb) (by omega) hS (by omega) ha0 ha1
          · intro (c6 : (M1 76 a) = ((M1 71 p) / (xa_w32 g3)))
            show Q 31 [(4, (0, 0, 1, 9, p + 1)), (3, (0, 0, (-2147483648), 2147483647, xa_ib 4 b (xa_ib 6 1 p))), (5, (0, 0, (-2147483648), 2147483647, xa_w32 g3)), (1, (0, 0, 0, 9, a)), (0, (2, 60, 0, 0, 0))] [] M1
            refine hgo.2.1 31 _ [(4, (0, 0, 0, 8, p + 1)), (3, (0, 0, (-2147483648), 2147483647, xa_ib 4 b (xa_ib 6 1 p))), (1, (0, 0, 0, 9, a)), (0, (2, 60, 0, 0, 0))] _ _ (xa_subI rfl rfl (fun _ _ _ _ => by omega) (xa_subI rfl rfl (fun _ _ _ _ => by omega) (xa_subI rfl rfl (fun _ _ _ _ => by omega) (xa_subR rfl xa_sub0)))) ?_
            exact ih (p + 1) (xa_ib 4 b (xa_ib 6 1 p)) _ (by omega) (by omega) hc (tw_b1 h1 (show tw_gq M a M1 p by unfold tw_gq; rw [← e70, ← e71, ← eg3, ← wg3, ← ea4]; exact ⟨c5, c6⟩) hb) (by omega) hS (by omega) ha0 ha1
  refine hgo.1 21 [31] 0 _ _ _ ?_
  show xa_C xm_I A h0 _ 215 [(0, 0, (-2147483648), 2147483647, a)] (xa_up M 60 21 0) _
  refine ct_isAxle ?_ ?_
  · intro (i1 : 0 ≤ a ∧ a ≤ 9)
    show xa_C xm_I A h0 _ 226 [(2, 60, 0, 0, 0), (0, 0, (-2147483648), 2147483647, a)] (xa_up M 60 21 0) _
    refine rz_fx (j := 226) (by decide) (xa_C_mok (ct_stateOfF (xm_Inv_cor (xm_cor_f (by omega) xm_cor_r) hI) (by omega) (by omega) (fun v2 w2 M2 hc2 hT2 hF2 hw2 hv2 hs2 hM2 => ?_)))
    intro (zM2 : M2 60 20 = M 60 20)
    refine And.intro ?_ ?_
    · intro (c3 : 0 ≤ v2)
      show Q 31 [(4, (0, 0, 0, 0, 0)), (3, (0, 0, 0, 0, 0)), (2, (0, 0, (-5), 0, v2)), (0, (2, 60, 0, 0, 0)), (1, (0, 0, (-2147483648), 2147483647, a))] [] M2
      refine hgo.2.1 31 _ [(4, (0, 0, 0, 8, 0)), (3, (0, 0, (-2147483648), 2147483647, 0)), (1, (0, 0, 0, 9, a)), (0, (2, 60, 0, 0, 0))] _ _ (xa_subI rfl rfl (fun _ _ _ _ => by omega) (xa_subI rfl rfl (fun _ _ _ _ => by omega) (xa_subI rfl rfl (fun _ _ _ _ => by omega) (xa_subR rfl xa_sub0)))) ?_
      exact loop 9 0 0 _ (by omega) (by omega) (xm_cor_t (xm_cor_f (by omega) xm_cor_r) hc2) rfl (xm_f11 hM).1 (fun v e => Or.inr ⟨i1, w2, M2, ⟨_, xm_cor_f (by omega) xm_cor_r, hF2⟩, Or.inr (Or.inr ⟨by omega, by omega, M2, rfl, rfl, e⟩)⟩) (by omega) (by omega) (by omega)
    · intro (c3 : v2 < 0)
      show post (some (0, 0, (-5), 0, v2)) M2
      exact k _ _ ⟨_, _, _, rfl, Or.inr ⟨i1, w2, M2, ⟨_, xm_cor_f (by omega) xm_cor_r, hF2⟩, tw_s3 (T := tw_gR M a) hs2 (by omega)⟩, by show rz_c (0 ≤ (v2 : Int)) (M 60 20) (M2 60 20) (1); unfold rz_c; omega⟩ (xm_cor_t (xm_cor_f (by omega) xm_cor_r) hc2)
  · intro (i1 : ¬ (0 ≤ a ∧ a ≤ 9))
    show post (some (0, 0, (-1), (-1), (-1))) (xa_up M 60 21 0)
    exact k _ _ ⟨_, _, _, rfl, Or.inl ⟨i1, rfl⟩, by show rz_c (0 ≤ ((-1) : Int)) (M 60 20) (M 60 20) (1); unfold rz_c; omega⟩ (xm_cor_f (by omega) xm_cor_r)
theorem rm_near {A : Nat → Nat} {h0 : g_H} {d : Nat} {M : xa_M} {post : Option xa_V → xa_M → Prop} {l1 u1 l2 u2 l3 u3 : Int} {a b c : Int} (hI : xm_Inv M) (k : ∀ (o : Option xa_V) (M1 : xa_M), (∃ lo hi n, o = some (0, 0, lo, hi, n) ∧ tw_P ((0 ≤ b ∧ b < M 60 11) ∧ (0 ≤ c ∧ c ≤ 2000)) M a n (tw_nT M a b c) ∧ rz_c (0 ≤ (n : Int)) (M 60 20) (M1 60 20) (2)) → xm_cor M M1 → post o M1) : xa_C xm_I A h0 (d + 7) 275 [(2, 60, 0, 0, 0), (0, 0, l1, u1, a), (0, 0, l2, u2, b), (0, 0, l3, u3, c)] M post := by
  refine xa_C_arg [(2, 60, 0, 0, 0), (0, 0, (-2147483648), 2147483647, a), (0, 0, (-2147483648), 2147483647, b), (0, 0, (-2147483648), 2147483647, c)] (xa_svR (xa_svI (fun _ _ _ _ => by omega) (xa_svI (fun _ _ _ _ => by omega) (xa_svI (fun _ _ _ _ => by omega) xa_sv0)))) ?_
  refine xa_meth (Q0 := (5, 1, false, 0, 0, 12)) (by decide +kernel) ⟨rfl, rfl⟩ (full := s_c_275) rfl rfl ?_
  intro hM hv Q hgo
  have b11 := xm_f11 hM
  refine hgo.1 21 [33] 0 _ _ _ ?_
  show xa_C xm_I A h0 _ 215 [(0, 0, (-2147483648), 2147483647, a)] (xa_up M 60 21 0) _
  refine ct_isAxle ?_ ?_
  · intro (i1 : 0 ≤ a ∧ a ≤ 9)
    show xa_C xm_I A h0 _ 239 [(2, 60, 0, 0, 0), (0, 0, (-2147483648), 2147483647, b)] (xa_up M 60 21 0) _
    refine ct_isPeriod ?_ ?_
    · intro (i2 : 0 ≤ b ∧ b < (M 60 11))
      show xa_C xm_I A h0 _ 214 [(0, 0, (-2147483648), 2147483647, c), (0, 0, 0, 0, 0), (0, 0, 2000, 2000, 2000)] (xa_up M 60 21 0) _
      refine ct_in ?_ ?_
      · intro (i3 : 0 ≤ c ∧ c ≤ 2000)
        show Q 33 [(0, (2, 60, 0, 0, 0)), (1, (0, 0, (-2147483648), 2147483647, a)), (2, (0, 0, (-2147483648), 2147483647, b)), (3, (0, 0, (-2147483648), 2147483647, c))] [] (xa_up M 60 21 0)
        refine hgo.2.1 33 _ [(0, (2, 60, 0, 0, 0)), (1, (0, 0, 0, 9, a)), (2, (0, 0, 0, 7, b)), (3, (0, 0, 0, 2000, c))] _ _ (xa_subR rfl (xa_subI rfl rfl (fun _ _ _ _ => by omega) (xa_subI rfl rfl (fun _ _ _ _ => by omega) (xa_subI rfl rfl (fun _ _ _ _ => by omega) xa_sub0)))) ?_
        refine hgo.1 43 [] 33 _ _ _ ?_
        show xa_C xm_I A h0 _ 273 [(2, 60, 0, 0, 0), (0, 0, 0, 9, a)] (xa_up M 60 21 0) _
        refine rz_fx (j := 273) (by decide) (xa_C_mok (ct_fairStateF (xm_Inv_cor (xm_cor_f (by omega) xm_cor_r) hI) (by omega) (by omega) (fun v104 w104 M104 hc104 hT104 hF104 hw104 hv104 hs104 hM104 => ?_)))
        intro (zM104 : M104 60 20 = M 60 20)
        refine And.intro ?_ ?_
        · intro (c105 : 0 ≤ v104)
          show xa_C xm_I A h0 _ 276 [(2, 60, 0, 0, 0), (0, 0, 0, 9, a), (0, 0, 0, 7, b)] M104 _
          refine ct_findGapF (by omega) (by omega) (by omega) (by omega) (by omega) (by omega) (by rw [xm_corq (xm_cor_t (xm_cor_f (by omega) xm_cor_r) hc104) 71 rfl]; exact (hI.2.2.1 _ (by omega) (by omega)).2) (fun u106 l106 eu106 el106 bu106 bl106 => ?_)
          have hc4 := xm_cor_t (xm_cor_f (M := M) (j := 21) (v := 0) (by omega) xm_cor_r) hc104
          have hf4 := tw_s5 hs104 (by omega) (by omega)
          have eg4 : u106 = tw_gp M a b M104 := by
            unfold tw_gp
            rw [eu106, xm_corq hc4 71 rfl b, xm_corq hc4 70 rfl b]
          have el4 : l106 = M104 76 a * M 71 b := by
            rw [el106, xm_corq hc4 71 rfl b]
          show xa_C xm_I A h0 _ 230 [(2, 60, 0, 0, 0), (1, 0, (-8000000000000000), 8000000000000000, u106 * c), (1, 0, 0, 4000000000000, l106)] (xa_up (xa_up (xa_up M104 60 50 u106) 60 51 l106) 60 20 0) _
          refine ct_tellPart (n := 0) (by first | rfl | (simp [xa_up]; done)) (by decide) (by decide) (by decide) (by omega) (fun g107 eg107 pg107 qg107 => ?_)
          refine And.intro ?_ ?_
          · intro (c108 : (u106 * c) ≤ 0)
            refine And.intro ?_ ?_
            · intro (c109 : 0 ≤ (u106 * c))
              show post (some (0, 0, 0, 0, 0)) (xa_up (xa_up (xa_up (xa_up (xa_up (xa_up (xa_up M104 60 50 u106) 60 51 l106) 60 20 0) 74 0 ((u106 * c).tdiv g107)) 60 20 1) 74 1 (l106.tdiv g107)) 60 20 2)
              exact k _ _ ⟨_, _, _, rfl, Or.inr ⟨⟨i2, i3⟩, Or.inr ⟨i1, w104, M104, ⟨_, xm_cor_f (by omega) xm_cor_r, hF104⟩, Or.inr (Or.inr ⟨by omega, by omega, Or.inr ⟨tw_f0 hf4 c105, by unfold tw_sg; rw [← eg4]; omega⟩⟩)⟩⟩, by show rz_c (0 ≤ (0 : Int)) (M 60 20) (2) (2); unfold rz_c; omega⟩ (xm_cor_f (by omega) (xm_cor_a rfl (xm_cor_f (by omega) (xm_cor_a rfl (xm_cor_f (by omega) (xm_cor_f (by omega) (xm_cor_f (by omega) (xm_cor_t (xm_cor_f (by omega) xm_cor_r) hc104))))))))
            · intro (c109 : (u106 * c) < 0)
              show post (some (0, 0, 2, 2, 2)) (xa_up (xa_up (xa_up (xa_up (xa_up (xa_up (xa_up M104 60 50 u106) 60 51 l106) 60 20 0) 74 0 ((u106 * c).tdiv g107)) 60 20 1) 74 1 (l106.tdiv g107)) 60 20 2)
              exact k _ _ ⟨_, _, _, rfl, Or.inr ⟨⟨i2, i3⟩, Or.inr ⟨i1, w104, M104, ⟨_, xm_cor_f (by omega) xm_cor_r, hF104⟩, Or.inr (Or.inr ⟨by omega, by omega, Or.inr ⟨tw_f0 hf4 c105, by unfold tw_sg; rw [← eg4]; omega⟩⟩)⟩⟩, by show rz_c (0 ≤ (2 : Int)) (M 60 20) (2) (2); unfold rz_c; omega⟩ (xm_cor_f (by omega) (xm_cor_a rfl (xm_cor_f (by omega) (xm_cor_a rfl (xm_cor_f (by omega) (xm_cor_f (by omega) (xm_cor_f (by omega) (xm_cor_t (xm_cor_f (by omega) xm_cor_r) hc104))))))))
          · intro (c108 : 0 < (u106 * c))
            show post (some (0, 0, 1, 1, 1)) (xa_up (xa_up (xa_up (xa_up (xa_up (xa_up (xa_up M104 60 50 u106) 60 51 l106) 60 20 0) 74 0 ((u106 * c).tdiv g107)) 60 20 1) 74 1 (l106.tdiv g107)) 60 20 2)
            exact k _ _ ⟨_, _, _, rfl, Or.inr ⟨⟨i2, i3⟩, Or.inr ⟨i1, w104, M104, ⟨_, xm_cor_f (by omega) xm_cor_r, hF104⟩, Or.inr (Or.inr ⟨by omega, by omega, Or.inr ⟨tw_f0 hf4 c105, by unfold tw_sg; rw [← eg4]; omega⟩⟩)⟩⟩, by show rz_c (0 ≤ (1 : Int)) (M 60 20) (2) (2); unfold rz_c; omega⟩ (xm_cor_f (by omega) (xm_cor_a rfl (xm_cor_f (by omega) (xm_cor_a rfl (xm_cor_f (by omega) (xm_cor_f (by omega) (xm_cor_f (by omega) (xm_cor_t (xm_cor_f (by omega) xm_cor_r) hc104))))))))
        · intro (c105 : v104 < 0)
          show post (some (0, 0, (-5), 0, v104)) M104
          exact k _ _ ⟨_, _, _, rfl, Or.inr ⟨⟨i2, i3⟩, Or.inr ⟨i1, w104, M104, ⟨_, xm_cor_f (by omega) xm_cor_r, hF104⟩, tw_s6 hs104 c105 (fun h => Or.inl ⟨h, rfl⟩)⟩⟩, by show rz_c (0 ≤ (v104 : Int)) (M 60 20) (M104 60 20) (2); unfold rz_c; omega⟩ (xm_cor_t (xm_cor_f (by omega) xm_cor_r) hc104)
      · intro (i3 : ¬ (0 ≤ c ∧ c ≤ 2000))
        show post (some (0, 0, (-1), (-1), (-1))) (xa_up M 60 21 0)
        exact k _ _ ⟨_, _, _, rfl, Or.inl ⟨fun h => i3 h.2, rfl⟩, by show rz_c (0 ≤ ((-1) : Int)) (M 60 20) (M 60 20) (2); unfold rz_c; omega⟩ (xm_cor_f (by omega) xm_cor_r)
    · intro (i2 : ¬ (0 ≤ b ∧ b < (M 60 11)))
      show post (some (0, 0, (-1), (-1), (-1))) (xa_up M 60 21 0)
      exact k _ _ ⟨_, _, _, rfl, Or.inl ⟨fun h => i2 h.1, rfl⟩, by show rz_c (0 ≤ ((-1) : Int)) (M 60 20) (M 60 20) (2); unfold rz_c; omega⟩ (xm_cor_f (by omega) xm_cor_r)
  · intro (i1 : ¬ (0 ≤ a ∧ a ≤ 9))
    show post (some (0, 0, (-1), (-1), (-1))) (xa_up M 60 21 0)
    exact k _ _ ⟨_, _, _, rfl, tw_Pn i1, by show rz_c (0 ≤ ((-1) : Int)) (M 60 20) (M 60 20) (2); unfold rz_c; omega⟩ (xm_cor_f (by omega) xm_cor_r)
theorem rz_p45 (A : Nat → Nat) (cmp : Bool) : iv_pair (rz_J A) A 45 225 [0] cmp false := rz_armV (fun W b h as M hJ hM hInv hs hR hz => by
  obtain ⟨m1, ys, rfl, -, hs⟩ := iv_spc hs
  obtain rfl := iv_sp0 hs
  have b0 := xm_f0 (xa_H_Mok hM)
  have b6 := xm_f6 (xa_H_Mok hM)
  have r1 : iv_num h 1 9 = M 60 0 := hR.1.1
  have r2 : iv_num h 1 10 = M 60 6 := hR.1.2.1
  have r3 : ∀ i, 0 ≤ i → i < 14 → iv_num h 2 i = M 61 i ∧ iv_num h 3 i = M 62 i ∧ iv_num h 5 i = M 64 i ∧ iv_num h 6 i = M 65 i ∧ iv_num h 4 i = M 63 i := hR.1.2.2.1
  have r4 : ∀ i, 0 ≤ i → i < 16 → iv_num h 7 i = M 66 i ∧ iv_num h 8 i = M 67 i := hR.1.2.2.2
  have hS := hR.2
  have hMk := xa_H_Mok hM
  have hT := tu_M_of hMk hInv
  have hr := xm_rng_I hMk hInv
  have hC0 : tu_C (iv_num h) M := ⟨r2, r4, fun w w0 w1 => ⟨(r3 w w0 w1).2.2.1, (r3 w w0 w1).2.2.2.2⟩⟩
  have hc := rx_45 (b := b) (A := A) (h0 := h) (d := 52) (M := iv_num h) (N0 := M) (l1 := -2147483648) (u1 := 2147483647) (x1 := m1.toInt) (post := fun o M1 => ∃ lo hi n, o = some (0, 0, lo, hi, n) ∧ ((tw_A M m1.toInt n (fun _ v => v = 0) ∧ ∀ (q : Nat) (j : Int), ¬ (12 ≤ q ∧ q ≤ 14) → ¬ (q = 48 ∨ q = 49) → M1 q j = iv_num h q j) ∧ rz_c ((n : Int) = 0) (iv_num h 48 1) (M1 48 1) (2))) hT hC0 (fun lo hi n M1 x1 x2 x3 => ⟨lo, hi, n, rfl, ⟨x1, x2⟩, x3⟩)
  have hm := fun (h1 : g_H) => rm_turn (A := A) (h0 := h1) (d := 54) (M := M) (l1 := -2147483648) (u1 := 2147483647) (a := m1.toInt) (post := fun o M2 => (∃ lo hi n, o = some (0, 0, lo, hi, n) ∧ ((tw_A M m1.toInt n (fun _ v => v = 0) ∧ xm_cor M M2) ∧ rz_c ((n : Int) = 0) (M 60 20) (M2 60 20) (2))) ∧ xm_Inv M2) hInv (fun o M2 x1 x2 => by
    obtain ⟨lo, hi, n, rfl, x1, x3⟩ := x1
    exact ⟨⟨lo, hi, n, rfl, ⟨x1, x2⟩, x3⟩, xm_Inv_cor x2 hInv⟩)
  refine ⟨[(2, 0, 0, 0, 0), (0, 0, -2147483648, 2147483647, m1.toInt)], [(2, 60, 0, 0, 0), (0, 0, -2147483648, 2147483647, m1.toInt)], _, _, ⟨rfl, iv_i m1, trivial⟩, ⟨rfl, iv_i m1, trivial⟩, fun n n' M1 M2 g1 g2 => by
    obtain ⟨h1, z1⟩ := g1
    obtain ⟨h2, z2⟩ := g2
    have en : n = n' := tw_A_one hr h1.1 h2.1 (fun _ _ _ _ _ _ _ e e' => e.trans e'.symm)
    exact ⟨fun _ => en, fun x => h2.2 104 x (by unfold xm_scr; omega), fun x => h2.2 105 x (by unfold xm_scr; omega), tw_lmR hR h1.2 h2.2, rz_c1 z1 z2 (by rw [en]) hz⟩, hc, hm⟩)
theorem rz_p61 (A : Nat → Nat) (cmp : Bool) : iv_pair (rz_J A) A 61 232 [] cmp false := rz_armV (fun W b h as M hJ hM hInv hs hR hz => by
  obtain rfl := iv_sp0 hs
  have b0 := xm_f0 (xa_H_Mok hM)
  have b6 := xm_f6 (xa_H_Mok hM)
  have r1 : iv_num h 1 9 = M 60 0 := hR.1.1
  have r2 : iv_num h 1 10 = M 60 6 := hR.1.2.1
  have r3 : ∀ i, 0 ≤ i → i < 14 → iv_num h 2 i = M 61 i ∧ iv_num h 3 i = M 62 i ∧ iv_num h 5 i = M 64 i ∧ iv_num h 6 i = M 65 i ∧ iv_num h 4 i = M 63 i := hR.1.2.2.1
  have r4 : ∀ i, 0 ≤ i → i < 16 → iv_num h 7 i = M 66 i ∧ iv_num h 8 i = M 67 i := hR.1.2.2.2
  have hS := hR.2
  have hMk := xa_H_Mok hM
  have hT := tu_M_of hMk hInv
  have hr := xm_rng_I hMk hInv
  have hC0 : tu_C (iv_num h) M := ⟨r2, r4, fun w w0 w1 => ⟨(r3 w w0 w1).2.2.1, (r3 w w0 w1).2.2.2.2⟩⟩
  have hc := rx_61 (b := b) (A := A) (h0 := h) (d := 53) (M := iv_num h) (N0 := M)   (post := fun o M1 => ∃ lo hi n, o = some (0, 0, lo, hi, n) ∧ ((tw_61 M n ∧ ∀ (q : Nat) (j : Int), ¬ (12 ≤ q ∧ q ≤ 14) → ¬ (q = 48 ∨ q = 49) → M1 q j = iv_num h q j) ∧ rz_c (0 ≤ (n : Int)) (iv_num h 48 1) (M1 48 1) (1))) hT hC0 (fun lo hi n M1 x1 x2 x3 => ⟨lo, hi, n, rfl, ⟨x1, x2⟩, x3⟩)
  have hm := fun (h1 : g_H) => rm_turning (A := A) (h0 := h1) (d := 55) (M := M)   (post := fun o M2 => (∃ lo hi n, o = some (0, 0, lo, hi, n) ∧ ((tw_61 M n ∧ xm_cor M M2) ∧ rz_c (0 ≤ (n : Int)) (M 60 20) (M2 60 20) (1))) ∧ xm_Inv M2) hInv (fun o M2 x1 x2 => by
    obtain ⟨lo, hi, n, rfl, x1, x3⟩ := x1
    exact ⟨⟨lo, hi, n, rfl, ⟨x1, x2⟩, x3⟩, xm_Inv_cor x2 hInv⟩)
  refine ⟨[(2, 0, 0, 0, 0)], [(2, 60, 0, 0, 0)], _, _, ⟨rfl, trivial⟩, ⟨rfl, trivial⟩, fun n n' M1 M2 g1 g2 => by
    obtain ⟨h1, z1⟩ := g1
    obtain ⟨h2, z2⟩ := g2
    have en : n = n' := tw_61_one hr h1.1 h2.1
    exact ⟨fun _ => en, fun x => h2.2 104 x (by unfold xm_scr; omega), fun x => h2.2 105 x (by unfold xm_scr; omega), tw_lmR hR h1.2 h2.2, rz_c1 z1 z2 (by rw [en]) hz⟩, hc, hm⟩)
theorem rz_p66 (A : Nat → Nat) (cmp : Bool) : iv_pair (rz_J A) A 66 272 [0, 0] cmp false := rz_armV (fun W b h as M hJ hM hInv hs hR hz => by
  obtain ⟨m1, ys, rfl, -, hs⟩ := iv_spc hs
  obtain ⟨m2, ys, rfl, -, hs⟩ := iv_spc hs
  obtain rfl := iv_sp0 hs
  have b0 := xm_f0 (xa_H_Mok hM)
  have b6 := xm_f6 (xa_H_Mok hM)
  have r1 : iv_num h 1 9 = M 60 0 := hR.1.1
  have r2 : iv_num h 1 10 = M 60 6 := hR.1.2.1
  have r3 : ∀ i, 0 ≤ i → i < 14 → iv_num h 2 i = M 61 i ∧ iv_num h 3 i = M 62 i ∧ iv_num h 5 i = M 64 i ∧ iv_num h 6 i = M 65 i ∧ iv_num h 4 i = M 63 i := hR.1.2.2.1
  have r4 : ∀ i, 0 ≤ i → i < 16 → iv_num h 7 i = M 66 i ∧ iv_num h 8 i = M 67 i := hR.1.2.2.2
  have hS := hR.2
  have hMk := xa_H_Mok hM
  have hT := tu_M_of hMk hInv
  have hr := xm_rng_I hMk hInv
  have hC0 : tu_C (iv_num h) M := ⟨r2, r4, fun w w0 w1 => ⟨(r3 w w0 w1).2.2.1, (r3 w w0 w1).2.2.2.2⟩⟩
  have hc := rx_66 (b := b) (A := A) (h0 := h) (d := 51) (M := iv_num h) (N0 := M) (l1 := -2147483648) (u1 := 2147483647) (l2 := -2147483648) (u2 := 2147483647) (x1 := m1.toInt) (x2 := m2.toInt) (post := fun o M1 => ∃ lo hi n, o = some (0, 0, lo, hi, n) ∧ ((tw_66 M m1.toInt m2.toInt n ∧ ∀ (q : Nat) (j : Int), ¬ (12 ≤ q ∧ q ≤ 14) → ¬ (q = 48 ∨ q = 49) → M1 q j = iv_num h q j) ∧ rz_c ((n : Int) = 0) (iv_num h 48 1) (M1 48 1) (2))) hT hC0 (fun lo hi n M1 x1 x2 x3 => ⟨lo, hi, n, rfl, ⟨x1, x2⟩, x3⟩)
  have hm := fun (h1 : g_H) => rm_show (A := A) (h0 := h1) (d := 53) (M := M) (l1 := -2147483648) (u1 := 2147483647) (l2 := -2147483648) (u2 := 2147483647) (a := m1.toInt) (b := m2.toInt) (post := fun o M2 => (∃ lo hi n, o = some (0, 0, lo, hi, n) ∧ ((tw_66 M m1.toInt m2.toInt n ∧ xm_cor M M2) ∧ rz_c ((n : Int) = 0) (M 60 20) (M2 60 20) (2))) ∧ xm_Inv M2) hInv (fun o M2 x1 x2 => by
    obtain ⟨lo, hi, n, rfl, x1, x3⟩ := x1
    exact ⟨⟨lo, hi, n, rfl, ⟨x1, x2⟩, x3⟩, xm_Inv_cor x2 hInv⟩)
  refine ⟨[(2, 0, 0, 0, 0), (0, 0, -2147483648, 2147483647, m1.toInt), (0, 0, -2147483648, 2147483647, m2.toInt)], [(2, 60, 0, 0, 0), (0, 0, -2147483648, 2147483647, m1.toInt), (0, 0, -2147483648, 2147483647, m2.toInt)], _, _, ⟨rfl, iv_i m1, iv_i m2, trivial⟩, ⟨rfl, iv_i m1, iv_i m2, trivial⟩, fun n n' M1 M2 g1 g2 => by
    obtain ⟨h1, z1⟩ := g1
    obtain ⟨h2, z2⟩ := g2
    have en : n = n' := tw_66_one hr h1.1 h2.1
    exact ⟨fun _ => en, fun x => h2.2 104 x (by unfold xm_scr; omega), fun x => h2.2 105 x (by unfold xm_scr; omega), tw_lmR hR h1.2 h2.2, rz_c1 z1 z2 (by rw [en]) hz⟩, hc, hm⟩)
theorem rz_p72 (A : Nat → Nat) (cmp : Bool) : iv_pair (rz_J A) A 72 274 [0, 0] cmp false := rz_armV (fun W b h as M hJ hM hInv hs hR hz => by
  obtain ⟨m1, ys, rfl, -, hs⟩ := iv_spc hs
  obtain ⟨m2, ys, rfl, -, hs⟩ := iv_spc hs
  obtain rfl := iv_sp0 hs
  have b0 := xm_f0 (xa_H_Mok hM)
  have b6 := xm_f6 (xa_H_Mok hM)
  have r1 : iv_num h 1 9 = M 60 0 := hR.1.1
  have r2 : iv_num h 1 10 = M 60 6 := hR.1.2.1
  have r3 : ∀ i, 0 ≤ i → i < 14 → iv_num h 2 i = M 61 i ∧ iv_num h 3 i = M 62 i ∧ iv_num h 5 i = M 64 i ∧ iv_num h 6 i = M 65 i ∧ iv_num h 4 i = M 63 i := hR.1.2.2.1
  have r4 : ∀ i, 0 ≤ i → i < 16 → iv_num h 7 i = M 66 i ∧ iv_num h 8 i = M 67 i := hR.1.2.2.2
  have hS := hR.2
  have hMk := xa_H_Mok hM
  have hT := tu_M_of hMk hInv
  have hr := xm_rng_I hMk hInv
  have hC0 : tu_C (iv_num h) M := ⟨r2, r4, fun w w0 w1 => ⟨(r3 w w0 w1).2.2.1, (r3 w w0 w1).2.2.2.2⟩⟩
  have hc := rx_72 (b := b) (A := A) (h0 := h) (d := 52) (M := iv_num h) (N0 := M) (l1 := -2147483648) (u1 := 2147483647) (l2 := -2147483648) (u2 := 2147483647) (x1 := m1.toInt) (x2 := m2.toInt) (post := fun o M1 => ∃ lo hi n, o = some (0, 0, lo, hi, n) ∧ ((tw_72 M m1.toInt m2.toInt n ∧ ∀ (q : Nat) (j : Int), ¬ (12 ≤ q ∧ q ≤ 14) → ¬ (q = 48 ∨ q = 49) → M1 q j = iv_num h q j) ∧ rz_c (0 ≤ (n : Int)) (iv_num h 48 1) (M1 48 1) (1))) hT hC0 (fun lo hi n M1 x1 x2 x3 => ⟨lo, hi, n, rfl, ⟨x1, x2⟩, x3⟩)
  have hm := fun (h1 : g_H) => rm_together (A := A) (h0 := h1) (d := 53) (M := M) (l1 := -2147483648) (u1 := 2147483647) (l2 := -2147483648) (u2 := 2147483647) (a := m1.toInt) (b := m2.toInt) (post := fun o M2 => (∃ lo hi n, o = some (0, 0, lo, hi, n) ∧ ((tw_72 M m1.toInt m2.toInt n ∧ xm_cor M M2) ∧ rz_c (0 ≤ (n : Int)) (M 60 20) (M2 60 20) (1))) ∧ xm_Inv M2) hInv (fun o M2 x1 x2 => by
    obtain ⟨lo, hi, n, rfl, x1, x3⟩ := x1
    exact ⟨⟨lo, hi, n, rfl, ⟨x1, x2⟩, x3⟩, xm_Inv_cor x2 hInv⟩)
  refine ⟨[(2, 0, 0, 0, 0), (0, 0, -2147483648, 2147483647, m1.toInt), (0, 0, -2147483648, 2147483647, m2.toInt)], [(2, 60, 0, 0, 0), (0, 0, -2147483648, 2147483647, m1.toInt), (0, 0, -2147483648, 2147483647, m2.toInt)], _, _, ⟨rfl, iv_i m1, iv_i m2, trivial⟩, ⟨rfl, iv_i m1, iv_i m2, trivial⟩, fun n n' M1 M2 g1 g2 => by
    obtain ⟨h1, z1⟩ := g1
    obtain ⟨h2, z2⟩ := g2
    have en : n = n' := tw_72_one hr h1.1 h2.1
    exact ⟨fun _ => en, fun x => h2.2 104 x (by unfold xm_scr; omega), fun x => h2.2 105 x (by unfold xm_scr; omega), tw_lmR hR h1.2 h2.2, rz_c1 z1 z2 (by rw [en]) hz⟩, hc, hm⟩)
theorem rz_p63 (A : Nat → Nat) (cmp : Bool) : iv_pair (rz_J A) A 63 234 [0] cmp false := rz_armV (fun W b h as M hJ hM hInv hs hR hz => by
  obtain ⟨m1, ys, rfl, -, hs⟩ := iv_spc hs
  obtain rfl := iv_sp0 hs
  have b0 := xm_f0 (xa_H_Mok hM)
  have b6 := xm_f6 (xa_H_Mok hM)
  have r1 : iv_num h 1 9 = M 60 0 := hR.1.1
  have r2 : iv_num h 1 10 = M 60 6 := hR.1.2.1
  have r3 : ∀ i, 0 ≤ i → i < 14 → iv_num h 2 i = M 61 i ∧ iv_num h 3 i = M 62 i ∧ iv_num h 5 i = M 64 i ∧ iv_num h 6 i = M 65 i ∧ iv_num h 4 i = M 63 i := hR.1.2.2.1
  have r4 : ∀ i, 0 ≤ i → i < 16 → iv_num h 7 i = M 66 i ∧ iv_num h 8 i = M 67 i := hR.1.2.2.2
  have hS := hR.2
  have hMk := xa_H_Mok hM
  have hT := tu_M_of hMk hInv
  have hr := xm_rng_I hMk hInv
  have hC0 : tu_C (iv_num h) M := ⟨r2, r4, fun w w0 w1 => ⟨(r3 w w0 w1).2.2.1, (r3 w w0 w1).2.2.2.2⟩⟩
  obtain ⟨s1, s2, s3, s4⟩ := lm_Sx.mp hR.2.1
  have b11 := xm_f11 hMk
  have hB : tk_B (bk_p b) (iv_num h) M := ⟨s3, b11, fun p p0 p1 => by
    obtain ⟨g1, g2, -⟩ := s4 p p0 (by omega) p1
    have t1 := xm_t70 hMk p p0 (by omega)
    have t2 := xm_t71 hMk p p0 (by omega)
    have t3 := hInv.2.2.1 p p0 p1
    exact ⟨⟨g1, g2⟩, by omega, by omega⟩⟩
  have hb2 : ∀ p, 0 ≤ p → p < M 60 11 → 0 ≤ M 70 p ∧ 1 ≤ M 71 p := fun p p0 p1 => by
    have t3 := hB.2.2 p p0 p1
    omega
  have hc := rx_63 (b := b) (A := A) (h0 := h) (d := 52) (M := iv_num h) (N0 := M) (l1 := -2147483648) (u1 := 2147483647) (x1 := m1.toInt) (post := fun o M1 => ∃ lo hi n, o = some (0, 0, lo, hi, n) ∧ ((tw_A M m1.toInt n (tw_gC M m1.toInt) ∧ ∀ (q : Nat) (j : Int), ¬ (12 ≤ q ∧ q ≤ 14) → ¬ (q = 48 ∨ q = 49) → M1 q j = iv_num h q j) ∧ rz_c (0 ≤ (n : Int)) (iv_num h 48 1) (M1 48 1) (1))) hT hC0 hB (fun lo hi n M1 x1 x2 x3 => ⟨lo, hi, n, rfl, ⟨x1, x2⟩, x3⟩)
  have hm := fun (h1 : g_H) => rm_gives (A := A) (h0 := h1) (d := 54) (M := M) (l1 := -2147483648) (u1 := 2147483647) (a := m1.toInt) (post := fun o M2 => (∃ lo hi n, o = some (0, 0, lo, hi, n) ∧ ((tw_A M m1.toInt n (tw_gR M m1.toInt) ∧ xm_cor M M2) ∧ rz_c (0 ≤ (n : Int)) (M 60 20) (M2 60 20) (1))) ∧ xm_Inv M2) hInv (fun o M2 x1 x2 => by
    obtain ⟨lo, hi, n, rfl, x1, x3⟩ := x1
    exact ⟨⟨lo, hi, n, rfl, ⟨x1, x2⟩, x3⟩, xm_Inv_cor x2 hInv⟩)
  refine ⟨[(2, 0, 0, 0, 0), (0, 0, -2147483648, 2147483647, m1.toInt)], [(2, 60, 0, 0, 0), (0, 0, -2147483648, 2147483647, m1.toInt)], _, _, ⟨rfl, iv_i m1, trivial⟩, ⟨rfl, iv_i m1, trivial⟩, fun n n' M1 M2 g1 g2 => by
    obtain ⟨h1, z1⟩ := g1
    obtain ⟨h2, z2⟩ := g2
    have en : n = n' := tw_A_one hr h1.1 h2.1 (fun _ _ _ _ _ e1 e2 t t' => tw_g_one hb2 e1 e2 t t')
    exact ⟨fun _ => en, fun x => h2.2 104 x (by unfold xm_scr; omega), fun x => h2.2 105 x (by unfold xm_scr; omega), tw_lmR hR h1.2 h2.2, rz_c1 z1 z2 (by rw [en]) hz⟩, hc, hm⟩)
theorem rz_p164 (A : Nat → Nat) (cmp : Bool) : iv_pair (rz_J A) A 164 275 [0, 0, 0] cmp false := rz_armV (fun W b h as M hJ hM hInv hs hR hz => by
  obtain ⟨m1, ys, rfl, -, hs⟩ := iv_spc hs
  obtain ⟨m2, ys, rfl, -, hs⟩ := iv_spc hs
  obtain ⟨m3, ys, rfl, -, hs⟩ := iv_spc hs
  obtain rfl := iv_sp0 hs
  have b0 := xm_f0 (xa_H_Mok hM)
  have b6 := xm_f6 (xa_H_Mok hM)
  have r1 : iv_num h 1 9 = M 60 0 := hR.1.1
  have r2 : iv_num h 1 10 = M 60 6 := hR.1.2.1
  have r3 : ∀ i, 0 ≤ i → i < 14 → iv_num h 2 i = M 61 i ∧ iv_num h 3 i = M 62 i ∧ iv_num h 5 i = M 64 i ∧ iv_num h 6 i = M 65 i ∧ iv_num h 4 i = M 63 i := hR.1.2.2.1
  have r4 : ∀ i, 0 ≤ i → i < 16 → iv_num h 7 i = M 66 i ∧ iv_num h 8 i = M 67 i := hR.1.2.2.2
  have hS := hR.2
  have hMk := xa_H_Mok hM
  have hT := tu_M_of hMk hInv
  have hr := xm_rng_I hMk hInv
  have hC0 : tu_C (iv_num h) M := ⟨r2, r4, fun w w0 w1 => ⟨(r3 w w0 w1).2.2.1, (r3 w w0 w1).2.2.2.2⟩⟩
  obtain ⟨s1, s2, s3, s4⟩ := lm_Sx.mp hR.2.1
  have b11 := xm_f11 hMk
  have hB : tk_B (bk_p b) (iv_num h) M := ⟨s3, b11, fun p p0 p1 => by
    obtain ⟨g1, g2, -⟩ := s4 p p0 (by omega) p1
    have t1 := xm_t70 hMk p p0 (by omega)
    have t2 := xm_t71 hMk p p0 (by omega)
    have t3 := hInv.2.2.1 p p0 p1
    exact ⟨⟨g1, g2⟩, by omega, by omega⟩⟩
  have hb2 : ∀ p, 0 ≤ p → p < M 60 11 → 0 ≤ M 70 p ∧ 1 ≤ M 71 p := fun p p0 p1 => by
    have t3 := hB.2.2 p p0 p1
    omega
  have hc := rx_164 (b := b) (A := A) (h0 := h) (d := 51) (M := iv_num h) (N0 := M) (l1 := -2147483648) (u1 := 2147483647) (l2 := -2147483648) (u2 := 2147483647) (l3 := -2147483648) (u3 := 2147483647) (x1 := m1.toInt) (x2 := m2.toInt) (x3 := m3.toInt) (post := fun o M1 => ∃ lo hi n, o = some (0, 0, lo, hi, n) ∧ ((tw_P ((0 ≤ m2.toInt ∧ m2.toInt < M 60 11) ∧ (0 ≤ m3.toInt ∧ m3.toInt ≤ 2000)) M m1.toInt n (tw_nT M m1.toInt m2.toInt m3.toInt) ∧ ∀ (q : Nat) (j : Int), ¬ (12 ≤ q ∧ q ≤ 14) → ¬ (q = 48 ∨ q = 49) → M1 q j = iv_num h q j) ∧ rz_c (0 ≤ (n : Int)) (iv_num h 48 1) (M1 48 1) (2))) hT hC0 hB (fun lo hi n M1 x1 x2 x3 => ⟨lo, hi, n, rfl, ⟨x1, x2⟩, x3⟩)
  have hm := fun (h1 : g_H) => rm_near (A := A) (h0 := h1) (d := 53) (M := M) (l1 := -2147483648) (u1 := 2147483647) (l2 := -2147483648) (u2 := 2147483647) (l3 := -2147483648) (u3 := 2147483647) (a := m1.toInt) (b := m2.toInt) (c := m3.toInt) (post := fun o M2 => (∃ lo hi n, o = some (0, 0, lo, hi, n) ∧ ((tw_P ((0 ≤ m2.toInt ∧ m2.toInt < M 60 11) ∧ (0 ≤ m3.toInt ∧ m3.toInt ≤ 2000)) M m1.toInt n (tw_nT M m1.toInt m2.toInt m3.toInt) ∧ xm_cor M M2) ∧ rz_c (0 ≤ (n : Int)) (M 60 20) (M2 60 20) (2))) ∧ xm_Inv M2) hInv (fun o M2 x1 x2 => by
    obtain ⟨lo, hi, n, rfl, x1, x3⟩ := x1
    exact ⟨⟨lo, hi, n, rfl, ⟨x1, x2⟩, x3⟩, xm_Inv_cor x2 hInv⟩)
  refine ⟨[(2, 0, 0, 0, 0), (0, 0, -2147483648, 2147483647, m1.toInt), (0, 0, -2147483648, 2147483647, m2.toInt), (0, 0, -2147483648, 2147483647, m3.toInt)], [(2, 60, 0, 0, 0), (0, 0, -2147483648, 2147483647, m1.toInt), (0, 0, -2147483648, 2147483647, m2.toInt), (0, 0, -2147483648, 2147483647, m3.toInt)], _, _, ⟨rfl, iv_i m1, iv_i m2, iv_i m3, trivial⟩, ⟨rfl, iv_i m1, iv_i m2, iv_i m3, trivial⟩, fun n n' M1 M2 g1 g2 => by
    obtain ⟨h1, z1⟩ := g1
    obtain ⟨h2, z2⟩ := g2
    have en : n = n' := tw_P_one hr h1.1 h2.1 (fun _ _ _ _ _ e1 e2 t t' => tw_nT_one e1 e2 t t')
    exact ⟨fun _ => en, fun x => h2.2 104 x (by unfold xm_scr; omega), fun x => h2.2 105 x (by unfold xm_scr; omega), tw_lmR hR h1.2 h2.2, rz_c1 z1 z2 (by rw [en]) hz⟩, hc, hm⟩)

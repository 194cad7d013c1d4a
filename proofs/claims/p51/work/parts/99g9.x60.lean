-- the row's size on both sides (made by wip/u/mkrz.py)
set_option maxRecDepth 20000
/-- a number whose bits are those that P names -/
def of_B (P : Nat → Prop) (r : Int) : Prop := r = (Int32.ofInt r).toInt ∧ ∀ w : Nat, w < 32 → ((Int32.ofInt r).toBitVec.getLsbD w = true ↔ P w)
theorem of_Bc {P Q : Nat → Prop} {a : Int} (h : of_B P a) (e : ∀ w : Nat, w < 32 → (P w ↔ Q w)) : of_B Q a := ⟨h.1, fun w hw => (h.2 w hw).trans (e w hw)⟩
theorem of_B0 : of_B (fun w => (w : Int) = -1) 0 := by
  refine ⟨rfl, fun w hw => ?_⟩
  rw [show (Int32.ofInt 0).toBitVec = 0#32 from rfl, BitVec.getLsbD_zero]
  exact ⟨fun h => absurd h (by decide), fun h => by omega⟩
theorem of_Bz (z : Int32) : z.toInt = (Int32.ofInt z.toInt).toInt := by rw [Int32.ofInt_toInt]
theorem of_Bor {P Q : Nat → Prop} {a b : Int} (h : of_B P a) (h2 : of_B Q b) : of_B (fun w => P w ∨ Q w) (xa_ib 4 a b) := by
  have e : xa_ib 4 a b = (Int32.ofInt a ||| Int32.ofInt b).toInt := rfl
  rw [e]
  refine ⟨of_Bz _, fun w hw => ?_⟩
  rw [Int32.ofInt_toInt, Int32.toBitVec_or, BitVec.getLsbD_or, Bool.or_eq_true, h.2 w hw, h2.2 w hw]
/-- fields that may be written, but for the row's size of both -/
def rz_E (ci k : Nat) : Bool := !((Nat.beq ci 6 && Nat.beq k 1) || (Nat.beq ci 12 && Nat.beq k 20))
def rz_B : List Nat := [45, 59, 60, 61, 63, 66, 71, 72, 73, 84, 85, 98, 101, 104, 107, 108, 122, 123, 126, 129, 130, 132, 134, 140, 141, 145, 148, 151, 155, 162, 163, 164, 167, 169, 170, 171, 174, 175, 178, 185, 186, 188, 189, 194, 205, 225, 230, 231, 232, 234, 235, 237, 245, 249, 257, 259, 261, 263, 267, 270, 271, 272, 274, 275, 278, 279, 281, 282, 286, 288, 291, 297]
set_option maxRecDepth 100000 in
theorem rz_T_0 : f_TB rz_E iv_K rz_B 0 20 = true := by decide +kernel
set_option maxRecDepth 100000 in
theorem rz_T_1 : f_TB rz_E iv_K rz_B 20 20 = true := by decide +kernel
set_option maxRecDepth 100000 in
theorem rz_T_2 : f_TB rz_E iv_K rz_B 40 20 = true := by decide +kernel
set_option maxRecDepth 100000 in
theorem rz_T_3 : f_TB rz_E iv_K rz_B 60 20 = true := by decide +kernel
set_option maxRecDepth 100000 in
theorem rz_T_4 : f_TB rz_E iv_K rz_B 80 20 = true := by decide +kernel
set_option maxRecDepth 100000 in
theorem rz_T_5 : f_TB rz_E iv_K rz_B 100 20 = true := by decide +kernel
set_option maxRecDepth 100000 in
theorem rz_T_6 : f_TB rz_E iv_K rz_B 120 20 = true := by decide +kernel
set_option maxRecDepth 100000 in
theorem rz_T_7 : f_TB rz_E iv_K rz_B 140 20 = true := by decide +kernel
set_option maxRecDepth 100000 in
theorem rz_T_8 : f_TB rz_E iv_K rz_B 160 20 = true := by decide +kernel
set_option maxRecDepth 100000 in
theorem rz_T_9 : f_TB rz_E iv_K rz_B 180 20 = true := by decide +kernel
set_option maxRecDepth 100000 in
theorem rz_T_10 : f_TB rz_E iv_K rz_B 200 20 = true := by decide +kernel
set_option maxRecDepth 100000 in
theorem rz_T_11 : f_TB rz_E iv_K rz_B 220 20 = true := by decide +kernel
set_option maxRecDepth 100000 in
theorem rz_T_12 : f_TB rz_E iv_K rz_B 240 20 = true := by decide +kernel
set_option maxRecDepth 100000 in
theorem rz_T_13 : f_TB rz_E iv_K rz_B 260 20 = true := by decide +kernel
set_option maxRecDepth 100000 in
theorem rz_T_14 : f_TB rz_E iv_K rz_B 280 20 = true := by decide +kernel
set_option maxRecDepth 100000 in
theorem rz_T_15 : f_TB rz_E iv_K rz_B 300 2 = true := by decide +kernel
theorem rz_T_ok : f_all rz_E iv_K rz_B := by
  intro j hj
  have hl : j < 302 := by
    unfold f_T at hj
    rw [Bool.and_eq_true, Nat.blt_eq] at hj
    exact hj.1
  by_cases c0 : j < 20
  · exact f_TB_at rz_T_0 (by omega) (by omega) hj
  by_cases c1 : j < 40
  · exact f_TB_at rz_T_1 (by omega) (by omega) hj
  by_cases c2 : j < 60
  · exact f_TB_at rz_T_2 (by omega) (by omega) hj
  by_cases c3 : j < 80
  · exact f_TB_at rz_T_3 (by omega) (by omega) hj
  by_cases c4 : j < 100
  · exact f_TB_at rz_T_4 (by omega) (by omega) hj
  by_cases c5 : j < 120
  · exact f_TB_at rz_T_5 (by omega) (by omega) hj
  by_cases c6 : j < 140
  · exact f_TB_at rz_T_6 (by omega) (by omega) hj
  by_cases c7 : j < 160
  · exact f_TB_at rz_T_7 (by omega) (by omega) hj
  by_cases c8 : j < 180
  · exact f_TB_at rz_T_8 (by omega) (by omega) hj
  by_cases c9 : j < 200
  · exact f_TB_at rz_T_9 (by omega) (by omega) hj
  by_cases c10 : j < 220
  · exact f_TB_at rz_T_10 (by omega) (by omega) hj
  by_cases c11 : j < 240
  · exact f_TB_at rz_T_11 (by omega) (by omega) hj
  by_cases c12 : j < 260
  · exact f_TB_at rz_T_12 (by omega) (by omega) hj
  by_cases c13 : j < 280
  · exact f_TB_at rz_T_13 (by omega) (by omega) hj
  by_cases c14 : j < 300
  · exact f_TB_at rz_T_14 (by omega) (by omega) hj
  exact f_TB_at rz_T_15 (by omega) (by omega) hj
/-- a frame leaves it -/
theorem rz_fr1 {h h' : g_H} {q a ci n k : Nat} {f : Nat → Value} (hF : f_Fr rz_E iv_K h h') (e : h[q]? = some (a, false, ci, n, f)) (hk : rz_E ci k = false) : iv_num h' q (k : Int) = iv_num h q (k : Int) := by
  obtain ⟨f', e', g⟩ := hF.1 q a ci n f e
  refine iv_num_c ?_
  rw [Int.toNat_natCast, iv_ctZ e', iv_ctZ e]
  exact g k hk
theorem rz_fr {A : Nat → Nat} {h h' : g_H} (hI : iv_inv A h) (hF : f_Fr rz_E iv_K h h') : iv_num h' 48 1 = iv_num h 48 1 ∧ iv_num h' 60 20 = iv_num h 60 20 := by
  obtain ⟨⟨W, β, hH, hW⟩, M, hM, -⟩ := hI
  constructor
  · obtain ⟨ro, f, e1, e2, -⟩ := hH.2.1 48 (A 48) 10 (hW 48 10 rfl)
    cases e1
    exact rz_fr1 (k := 1) hF e2 (by decide)
  · obtain ⟨f, e2, -⟩ := hM.2.1 60 _ _ rfl
    exact rz_fr1 (k := 20) hF e2 (by decide)
/-- the row's size: told (e numbers), or as it was -/
def rz_c (p : Prop) (s s' e : Int) : Prop := (p ∧ s' = e) ∨ (¬ p ∧ s' = s)
/-- a call of the reference that doesn't write the row's size -/
theorem rz_fx {A : Nat → Nat} {h0 : g_H} {d j : Nat} {vs : List xa_V} {M : xa_M} {post : Option xa_V → xa_M → Prop} (hj : f_T rz_B j = true) (hC : xa_C xm_I A h0 d j vs M (fun o M1 => M1 60 20 = M 60 20 → post o M1)) : xa_C xm_I A h0 d j vs M post := by
  intro h xs hM hx P hP
  refine f_run rz_T_ok _ _ _ _ _ _ _ _ hj (hC h xs hM hx (fun r h' => f_Fr rz_E iv_K h h' → P r h') (fun v M' x h' hv hx' hM' hF => hP v M' x h' (hv ?_) hx' hM')) (fun r h' hp hF => hp hF)
  obtain ⟨f, e2, -⟩ := hM.2.1 60 _ _ rfl
  have a1 : iv_num h 60 20 = M 60 20 := iv_num_M (j := 20) hM rfl (by decide) (by decide) (by show (0 : Nat) < 2; decide)
  have a2 : iv_num h' 60 20 = M' 60 20 := iv_num_M (j := 20) hM' rfl (by decide) (by decide) (by show (0 : Nat) < 2; decide)
  rw [← a1, ← a2]
  exact rz_fr1 (k := 20) hF e2 (by decide)
theorem rz_Bsh {k : Int} (k0 : 0 ≤ k) (k1 : k < 31) : of_B (fun w => (w : Int) = k) (xa_ib 6 1 k) := by
  have e : xa_ib 6 1 k = (Int32.ofInt 1 <<< (Int32.ofInt k &&& 31)).toInt := rfl
  rw [e]
  refine ⟨of_Bz _, fun w hw => ?_⟩
  rw [Int32.ofInt_toInt]
  have key : (List.range 31).all (fun k => (List.range 32).all (fun w => (Int32.ofInt 1 <<< (Int32.ofInt (k : Int) &&& 31)).toBitVec.getLsbD w == (k == w))) = true := by decide +kernel
  have h := List.all_eq_true.mp (List.all_eq_true.mp key k.toNat (List.mem_range.mpr (by omega))) w (List.mem_range.mpr hw)
  rw [Int.toNat_of_nonneg k0, beq_iff_eq] at h
  rw [h, beq_iff_eq]
  omega
theorem rz_nn {Q : Nat → Prop} {r : Int} (h : of_B Q r) (h31 : ¬ Q 31) : 0 ≤ r := by
  have e : (Int32.ofInt r).toBitVec.getLsbD 31 = false := by
    cases c : (Int32.ofInt r).toBitVec.getLsbD 31
    · rfl
    · exact absurd ((h.2 31 (by decide)).mp c) h31
  have m : (Int32.ofInt r).toBitVec.msb = false := by
    rw [BitVec.msb_eq_getLsbD_last]
    exact e
  rw [h.1]
  show 0 ≤ (Int32.ofInt r).toBitVec.toInt
  rw [BitVec.toInt_eq_toNat_of_msb m]
  exact Int.natCast_nonneg _
theorem rz_wB {P : Int → Prop} : ∀ n : Nat, n ≤ 31 → of_B (fun w => w < n ∧ P (w : Int)) (wd_b P n) := by
  intro n
  induction n with
  | zero => exact fun _ => of_Bc of_B0 (fun w hw => ⟨fun h => by omega, fun h => by omega⟩)
  | succ n ih =>
    intro hn
    have ih := ih (by omega)
    by_cases c : P (n : Int)
    · rw [wd_b1 c]
      exact of_Bc (of_Bor ih (rz_Bsh (by omega) (by omega))) (fun w hw => ⟨fun h => by
        rcases h with h | h
        · exact ⟨by omega, h.2⟩
        · refine ⟨by omega, ?_⟩
          rw [h]
          exact c, fun h => by
        by_cases e : (w : Int) = (n : Int)
        · exact Or.inr e
        · exact Or.inl ⟨by omega, h.2⟩⟩)
    · rw [wd_b0 c]
      exact of_Bc ih (fun w hw => ⟨fun h => ⟨by omega, h.2⟩, fun h => ⟨by
        by_cases e : (w : Int) = (n : Int)
        · have h2 := h.2
          rw [e] at h2
          exact absurd h2 c
        · omega, h.2⟩⟩)
theorem rz_wn {P : Int → Prop} (n : Nat) (hn : n ≤ 31) : 0 ≤ wd_b P n := rz_nn (rz_wB n hn) (fun h => by omega)
theorem rz_Sle {N0 C : xa_M} {a v : Int} (h : tu_S N0 a v C) : v ≤ 0 := by
  rcases h with ⟨-, h⟩ | ⟨-, w, hw, -, ⟨-, h⟩ | ⟨-, -, h⟩ | ⟨-, -, h⟩⟩ <;> omega
theorem rz_Hle {N0 C : xa_M} {a v : Int} (h : tu_H N0 a v C) : v ≤ 0 := by
  rcases h with ⟨-, h⟩ | ⟨-, ⟨-, h⟩ | ⟨-, h⟩⟩
  · exact rz_Sle h
  · omega
  · omega
theorem rz_td {x g : Int} (hx : 0 ≤ x) (hg : 0 ≤ g) (h : x.tdiv g ≤ 100000) : 0 ≤ xa_w32 (x.tdiv g) := by
  have p := Int.tdiv_nonneg hx hg
  rw [xa_w32_id (by omega) (by omega)]
  exact p

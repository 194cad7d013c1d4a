-- what holds between calls holds at the loop's head
set_option maxRecDepth 20000
def iv_gB (v : y_V) (u : s_V) : Bool := match v, u with
  | (0, lo, hi, k, _, m, _), (0, n) => decide (-10000 ≤ n) && (decide (n ≤ 10000) && (decide (lo ≤ n) && (decide (n ≤ hi) && (Nat.beq k 0 && Nat.beq m 0))))
  | (1, lo, hi, k, _, m, _), (1, n) => decide (n = 0) && (decide (lo ≤ 0) && (decide ((0 : Int) ≤ hi) && (Nat.beq k 0 && Nat.beq m 0)))
  | (2, r, _), (5, q) => decide (iv_rl[q.toNat]? = some r.toNat)
  | (3, _, _), (4, _) => true
  | _, _ => false
def iv_sB (c : s_C) (ro : y_R1) : Bool := decide (ro.1 = c.1) && (Nat.beq ro.2.1 c.2.1 && Nat.beq ro.2.2.1 c.2.2.1)
def iv_iB (q : Nat) : Bool := match iv_rl[q]? with
  | some r => (match s_litH[q]? with
    | some c => (match y_Rc.1[r]? with
      | some ro => iv_sB c ro && (ro.2.2.2.2.isEmpty || (bif ro.1 then c.2.2.2.2.isEmpty && (Nat.beq ro.2.2.2.1 0 && iv_gB (y_sp ro 0) c.2.2.2.1) else (List.range ro.2.2.1).all (fun j => iv_gB (y_sp ro j) (s_lk c.2.2.2.2 j c.2.2.2.1))))
      | none => false)
    | none => false)
  | none => false
theorem iv_iB_ok : (List.range 107).all iv_iB = true := by decide +kernel
def st_v (u : s_V) : Int := match u with
  | (0, n) => n
  | (1, n) => n
  | _ => 0
def st_M (q : Nat) (j : Int) : Int := match s_litH[q]? with
  | some c => st_v (s_lk c.2.2.2.2 j.toNat c.2.2.2.1)
  | none => 0
def iv_xB (sp : y_V) (s : Nat) (u : s_V) : Bool := match sp, u with
  | (0, lo, hi, _), (0, n) => decide (-10000 ≤ n) && (decide (n ≤ 10000) && (decide (lo ≤ n) && decide (n ≤ hi)))
  | (1, lo, hi, _), (1, n) => decide (n = 0) && (decide (lo ≤ 0) && decide ((0 : Int) ≤ hi))
  | (2, _, _), (5, q) => Nat.beq q.toNat s
  | _, _ => false
def iv_jB (q : Nat) : Bool := match xm_I q with
  | some (ro, S) => (match s_litH[q]? with
    | some c => iv_sB c ro && (bif ro.1 then c.2.2.2.2.isEmpty && (iv_xB (xa_sp ro 0) 0 c.2.2.2.1 && !Nat.beq c.2.2.2.1.1 5) else (List.range ro.2.2.1).all (fun j => iv_xB (xa_sp ro j) (S j) (s_lk c.2.2.2.2 j c.2.2.2.1)))
    | none => false)
  | none => false
theorem iv_jB_ok : (List.range 106).all (fun q => Nat.blt q 60 || iv_jB q) = true := by decide +kernel
theorem iv_uB_ok : (List.range 107).all (fun q => match iv_rl[q]? with
  | some r => !Nat.beq r 8 || Nat.beq q 38
  | none => true) = true := by decide +kernel
section L66
variable {σ : Nat → Int} {ρ : Nat → Nat} {b : Nat}
theorem iv_sB_eq {c : s_C} {ro : y_R1} (h : iv_sB c ro = true) : ro.1 = c.1 ∧ ro.2.1 = c.2.1 ∧ ro.2.2.1 = c.2.2.1 := by
  unfold iv_sB at h
  simp only [Bool.and_eq_true, decide_eq_true_eq, Nat.beq_eq] at h
  exact h
def iv_W0 (A : Nat → Nat) : y_W := (List.range 107).map (fun q => (A q, iv_rl.getD q 0))
theorem iv_W0_at {A : Nat → Nat} {q r : Nat} (h : iv_rl[q]? = some r) : (iv_W0 A)[q]? = some (A q, r) := by
  have hq : q < 107 := (List.getElem?_eq_some_iff.mp h).1
  unfold iv_W0
  rw [List.getElem?_map, List.getElem?_range hq]
  show some (A q, iv_rl.getD q 0) = _
  rw [List.getD_eq_getElem?_getD, h]
  rfl
theorem iv_W0_inv {A : Nat → Nat} {q a r : Nat} (h : (iv_W0 A)[q]? = some (a, r)) : q < 107 ∧ a = A q ∧ iv_rl[q]? = some r := by
  have hl := (List.getElem?_eq_some_iff.mp h).1
  have hq : q < 107 := by
    unfold iv_W0 at hl
    rw [List.length_map, List.length_range] at hl
    exact hl
  have hr : iv_rl[q]? = some iv_rl[q] := List.getElem?_eq_getElem hq
  rw [iv_W0_at hr] at h
  cases h
  exact ⟨hq, rfl, hr⟩
theorem iv_gB_ok {v : y_V} {u : s_V} (h : iv_gB v u = true) : y_g (iv_W0 ρ) (fun _ => 0) v (s_cv σ ρ b u) := by
  unfold iv_gB at h
  split at h
  next lo hi k c m d n =>
    simp only [Bool.and_eq_true, decide_eq_true_eq, Nat.beq_eq] at h
    obtain ⟨h1, h2, h3, h4, h5, h6⟩ := h
    have e : (Int32.ofInt n).toInt = n := z_i32 h1 h2
    refine ⟨Int32.ofInt n, rfl, by rw [e]; exact h3, by rw [e]; exact h4, fun h => absurd h5 h, fun h => absurd h6 h⟩
  next lo hi k c m d n =>
    simp only [Bool.and_eq_true, decide_eq_true_eq, Nat.beq_eq] at h
    obtain ⟨h1, h3, h4, h5, h6⟩ := h
    subst h1
    exact ⟨Int64.ofInt 0, rfl, h3, h4, fun h => absurd h5 h, fun h => absurd h6 h⟩
  next r x q =>
    rw [decide_eq_true_eq] at h
    exact ⟨q.toNat, ρ q.toNat, rfl, iv_W0_at h⟩
  next => exact Or.inl rfl
  next => cases h
theorem iv_at_H {q : Nat} {c : s_C} (h : s_litH[q]? = some c) : (s_ch σ ρ b 0 s_litH)[q]? = some (ρ q, s_cc σ ρ b c) := by
  have := s_ch_get (σ := σ) (ρ := ρ) (b := b) s_litH 0 q
  rw [h, Nat.zero_add] at this
  exact this
theorem iv_first_cW : y_H (iv_ct (s_ch σ ρ b 0 s_litH)) y_Rc (iv_W0 ρ) (fun _ => 0) (s_ch σ ρ b 0 s_litH) := by
  refine ⟨?_, fun q a r hq => ?_, fun p hp => ?_⟩
  · have : ∀ (H : List s_C) (i : Nat), (s_ch σ ρ b i H).length = H.length := by
      intro H
      induction H with
      | nil => intro i; rfl
      | cons c t ih => intro i; exact congrArg (· + 1) (ih (i + 1))
    rw [this]
    unfold iv_W0
    rw [List.length_map, List.length_range]
    rfl
  · obtain ⟨hl, rfl, hr⟩ := iv_W0_inv hq
    have h1 := List.all_eq_true.mp iv_iB_ok q (List.mem_range.mpr hl)
    unfold iv_iB at h1
    rw [hr] at h1
    simp only at h1
    split at h1
    next c ec =>
      split at h1
      next ro er =>
        rw [Bool.and_eq_true, Bool.or_eq_true] at h1
        obtain ⟨hs, h2⟩ := h1
        obtain ⟨s1, s2, s3⟩ := iv_sB_eq hs
        refine ⟨ro, _, er, by rw [iv_at_H ec, s1, s2, s3]; rfl, fun j hj => ?_⟩
        rcases h2 with h2 | h2
        · refine Or.inl ⟨List.isEmpty_iff.mp h2, ?_⟩
          unfold iv_ct
          rw [iv_at_H ec]
          rfl
        · refine Or.inr ⟨?_, fun h => (y_Rc_no er h).elim⟩
          unfold y_spj
          cases e1 : ro.1
          · rw [e1, cond_false] at h2
            rw [if_neg (by decide)]
            exact iv_gB_ok (List.all_eq_true.mp h2 j (List.mem_range.mpr hj))
          · rw [e1, cond_true] at h2
            simp only [Bool.and_eq_true, Nat.beq_eq, List.isEmpty_iff] at h2
            obtain ⟨g1, g2, g3⟩ := h2
            rw [if_pos rfl, if_pos (Or.inl g2), g1]
            exact iv_gB_ok g3
      next => cases h1
    next => cases h1
  · have hp' : p = (300001, 8, 5) := by
      have : p ∈ [(300001, 8, 5)] := hp
      simpa using this
    subst hp'
    have un : ∀ q a : Nat, (iv_W0 ρ)[q]? = some (a, 8) → q = 38 := fun q a h => by
      obtain ⟨hl, -, hr⟩ := iv_W0_inv h
      have h1 := List.all_eq_true.mp iv_uB_ok q (List.mem_range.mpr hl)
      rw [hr] at h1
      simp only [Bool.or_eq_true, Nat.beq_eq, Bool.not_eq_true'] at h1
      rcases h1 with h1 | h1
      · exact absurd h1 (by decide)
      · exact h1
    have h38 := iv_at_H (σ := σ) (ρ := ρ) (b := b) (q := 38) (c := (false, 2, 7, (0, 0), [(0, (5, 39)), (1, (5, 40)), (2, (5, 41)), (3, (5, 42)), (4, (0, 0)), (5, (0, 0)), (6, (0, 0))])) rfl
    exact ⟨fun q q' a a' h h' => (un q a h).trans (un q' a' h').symm, 38, ρ 38, _, _, Int32.ofInt 0, iv_W0_at rfl, rfl, h38, rfl, rfl⟩
theorem iv_xB_ok {sp : y_V} {s : Nat} {u : s_V} (h : iv_xB sp s u = true) : xa_g ρ (xa_cw sp s (st_v u)) (s_cv σ ρ b u) := by
  unfold iv_xB at h
  split at h
  next lo hi x n =>
    simp only [Bool.and_eq_true, decide_eq_true_eq] at h
    obtain ⟨h1, h2, h3, h4⟩ := h
    exact ⟨Int32.ofInt n, rfl, z_i32 h1 h2, h3, h4⟩
  next lo hi x n =>
    simp only [Bool.and_eq_true, decide_eq_true_eq] at h
    obtain ⟨h1, h3, h4⟩ := h
    subst h1
    exact ⟨Int64.ofInt 0, rfl, rfl, h3, h4⟩
  next r x q =>
    rw [Nat.beq_eq] at h
    show Value.ref (ρ q.toNat) = .ref (ρ s)
    rw [h]
  next => cases h
theorem iv_xB_s {sp : y_V} {s s' : Nat} {u : s_V} (h5 : u.1 ≠ 5) (h : iv_xB sp s u = true) : iv_xB sp s' u = true := by
  unfold iv_xB at h ⊢
  split at h
  next => exact h
  next => exact h
  next => exact absurd rfl h5
  next => cases h
theorem st_Inv : xm_Inv st_M := by
  refine ⟨fun w w0 w1 => ?_, fun m m0 m1 => ?_, fun p p0 p1 => ?_, ?_, fun i i0 i1 i2 => ?_⟩
  · have : w < 0 := w1
    omega
  · have : m < 0 := m1
    omega
  · have : p < 0 := p1
    omega
  · decide
  · have e : st_M 105 i = 0 := rfl
    rw [e] at i2
    cases i2
theorem iv_first_mod : iv_mod ρ (s_ch σ ρ b 0 s_litH) := by
  refine ⟨st_M, ⟨rfl, fun q ro S hq => ?_, fun _ _ => rfl⟩, st_Inv⟩
  have hlt := xm_I_lt hq
  have h1 := List.all_eq_true.mp iv_jB_ok q (List.mem_range.mpr (by omega))
  rw [Bool.or_eq_true, Nat.blt_eq] at h1
  have h1 := h1.resolve_left (by omega)
  unfold iv_jB at h1
  rw [hq] at h1
  simp only at h1
  split at h1
  next c ec =>
    rw [Bool.and_eq_true] at h1
    obtain ⟨hs, h2⟩ := h1
    obtain ⟨s1, s2, s3⟩ := iv_sB_eq hs
    refine ⟨_, by rw [iv_at_H ec, s1, s2, s3]; rfl, fun j hj => ?_⟩
    have em : st_M q (j : Int) = st_v (s_lk c.2.2.2.2 j c.2.2.2.1) := by
      unfold st_M
      rw [ec]
      rfl
    unfold xa_cv
    rw [em]
    cases e1 : ro.1
    · rw [e1, cond_false] at h2
      exact iv_xB_ok (List.all_eq_true.mp h2 j (List.mem_range.mpr hj))
    · rw [e1, cond_true] at h2
      simp only [Bool.and_eq_true, List.isEmpty_iff, Bool.not_eq_true'] at h2
      obtain ⟨g1, g2, g3⟩ := h2
      have ej : xa_sp ro j = xa_sp ro 0 := by
        unfold xa_sp
        rw [e1]
        rfl
      rw [ej]
      have e5 : c.2.2.2.1.1 ≠ 5 := fun h => by
        rw [h] at g3
        cases g3
      have g4 := iv_xB_s (s' := S j) e5 g2
      have := iv_xB_ok (σ := σ) (ρ := ρ) (b := b) g4
      rw [g1]
      exact this
  next => cases h1
theorem iv_ctL {q : Nat} {c : s_C} (h : s_litH[q]? = some c) (j : Nat) : iv_ct (s_ch σ ρ b 0 s_litH) q j = s_cv σ ρ b (s_lk c.2.2.2.2 j c.2.2.2.1) := by
  unfold iv_ct
  rw [iv_at_H h]
  rfl
def iv_fB (q : Nat) : Bool := match xl_I false q with
  | some (ro, S) => (match s_litH[q]? with
    | some c => (List.range ro.2.2.1).all (fun j => !Nat.beq (xa_sp ro j).1 2 || decide (s_lk c.2.2.2.2 j c.2.2.2.1 = (5, ((S j : Nat) : Int))))
    | none => false)
  | none => true
set_option maxRecDepth 100000 in
theorem iv_fB_ok : (List.range 60).all iv_fB = true := by decide +kernel
theorem iv_first_F : iv_F false ρ (s_ch σ ρ b 0 s_litH) := by
  intro q ro S hq j hj h2
  have h1 := List.all_eq_true.mp iv_fB_ok q (List.mem_range.mpr (xl_fit false q ro S hq).1)
  unfold iv_fB at h1
  rw [hq] at h1
  simp only at h1
  split at h1
  next c ec =>
    have h3 := List.all_eq_true.mp h1 j (List.mem_range.mpr hj)
    rw [h2, Bool.or_eq_true, decide_eq_true_eq] at h3
    rcases h3 with h3 | h3
    · cases h3
    · rw [iv_ctL ec, h3]
      show Value.ref (ρ ((S j : Nat) : Int).toNat) = _
      rw [Int.toNat_natCast]
  next => cases h1
/-- these numbers are 0 at the beginning -/
def iv_z1 (q lo n : Nat) : Bool := match s_litH[q]? with
  | some c => (List.range n).all (fun j => decide (s_lk c.2.2.2.2 (lo + j) c.2.2.2.1 = (0, 0)))
  | none => false
theorem iv_z1_ok {q lo n : Nat} (h : iv_z1 q lo n = true) {i : Int} (i0 : (lo : Int) ≤ i) (i1 : i < (lo : Int) + n) : iv_num (s_ch σ ρ b 0 s_litH) q i = 0 := by
  unfold iv_z1 at h
  split at h
  next c ec =>
    have h3 := of_decide_eq_true (List.all_eq_true.mp h (i.toNat - lo) (List.mem_range.mpr (by omega)))
    rw [show lo + (i.toNat - lo) = i.toNat by omega] at h3
    unfold iv_num
    rw [iv_ctL ec, h3]
    rfl
  next => cases h
set_option maxRecDepth 100000 in
theorem iv_z1_all : iv_z1 1 9 2 = true ∧ iv_z1 60 0 1 = true ∧ iv_z1 60 6 1 = true ∧ (iv_z1 2 0 14 = true ∧ iv_z1 3 0 14 = true ∧ iv_z1 5 0 14 = true ∧ iv_z1 6 0 14 = true) ∧ (iv_z1 61 0 14 = true ∧ iv_z1 62 0 14 = true ∧ iv_z1 64 0 14 = true ∧ iv_z1 65 0 14 = true) ∧ (iv_z1 7 0 16 = true ∧ iv_z1 8 0 16 = true ∧ iv_z1 66 0 16 = true ∧ iv_z1 67 0 16 = true) ∧ iv_z1 105 0 4 = true := by decide +kernel
def iv_nB (c : Option s_C) : Bool := match c with
  | some c => (List.range 4).all (fun i => decide ((s_lk c.2.2.2.2 i c.2.2.2.1).1 = 4))
  | none => false
set_option maxRecDepth 100000 in
theorem iv_nB_ok : iv_nB s_litH[11]? = true := by decide +kernel
theorem iv_first_n {i : Nat} (hi : i < 4) : iv_ct (s_ch σ ρ b 0 s_litH) 11 i = .null := by
  have h := iv_nB_ok
  unfold iv_nB at h
  split at h
  next c ec =>
    have h3 := of_decide_eq_true (List.all_eq_true.mp h i (List.mem_range.mpr hi))
    rw [iv_ctL ec]
    generalize s_lk c.2.2.2.2 i c.2.2.2.1 = v at h3
    obtain ⟨k, n⟩ := v
    have h3 : k = 4 := h3
    subst h3
    rfl
  next => cases h
theorem iv_firstJ : iv_J ρ (s_ch σ ρ b 0 s_litH) := by
  obtain ⟨z1, z2, z3, ⟨a1, a2, a3, a4⟩, ⟨b1, b2, b3, b4⟩, ⟨c1, c2, c3, c4⟩, d1⟩ := iv_z1_all
  refine ⟨iv_W0 ρ, false, ⟨⟨_, iv_first_cW⟩, fun q r h => iv_W0_at h, iv_first_mod⟩, iv_first_F, ⟨⟨?_, ?_, fun i i0 i1 => ⟨?_, ?_, ?_, ?_, (iv_z1_ok (show iv_z1 4 0 14 = true by decide +kernel) (by omega) (by omega)).trans (iv_z1_ok (show iv_z1 63 0 14 = true by decide +kernel) (by omega) (by omega)).symm⟩, fun i i0 i1 => ⟨?_, ?_⟩⟩, lm_S0 ((iv_z1_ok (show iv_z1 30 1 1 = true by decide +kernel) (by decide) (by decide)).trans (iv_z1_ok (show iv_z1 60 18 1 = true by decide +kernel) (by decide) (by decide)).symm) (fun i i0 i1 => by rw [iv_z1_ok (show iv_z1 31 0 80 = true by decide +kernel) (by omega) (by omega), iv_z1_ok (show iv_z1 73 0 80 = true by decide +kernel) (by omega) (by omega)]; rfl) (iv_z1_ok (show iv_z1 50 4 1 = true by decide +kernel) (by decide) (by decide)) (iv_z1_ok (show iv_z1 60 11 1 = true by decide +kernel) (by decide) (by decide))⟩, fun _ => 0, fun i hi => Or.inl ⟨rfl, iv_first_n hi, ?_⟩, fun _ _ _ _ _ => Or.inl rfl⟩
  · rw [iv_z1_ok z1 (by decide) (by decide), iv_z1_ok z2 (by decide) (by decide)]
  · rw [iv_z1_ok z1 (by decide) (by decide), iv_z1_ok z3 (by decide) (by decide)]
  · rw [iv_z1_ok a1 (by omega) (by omega), iv_z1_ok b1 (by omega) (by omega)]
  · rw [iv_z1_ok a2 (by omega) (by omega), iv_z1_ok b2 (by omega) (by omega)]
  · rw [iv_z1_ok a3 (by omega) (by omega), iv_z1_ok b3 (by omega) (by omega)]
  · rw [iv_z1_ok a4 (by omega) (by omega), iv_z1_ok b4 (by omega) (by omega)]
  · rw [iv_z1_ok c1 (by omega) (by omega), iv_z1_ok c3 (by omega) (by omega)]
  · rw [iv_z1_ok c2 (by omega) (by omega), iv_z1_ok c4 (by omega) (by omega)]
  · exact iv_z1_ok d1 (by omega) (by omega)
end L66

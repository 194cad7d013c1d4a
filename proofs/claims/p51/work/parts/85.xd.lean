-- doubles in the machine over numbers
section XD1
variable {CALL : Nat → List Value → g_H → Nat → Nat → (Option Value → g_H → Prop) → Prop} {cc : ByteArray} {o nL : Nat} {ini : Bool} {bc bs : Nat} {P : g_S → Prop}
variable {I : xa_I} {A : Nat → Nat} {h0 : g_H}
/-- a number above 0 -/
def fd_pos (m : UInt64) : Prop := ∃ t d r, FP.Core.decode FP.Core.b64 m.toNat = .fin t d r ∧ d ≠ 0
abbrev xd_v (m : UInt64) : xa_V := (5, 0, 0, 0, (m.toNat : Int))
/-- what else may be used of a state's predicate where there are doubles -/
def xd_go (o nL : Nat) (full : List s_I) (Q : xa_Q) : Prop :=
  (∀ (pc kd a b : Nat) (v : Int) (t : List s_I) (L : xa_L) (rest : List xa_V) (M : xa_M) (p : Nat) (lo hi n : Int), s_jump full pc = some ((pc, 1, 60, kd, a, b, v, .i2d) :: t) → (∀ m : UInt64, vf_n64 m → (1 ≤ n → n ≤ 2000 → fd_pos m) → Q (pc + 1) L (xd_v m :: rest) M) → Q pc L ((0, p, lo, hi, n) :: rest) M) ∧
  (∀ (pc kd a b : Nat) (v : Int) (t : List s_I) (L : xa_L) (rest : List xa_V) (M : xa_M) (x y : UInt64), s_jump full pc = some ((pc, 1, 60, kd, a, b, v, .ddiv) :: t) → vf_n64 x → fd_pos y → (∀ m : UInt64, vf_n64 m → Q (pc + 1) L (xd_v m :: rest) M) → Q pc L (xd_v y :: xd_v x :: rest) M) ∧
  (∀ (pc kd a b : Nat) (v : Int) (t : List s_I) (L : xa_L) (rest : List xa_V) (M : xa_M) (x y : UInt64), s_jump full pc = some ((pc, 1, 60, kd, a, b, v, .dmul) :: t) → vf_n64 x → fd_pos y → (∀ m : UInt64, vf_n64 m → Q (pc + 1) L (xd_v m :: rest) M) → Q pc L (xd_v y :: xd_v x :: rest) M) ∧
  (∀ (pc kd a b : Nat) (v : Int) (t : List s_I) (L : xa_L) (rest : List xa_V) (M : xa_M) (x y : UInt64) (op : ClassFile.CmpOp), s_jump full pc = some ((pc, 1, 60, kd, a, b, v, .dcmp op) :: t) → (∀ n : Int, Q (pc + 1) L ((0, 0, -2147483648, 2147483647, n) :: rest) M) → Q pc L (xd_v y :: xd_v x :: rest) M) ∧
  (∀ (pc kd a b : Nat) (v : Int) (t : List s_I) (L : xa_L) (rest : List xa_V) (M : xa_M) (x : UInt64) (k : Fin 4), s_jump full pc = some ((pc, 1, 60, kd, a, b, v, .dstore_n k) :: t) → k + 1 < nL → Q (pc + 1) ((k, xd_v x) :: xa_fil2 k L) rest M → Q pc L (xd_v x :: rest) M) ∧
  (∀ (pc kd a b : Nat) (v : Int) (t : List s_I) (L : xa_L) (rest : List xa_V) (M : xa_M) (x : UInt64) (k : Fin 4), s_jump full pc = some ((pc, 1, 60, kd, a, b, v, .dload_n k) :: t) → xa_find L k = some (xd_v x) → Q (pc + 1) L (xd_v x :: rest) M → Q pc L rest M) ∧
  (∀ (pc kd a b : Nat) (v : Int) (t : List s_I) (L : xa_L) (rest : List xa_V) (M : xa_M) (i a0 b0 : Nat) (w : Int) (ps : List Nat), s_jump full pc = some ((pc, 3, 60, kd, a, b, v, .ldc2_w i) :: t) → (o, i, 12, a0, b0, w, ps) ∈ g_lk → (∀ m : UInt64, Q (pc + 3) L (xd_v m :: rest) M) → Q pc L rest M)
theorem xd_dec {full t : List s_I} {pc len kd a b : Nat} {v : Int} {ins : Instr} (hfull : ∀ r ∈ full, s_okI cc o r = true) (hj : s_jump full pc = some ((pc, len, 60, kd, a, b, v, ins) :: t)) : decode cc pc = .ok (ins, len) := by
  have hI := hfull _ (s_jump_in hj _ List.mem_cons_self)
  unfold s_okI at hI
  rw [Bool.and_eq_true] at hI
  obtain ⟨h1, -⟩ := hI
  split at h1
  next i n e =>
    simp only [Bool.and_eq_true, decide_eq_true_eq, Nat.beq_eq] at h1
    obtain ⟨rfl, rfl, -⟩ := h1
    exact e
  next => cases h1
theorem xd_val {m : UInt64} {x : Value} (h : xa_g A (xd_v m) x) : x = .double m := by
  obtain ⟨z, e, hz⟩ := h
  have : z = m := UInt64.toNat_inj.mp (by omega)
  rw [e, this]
theorem xd_valI {m : UInt64} : xa_g A (xd_v m) (.double m) := ⟨m, rfl, rfl⟩
theorem xd_go_ok (hcl : ∀ S, g_pre CALL o nL ini bc bs cc P S → P S) {full : List s_I} (hfull : ∀ r ∈ full, s_okI cc o r = true) : xd_go o nL full (xa_P P I A h0) := by
  refine ⟨?_, ?_, ?_, ?_, ?_, ?_, ?_⟩
  · intro pc kd a b v t L rest M p lo hi n hj k h Ls sts hH hL hS
    obtain ⟨x, xs, rfl, hg, hS'⟩ := xa_gS_cons hS
    obtain ⟨z, rfl, z1, z2, z3⟩ := hg
    exact hcl _ ⟨_, _, xd_dec hfull hj, Or.inr (Or.inl (Or.inr (Or.inr (Or.inr (Or.inr (Or.inr (Or.inr (Or.inr (Or.inr (Or.inr (Or.inl ⟨_, _, rfl, rfl, rfl, k (FP.i2d z) (fd_i2d z) (fun a1 a2 => fd_int (by omega) (by omega)) h Ls _ hH hL ⟨xd_valI, hS'⟩⟩)))))))))))⟩
  · intro pc kd a b v t L rest M x y hj hx hy k h Ls sts hH hL hS
    obtain ⟨y', ys, rfl, hg, hS'⟩ := xa_gS_cons hS
    obtain ⟨x', xs, rfl, hg2, hS2⟩ := xa_gS_cons hS'
    rw [xd_val hg, xd_val hg2]
    obtain ⟨t1, d1, r1, e1, e2⟩ := hy
    have hv := fd_div hx e1 e2
    exact hcl _ ⟨_, _, xd_dec hfull hj, Or.inr (Or.inl (Or.inr (Or.inr (Or.inr (Or.inr (Or.inr (Or.inr (Or.inr (Or.inr (Or.inr (Or.inr (Or.inl ⟨_, _, _, rfl, rfl, hv, rfl, k _ hv h Ls _ hH hL ⟨xd_valI, hS2⟩⟩))))))))))))⟩
  · intro pc kd a b v t L rest M x y hj hx hy k h Ls sts hH hL hS
    obtain ⟨y', ys, rfl, hg, hS'⟩ := xa_gS_cons hS
    obtain ⟨x', xs, rfl, hg2, hS2⟩ := xa_gS_cons hS'
    rw [xd_val hg, xd_val hg2]
    obtain ⟨t1, d1, r1, e1, e2⟩ := hy
    have hv := fd_mul hx e1 e2
    exact hcl _ ⟨_, _, xd_dec hfull hj, Or.inr (Or.inl (Or.inr (Or.inr (Or.inr (Or.inr (Or.inr (Or.inr (Or.inr (Or.inr (Or.inr (Or.inr (Or.inr (Or.inl ⟨_, _, _, rfl, rfl, hv, rfl, k _ hv h Ls _ hH hL ⟨xd_valI, hS2⟩⟩)))))))))))))⟩
  · intro pc kd a b v t L rest M x y op hj k h Ls sts hH hL hS
    obtain ⟨y', ys, rfl, hg, hS'⟩ := xa_gS_cons hS
    obtain ⟨x', xs, rfl, hg2, hS2⟩ := xa_gS_cons hS'
    rw [xd_val hg, xd_val hg2]
    refine hcl _ ⟨_, _, xd_dec hfull hj, Or.inr (Or.inl (Or.inr (Or.inr (Or.inr (Or.inr (Or.inr (Or.inr (Or.inr (Or.inr (Or.inr (Or.inr (Or.inr (Or.inr ⟨_, _, _, _, rfl, rfl, rfl, k _ h Ls _ hH hL ⟨⟨_, rfl, rfl, Int32.le_toInt _, ?_⟩, hS2⟩⟩)))))))))))))⟩
    have := Int32.toInt_lt (Op.cmpValue (FP.dcmp x y) op)
    omega
  · intro pc kd a b v t L rest M x k hj hk kk h Ls sts hH hL hS
    obtain ⟨x', xs, rfl, hg2, hS2⟩ := xa_gS_cons hS
    rw [xd_val hg2]
    exact hcl _ ⟨_, _, xd_dec hfull hj, Or.inl (Or.inr (Or.inr (Or.inr (Or.inl ⟨k, _, _, _, rfl, rfl, rfl, hk, kk h _ _ hH (xa_gL_st2 hL xd_valI) hS2⟩))))⟩
  · intro pc kd a b v t L rest M x k hj hf kk h Ls sts hH hL hS
    obtain ⟨z, hz, hg⟩ := hL _ (xa_find_in hf)
    have e := xd_val hg
    subst e
    exact hcl _ ⟨_, _, xd_dec hfull hj, Or.inl (Or.inr (Or.inl ⟨k, _, _, rfl, hz, rfl, kk h _ _ hH hL ⟨xd_valI, hS⟩⟩))⟩
  · intro pc kd a b v t L rest M i a0 b0 w ps hj hl kk h Ls sts hH hL hS
    exact hcl _ ⟨_, _, xd_dec hfull hj, Or.inl (Or.inr (Or.inr (Or.inr (Or.inr (Or.inr (Or.inr (Or.inr (Or.inr (Or.inr (Or.inr (Or.inr ⟨i, 12, a0, b0, w, ps, rfl, rfl, Or.inr rfl, hl, kk (UInt64.ofNat w.toNat) h _ _ hH hL ⟨xd_valI, hS⟩⟩)))))))))))⟩
end XD1
theorem xd_meth {I : xa_I} {A : Nat → Nat} {h0 : g_H} {d j : Nat} {Q0 : s_MI} (hq : s_mi[j]? = some Q0) (hz : Q0.2.2.2.1 = 0 ∧ Q0.2.2.2.2.1 = 0) {full : List s_I} (hfu : s_codes.getD j [] = full) {vs : List xa_V} {M : xa_M} {post : Option xa_V → xa_M → Prop} (hlen : Nat.ble (xa_sum vs) Q0.1 = true)
    (body : xa_Mok I M → (∀ v ∈ vs, xa_vok v) → ∀ Q : xa_Q, xa_go I (xa_C I A h0 d) post full Q0.1 Q0.2.1 Q → xd_go Q0.2.2.2.2.2 Q0.1 full Q → Q 0 (xa_args 0 vs) [] M) : xa_C I A h0 (d + 1) j vs M post := by
  intro h xs hH hA post' hpost
  obtain ⟨m1, m2, m3, m4, m5⟩ := s_mi_ok j Q0 hq
  obtain ⟨c1, c2⟩ := s_codes_ok j Q0 hq
  rw [hfu] at c1 c2
  refine ⟨m1, by rw [m2, xa_slA hA]; exact Nat.le_of_ble_eq_true hlen, ?_⟩
  rw [m5, m2, m4]
  intro P hend hcl
  have hvs : ∀ {vs : List xa_V} {xs : List Value}, xa_gS A vs xs → ∀ v ∈ vs, xa_vok v := by
    intro vs
    induction vs with
    | nil => intro xs _ v hv; cases hv
    | cons w ws ih =>
      intro xs hS v hv
      obtain ⟨x, ys, rfl, hg, hS'⟩ := xa_gS_cons hS
      rcases List.mem_cons.mp hv with rfl | hv
      · exact fun hk => xa_num hk hg
      · exact ih hS' v hv
  have hgo : xa_go I (xa_C I A h0 d) post full Q0.1 Q0.2.1 (xa_P P I A h0) := by
    refine ⟨fun n cuts pc L st M e => ?_, fun pc L L' st M e hQ h Ls sts hH hL hS => hQ h Ls sts hH (xa_sub_ok e hL) hS, fun pc L st M hQ h Ls sts hH hL hS => hQ (xa_H_Mok hH) (fun p hp hk => ?_) h Ls sts hH hL hS⟩
    · exact xa_jp_ok c2 e (xa_wp_ok hcl s_ft_ok (fun j q hq => s_mi_ok j q hq) (fun j vs M post hc h xs hH hA post' hp => hc h xs hH hA post' hp) c2 m3 hend hpost n)
    · obtain ⟨x, -, hg⟩ := hL p hp
      exact xa_num hk hg
  exact body (xa_H_Mok hH) (hvs hA) _ hgo (xd_go_ok hcl c2) h (lv_args 0 xs) [] hH (xa_args_ok hA) trivial

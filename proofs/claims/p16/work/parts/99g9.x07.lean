-- isFitting of the reference, told
set_option maxRecDepth 20000
section XD1
variable {CALL : Nat → List Value → g_H → Nat → Nat → (Option Value → g_H → Prop) → Prop} {cc : ByteArray} {o nL : Nat} {ini : Bool} {bc bs : Nat} {P : g_S → Prop}
variable {I : xa_I} {A : Nat → Nat} {h0 : g_H}
/-- what else may be used of a state's predicate where there are doubles -/
def xd_goF (o nL : Nat) (full : List s_I) (Q : xa_Q) : Prop :=
  (∀ (pc kd a b : Nat) (v : Int) (t : List s_I) (L : xa_L) (rest : List xa_V) (M : xa_M) (p : Nat) (lo hi n : Int), s_jump full pc = some ((pc, 1, 60, kd, a, b, v, .i2d) :: t) → (∀ z : Int32, z.toInt = n → Q (pc + 1) L (xd_v (FP.i2d z) :: rest) M) → Q pc L ((0, p, lo, hi, n) :: rest) M) ∧
  (∀ (pc kd a b : Nat) (v : Int) (t : List s_I) (L : xa_L) (rest : List xa_V) (M : xa_M) (x y : UInt64), s_jump full pc = some ((pc, 1, 60, kd, a, b, v, .ddiv) :: t) → vf_n64 x → fd_pos y → Q (pc + 1) L (xd_v (FP.ddiv x y) :: rest) M → Q pc L (xd_v y :: xd_v x :: rest) M) ∧
  (∀ (pc kd a b : Nat) (v : Int) (t : List s_I) (L : xa_L) (rest : List xa_V) (M : xa_M) (x y : UInt64), s_jump full pc = some ((pc, 1, 60, kd, a, b, v, .dmul) :: t) → vf_n64 x → fd_pos y → Q (pc + 1) L (xd_v (FP.dmul x y) :: rest) M → Q pc L (xd_v y :: xd_v x :: rest) M) ∧
  (∀ (pc kd a b : Nat) (v : Int) (t : List s_I) (L : xa_L) (rest : List xa_V) (M : xa_M) (x y : UInt64) (op : ClassFile.CmpOp), s_jump full pc = some ((pc, 1, 60, kd, a, b, v, .dcmp op) :: t) → (∀ n : Int, n = (Op.cmpValue (FP.dcmp x y) op).toInt → Q (pc + 1) L ((0, 0, -2147483648, 2147483647, n) :: rest) M) → Q pc L (xd_v y :: xd_v x :: rest) M) ∧
  (∀ (pc kd a b : Nat) (v : Int) (t : List s_I) (L : xa_L) (rest : List xa_V) (M : xa_M) (x : UInt64) (k : Fin 4), s_jump full pc = some ((pc, 1, 60, kd, a, b, v, .dstore_n k) :: t) → k + 1 < nL → Q (pc + 1) ((k, xd_v x) :: xa_fil2 k L) rest M → Q pc L (xd_v x :: rest) M) ∧
  (∀ (pc kd a b : Nat) (v : Int) (t : List s_I) (L : xa_L) (rest : List xa_V) (M : xa_M) (x : UInt64) (k : Fin 4), s_jump full pc = some ((pc, 1, 60, kd, a, b, v, .dload_n k) :: t) → xa_find L k = some (xd_v x) → Q (pc + 1) L (xd_v x :: rest) M → Q pc L rest M) ∧
  (∀ (pc kd a b : Nat) (v : Int) (t : List s_I) (L : xa_L) (rest : List xa_V) (M : xa_M) (i a0 b0 : Nat) (w : Int) (ps : List Nat), s_jump full pc = some ((pc, 3, 60, kd, a, b, v, .ldc2_w i) :: t) → (o, i, 12, a0, b0, w, ps) ∈ g_lk → Q (pc + 3) L (xd_v (UInt64.ofNat w.toNat) :: rest) M → Q pc L rest M)
theorem xd_goF_ok (hcl : ∀ S, g_pre CALL o nL ini bc bs cc P S → P S) {full : List s_I} (hfull : ∀ r ∈ full, s_okI cc o r = true) : xd_goF o nL full (xa_P P I A h0) := by
  refine ⟨?_, ?_, ?_, ?_, ?_, ?_, ?_⟩
  · intro pc kd a b v t L rest M p lo hi n hj k h Ls sts hH hL hS
    obtain ⟨x, xs, rfl, hg, hS'⟩ := xa_gS_cons hS
    obtain ⟨z, rfl, z1, z2, z3⟩ := hg
    exact hcl _ ⟨_, _, xd_dec hfull hj, Or.inr (Or.inl (Or.inr (Or.inr (Or.inr (Or.inr (Or.inr (Or.inr (Or.inr (Or.inr (Or.inr (Or.inl ⟨_, _, rfl, rfl, rfl, k z (by omega) h Ls _ hH hL ⟨xd_valI, hS'⟩⟩)))))))))))⟩
  · intro pc kd a b v t L rest M x y hj hx hy k h Ls sts hH hL hS
    obtain ⟨y', ys, rfl, hg, hS'⟩ := xa_gS_cons hS
    obtain ⟨x', xs, rfl, hg2, hS2⟩ := xa_gS_cons hS'
    rw [xd_val hg, xd_val hg2]
    obtain ⟨t1, d1, r1, e1, e2⟩ := hy
    have hv := fd_div hx e1 e2
    exact hcl _ ⟨_, _, xd_dec hfull hj, Or.inr (Or.inl (Or.inr (Or.inr (Or.inr (Or.inr (Or.inr (Or.inr (Or.inr (Or.inr (Or.inr (Or.inr (Or.inl ⟨_, _, _, rfl, rfl, hv, rfl, k h Ls _ hH hL ⟨xd_valI, hS2⟩⟩))))))))))))⟩
  · intro pc kd a b v t L rest M x y hj hx hy k h Ls sts hH hL hS
    obtain ⟨y', ys, rfl, hg, hS'⟩ := xa_gS_cons hS
    obtain ⟨x', xs, rfl, hg2, hS2⟩ := xa_gS_cons hS'
    rw [xd_val hg, xd_val hg2]
    obtain ⟨t1, d1, r1, e1, e2⟩ := hy
    have hv := fd_mul hx e1 e2
    exact hcl _ ⟨_, _, xd_dec hfull hj, Or.inr (Or.inl (Or.inr (Or.inr (Or.inr (Or.inr (Or.inr (Or.inr (Or.inr (Or.inr (Or.inr (Or.inr (Or.inr (Or.inl ⟨_, _, _, rfl, rfl, hv, rfl, k h Ls _ hH hL ⟨xd_valI, hS2⟩⟩)))))))))))))⟩
  · intro pc kd a b v t L rest M x y op hj k h Ls sts hH hL hS
    obtain ⟨y', ys, rfl, hg, hS'⟩ := xa_gS_cons hS
    obtain ⟨x', xs, rfl, hg2, hS2⟩ := xa_gS_cons hS'
    rw [xd_val hg, xd_val hg2]
    refine hcl _ ⟨_, _, xd_dec hfull hj, Or.inr (Or.inl (Or.inr (Or.inr (Or.inr (Or.inr (Or.inr (Or.inr (Or.inr (Or.inr (Or.inr (Or.inr (Or.inr (Or.inr ⟨_, _, _, _, rfl, rfl, rfl, k _ rfl h Ls _ hH hL ⟨⟨_, rfl, rfl, Int32.le_toInt _, ?_⟩, hS2⟩⟩)))))))))))))⟩
    have := Int32.toInt_lt (Op.cmpValue (FP.dcmp x y) op)
    omega
  · intro pc kd a b v t L rest M x k hj hk kk h Ls sts hH hL hS
    obtain ⟨x', xs, rfl, hg2, hS2⟩ := xa_gS_cons hS
    rw [xd_val hg2]
    exact hcl _ ⟨_, _, xd_dec hfull hj, Or.inl (Or.inr (Or.inr (Or.inr (Or.inl ⟨k, _, _, _, rfl, rfl, rfl, hk, kk h _ _ hH (xa_gL_st2 hL xd_valI) hS2⟩))))⟩
  · intro pc kd a b v t L rest M x k hj hf kk h Ls sts hH hL hS
    obtain ⟨z, hz, hg⟩ := hL _ (xa_find_in hf)
    have e := xd_val hg
    subst e
    exact hcl _ ⟨_, _, xd_dec hfull hj, Or.inl (Or.inr (Or.inl ⟨k, _, _, rfl, hz, rfl, kk h _ _ hH hL ⟨xd_valI, hS⟩⟩))⟩
  · intro pc kd a b v t L rest M i a0 b0 w ps hj hl kk h Ls sts hH hL hS
    exact hcl _ ⟨_, _, xd_dec hfull hj, Or.inl (Or.inr (Or.inr (Or.inr (Or.inr (Or.inr (Or.inr (Or.inr (Or.inr (Or.inr (Or.inr (Or.inr ⟨i, 12, a0, b0, w, ps, rfl, rfl, Or.inr rfl, hl, kk h _ _ hH hL ⟨xd_valI, hS⟩⟩)))))))))))⟩
end XD1
theorem xd_methF {I : xa_I} {A : Nat → Nat} {h0 : g_H} {d j : Nat} {Q0 : s_MI} (hq : s_mi[j]? = some Q0) (hz : Q0.2.2.2.1 = 0 ∧ Q0.2.2.2.2.1 = 0) {full : List s_I} (hfu : s_codes.getD j [] = full) {vs : List xa_V} {M : xa_M} {post : Option xa_V → xa_M → Prop} (hlen : Nat.ble (xa_sum vs) Q0.1 = true)
    (body : xa_Mok I M → (∀ v ∈ vs, xa_vok v) → ∀ Q : xa_Q, xa_go I (xa_C I A h0 d) post full Q0.1 Q0.2.1 Q → xd_goF Q0.2.2.2.2.2 Q0.1 full Q → Q 0 (xa_args 0 vs) [] M) : xa_C I A h0 (d + 1) j vs M post := by
  intro h xs hH hA post' hpost
  obtain ⟨m1, m2, m3, m4, m5⟩ := s_mi_ok j Q0 hq
  obtain ⟨c1, c2⟩ := s_codes_ok j Q0 hq
  rw [hfu] at c1 c2
  refine ⟨m1, by rw [m2, xa_slA hA]; exact Nat.le_of_ble_eq_true hlen, ?_⟩
  rw [m5, m2, m4]
  intro P hend hcl
  have hvs : ∀ {vs : List xa_V} {xs : List Value}, xa_gS A vs xs → ∀ v ∈ vs, xa_vok v := by
    intro vs
    induction vs with
    | nil => intro xs _ v hv; cases hv
    | cons w ws ih =>
      intro xs hS v hv
      obtain ⟨x, ys, rfl, hg, hS'⟩ := xa_gS_cons hS
      rcases List.mem_cons.mp hv with rfl | hv
      · exact fun hk => xa_num hk hg
      · exact ih hS' v hv
  have hgo : xa_go I (xa_C I A h0 d) post full Q0.1 Q0.2.1 (xa_P P I A h0) := by
    refine ⟨fun n cuts pc L st M e => ?_, fun pc L L' st M e hQ h Ls sts hH hL hS => hQ h Ls sts hH (xa_sub_ok e hL) hS, fun pc L st M hQ h Ls sts hH hL hS => hQ (xa_H_Mok hH) (fun p hp hk => ?_) h Ls sts hH hL hS⟩
    · exact xa_jp_ok c2 e (xa_wp_ok hcl s_ft_ok (fun j q hq => s_mi_ok j q hq) (fun j vs M post hc h xs hH hA post' hp => hc h xs hH hA post' hp) c2 m3 hend hpost n)
    · obtain ⟨x, -, hg⟩ := hL p hp
      exact xa_num hk hg
  exact body (xa_H_Mok hH) (hvs hA) _ hgo (xd_goF_ok hcl c2) h (lv_args 0 xs) [] hH (xa_args_ok hA) trivial

theorem fs_ge1 {R V : Int → Int} (n : Nat) (h : ∀ i : Int, 0 ≤ i → i < n → 1 ≤ V i) : 1 ≤ fs_u R V n := by
  induction n with
  | zero => exact Int.le_refl 1
  | succ n ih =>
    have a := ih (fun i i0 i1 => h i i0 (by omega))
    have c := h n (by omega) (by omega)
    rw [fs_u1]
    have m1 := Int.mul_le_mul a (show (1 : Int) ≤ (if 0 < R n then V n else 1) by split <;> omega) (by decide) (by omega)
    rw [Int.one_mul] at m1
    exact m1
theorem fd_divV {x y : UInt64} {n : Nat} (hx : vf_n64 x) (hy : fd_N y n 1 1 12) : vf_n64 (FP.ddiv x y) := by
  obtain ⟨t, d, r, e1, e2⟩ := fd_Np hy
  exact fd_div hx e1 e2
theorem fd_mulV {x y : UInt64} {n : Nat} (hx : vf_n64 x) (hy : fd_N y n 1 1 12) : vf_n64 (FP.dmul x y) := by
  obtain ⟨t, d, r, e1, e2⟩ := fd_Np hy
  exact fd_mul hx e1 e2
theorem ct_isFitF {A : Nat → Nat} {h0 : g_H} {d : Nat} {M : xa_M} {post : Option xa_V → xa_M → Prop} {l u p : Int} (hI : xm_Inv M) (hW : xm_way M) (hF : xm_fit M) (p0 : 0 ≤ p) (p1 : p < M 60 11) (k : ∀ (r : Int) (M1 : xa_M), (r = 0 ∨ r = 1) → (r = 1 ↔ M 71 p * fs_u (M 81) (M 84) (M 60 32).toNat = M 70 p * fs_d (M 81) (M 84) (M 60 32).toNat) → (∀ q j, q ≠ 85 → q ≠ 86 → M1 q j = M q j) → post (some (0, 0, 0, 1, r)) M1) : xa_C xm_I A h0 (d + 3) 242 [(2, 60, 0, 0, 0), (0, 0, l, u, p)] M post := by
  refine xa_C_asm (fun hM _ => ?_)
  have b11 := xm_f11 hM
  have b32 := xm_f32 hM
  have hpp := hI.2.2.1 p p0 p1
  have hsp : ∀ i, 0 ≤ i → i < M 60 32 → 10 ≤ M 84 i ∧ M 84 i ≤ 400 := fun i i0 i1 => by
    have h1 := xm_way_sp hM hI hW i i0 i1
    have h2 := hF i i0 i1
    have h3 := xm_t84 hM i i0 (by omega)
    omega
  refine xa_C_arg [(2, 60, 0, 0, 0), (0, 0, 0, 7, p)] (xa_svR (xa_svI (fun _ _ _ _ => by omega) xa_sv0)) ?_
  refine xa_C_wk (xd_methF (post := xa_wk post) (Q0 := (10, 2, false, 0, 0, 12)) (by decide +kernel) ⟨rfl, rfl⟩ (full := s_c_242) rfl rfl ?_)
  intro _ _ Q hgo hx
  obtain ⟨hi2d, hdiv, hmul, hcmp, hst, hld, hldc⟩ := hx
  obtain ⟨ps1, hk1⟩ := xd_lk1
  obtain ⟨ps2, hk2⟩ := xd_lk2
  have q97 : Q 97 [(1, (0, 0, 0, 7, p)), (0, (2, 60, 0, 0, 0))] [] M := xm_if97F hM hI (fun i i0 i1 => (hsp i i0 i1).1) p0 p1 k hgo
  have hpos : 1 ≤ M 71 p * fs_u (M 81) (M 84) (M 60 32).toNat := by
    have m1 := fs_ge1 (R := M 81) (V := M 84) (M 60 32).toNat (fun i i0 i1 => by have := hsp i i0 (by omega); omega)
    have m2 := Int.mul_le_mul (show (1 : Int) ≤ M 71 p by omega) m1 (by decide) (by omega)
    rw [Int.one_mul] at m2
    exact m2
  have q79 : ∀ x : UInt64, (∃ N D : Nat, (N : Int) = M 71 p * fs_u (M 81) (M 84) (M 60 32).toNat ∧ (D : Int) = M 70 p * fs_d (M 81) (M 84) (M 60 32).toNat ∧ fd_N x N D 50 1000) → Q 79 [(2, xd_v x), (1, (0, 0, 0, 7, p)), (0, (2, 60, 0, 0, 0))] [] M := by
    intro x hx
    have near : M 71 p * fs_u (M 81) (M 84) (M 60 32).toNat = M 70 p * fs_d (M 81) (M 84) (M 60 32).toNat → ∀ o1 o2, 0 ≤ (Op.cmpValue (FP.dcmp x (UInt64.ofNat (4607182409792818153 : Int).toNat)) o1).toInt ∧ (Op.cmpValue (FP.dcmp x (UInt64.ofNat (4607182423303617035 : Int).toNat)) o2).toInt ≤ 0 := fun h o1 o2 => by
      obtain ⟨N, D, e1, e2, e3⟩ := hx
      have e : D = N := by omega
      rw [e] at e3
      exact fd_one (by omega) e3 (Nat.le_refl _) (Int.le_refl _) o1 o2
    clear hx
    refine hld 79 _ _ _ _ _ _ _ _ x 2 rfl rfl ?_
    refine hldc 80 _ _ _ _ _ _ _ _ 245 0 0 4607182409792818153 ps1 rfl hk1 ?_
    refine hcmp 83 _ _ _ _ _ _ _ _ x _ _ rfl (fun n hn => ?_)
    refine hgo.1 6 [87] 84 _ _ _ ?_
    refine And.intro ?_ ?_
    · intro (cl : n < 0)
      show xa_wk post (some (0, 0, 0, 0, 0)) M
      exact xa_wkI 0 rfl (fun _ _ => by omega) (k 0 _ (by omega) ⟨fun h => absurd h (by decide), fun h => by
        have := (near h ClassFile.CmpOp.g ClassFile.CmpOp.l).1
        rw [← hn] at this
        omega⟩ (fun _ _ _ _ => rfl))
    · intro _
      show Q 87 [(2, xd_v x), (1, (0, 0, 0, 7, p)), (0, (2, 60, 0, 0, 0))] [] M
      refine hld 87 _ _ _ _ _ _ _ _ x 2 rfl rfl ?_
      refine hldc 88 _ _ _ _ _ _ _ _ 247 0 0 4607182423303617035 ps2 rfl hk2 ?_
      refine hcmp 91 _ _ _ _ _ _ _ _ x _ _ rfl (fun n2 hn2 => ?_)
      refine hgo.1 6 [97] 92 _ _ _ ?_
      refine And.intro ?_ ?_
      · intro _
        show Q 97 [(2, xd_v x), (1, (0, 0, 0, 7, p)), (0, (2, 60, 0, 0, 0))] [] M
        exact hgo.2.1 97 _ _ _ _ (xa_subI rfl rfl (fun _ _ _ _ => by omega) (xa_subR rfl xa_sub0)) q97
      · intro (cl : 0 < n2)
        show xa_wk post (some (0, 0, 0, 0, 0)) M
        exact xa_wkI 0 rfl (fun _ _ => by omega) (k 0 _ (by omega) ⟨fun h => absurd h (by decide), fun h => by
          have := (near h ClassFile.CmpOp.g ClassFile.CmpOp.l).2
          rw [← hn2] at this
          omega⟩ (fun _ _ _ _ => rfl))
  have loop : ∀ (n : Nat) (x4 : Int) (x : UInt64), 0 ≤ x4 ∧ x4 ≤ 14 → x4 ≤ M 60 32 → vf_n64 x → (∃ N D : Nat, (N : Int) = M 71 p * fs_u (M 81) (M 84) x4.toNat ∧ (D : Int) = M 70 p * fs_d (M 81) (M 84) x4.toNat ∧ fd_N x N D (4 + 3 * x4.toNat) (26 + 14 * x4)) → 14 - x4 < (n : Int) → Q 19 [(4, (0, 0, 0, 14, x4)), (2, xd_v x), (1, (0, 0, 0, 7, p)), (0, (2, 60, 0, 0, 0))] [] M := by
    intro n
    induction n with
    | zero => intro x4 x b4 b5 _ hN hms; clear hN; omega
    | succ n ih =>
      intro x4 x b4 b5 hx hN hms
      obtain ⟨N, D, n1, n2, n3⟩ := hN
      obtain ⟨us, ds⟩ := if_us (R := M 81) (V := M 84) (x := x4) b4.1
      have h10 := fun h : x4 < M 60 32 => hsp x4 (by omega) h
      refine hgo.1 20 [19, 38, 62, 79] 19 _ _ _ ?_
      refine And.intro ?_ ?_
      · intro (ce : (M 60 32) ≤ x4)
        show Q 79 [(4, (0, 0, 0, 14, x4)), (2, xd_v x), (1, (0, 0, 0, 7, p)), (0, (2, 60, 0, 0, 0))] [] M
        exact hgo.2.1 79 _ _ _ _ (xd_subD rfl rfl (xa_subI rfl rfl (fun _ _ _ _ => by omega) (xa_subR rfl xa_sub0))) (q79 x ⟨N, D, by rw [n1, show x4 = M 60 32 by omega], by rw [n2, show x4 = M 60 32 by omega], fd_Nm n3 (by omega) (by omega)⟩)
      · intro (c1 : x4 < M 60 32)
        have h10 := h10 c1
        refine And.intro (show 0 ≤ x4 ∧ x4 < 14 by omega) ?_
        refine And.intro ?_ ?_
        · intro (r1 : (M 81 x4) ≤ 0)
          refine And.intro (show 0 ≤ x4 ∧ x4 < 14 by omega) ?_
          refine And.intro ?_ ?_
          · intro (r2 : 0 ≤ (M 81 x4))
            show Q 19 [(4, (0, 0, 1, 15, x4 + 1)), (2, xd_v x), (1, (0, 0, 0, 7, p)), (0, (2, 60, 0, 0, 0))] [] M
            refine hgo.2.1 19 _ _ _ _ (xa_subI rfl rfl (fun _ _ _ _ => by omega) (xd_subD rfl rfl (xa_subI rfl rfl (fun _ _ _ _ => by omega) (xa_subR rfl xa_sub0)))) (ih (x4 + 1) x (by omega) (by omega) hx ⟨N, D, by rw [us, if_neg (by omega), Int.mul_one]; exact n1, by rw [ds, if_neg (by omega), Int.mul_one]; exact n2, fd_Nm n3 (by omega) (by omega)⟩ (by omega))
          · intro (r2 : (M 81 x4) < 0)
            show Q 62 [(4, (0, 0, 0, 14, x4)), (2, xd_v x), (1, (0, 0, 0, 7, p)), (0, (2, 60, 0, 0, 0))] [] M
            refine hld 62 _ _ _ _ _ _ _ _ x 2 rfl rfl ?_
            refine hgo.1 8 [70] 63 _ _ _ ?_
            refine And.intro (show 0 ≤ x4 ∧ x4 < 14 by omega) ?_
            show Q 70 [(4, (0, 0, 0, 14, x4)), (2, xd_v x), (1, (0, 0, 0, 7, p)), (0, (2, 60, 0, 0, 0))] [(0, 0, 0, 400, M 84 x4), xd_v x] M
            refine hi2d 70 _ _ _ _ _ _ _ _ _ _ _ _ rfl (fun z hz => ?_)
            obtain ⟨w, hw⟩ : ∃ w : Nat, (w : Int) = M 84 x4 := ⟨(M 84 x4).toNat, by omega⟩
            have hm := fd_i2dN (z := z) (n := w) (by omega) (by omega) (by omega)
            have hy := fd_divN n3 hm (by omega)
            have hv := fd_divV hx hm
            refine hdiv 71 _ _ _ _ _ _ _ _ x _ rfl hx (fd_Np hm) ?_
            refine hst 72 _ _ _ _ _ _ _ _ _ 2 rfl (show 2 + 1 < 10 by decide) ?_
            refine hgo.1 6 [19] 73 _ _ _ ?_
            show Q 19 [(4, (0, 0, 1, 15, x4 + 1)), (2, xd_v (FP.ddiv x (FP.i2d z))), (1, (0, 0, 0, 7, p)), (0, (2, 60, 0, 0, 0))] [] M
            refine hgo.2.1 19 _ _ _ _ (xa_subI rfl rfl (fun _ _ _ _ => by omega) (xd_subD rfl rfl (xa_subI rfl rfl (fun _ _ _ _ => by omega) (xa_subR rfl xa_sub0)))) (ih (x4 + 1) _ (by omega) (by omega) hv ⟨N, D * w, by rw [us, if_neg (by omega), Int.mul_one]; exact n1, by rw [ds, if_pos (by omega), Int.natCast_mul, n2, hw, Int.mul_assoc], fd_Nm hy (by omega) (by omega)⟩ (by omega))
        · intro (r1 : 0 < (M 81 x4))
          show Q 38 [(4, (0, 0, 0, 14, x4)), (2, xd_v x), (1, (0, 0, 0, 7, p)), (0, (2, 60, 0, 0, 0))] [] M
          refine hld 38 _ _ _ _ _ _ _ _ x 2 rfl rfl ?_
          refine hgo.1 8 [46] 39 _ _ _ ?_
          refine And.intro (show 0 ≤ x4 ∧ x4 < 14 by omega) ?_
          show Q 46 [(4, (0, 0, 0, 14, x4)), (2, xd_v x), (1, (0, 0, 0, 7, p)), (0, (2, 60, 0, 0, 0))] [(0, 0, 0, 400, M 84 x4), xd_v x] M
          refine hi2d 46 _ _ _ _ _ _ _ _ _ _ _ _ rfl (fun z hz => ?_)
          obtain ⟨w, hw⟩ : ∃ w : Nat, (w : Int) = M 84 x4 := ⟨(M 84 x4).toNat, by omega⟩
          have hm := fd_i2dN (z := z) (n := w) (by omega) (by omega) (by omega)
          have hy := fd_mulN n3 hm (by omega)
          have hv := fd_mulV hx hm
          refine hmul 47 _ _ _ _ _ _ _ _ x _ rfl hx (fd_Np hm) ?_
          refine hst 48 _ _ _ _ _ _ _ _ _ 2 rfl (show 2 + 1 < 10 by decide) ?_
          refine hgo.1 6 [19] 49 _ _ _ ?_
          show Q 19 [(4, (0, 0, 1, 15, x4 + 1)), (2, xd_v (FP.dmul x (FP.i2d z))), (1, (0, 0, 0, 7, p)), (0, (2, 60, 0, 0, 0))] [] M
          refine hgo.2.1 19 _ _ _ _ (xa_subI rfl rfl (fun _ _ _ _ => by omega) (xd_subD rfl rfl (xa_subI rfl rfl (fun _ _ _ _ => by omega) (xa_subR rfl xa_sub0)))) (ih (x4 + 1) _ (by omega) (by omega) hv ⟨N * w, D, by rw [us, if_pos (by omega), Int.natCast_mul, n1, hw, Int.mul_assoc], by rw [ds, if_neg (by omega), Int.mul_one]; exact n2, fd_Nm hy (by omega) (by omega)⟩ (by omega))
  refine hgo.1 8 [6] 0 _ _ _ ?_
  show Q 6 [(0, (2, 60, 0, 0, 0)), (1, (0, 0, 0, 7, p))] [(0, 0, 0, 2000, M 71 p)] M
  have t70 := xm_t70 hM p p0 (by omega)
  have t71 := xm_t71 hM p p0 (by omega)
  refine hi2d 6 _ _ _ _ _ _ _ _ _ _ _ _ rfl (fun z1 hz1 => ?_)
  obtain ⟨w1, hw1⟩ : ∃ w : Nat, (w : Int) = M 71 p := ⟨(M 71 p).toNat, by omega⟩
  have hm1 := fd_i2dN (z := z1) (n := w1) (by omega) (by omega) (by omega)
  refine hgo.1 8 [13] 7 _ _ _ ?_
  show Q 13 [(0, (2, 60, 0, 0, 0)), (1, (0, 0, 0, 7, p))] [(0, 0, 0, 2000, M 70 p), xd_v (FP.i2d z1)] M
  refine hi2d 13 _ _ _ _ _ _ _ _ _ _ _ _ rfl (fun z2 hz2 => ?_)
  obtain ⟨w2, hw2⟩ : ∃ w : Nat, (w : Int) = M 70 p := ⟨(M 70 p).toNat, by omega⟩
  have hm2 := fd_i2dN (z := z2) (n := w2) (by omega) (by omega) (by omega)
  have hy := fd_divN hm1 hm2 (by omega)
  have hv := fd_divV (fd_i2d z1) hm2
  refine hdiv 14 _ _ _ _ _ _ _ _ _ _ rfl (fd_i2d z1) (fd_Np hm2) ?_
  refine hst 15 _ _ _ _ _ _ _ _ _ 2 rfl (show 2 + 1 < 10 by decide) ?_
  refine hgo.1 6 [19] 16 _ _ _ ?_
  show Q 19 [(4, (0, 0, 0, 0, 0)), (2, xd_v (FP.ddiv (FP.i2d z1) (FP.i2d z2))), (0, (2, 60, 0, 0, 0)), (1, (0, 0, 0, 7, p))] [] M
  exact hgo.2.1 19 _ _ _ _ (xa_subI rfl rfl (fun _ _ _ _ => by omega) (xd_subD rfl rfl (xa_subI rfl rfl (fun _ _ _ _ => by omega) (xa_subR rfl xa_sub0)))) (loop 15 0 _ (by omega) (by omega) hv ⟨w1, 1 * w2, by rw [hw1]; exact (Int.mul_one _).symm, by rw [Nat.one_mul, hw2]; exact (Int.mul_one _).symm, fd_Nm hy (by omega) (by omega)⟩ (by omega))
-- the reference's count of fittings: what it is at each step
set_option maxRecDepth 20000
/-- what fits, by the numbers of a memory -/
def fr_F (M : xa_M) (p : Int) : Int → Prop := fs_F (fr_L M) (fr_H M) (M 81) (M 60 32).toNat (M 71 p) (M 70 p)
def fr_r (M M1 : xa_M) : Int := fs_rk (fr_L M) (fr_H M) (M1 84) (M 60 32).toNat
/-- but for the tuple, what isFitting writes and the row all is as it was -/
def fr_K (M M1 : xa_M) : Prop := ∀ q j, ¬ (q = 84 ∨ q = 85 ∨ q = 86 ∨ q = 74 ∨ q = 87) → ¬ (q = 60 ∧ (j = 20 ∨ j = 39)) → M1 q j = M q j
theorem fr_L_k {M M1 : xa_M} (h : fr_K M M1) : fr_L M1 = fr_L M ∧ fr_H M1 = fr_H M ∧ M1 81 = M 81 ∧ M1 60 32 = M 60 32 ∧ M1 71 = M 71 ∧ M1 70 = M 70 := by
  have e80 : M1 80 = M 80 := funext (fun j => h 80 j (by decide) (fun e => absurd e.1 (by decide)))
  have e61 : M1 61 = M 61 := funext (fun j => h 61 j (by decide) (fun e => absurd e.1 (by decide)))
  have e62 : M1 62 = M 62 := funext (fun j => h 62 j (by decide) (fun e => absurd e.1 (by decide)))
  refine ⟨?_, ?_, funext (fun j => h 81 j (by decide) (fun e => absurd e.1 (by decide))), h 60 32 (by decide) (by decide), funext (fun j => h 71 j (by decide) (fun e => absurd e.1 (by decide))), funext (fun j => h 70 j (by decide) (fun e => absurd e.1 (by decide)))⟩
  · unfold fr_L
    rw [e61, e80]
  · unfold fr_H
    rw [e62, e80]
theorem fr_in {M M1 : xa_M} (h : fr_K M M1) (hF : xm_fit M1) : fs_in (fr_L M) (fr_H M) (M1 84) (M 60 32).toNat := fun i i0 i1 => by
  obtain ⟨a, b, -, d, -, -⟩ := fr_L_k h
  have g := hF i i0 (by rw [d]; omega)
  rw [← a, ← b]
  exact g
theorem fr_fit {M M1 : xa_M} {p : Int} (h : fr_K M M1) (hF : xm_fit M1) : (M1 71 p * fs_u (M1 81) (M1 84) (M1 60 32).toNat = M1 70 p * fs_d (M1 81) (M1 84) (M1 60 32).toNat) ↔ fr_F M p (fr_r M M1) := by
  obtain ⟨-, -, c, d, e, f⟩ := fr_L_k h
  unfold fr_F fr_r
  rw [fs_Fi (fr_in h hF), c, d, e, f, Int.mul_comm (M 71 p), Int.mul_comm (M 70 p)]
theorem fr_r0 {M M1 : xa_M} (h : fr_K M M1) (hF : xm_fit M1) : 0 ≤ fr_r M M1 ∧ fr_r M M1 < fs_pr (fr_L M) (fr_H M) (M 60 32).toNat := fs_rk_b _ (fr_in h hF)
/-- isFitting, by the tuple's place -/
theorem fr_isF {A : Nat → Nat} {h0 : g_H} {d : Nat} {M M1 : xa_M} {post : Option xa_V → xa_M → Prop} {l u p y : Int} (hK : fr_K M M1) (hI : xm_Inv M1) (hW : xm_W M1 y) (hp0 : 0 ≤ p) (hp1 : p < M1 60 11) (k : ∀ (r : Int) (M2 : xa_M), (r = 0 ∨ r = 1) → (r = 1 ↔ fr_F M p (fr_r M M1)) → xm_cor M1 M2 → M2 60 20 = M1 60 20 → xm_W M2 y → xm_rk M2 (M2 60 32).toNat = xm_rk M1 (M1 60 32).toNat → fr_K M M2 → fr_r M M2 = fr_r M M1 → post (some (0, 0, 0, 1, r)) M2) : xa_C xm_I A h0 (d + 3) 242 [(2, 60, 0, 0, 0), (0, 0, l, u, p)] M1 post :=
  ct_isFitF hI hW.1 hW.2.1 hp0 hp1 (fun r M2 hr he h => by
    have h86 : xm_86 M1 M2 := fun q j hq => h q j hq.1 hq.2.1
    refine k r M2 hr (he.trans (fr_fit hK hW.2.1)) (fun q j hs => h q j (fun e => hs (by subst e; exact Or.inl (by decide))) (fun e => hs (by subst e; exact Or.inl (by decide)))) (h 60 20 (by decide) (by decide)) (xm_86_W h86 hW).1 (xm_86_W h86 hW).2 (fun q j h1 h2 => (h q j (by omega) (by omega)).trans (hK q j h1 h2)) ?_
    unfold fr_r
    rw [show M2 84 = M1 84 from funext (fun j => h 84 j (by decide) (by decide))])
/-- the tuples left and those behind -/
theorem xm_rks {M : xa_M} (n : Nat) : xm_rk M n + fs_rk (fr_L M) (fr_H M) (M 84) n + 1 = fs_pr (fr_L M) (fr_H M) n := by
  induction n with
  | zero => rfl
  | succ n ih =>
    show xm_rk M n * xm_sp M n + (M 62 (M 80 n) - M 84 n) + (fs_rk (fr_L M) (fr_H M) (M 84) n * (fr_H M n - fr_L M n + 1) + (M 84 n - fr_L M n)) + 1 = fs_pr (fr_L M) (fr_H M) n * (fr_H M n - fr_L M n + 1)
    have e : xm_sp M n = fr_H M n - fr_L M n + 1 := rfl
    have e1 : fr_H M n = M 62 (M 80 n) := rfl
    rw [← ih, e, Int.add_mul, Int.add_mul, Int.one_mul, e1]
    omega
/-- the next tuple, by its place -/
theorem fr_nextW {A : Nat → Nat} {h0 : g_H} {d : Nat} {M M1 : xa_M} {post : Option xa_V → xa_M → Prop} {y : Int} (hK : fr_K M M1) (hW : xm_W M1 y) (k : ∀ (r : Int) (M2 : xa_M), (r = 0 ∨ r = 1) → xm_cor M1 M2 → M2 60 20 = M1 60 20 → (∀ z, z ≤ y + 1 → r = 1 → xm_W M2 z) → (r = 1 → xm_rk M2 (M2 60 32).toNat < xm_rk M1 (M1 60 32).toNat) → fr_K M M2 → (r = 1 → fr_r M M2 = fr_r M M1 + 1) → (r = 0 → fr_r M M1 + 1 = fs_pr (fr_L M) (fr_H M) (M 60 32).toNat) → post (some (0, 0, 0, 1, r)) M2) : xa_C xm_I A h0 (d + 1) 243 [(2, 60, 0, 0, 0)] M1 post := by
  obtain ⟨eL, eH, -, e32, -, -⟩ := fr_L_k hK
  refine ct_nextWayF hW.2.1 (fun r M2 hr h84 hF hn hl => ?_)
  rw [eL, eH, e32] at hn hl
  have e32' := h84 60 32 (by decide)
  have e0 := h84 60 0 (by decide)
  have hK2 : fr_K M M2 := fun q j h1 h2 => (h84 q j (by omega)).trans (hK q j h1 h2)
  -- xm_rk falls as fs_rk grows
  have s1 := xm_rks (M := M1) (M1 60 32).toNat
  have s2 := xm_rks (M := M2) (M2 60 32).toNat
  obtain ⟨eL2, eH2, -, e322, -, -⟩ := fr_L_k hK2
  rw [eL, eH] at s1
  rw [eL2, eH2] at s2
  rw [e32] at s1
  rw [e322] at s2
  have hlt : r = 1 → xm_rk M2 (M2 60 32).toNat < xm_rk M1 (M1 60 32).toNat := fun h1 => by
    have := hn h1
    rw [e32, e322]
    omega
  refine k r M2 hr (xm_84_c h84) (h84 60 20 (by decide)) (fun z hz h1 => ⟨fun i i0 i1 => ?_, hF, ?_, ?_⟩) hlt hK2 hn hl
  · rw [e32'] at i1
    rw [e0, h84 80 i (by decide)]
    exact hW.1 i i0 i1
  · rw [e32', xm_pr_84 h84]
    exact hW.2.2.1
  · have := hlt h1
    have := hW.2.2.2
    omega

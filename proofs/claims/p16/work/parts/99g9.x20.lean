-- fittings, on both sides
set_option maxRecDepth 20000
theorem cx_60b {b : Bool} {A : Nat → Nat} {h0 : g_H} {d : Nat} {M : xa_M} {post : Option xa_V → xa_M → Prop} {l1 u1 x1 : Int} (h1 : (0 : Int) ≤ M 48 1) (k : ∀ M1 : xa_M, (∀ (q : Nat) (j : Int), ¬ (q = 48 ∨ q = 49) → M1 q j = M q j) → (0 : Int) ≤ M1 48 1 → post none M1) : xa_C (xl_I b) A h0 (d + 2) 60 [(2, 48, 0, 0, 0), (1, 0, l1, u1, x1)] M post :=
  cx_60_48 h1 (fun _ => k M (fun _ _ _ => rfl) h1) (fun h => k _ (fun q j hq => (xa_up_ne (by omega)).trans (xa_up_ne (by omega))) (by
    rw [xa_up_eq, xa_w32_id (by omega) (by omega)]
    omega))
/-- what fittings answers -/
def tf_85 (N : xa_M) (X p r : Int) : Prop := ∃ (e s : Int) (W R : Int → Int), tk_S N X p e s W R ∧ ((¬ e = 0 ∧ r = e) ∨ (e = 0 ∧ r = fs_c (tk_F N s W R p) (tk_pr N s W).toNat))
theorem tf_85_one {N : xa_M} {X p r r' : Int} (hM : tk_M N) (h : tf_85 N X p r) (h' : tf_85 N X p r') : r = r' := by
  obtain ⟨e, s, W, R, hS, h1⟩ := h
  obtain ⟨e', s', W', R', hS', h2⟩ := h'
  obtain ⟨ee, k⟩ := tk_S_one hM hS hS'
  subst ee
  rcases h1 with ⟨a1, a2⟩ | ⟨a1, a2⟩
  · rcases h2 with ⟨-, b2⟩ | ⟨b1, -⟩
    · omega
    · exact absurd b1 a1
  · rcases h2 with ⟨b1, -⟩ | ⟨-, b2⟩
    · exact absurd a1 b1
    · obtain ⟨rfl, k2⟩ := k (Or.inl a1)
      obtain ⟨k3, k4, -, -⟩ := tk_e (M := N) k2
      rw [a2, b2, k3 p, k4]
/-- what is told has become other -/
theorem tk_re {N M1 M2 Ma : xa_M} {X p i : Int} (hZ : tk_Z N X p Ma) (hS : tk_S N X p 0 (Ma 15 10) (Ma 21) (Ma 22)) (hK : fa_K Ma M1) (hst : tk_st N p Ma M1 i) (hge : i ≤ fs_c (tk_F N (Ma 15 10) (Ma 21) (Ma 22) p) (tk_pr N (Ma 15 10) (Ma 21)).toNat) (e : ∀ (q : Nat) (j : Int), ¬ (q = 48 ∨ q = 49) → M2 q j = M1 q j) : ∃ Ma' : xa_M, tk_Z N X p Ma' ∧ tk_S N X p 0 (Ma' 15 10) (Ma' 21) (Ma' 22) ∧ fa_K Ma' M2 ∧ tk_st N p Ma' M2 i ∧ i ≤ fs_c (tk_F N (Ma' 15 10) (Ma' 21) (Ma' 22) p) (tk_pr N (Ma' 15 10) (Ma' 21)).toNat := by
  obtain ⟨Ma', hm⟩ : ∃ Ma' : xa_M, ∀ (q : Nat) (j : Int), Ma' q j = if q = 48 ∨ q = 49 then M2 q j else Ma q j := ⟨fun q j => if q = 48 ∨ q = 49 then M2 q j else Ma q j, fun _ _ => rfl⟩
  have hn : ∀ q, ¬ (q = 48 ∨ q = 49) → Ma' q = Ma q := fun q hq => funext (fun j => (hm q j).trans (if_neg hq))
  have hn2 : ∀ q, ¬ (q = 48 ∨ q = 49) → M2 q = M1 q := fun q hq => funext (fun j => e q j hq)
  have e15 := hn 15 (by decide)
  have e21 := hn 21 (by decide)
  have e22 := hn 22 (by decide)
  have e23 := hn 23 (by decide)
  have e24 := hn 24 (by decide)
  have f15 := hn2 15 (by decide)
  have f22 := hn2 22 (by decide)
  have f25 := hn2 25 (by decide)
  have f26 := hn2 26 (by decide)
  have f27 := hn2 27 (by decide)
  refine ⟨Ma', ?_, ?_, fun q j a b c d => ?_, ?_, ?_⟩
  · unfold tk_Z tk_A
    rw [e15, e21, e22, e23, e24]
    exact hZ
  · rw [e15, e21, e22]
    exact hS
  · by_cases hq : q = 48 ∨ q = 49
    · rw [hm q j, if_pos hq]
    · rw [hm q j, if_neg hq, e q j hq]
      exact hK q j a b c d
  · unfold tk_st fa_S fb_P at hst ⊢
    rw [e15, e21, e22, e23, e24, f15, f22, f25, f26, f27]
    exact hst
  · rw [e15, e21, e22]
    exact hge
theorem tk_ge {N : xa_M} {s p i : Int} {W R V : Int → Int} (hin : tk_in N s W V) (hF : tk_F N s W R p (tk_rk N s W V)) (hc : fs_c (tk_F N s W R p) (tk_rk N s W V).toNat = i) : i + 1 ≤ fs_c (tk_F N s W R p) (tk_pr N s W).toNat := by
  obtain ⟨b0, b1⟩ := fs_rk_b s.toNat hin
  have b0' : 0 ≤ tk_rk N s W V := b0
  have b1' : tk_rk N s W V < tk_pr N s W := b1
  have h1 := fa_c1 (F := tk_F N s W R p) b0' hF
  have h2 := fs_cl (F := tk_F N s W R p) (show (tk_rk N s W V + 1).toNat ≤ (tk_pr N s W).toNat by omega)
  omega
theorem cx_98t {b : Bool} {A : Nat → Nat} {h0 : g_H} {d : Nat} {M : xa_M} {post : Option xa_V → xa_M → Prop} (h0n : (0 : Int) ≤ M 48 1) (h10 : 0 ≤ M 15 10 ∧ M 15 10 ≤ 14) (k : ∀ M1 : xa_M, (∀ (q : Nat) (j : Int), ¬ (q = 48 ∨ q = 49) → M1 q j = M q j) → (0 : Int) ≤ M1 48 1 → post none M1) : xa_C (xl_I b) A h0 (d + 3) 98 [(2, 15, 0, 0, 0), (2, 48, 0, 0, 0)] M post := by
  refine xa_meth (Q0 := (3, 0, false, 0, 0, 3)) (by decide +kernel) ⟨rfl, rfl⟩ (full := s_c_98) rfl rfl ?_
  intro hM hv Q hgo
  have loop : ∀ (f : Nat) (i : Int) (M1 : xa_M), 0 ≤ i ∧ i ≤ 14 → (∀ (q : Nat) (j : Int), ¬ (q = 48 ∨ q = 49) → M1 q j = M q j) → (0 : Int) ≤ M1 48 1 → 14 - i < (f : Int) → Q 2 [(2, (0, 0, 0, 14, i)), (0, (2, 15, 0, 0, 0)), (1, (2, 48, 0, 0, 0))] [] M1 := by
    intro f
    induction f with
    | zero => intro i M1 i1 hk hn hms; omega
    | succ f ih =>
      intro i M1 i1 hk hn hms
      have e10 := hk 15 10 (by decide)
      refine hgo.1 18 [2] 2 _ _ _ ?_
      refine And.intro ?_ ?_
      · intro (c1 : (M1 15 10) ≤ i)
        show post none M1
        exact k M1 hk hn
      · intro (c1 : i < (M1 15 10))
        show xa_C (xl_I b) A h0 _ 23 [(2, 25, 0, 0, 0), (0, 0, 0, 14, i)] M1 _
        refine cx_23_25 (show 0 ≤ i ∧ i < 14 by omega) ?_
        show xa_C (xl_I b) A h0 _ 60 [(2, 48, 0, 0, 0), (1, 0, (-2147483648), 2147483647, M1 25 i)] M1 _
        refine cx_60b (by omega) ?_
        intro M101 (i2 : ∀ (q : Nat) (j : Int), ¬ (q = 48 ∨ q = 49) → M101 q j = M1 q j) (i3 : (0 : Int) ≤ M101 48 1)
        show Q 2 [(2, (0, 0, 1, 15, i + 1)), (0, (2, 15, 0, 0, 0)), (1, (2, 48, 0, 0, 0))] [] M101
        refine hgo.2.1 2 _ [(2, (0, 0, 0, 14, i + 1)), (0, (2, 15, 0, 0, 0)), (1, (2, 48, 0, 0, 0))] _ _ (xa_subI rfl rfl (fun _ _ _ _ => by omega) (xa_subR rfl (xa_subR rfl (xa_sub0)))) ?_
        exact ih (i + 1) M101 (by omega) (fun q j hq => (i2 q j hq).trans (hk q j hq)) i3 (by omega)
  refine hgo.1 7 [2] 0 _ _ _ ?_
  show Q 2 [(2, (0, 0, 0, 0, 0)), (0, (2, 15, 0, 0, 0)), (1, (2, 48, 0, 0, 0))] [] M
  refine hgo.2.1 2 _ [(2, (0, 0, 0, 14, 0)), (0, (2, 15, 0, 0, 0)), (1, (2, 48, 0, 0, 0))] _ _ (xa_subI rfl rfl (fun _ _ _ _ => by omega) (xa_subR rfl (xa_subR rfl (xa_sub0)))) ?_
  exact loop 15 0 M (by omega) (fun _ _ _ => rfl) h0n (by omega)
theorem cx_85_50 {A : Nat → Nat} {h0 : g_H} {d : Nat} {M : xa_M} {post : Option xa_V → xa_M → Prop} {l1 u1 l2 u2 x1 x2 : Int} {F : Int → Int} {N : xa_M} (hT : tk_M N) (hR : tk_R M N) (hB : tk_B 50 M N) (hFF : 1 ≤ x1 ∧ x1 ≤ 9 → tk_Y N x1 F) (k : ∀ (lo hi r : Int) (M1 : xa_M), tf_85 N x1 x2 r → (∀ (q : Nat) (j : Int), ¬ (15 ≤ q ∧ q ≤ 27) → ¬ (q = 48 ∨ q = 49) → M1 q j = M q j) → post (some (0, 0, lo, hi, r)) M1) : xa_C (xl_I false) A h0 (d + 7) 85 [(2, 0, 0, 0, 0), (0, 0, l1, u1, x1), (0, 0, l2, u2, x2)] M post := by
  refine xa_C_arg [(2, 0, 0, 0, 0), (0, 0, (-2147483648), 2147483647, x1), (0, 0, (-2147483648), 2147483647, x2)] (xa_svR (xa_svI (fun _ _ _ _ => by omega) (xa_svI (fun _ _ _ _ => by omega) xa_sv0))) ?_
  refine xa_meth (Q0 := (5, 1, false, 0, 0, 11)) (by decide +kernel) ⟨rfl, rfl⟩ (full := s_c_85) rfl rfl ?_
  intro hM hv Q hgo
  have loop : ∀ (f : Nat) (i : Int) (M1 : xa_M), 0 ≤ i ∧ i ≤ 200000 → (0 : Int) ≤ M1 48 1 → (∀ (q : Nat) (j : Int), ¬ (15 ≤ q ∧ q ≤ 27) → ¬ (q = 48 ∨ q = 49) → M1 q j = M q j) → (∃ Ma : xa_M, tk_Z N x1 x2 Ma ∧ tk_S N x1 x2 0 (Ma 15 10) (Ma 21) (Ma 22) ∧ fa_K Ma M1 ∧ tk_st N x2 Ma M1 i ∧ i ≤ fs_c (tk_F N (Ma 15 10) (Ma 21) (Ma 22) x2) (tk_pr N (Ma 15 10) (Ma 21)).toNat) → 200000 - i < (f : Int) → Q 23 [(4, (0, 0, 0, 200000, i)), (0, (2, 0, 0, 0, 0))] [] M1 := by
    intro f
    induction f with
    | zero => intro i M1 i1 h48 hfr hE hms; clear hE; omega
    | succ f ih =>
      intro i M1 i1 h48 hfr hE hms
      obtain ⟨Ma, hZ, hS, hK, hst, hge⟩ := hE
      have hL1 := (tk_Zl hT hZ).1
      refine hgo.1 21 [23] 23 _ _ _ ?_
      refine And.intro ?_ ?_
      · intro (c1 : 200000 ≤ i)
        show post (some (0, 0, 0, 200000, i)) M1
        have ea := tk_all hT hZ hst (by omega)
        exact k _ _ i M1 ⟨0, _, _, _, hS, Or.inr ⟨rfl, by omega⟩⟩ hfr
      · intro (c1 : i < 200000)
        show xa_C (xl_I _) A h0 _ 91 [(2, 15, 0, 0, 0)] M1 _
        refine cx_91t hT hZ hK hst ?_ ?_
        · intro M101 (i2 : fa_K Ma M101) (i3 : tk_in N (Ma 15 10) (Ma 21) (M101 25)) (i4 : tk_F N (Ma 15 10) (Ma 21) (Ma 22) x2 (tk_rk N (Ma 15 10) (Ma 21) (M101 25))) (i5 : fs_c (tk_F N (Ma 15 10) (Ma 21) (Ma 22) x2) (tk_rk N (Ma 15 10) (Ma 21) (M101 25)).toNat = i) (i6 : tk_st N x2 Ma M101 (i + 1))
          have e48 : M101 48 1 = M1 48 1 := (i2 48 1 (by decide) (by decide) (by decide) (by omega)).trans (hK 48 1 (by decide) (by decide) (by decide) (by omega)).symm
          have e10 : M101 15 10 = Ma 15 10 := i2 15 10 (by decide) (by decide) (by decide) (by omega)
          refine And.intro ?_ ?_
          · intro (c7 : 1 = 0)
            exfalso
            omega
          · intro (c7 : ¬ 1 = 0)
            refine And.intro ?_ ?_
            · intro (c8 : ¬ i = 0)
              show Q 23 [(4, (0, 0, 1, 200001, i + 1)), (0, (2, 0, 0, 0, 0))] [] M101
              refine hgo.2.1 23 _ [(4, (0, 0, 0, 200000, i + 1)), (0, (2, 0, 0, 0, 0))] _ _ (xa_subI rfl rfl (fun _ _ _ _ => by omega) (xa_subR rfl (xa_sub0))) ?_
              exact ih (i + 1) M101 (by omega) (by omega) (fun q j h1 h2 => (i2 q j (by omega) (by omega) (by omega) (by omega)).trans ((hK q j (by omega) (by omega) (by omega) (by omega)).symm.trans (hfr q j h1 h2))) ⟨Ma, hZ, hS, i2, i6, tk_ge i3 i4 i5⟩ (by omega)
            · intro (c8 : i = 0)
              show xa_C (xl_I _) A h0 _ 98 [(2, 15, 0, 0, 0), (2, 48, 0, 0, 0)] M101 _
              refine cx_98t (by omega) (by omega) ?_
              intro M102 (i9 : ∀ (q : Nat) (j : Int), ¬ (q = 48 ∨ q = 49) → M102 q j = M101 q j) (i10 : (0 : Int) ≤ M102 48 1)
              show Q 23 [(4, (0, 0, 1, 200001, i + 1)), (0, (2, 0, 0, 0, 0))] [] M102
              refine hgo.2.1 23 _ [(4, (0, 0, 0, 200000, i + 1)), (0, (2, 0, 0, 0, 0))] _ _ (xa_subI rfl rfl (fun _ _ _ _ => by omega) (xa_subR rfl (xa_sub0))) ?_
              exact ih (i + 1) M102 (by omega) (by omega) (fun q j h1 h2 => (i9 q j h2).trans ((fun q j h1 h2 => (i2 q j (by omega) (by omega) (by omega) (by omega)).trans ((hK q j (by omega) (by omega) (by omega) (by omega)).symm.trans (hfr q j h1 h2))) q j h1 h2)) (tk_re hZ hS i2 i6 (tk_ge i3 i4 i5) i9) (by omega)
        · intro M101 (i11 : fa_K Ma M101) (i12 : fs_c (tk_F N (Ma 15 10) (Ma 21) (Ma 22) x2) (tk_pr N (Ma 15 10) (Ma 21)).toNat = i)
          have e48 : M101 48 1 = M1 48 1 := (i11 48 1 (by decide) (by decide) (by decide) (by omega)).trans (hK 48 1 (by decide) (by decide) (by decide) (by omega)).symm
          have e10 : M101 15 10 = Ma 15 10 := i11 15 10 (by decide) (by decide) (by decide) (by omega)
          refine And.intro ?_ ?_
          · intro (c13 : 0 = 0)
            show post (some (0, 0, 0, 200000, i)) M101
            exact k _ _ i _ ⟨0, _, _, _, hS, Or.inr ⟨rfl, i12.symm⟩⟩ (fun q j h1 h2 => (i11 q j (by omega) (by omega) (by omega) (by omega)).trans ((hK q j (by omega) (by omega) (by omega) (by omega)).symm.trans (hfr q j h1 h2)))
          · intro (c13 : ¬ 0 = 0)
            exfalso
            omega
  refine hgo.1 17 [23] 0 _ _ _ ?_
  show xa_C (xl_I _) A h0 _ 86 [(2, 0, 0, 0, 0), (0, 0, (-2147483648), 2147483647, x1), (0, 0, (-2147483648), 2147483647, x2)] M _
  refine cx_86_50 hT hR hB hFF ?_
  intro r104 M103 (i1 : tk_S N x1 x2 r104 (M103 15 10) (M103 21) (M103 22)) (i2 : r104 = 0 → tk_A N x2 M103) (i3 : ∀ q j, ¬ (15 ≤ q ∧ q ≤ 24) → M103 q j = M q j)
  refine And.intro ?_ ?_
  · intro (c4 : r104 = 0)
    show xa_C (xl_I _) A h0 _ 59 [(2, 48, 0, 0, 0)] M103 _
    refine cx_59_48 ?_
    show Q 23 [(4, (0, 0, 0, 0, 0)), (3, (0, 0, (-4), 0, r104)), (0, (2, 0, 0, 0, 0)), (1, (0, 0, (-2147483648), 2147483647, x1)), (2, (0, 0, (-2147483648), 2147483647, x2))] [] (xa_up M103 48 1 0)
    have er : r104 = 0 := by omega
    rw [er] at i1
    obtain ⟨z1, -, z3, z4⟩ := tk_S_L i1
    have hA := i2 er
    refine hgo.2.1 23 _ [(4, (0, 0, 0, 200000, 0)), (0, (2, 0, 0, 0, 0))] _ _ (xa_subI rfl rfl (fun _ _ _ _ => by omega) (xa_subR rfl (xa_sub0))) ?_
    exact loop 200001 0 (xa_up M103 48 1 0) (by omega) (by show (0 : Int) ≤ 0; omega) (fun q j h1 h2 => (xa_up_ne (by omega)).trans (i3 q j (by omega))) (tk_re (Ma := M103) (M1 := M103) ⟨z1, z3, z4, hA⟩ i1 fa_Kr (tk_st0 hA) (fs_cb _).1 (fun q j hq => xa_up_ne (by omega))) (by omega)
  · intro (c4 : ¬ r104 = 0)
    show post (some (0, 0, (-4), 0, r104)) M103
    exact k _ _ _ _ ⟨_, _, _, _, i1, Or.inl ⟨by omega, rfl⟩⟩ (fun q j h1 h2 => i3 q j (by omega))
theorem cx_85_55 {A : Nat → Nat} {h0 : g_H} {d : Nat} {M : xa_M} {post : Option xa_V → xa_M → Prop} {l1 u1 l2 u2 x1 x2 : Int} {F : Int → Int} {N : xa_M} (hT : tk_M N) (hR : tk_R M N) (hB : tk_B 55 M N) (hFF : 1 ≤ x1 ∧ x1 ≤ 9 → tk_Y N x1 F) (k : ∀ (lo hi r : Int) (M1 : xa_M), tf_85 N x1 x2 r → (∀ (q : Nat) (j : Int), ¬ (15 ≤ q ∧ q ≤ 27) → ¬ (q = 48 ∨ q = 49) → M1 q j = M q j) → post (some (0, 0, lo, hi, r)) M1) : xa_C (xl_I true) A h0 (d + 7) 85 [(2, 0, 0, 0, 0), (0, 0, l1, u1, x1), (0, 0, l2, u2, x2)] M post := by
  refine xa_C_arg [(2, 0, 0, 0, 0), (0, 0, (-2147483648), 2147483647, x1), (0, 0, (-2147483648), 2147483647, x2)] (xa_svR (xa_svI (fun _ _ _ _ => by omega) (xa_svI (fun _ _ _ _ => by omega) xa_sv0))) ?_
  refine xa_meth (Q0 := (5, 1, false, 0, 0, 11)) (by decide +kernel) ⟨rfl, rfl⟩ (full := s_c_85) rfl rfl ?_
  intro hM hv Q hgo
  have loop : ∀ (f : Nat) (i : Int) (M1 : xa_M), 0 ≤ i ∧ i ≤ 200000 → (0 : Int) ≤ M1 48 1 → (∀ (q : Nat) (j : Int), ¬ (15 ≤ q ∧ q ≤ 27) → ¬ (q = 48 ∨ q = 49) → M1 q j = M q j) → (∃ Ma : xa_M, tk_Z N x1 x2 Ma ∧ tk_S N x1 x2 0 (Ma 15 10) (Ma 21) (Ma 22) ∧ fa_K Ma M1 ∧ tk_st N x2 Ma M1 i ∧ i ≤ fs_c (tk_F N (Ma 15 10) (Ma 21) (Ma 22) x2) (tk_pr N (Ma 15 10) (Ma 21)).toNat) → 200000 - i < (f : Int) → Q 23 [(4, (0, 0, 0, 200000, i)), (0, (2, 0, 0, 0, 0))] [] M1 := by
    intro f
    induction f with
    | zero => intro i M1 i1 h48 hfr hE hms; clear hE; omega
    | succ f ih =>
      intro i M1 i1 h48 hfr hE hms
      obtain ⟨Ma, hZ, hS, hK, hst, hge⟩ := hE
      have hL1 := (tk_Zl hT hZ).1
      refine hgo.1 21 [23] 23 _ _ _ ?_
      refine And.intro ?_ ?_
      · intro (c1 : 200000 ≤ i)
        show post (some (0, 0, 0, 200000, i)) M1
        have ea := tk_all hT hZ hst (by omega)
        exact k _ _ i M1 ⟨0, _, _, _, hS, Or.inr ⟨rfl, by omega⟩⟩ hfr
      · intro (c1 : i < 200000)
        show xa_C (xl_I _) A h0 _ 91 [(2, 15, 0, 0, 0)] M1 _
        refine cx_91t hT hZ hK hst ?_ ?_
        · intro M101 (i2 : fa_K Ma M101) (i3 : tk_in N (Ma 15 10) (Ma 21) (M101 25)) (i4 : tk_F N (Ma 15 10) (Ma 21) (Ma 22) x2 (tk_rk N (Ma 15 10) (Ma 21) (M101 25))) (i5 : fs_c (tk_F N (Ma 15 10) (Ma 21) (Ma 22) x2) (tk_rk N (Ma 15 10) (Ma 21) (M101 25)).toNat = i) (i6 : tk_st N x2 Ma M101 (i + 1))
          have e48 : M101 48 1 = M1 48 1 := (i2 48 1 (by decide) (by decide) (by decide) (by omega)).trans (hK 48 1 (by decide) (by decide) (by decide) (by omega)).symm
          have e10 : M101 15 10 = Ma 15 10 := i2 15 10 (by decide) (by decide) (by decide) (by omega)
          refine And.intro ?_ ?_
          · intro (c7 : 1 = 0)
            exfalso
            omega
          · intro (c7 : ¬ 1 = 0)
            refine And.intro ?_ ?_
            · intro (c8 : ¬ i = 0)
              show Q 23 [(4, (0, 0, 1, 200001, i + 1)), (0, (2, 0, 0, 0, 0))] [] M101
              refine hgo.2.1 23 _ [(4, (0, 0, 0, 200000, i + 1)), (0, (2, 0, 0, 0, 0))] _ _ (xa_subI rfl rfl (fun _ _ _ _ => by omega) (xa_subR rfl (xa_sub0))) ?_
              exact ih (i + 1) M101 (by omega) (by omega) (fun q j h1 h2 => (i2 q j (by omega) (by omega) (by omega) (by omega)).trans ((hK q j (by omega) (by omega) (by omega) (by omega)).symm.trans (hfr q j h1 h2))) ⟨Ma, hZ, hS, i2, i6, tk_ge i3 i4 i5⟩ (by omega)
            · intro (c8 : i = 0)
              show xa_C (xl_I _) A h0 _ 98 [(2, 15, 0, 0, 0), (2, 48, 0, 0, 0)] M101 _
              refine cx_98t (by omega) (by omega) ?_
              intro M102 (i9 : ∀ (q : Nat) (j : Int), ¬ (q = 48 ∨ q = 49) → M102 q j = M101 q j) (i10 : (0 : Int) ≤ M102 48 1)
              show Q 23 [(4, (0, 0, 1, 200001, i + 1)), (0, (2, 0, 0, 0, 0))] [] M102
              refine hgo.2.1 23 _ [(4, (0, 0, 0, 200000, i + 1)), (0, (2, 0, 0, 0, 0))] _ _ (xa_subI rfl rfl (fun _ _ _ _ => by omega) (xa_subR rfl (xa_sub0))) ?_
              exact ih (i + 1) M102 (by omega) (by omega) (fun q j h1 h2 => (i9 q j h2).trans ((fun q j h1 h2 => (i2 q j (by omega) (by omega) (by omega) (by omega)).trans ((hK q j (by omega) (by omega) (by omega) (by omega)).symm.trans (hfr q j h1 h2))) q j h1 h2)) (tk_re hZ hS i2 i6 (tk_ge i3 i4 i5) i9) (by omega)
        · intro M101 (i11 : fa_K Ma M101) (i12 : fs_c (tk_F N (Ma 15 10) (Ma 21) (Ma 22) x2) (tk_pr N (Ma 15 10) (Ma 21)).toNat = i)
          have e48 : M101 48 1 = M1 48 1 := (i11 48 1 (by decide) (by decide) (by decide) (by omega)).trans (hK 48 1 (by decide) (by decide) (by decide) (by omega)).symm
          have e10 : M101 15 10 = Ma 15 10 := i11 15 10 (by decide) (by decide) (by decide) (by omega)
          refine And.intro ?_ ?_
          · intro (c13 : 0 = 0)
            show post (some (0, 0, 0, 200000, i)) M101
            exact k _ _ i _ ⟨0, _, _, _, hS, Or.inr ⟨rfl, i12.symm⟩⟩ (fun q j h1 h2 => (i11 q j (by omega) (by omega) (by omega) (by omega)).trans ((hK q j (by omega) (by omega) (by omega) (by omega)).symm.trans (hfr q j h1 h2)))
          · intro (c13 : ¬ 0 = 0)
            exfalso
            omega
  refine hgo.1 17 [23] 0 _ _ _ ?_
  show xa_C (xl_I _) A h0 _ 86 [(2, 0, 0, 0, 0), (0, 0, (-2147483648), 2147483647, x1), (0, 0, (-2147483648), 2147483647, x2)] M _
  refine cx_86_55 hT hR hB hFF ?_
  intro r104 M103 (i1 : tk_S N x1 x2 r104 (M103 15 10) (M103 21) (M103 22)) (i2 : r104 = 0 → tk_A N x2 M103) (i3 : ∀ q j, ¬ (15 ≤ q ∧ q ≤ 24) → M103 q j = M q j)
  refine And.intro ?_ ?_
  · intro (c4 : r104 = 0)
    show xa_C (xl_I _) A h0 _ 59 [(2, 48, 0, 0, 0)] M103 _
    refine cx_59_48 ?_
    show Q 23 [(4, (0, 0, 0, 0, 0)), (3, (0, 0, (-4), 0, r104)), (0, (2, 0, 0, 0, 0)), (1, (0, 0, (-2147483648), 2147483647, x1)), (2, (0, 0, (-2147483648), 2147483647, x2))] [] (xa_up M103 48 1 0)
    have er : r104 = 0 := by omega
    rw [er] at i1
    obtain ⟨z1, -, z3, z4⟩ := tk_S_L i1
    have hA := i2 er
    refine hgo.2.1 23 _ [(4, (0, 0, 0, 200000, 0)), (0, (2, 0, 0, 0, 0))] _ _ (xa_subI rfl rfl (fun _ _ _ _ => by omega) (xa_subR rfl (xa_sub0))) ?_
    exact loop 200001 0 (xa_up M103 48 1 0) (by omega) (by show (0 : Int) ≤ 0; omega) (fun q j h1 h2 => (xa_up_ne (by omega)).trans (i3 q j (by omega))) (tk_re (Ma := M103) (M1 := M103) ⟨z1, z3, z4, hA⟩ i1 fa_Kr (tk_st0 hA) (fs_cb _).1 (fun q j hq => xa_up_ne (by omega))) (by omega)
  · intro (c4 : ¬ r104 = 0)
    show post (some (0, 0, (-4), 0, r104)) M103
    exact k _ _ _ _ ⟨_, _, _, _, i1, Or.inl ⟨by omega, rfl⟩⟩ (fun q j h1 h2 => i3 q j (by omega))
theorem ms_fittingsF {A : Nat → Nat} {h0 : g_H} {d : Nat} {M : xa_M} {post : Option xa_V → xa_M → Prop} {l1 u1 l2 u2 : Int} {a x2 : Int} (hI : xm_Inv M) (k : ∀ (o : Option xa_V) (M1 : xa_M), (∃ lo hi n, o = some (0, 0, lo, hi, n) ∧ tf_85 M a x2 n) → xm_cor M M1 → post o M1) : xa_C xm_I A h0 (d + 4) 237 [(2, 60, 0, 0, 0), (0, 0, l1, u1, a), (0, 0, l2, u2, x2)] M post := by
  refine xa_C_arg [(2, 60, 0, 0, 0), (0, 0, (-2147483648), 2147483647, a), (0, 0, (-2147483648), 2147483647, x2)] (xa_svR (xa_svI (fun _ _ _ _ => by omega) (xa_svI (fun _ _ _ _ => by omega) xa_sv0))) ?_
  refine xa_meth (Q0 := (6, 1, false, 0, 0, 12)) (by decide +kernel) ⟨rfl, rfl⟩ (full := s_c_237) rfl rfl ?_
  intro hM hv Q hgo
  have hTM := tk_M_of hM hI
  have loop0 : ∀ (Mr : xa_M), xm_cor M Mr → tk_S M a x2 0 (Mr 60 32) (Mr 80) (Mr 81) → ∀ (n : Nat) (x4 : Int) (M1 : xa_M), 0 ≤ x4 ∧ x4 ≤ 200000 → xm_cor M M1 → 0 ≤ x2 → x2 < M 60 11 → xm_W M1 x4 → (x4 = 0 → M1 60 20 = 0) → fr_K Mr M1 → x4 = fs_c (fr_F Mr x2) (fr_r Mr M1).toNat → xm_rk M1 (M1 60 32).toNat < (n : Int) → Q 30 [(4, (0, 0, 0, 200000, x4)), (2, (0, 0, (-2147483648), 2147483647, x2)), (0, (2, 60, 0, 0, 0))] [] M1 := by
    intro Mr hcr hSr n
    obtain ⟨eF, ep, er, ei⟩ := fm_e hcr (p := x2)
    induction n with
    | zero => intro x4 M1 b4 hc p0 p1 hW h20 hK hx hms; exact absurd hms (by have := xm_W_rk hW; omega)
    | succ n ih0 =>
      intro x4 M1 b4 hc p0 p1 hW h20 hK hx hms0
      refine hgo.2.2 _ _ _ _ (fun hM1 _ => ?_)
      have e11 := xm_corf hc 11 (by omega)
      have b32 := xm_f32 hM1
      have hrk := (xm_rkb hW.2.1 (M1 60 32).toNat (by omega)).1
      have hWs := hW.2.2.2
      obtain ⟨e, he⟩ : ∃ e, e = xm_rk M1 (M1 60 32).toNat := ⟨_, rfl⟩
      have loop1 : ∀ (n : Nat) (x5 x4 : Int) (M1 : xa_M), 0 ≤ x5 ∧ x5 ≤ 14 → 0 ≤ x4 ∧ x4 ≤ 200000 → xm_cor M M1 → 0 ≤ x2 → x2 < M 60 11 → xm_W M1 x4 → xm_rk M1 (M1 60 32).toNat = e → (x4 = 0 → M1 60 20 ≤ x5) → fr_F Mr x2 (fr_r Mr M1) → fr_K Mr M1 → x4 = fs_c (fr_F Mr x2) (fr_r Mr M1).toNat → 14 - x5 < (n : Int) → Q 44 [(5, (0, 0, 0, 14, x5)), (4, (0, 0, 0, 200000, x4)), (2, (0, 0, (-2147483648), 2147483647, x2)), (0, (2, 60, 0, 0, 0))] [] M1 := by
        intro n
        induction n with
        | zero => intro x5 x4 M1 b5 b4 hc p0 p1 hW hrke h20 hf hK hx hms; clear hf hx; omega
        | succ n ih1 =>
          intro x5 x4 M1 b5 b4 hc p0 p1 hW hrke h20 hf hK hx hms1
          refine hgo.2.2 _ _ _ _ (fun hM1 _ => ?_)
          have e11 := xm_corf hc 11 (by omega)
          have b32 := xm_f32 hM1
          have hrk := (xm_rkb hW.2.1 (M1 60 32).toNat (by omega)).1
          have hWs := hW.2.2.2
          have b20 := xm_f20 hM1
          have hr0 := fr_r0 hK hW.2.1
          have hn1 : x4 + 1 = fs_c (fr_F Mr x2) (fr_r Mr M1 + 1).toNat := by rw [fa_c1 hr0.1 hf, ← hx]
          refine hgo.1 20 [30, 44] 44 _ _ _ ?_
          refine And.intro ?_ ?_
          · intro (c1 : (M1 60 32) ≤ x5)
            show xa_C xm_I A h0 _ 243 [(2, 60, 0, 0, 0)] M1 _
            refine xa_C_mok (fr_nextW hK hW (fun v2 M2 z2 hc2 e2 wN2 rk2 hK2 n2 l2 hM2 => ?_))
            refine And.intro ?_ ?_
            · intro (c3 : ¬ v2 = 0)
              show Q 30 [(4, (0, 0, 1, 200001, x4 + 1)), (5, (0, 0, 0, 14, x5)), (2, (0, 0, (-2147483648), 2147483647, x2)), (0, (2, 60, 0, 0, 0))] [] M2
              refine hgo.2.1 30 _ [(4, (0, 0, 0, 200000, x4 + 1)), (2, (0, 0, (-2147483648), 2147483647, x2)), (0, (2, 60, 0, 0, 0))] _ _ (xa_subI rfl rfl (fun _ _ _ _ => by omega) (xa_subI rfl rfl (fun _ _ _ _ => by omega) (xa_subR rfl xa_sub0))) ?_
              exact ih0 (x4 + 1) M2 (by omega) (xm_cor_t hc hc2) (by omega) (by omega) (wN2 _ (by omega) (by omega)) (by first | omega | (simp [xa_up]; done) | (simp [xa_up]; omega)) hK2 (by rw [n2 (by omega)]; exact hn1) (by omega)
            · intro (c3 : v2 = 0)
              show post (some (0, 0, 1, 200001, x4 + 1)) M2
              exact k _ _ ⟨_, _, _, rfl, 0, Mr 60 32, Mr 80, Mr 81, hSr, Or.inr ⟨rfl, by rw [← eF, ← ep, ← l2 (by omega), ← hn1]⟩⟩ (xm_cor_t hc hc2)
          · intro (c1 : x5 < (M1 60 32))
            refine And.intro ?_ ?_
            · intro (c4 : ¬ x4 = 0)
              show xa_C xm_I A h0 _ 243 [(2, 60, 0, 0, 0)] M1 _
              refine xa_C_mok (fr_nextW hK hW (fun v5 M5 z5 hc5 e5 wN5 rk5 hK5 n5 l5 hM5 => ?_))
              refine And.intro ?_ ?_
              · intro (c6 : ¬ v5 = 0)
                show Q 30 [(4, (0, 0, 1, 200001, x4 + 1)), (5, (0, 0, 0, 14, x5)), (2, (0, 0, (-2147483648), 2147483647, x2)), (0, (2, 60, 0, 0, 0))] [] M5
                refine hgo.2.1 30 _ [(4, (0, 0, 0, 200000, x4 + 1)), (2, (0, 0, (-2147483648), 2147483647, x2)), (0, (2, 60, 0, 0, 0))] _ _ (xa_subI rfl rfl (fun _ _ _ _ => by omega) (xa_subI rfl rfl (fun _ _ _ _ => by omega) (xa_subR rfl xa_sub0))) ?_
                exact ih0 (x4 + 1) M5 (by omega) (xm_cor_t hc hc5) (by omega) (by omega) (wN5 _ (by omega) (by omega)) (by first | omega | (simp [xa_up]; done) | (simp [xa_up]; omega)) hK5 (by rw [n5 (by omega)]; exact hn1) (by omega)
              · intro (c6 : v5 = 0)
                show post (some (0, 0, 1, 200001, x4 + 1)) M5
                exact k _ _ ⟨_, _, _, rfl, 0, Mr 60 32, Mr 80, Mr 81, hSr, Or.inr ⟨rfl, by rw [← eF, ← ep, ← l5 (by omega), ← hn1]⟩⟩ (xm_cor_t hc hc5)
            · intro (c4 : x4 = 0)
              refine And.intro (show 0 ≤ x5 ∧ x5 < 14 by omega) ?_
              show xa_C xm_I A h0 _ 231 [(2, 60, 0, 0, 0), (1, 0, 0, 400, M1 84 x5)] M1 _
              refine ct_tell (n := M1 60 20) (by first | rfl | (simp [xa_up]; done) | omega) (by omega) (by omega) ?_
              show Q 44 [(5, (0, 0, 1, 15, x5 + 1)), (4, (0, 0, 0, 200000, x4)), (2, (0, 0, (-2147483648), 2147483647, x2)), (0, (2, 60, 0, 0, 0))] [] (xa_up (xa_up M1 74 (M1 60 20) (M1 84 x5)) 60 20 ((M1 60 20) + 1))
              refine hgo.2.1 44 _ [(5, (0, 0, 0, 14, x5 + 1)), (4, (0, 0, 0, 200000, x4)), (2, (0, 0, (-2147483648), 2147483647, x2)), (0, (2, 60, 0, 0, 0))] _ _ (xa_subI rfl rfl (fun _ _ _ _ => by omega) (xa_subI rfl rfl (fun _ _ _ _ => by omega) (xa_subI rfl rfl (fun _ _ _ _ => by omega) (xa_subR rfl xa_sub0)))) ?_
              have e84 : (xa_up (xa_up M1 74 (M1 60 20) (M1 84 x5)) 60 20 ((M1 60 20) + 1)) 84 = M1 84 := funext (fun j => (xa_up_ne (by omega)).trans (xa_up_ne (by omega)))
              have er2 : fr_r Mr (xa_up (xa_up M1 74 (M1 60 20) (M1 84 x5)) 60 20 ((M1 60 20) + 1)) = fr_r Mr M1 := by
                unfold fr_r
                rw [e84]
              exact ih1 (x5 + 1) x4 (xa_up (xa_up M1 74 (M1 60 20) (M1 84 x5)) 60 20 ((M1 60 20) + 1)) (by omega) (by omega) (xm_cor_f (by omega) (xm_cor_a rfl hc)) (by omega) (by omega) (xm_86_W (xm_86_s (by omega)) (xm_86_W (xm_86_s (by omega)) hW).1).1 ((xm_86_W (xm_86_s (by omega)) (xm_86_W (xm_86_s (by omega)) hW).1).2.trans ((xm_86_W (xm_86_s (by omega)) hW).2.trans hrke)) (by first | omega | (simp [xa_up]; done) | (simp [xa_up]; omega)) (by rw [er2]; exact hf) (fun q j h1 h2 => (xa_up_ne (by omega)).trans ((xa_up_ne (by omega)).trans (hK q j h1 h2))) (by rw [er2]; exact hx) (by omega)
      refine hgo.1 14 [30, 44] 30 _ _ _ ?_
      show xa_C xm_I A h0 _ 242 [(2, 60, 0, 0, 0), (0, 0, (-2147483648), 2147483647, x2)] M1 _
      refine xa_C_mok (fr_isF hK (xm_Inv_cor hc hI) hW (by omega) (by omega) (fun v1 M1 z1 q1 hc1 e1 wF1 rk1 hK er1 hM1 => ?_))
      rw [← er1] at q1 hx
      have hr0 := fr_r0 hK wF1.2.1
      refine And.intro ?_ ?_
      · intro (c2 : ¬ v1 = 0)
        show Q 44 [(5, (0, 0, 0, 0, 0)), (4, (0, 0, 0, 200000, x4)), (2, (0, 0, (-2147483648), 2147483647, x2)), (0, (2, 60, 0, 0, 0))] [] M1
        refine hgo.2.1 44 _ [(5, (0, 0, 0, 14, 0)), (4, (0, 0, 0, 200000, x4)), (2, (0, 0, (-2147483648), 2147483647, x2)), (0, (2, 60, 0, 0, 0))] _ _ (xa_subI rfl rfl (fun _ _ _ _ => by omega) (xa_subI rfl rfl (fun _ _ _ _ => by omega) (xa_subI rfl rfl (fun _ _ _ _ => by omega) (xa_subR rfl xa_sub0)))) ?_
        exact loop1 15 0 x4 M1 (by omega) (by omega) (xm_cor_t hc hc1) (by omega) (by omega) wF1 (by omega) (by first | omega | (simp [xa_up]; done) | (simp [xa_up]; omega)) (q1.mp (by omega)) hK hx (by omega)
      · intro (c2 : v1 = 0)
        have hn0 : x4 = fs_c (fr_F Mr x2) (fr_r Mr M1 + 1).toNat := by rw [fa_c0 hr0.1 (fun h => by have := q1.mpr h; omega), ← hx]
        show xa_C xm_I A h0 _ 243 [(2, 60, 0, 0, 0)] M1 _
        refine xa_C_mok (fr_nextW hK wF1 (fun v3 M3 z3 hc3 e3 wN3 rk3 hK3 n3 l3 hM3 => ?_))
        refine And.intro ?_ ?_
        · intro (c4 : ¬ v3 = 0)
          show Q 30 [(4, (0, 0, 0, 200000, x4)), (2, (0, 0, (-2147483648), 2147483647, x2)), (0, (2, 60, 0, 0, 0))] [] M3
          refine hgo.2.1 30 _ [(4, (0, 0, 0, 200000, x4)), (2, (0, 0, (-2147483648), 2147483647, x2)), (0, (2, 60, 0, 0, 0))] _ _ (xa_subI rfl rfl (fun _ _ _ _ => by omega) (xa_subI rfl rfl (fun _ _ _ _ => by omega) (xa_subR rfl xa_sub0))) ?_
          exact ih0 x4 M3 (by omega) (xm_cor_t (xm_cor_t hc hc1) hc3) (by omega) (by omega) (wN3 _ (by omega) (by omega)) (by first | omega | (simp [xa_up]; done) | (simp [xa_up]; omega)) hK3 (by rw [n3 (by omega)]; exact hn0) (by omega)
        · intro (c4 : v3 = 0)
          show post (some (0, 0, 0, 200000, x4)) M3
          exact k _ _ ⟨_, _, _, rfl, 0, Mr 60 32, Mr 80, Mr 81, hSr, Or.inr ⟨rfl, by rw [← eF, ← ep, ← l3 (by omega), ← hn0]⟩⟩ (xm_cor_t (xm_cor_t hc hc1) hc3)
  refine hgo.1 22 [30, 44] 0 _ _ _ ?_
  show xa_C xm_I A h0 _ 238 [(2, 60, 0, 0, 0), (0, 0, (-2147483648), 2147483647, a), (0, 0, (-2147483648), 2147483647, x2)] (xa_up M 60 21 0) _
  refine xa_C_mok (ct_readyF (xm_Inv_cor (xm_cor_f (by omega) xm_cor_r) hI) (fun v1 M1 z1 hc1 hr1 hq1 hM1 => ?_))
  have hS := rd_S hTM (xm_cor_f (by omega) xm_cor_r) hc1 hM1 hq1
  refine And.intro ?_ ?_
  · intro (c2 : 0 ≤ v1)
    show xa_C xm_I A h0 _ 241 [(2, 60, 0, 0, 0)] (xa_up M1 60 20 0) _
    refine xa_C_mok (fm_firstW (xm_Inv_cor (xm_cor_f (by omega) (xm_cor_t (xm_cor_f (by omega) xm_cor_r) hc1)) hI) (xm_86_Y (xm_86_s (by omega)) ⟨(hr1 (by omega)).1, (hr1 (by omega)).2.1⟩) (fun M3 hc3 e3 wA3 hK3 hr3 hM3 => ?_))
    have w2 := wA3.2.2.2
    have q11 : 0 ≤ x2 ∧ x2 < M 60 11 := by
      have q := (hr1 (by omega)).2.2
      simpa [xa_up] using q
    have e20 : M3 60 20 = 0 := by
      rw [e3]
      simp [xa_up]
    show Q 30 [(4, (0, 0, 0, 0, 0)), (3, (0, 0, (-4), 0, v1)), (0, (2, 60, 0, 0, 0)), (1, (0, 0, (-2147483648), 2147483647, a)), (2, (0, 0, (-2147483648), 2147483647, x2))] [] M3
    refine hgo.2.1 30 _ [(4, (0, 0, 0, 200000, 0)), (2, (0, 0, (-2147483648), 2147483647, x2)), (0, (2, 60, 0, 0, 0))] _ _ (xa_subI rfl rfl (fun _ _ _ _ => by omega) (xa_subI rfl rfl (fun _ _ _ _ => by omega) (xa_subR rfl xa_sub0))) ?_
    have v0 : v1 = 0 := by omega
    rw [v0] at hS
    have c32 : (xa_up M1 60 20 0) 60 32 = M1 60 32 := xa_up_ne (by omega)
    have c80 : (xa_up M1 60 20 0) 80 = M1 80 := funext (fun j => xa_up_ne (by omega))
    have c81 : (xa_up M1 60 20 0) 81 = M1 81 := funext (fun j => xa_up_ne (by omega))
    exact loop0 (xa_up M1 60 20 0) (xm_cor_f (by omega) (xm_cor_t (xm_cor_f (by omega) xm_cor_r) hc1)) (by rw [c32, c80, c81]; exact hS) 200000 0 M3 (by omega) (xm_cor_t (xm_cor_f (by omega) (xm_cor_t (xm_cor_f (by omega) xm_cor_r) hc1)) hc3) (by omega) (by omega) wA3 (by first | omega | (simp [xa_up]; done) | (simp [xa_up]; omega)) hK3 (by rw [hr3]; rfl) (by omega)
  · intro (c2 : v1 < 0)
    show post (some (0, 0, (-4), 0, v1)) M1
    exact k _ _ ⟨_, _, _, rfl, v1, _, _, _, hS, Or.inl ⟨by omega, rfl⟩⟩ (xm_cor_t (xm_cor_f (by omega) xm_cor_r) hc1)

theorem cw_85 {b : Bool} {A : Nat → Nat} {h0 : g_H} {d : Nat} {M : xa_M} {post : Option xa_V → xa_M → Prop} {l1 u1 l2 u2 x1 x2 : Int} {F : Int → Int} {N : xa_M} (hT : tk_M N) (hR : tk_R M N) (hB : tk_B (bk_p b) M N) (hFF : 1 ≤ x1 ∧ x1 ≤ 9 → tk_Y N x1 F) (k : ∀ (lo hi r : Int) (M1 : xa_M), tf_85 N x1 x2 r → (∀ (q : Nat) (j : Int), ¬ (15 ≤ q ∧ q ≤ 27) → ¬ (q = 48 ∨ q = 49) → M1 q j = M q j) → post (some (0, 0, lo, hi, r)) M1) : xa_C (xl_I b) A h0 (d + 7) 85 [(2, 0, 0, 0, 0), (0, 0, l1, u1, x1), (0, 0, l2, u2, x2)] M post := by
  cases b
  · exact cx_85_50 hT hR hB hFF k
  · exact cx_85_55 hT hR hB hFF k
/-- both sides have answered, what they hold is as it was -/
theorem tf_lmR {b : Bool} {U V U' V' : xa_M} (h : lm_R b (xj U V)) (e1 : ∀ (q : Nat) (j : Int), ¬ (15 ≤ q ∧ q ≤ 27) → ¬ (q = 48 ∨ q = 49) → U' q j = U q j) (e2 : xm_cor V V') : lm_R b (xj U' V') := by
  refine lm_R_k (fun q j hC => ?_) h
  unfold xj
  by_cases hq : q < 60
  · rw [if_pos hq, if_pos hq]
    exact e1 q j (by unfold lm_C at hC; omega) (by unfold lm_C at hC; omega)
  · rw [if_neg hq, if_neg hq]
    exact e2 q j (by unfold lm_C at hC; unfold xm_scr; omega)
theorem iv_p85 (A : Nat → Nat) (cmp : Bool) : iv_pair (iv_J A) A 85 237 [0, 0] cmp false := iv_armV (fun W b h as M hJ hM hInv hs hR => by
  obtain ⟨m1, ys, rfl, -, hs⟩ := iv_spc hs
  obtain ⟨m2, ys, rfl, -, hs⟩ := iv_spc hs
  obtain rfl := iv_sp0 hs
  have b0 := xm_f0 (xa_H_Mok hM)
  have b6 := xm_f6 (xa_H_Mok hM)
  have r1 : iv_num h 1 9 = M 60 0 := hR.1.1
  have r2 : iv_num h 1 10 = M 60 6 := hR.1.2.1
  have r3 : ∀ i, 0 ≤ i → i < 14 → iv_num h 2 i = M 61 i ∧ iv_num h 3 i = M 62 i ∧ iv_num h 5 i = M 64 i ∧ iv_num h 6 i = M 65 i ∧ iv_num h 4 i = M 63 i := hR.1.2.2.1
  have r4 : ∀ i, 0 ≤ i → i < 16 → iv_num h 7 i = M 66 i ∧ iv_num h 8 i = M 67 i := hR.1.2.2.2
  have hS := hR.2
  obtain ⟨s1, s2, s3, s4⟩ := lm_Sx.mp hR.2
  have hMk := xa_H_Mok hM
  have b11 := xm_f11 hMk
  have hT := tk_M_of hMk hInv
  have hRc : tk_R (iv_num h) M := ⟨r1, r2, fun i i0 i1 => by
    obtain ⟨g1, g2, g3, g4, -⟩ := r3 i i0 i1
    exact ⟨g1, g2, g3, g4⟩, r4⟩
  have hB : tk_B (bk_p b) (iv_num h) M := ⟨s3, b11, fun p p0 p1 => by
    obtain ⟨g1, g2, -⟩ := s4 p p0 (by omega) p1
    have t1 := xm_t70 hMk p p0 (by omega)
    have t2 := xm_t71 hMk p p0 (by omega)
    have t3 := hInv.2.2.1 p p0 p1
    exact ⟨⟨g1, g2⟩, by omega, by omega⟩⟩
  have hx : ∃ F : Int → Int, (1 ≤ m1.toInt ∧ m1.toInt ≤ 9) → tk_Y M m1.toInt F := by
    by_cases c : 1 ≤ m1.toInt ∧ m1.toInt ≤ 9
    · obtain ⟨F, hF1, hF2⟩ := wr_ex hMk (X := m1.toInt) (by omega) b6.1 (fun i i0 i1 => tk_AB hT i i0 i1)
      exact ⟨F, fun _ => ⟨hF1, fun a _ _ => hF2 a⟩⟩
    · exact ⟨fun _ => 0, fun h => absurd h c⟩
  obtain ⟨F, hFF⟩ := hx
  have hc := cw_85 (b := b) (A := A) (h0 := h) (d := 53) (M := iv_num h) (N := M) (F := F) (l1 := -2147483648) (u1 := 2147483647) (l2 := -2147483648) (u2 := 2147483647) (x1 := m1.toInt) (x2 := m2.toInt) (post := fun o M1 => ∃ lo hi n, o = some (0, 0, lo, hi, n) ∧ (tf_85 M m1.toInt m2.toInt n ∧ ∀ (q : Nat) (j : Int), ¬ (15 ≤ q ∧ q ≤ 27) → ¬ (q = 48 ∨ q = 49) → M1 q j = iv_num h q j)) hT hRc hB hFF (fun lo hi n M1 x1 x2 => ⟨lo, hi, n, rfl, x1, x2⟩)
  have hm := fun (h1 : g_H) => ms_fittingsF (A := A) (h0 := h1) (d := 56) (M := M) (l1 := -2147483648) (u1 := 2147483647) (l2 := -2147483648) (u2 := 2147483647) (a := m1.toInt) (x2 := m2.toInt) (post := fun o M2 => (∃ lo hi n, o = some (0, 0, lo, hi, n) ∧ (tf_85 M m1.toInt m2.toInt n ∧ xm_cor M M2)) ∧ xm_Inv M2) hInv (fun o M2 x1 x2 => by
    obtain ⟨lo, hi, n, rfl, x1⟩ := x1
    exact ⟨⟨lo, hi, n, rfl, x1, x2⟩, xm_Inv_cor x2 hInv⟩)
  refine ⟨[(2, 0, 0, 0, 0), (0, 0, -2147483648, 2147483647, m1.toInt), (0, 0, -2147483648, 2147483647, m2.toInt)], [(2, 60, 0, 0, 0), (0, 0, -2147483648, 2147483647, m1.toInt), (0, 0, -2147483648, 2147483647, m2.toInt)], _, _, ⟨rfl, iv_i m1, iv_i m2, trivial⟩, ⟨rfl, iv_i m1, iv_i m2, trivial⟩, fun n n' M1 M2 h1 h2 => ⟨fun _ => tf_85_one hT h1.1 h2.1, fun x => h2.2 104 x (by unfold xm_scr; omega), fun x => h2.2 105 x (by unfold xm_scr; omega), tf_lmR hR h1.2 h2.2⟩, hc, hm⟩)

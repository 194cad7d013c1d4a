set_option maxRecDepth 20000
/-- the row behind fittings: the first one's teeth, none, or as it was -/
def rz_85 (N : xa_M) (X p r s s' : Int) : Prop := (r < 0 ∧ s' = s) ∨ (r = 0 ∧ s' = 0) ∨ (0 < r ∧ ∃ (n : Int) (W R : Int → Int), tk_S N X p 0 n W R ∧ s' = n)
theorem rz_85u {N : xa_M} {X p r s s' t t' : Int} (hM : tk_M N) (h : rz_85 N X p r s s') (h' : rz_85 N X p r t t') (e : s = t) : s' = t' := by
  rcases h with ⟨a, b⟩ | ⟨a, b⟩ | ⟨a, n, W, R, hS, b⟩ <;> rcases h' with ⟨c, d⟩ | ⟨c, d⟩ | ⟨c, n', W', R', hS', d⟩ <;> first | omega | exact b.trans (((tk_S_one hM hS' hS).2 (Or.inl rfl)).1.trans d.symm)
theorem rz_85i {N : xa_M} {X p i s s' : Int} (i0 : 0 ≤ i) (h : (i = 0 → s' = 0) ∧ (0 < i → ∃ (n : Int) (W R : Int → Int), tk_S N X p 0 n W R ∧ s' = n)) : rz_85 N X p i s s' := by
  by_cases c : i = 0
  · exact Or.inr (Or.inl ⟨c, h.1 c⟩)
  · exact Or.inr (Or.inr ⟨by omega, h.2 (by omega)⟩)
theorem rz_Sr {N : xa_M} {X p r n : Int} {W R : Int → Int} (h : tk_S N X p r n W R) : r ≤ 0 := by
  rcases h with ⟨-, h⟩ | ⟨-, ⟨-, h⟩ | ⟨-, ⟨-, h⟩ | ⟨-, h⟩⟩⟩ <;> omega
theorem rz_98 {b : Bool} {A : Nat → Nat} {h0 : g_H} {d : Nat} {M : xa_M} {post : Option xa_V → xa_M → Prop} (h0n : M 48 1 = 0) (h10 : 0 ≤ M 15 10 ∧ M 15 10 ≤ 14) (k : ∀ M1 : xa_M, (∀ (q : Nat) (j : Int), ¬ (q = 48 ∨ q = 49) → M1 q j = M q j) → (0 : Int) ≤ M1 48 1 → M1 48 1 = M 15 10 → post none M1) : xa_C (xl_I b) A h0 (d + 3) 98 [(2, 15, 0, 0, 0), (2, 48, 0, 0, 0)] M post := by
  refine xa_meth (Q0 := (3, 0, false, 0, 0, 3)) (by decide +kernel) ⟨rfl, rfl⟩ (full := s_c_98) rfl rfl ?_
  intro hM hv Q hgo
  have loop : ∀ (f : Nat) (i : Int) (M1 : xa_M), 0 ≤ i ∧ i ≤ 14 → (∀ (q : Nat) (j : Int), ¬ (q = 48 ∨ q = 49) → M1 q j = M q j) → (M1 48 1 = i ∧ i ≤ M 15 10) → 14 - i < (f : Int) → Q 2 [(2, (0, 0, 0, 14, i)), (0, (2, 15, 0, 0, 0)), (1, (2, 48, 0, 0, 0))] [] M1 := by
    intro f
    induction f with
    | zero => intro i M1 i1 hk hn hms; omega
    | succ f ih =>
      intro i M1 i1 hk hn hms
      have e10 := hk 15 10 (by decide)
      refine hgo.1 18 [2] 2 _ _ _ ?_
      refine And.intro ?_ ?_
      · intro (c1 : (M1 15 10) ≤ i)
        show post none M1
        exact k M1 hk (by omega) (by omega)
      · intro (c1 : i < (M1 15 10))
        show xa_C (xl_I b) A h0 _ 23 [(2, 25, 0, 0, 0), (0, 0, 0, 14, i)] M1 _
        refine cx_23_25 (show 0 ≤ i ∧ i < 14 by omega) ?_
        show xa_C (xl_I b) A h0 _ 60 [(2, 48, 0, 0, 0), (1, 0, (-2147483648), 2147483647, M1 25 i)] M1 _
        refine rz_60 (by omega) ?_
        intro M101 (i2 : ∀ (q : Nat) (j : Int), ¬ (q = 48 ∨ q = 49) → M101 q j = M1 q j) (i3 : (0 : Int) ≤ M101 48 1) (zM : M101 48 1 = M1 48 1 + 1)
        show Q 2 [(2, (0, 0, 1, 15, i + 1)), (0, (2, 15, 0, 0, 0)), (1, (2, 48, 0, 0, 0))] [] M101
        refine hgo.2.1 2 _ [(2, (0, 0, 0, 14, i + 1)), (0, (2, 15, 0, 0, 0)), (1, (2, 48, 0, 0, 0))] _ _ (xa_subI rfl rfl (fun _ _ _ _ => by omega) (xa_subR rfl (xa_subR rfl (xa_sub0)))) ?_
        exact ih (i + 1) M101 (by omega) (fun q j hq => (i2 q j hq).trans (hk q j hq)) (by omega) (by omega)
  refine hgo.1 7 [2] 0 _ _ _ ?_
  show Q 2 [(2, (0, 0, 0, 0, 0)), (0, (2, 15, 0, 0, 0)), (1, (2, 48, 0, 0, 0))] [] M
  refine hgo.2.1 2 _ [(2, (0, 0, 0, 14, 0)), (0, (2, 15, 0, 0, 0)), (1, (2, 48, 0, 0, 0))] _ _ (xa_subI rfl rfl (fun _ _ _ _ => by omega) (xa_subR rfl (xa_subR rfl (xa_sub0)))) ?_
  exact loop 15 0 M (by omega) (fun _ _ _ => rfl) ⟨h0n, h10.1⟩ (by omega)
theorem rx_85_50 {A : Nat → Nat} {h0 : g_H} {d : Nat} {M : xa_M} {post : Option xa_V → xa_M → Prop} {l1 u1 l2 u2 x1 x2 : Int} {F : Int → Int} {N : xa_M} (hT : tk_M N) (hR : tk_R M N) (hB : tk_B 50 M N) (hFF : 1 ≤ x1 ∧ x1 ≤ 9 → tk_Y N x1 F) (k : ∀ (lo hi r : Int) (M1 : xa_M), tf_85 N x1 x2 r → (∀ (q : Nat) (j : Int), ¬ (15 ≤ q ∧ q ≤ 27) → ¬ (q = 48 ∨ q = 49) → M1 q j = M q j) → rz_85 N x1 x2 r (M 48 1) (M1 48 1) → post (some (0, 0, lo, hi, r)) M1) : xa_C (xl_I false) A h0 (d + 7) 85 [(2, 0, 0, 0, 0), (0, 0, l1, u1, x1), (0, 0, l2, u2, x2)] M post := by
  refine xa_C_arg [(2, 0, 0, 0, 0), (0, 0, (-2147483648), 2147483647, x1), (0, 0, (-2147483648), 2147483647, x2)] (xa_svR (xa_svI (fun _ _ _ _ => by omega) (xa_svI (fun _ _ _ _ => by omega) xa_sv0))) ?_
  refine xa_meth (Q0 := (5, 1, false, 0, 0, 11)) (by decide +kernel) ⟨rfl, rfl⟩ (full := s_c_85) rfl rfl ?_
  intro hM hv Q hgo
  have loop : ∀ (f : Nat) (i : Int) (M1 : xa_M), 0 ≤ i ∧ i ≤ 200000 → (0 : Int) ≤ M1 48 1 → ((i = 0 → M1 48 1 = 0) ∧ (0 < i → ∃ (n : Int) (W R : Int → Int), tk_S N x1 x2 0 n W R ∧ M1 48 1 = n)) → (∀ (q : Nat) (j : Int), ¬ (15 ≤ q ∧ q ≤ 27) → ¬ (q = 48 ∨ q = 49) → M1 q j = M q j) → (∃ Ma : xa_M, tk_Z N x1 x2 Ma ∧ tk_S N x1 x2 0 (Ma 15 10) (Ma 21) (Ma 22) ∧ fa_K Ma M1 ∧ tk_st N x2 Ma M1 i ∧ i ≤ fs_c (tk_F N (Ma 15 10) (Ma 21) (Ma 22) x2) (tk_pr N (Ma 15 10) (Ma 21)).toNat) → 200000 - i < (f : Int) → Q 23 [(4, (0, 0, 0, 200000, i)), (0, (2, 0, 0, 0, 0))] [] M1 := by
    intro f
    induction f with
    | zero => intro i M1 i1 h48 hN hfr hE hms; clear hE hN; omega
    | succ f ih =>
      intro i M1 i1 h48 hN hfr hE hms
      obtain ⟨Ma, hZ, hS, hK, hst, hge⟩ := hE
      have hL1 := (tk_Zl hT hZ).1
      refine hgo.1 21 [23] 23 _ _ _ ?_
      refine And.intro ?_ ?_
      · intro (c1 : 200000 ≤ i)
        show post (some (0, 0, 0, 200000, i)) M1
        have ea := tk_all hT hZ hst (by omega)
        exact k _ _ i M1 ⟨0, _, _, _, hS, Or.inr ⟨rfl, by clear hN; omega⟩⟩ hfr (rz_85i i1.1 hN)
      · intro (c1 : i < 200000)
        show xa_C (xl_I _) A h0 _ 91 [(2, 15, 0, 0, 0)] M1 _
        refine cx_91t hT hZ hK hst ?_ ?_
        · intro M101 (i2 : fa_K Ma M101) (i3 : tk_in N (Ma 15 10) (Ma 21) (M101 25)) (i4 : tk_F N (Ma 15 10) (Ma 21) (Ma 22) x2 (tk_rk N (Ma 15 10) (Ma 21) (M101 25))) (i5 : fs_c (tk_F N (Ma 15 10) (Ma 21) (Ma 22) x2) (tk_rk N (Ma 15 10) (Ma 21) (M101 25)).toNat = i) (i6 : tk_st N x2 Ma M101 (i + 1))
          have e48 : M101 48 1 = M1 48 1 := (i2 48 1 (by decide) (by decide) (by decide) (by omega)).trans (hK 48 1 (by decide) (by decide) (by decide) (by omega)).symm
          have e10 : M101 15 10 = Ma 15 10 := i2 15 10 (by decide) (by decide) (by decide) (by omega)
          refine And.intro ?_ ?_
          · intro (c7 : 1 = 0)
            exfalso
            omega
          · intro (c7 : ¬ 1 = 0)
            refine And.intro ?_ ?_
            · intro (c8 : ¬ i = 0)
              show Q 23 [(4, (0, 0, 1, 200001, i + 1)), (0, (2, 0, 0, 0, 0))] [] M101
              refine hgo.2.1 23 _ [(4, (0, 0, 0, 200000, i + 1)), (0, (2, 0, 0, 0, 0))] _ _ (xa_subI rfl rfl (fun _ _ _ _ => by omega) (xa_subR rfl (xa_sub0))) ?_
              exact ih (i + 1) M101 (by omega) (by omega) ⟨fun e => by omega, fun _ => by rw [e48]; exact hN.2 (by omega)⟩ (fun q j h1 h2 => (i2 q j (by omega) (by omega) (by omega) (by omega)).trans ((hK q j (by omega) (by omega) (by omega) (by omega)).symm.trans (hfr q j h1 h2))) ⟨Ma, hZ, hS, i2, i6, tk_ge i3 i4 i5⟩ (by omega)
            · intro (c8 : i = 0)
              show xa_C (xl_I _) A h0 _ 98 [(2, 15, 0, 0, 0), (2, 48, 0, 0, 0)] M101 _
              refine rz_98 (by have := hN.1 c8; omega) (by omega) ?_
              intro M102 (i9 : ∀ (q : Nat) (j : Int), ¬ (q = 48 ∨ q = 49) → M102 q j = M101 q j) (i10 : (0 : Int) ≤ M102 48 1) (zM : M102 48 1 = M101 15 10)
              show Q 23 [(4, (0, 0, 1, 200001, i + 1)), (0, (2, 0, 0, 0, 0))] [] M102
              refine hgo.2.1 23 _ [(4, (0, 0, 0, 200000, i + 1)), (0, (2, 0, 0, 0, 0))] _ _ (xa_subI rfl rfl (fun _ _ _ _ => by omega) (xa_subR rfl (xa_sub0))) ?_
              exact ih (i + 1) M102 (by omega) (by omega) ⟨fun e => by omega, fun _ => ⟨_, _, _, hS, zM.trans e10⟩⟩ (fun q j h1 h2 => (i9 q j h2).trans ((fun q j h1 h2 => (i2 q j (by omega) (by omega) (by omega) (by omega)).trans ((hK q j (by omega) (by omega) (by omega) (by omega)).symm.trans (hfr q j h1 h2))) q j h1 h2)) (tk_re hZ hS i2 i6 (tk_ge i3 i4 i5) i9) (by omega)
        · intro M101 (i11 : fa_K Ma M101) (i12 : fs_c (tk_F N (Ma 15 10) (Ma 21) (Ma 22) x2) (tk_pr N (Ma 15 10) (Ma 21)).toNat = i)
          have e48 : M101 48 1 = M1 48 1 := (i11 48 1 (by decide) (by decide) (by decide) (by omega)).trans (hK 48 1 (by decide) (by decide) (by decide) (by omega)).symm
          have e10 : M101 15 10 = Ma 15 10 := i11 15 10 (by decide) (by decide) (by decide) (by omega)
          refine And.intro ?_ ?_
          · intro (c13 : 0 = 0)
            show post (some (0, 0, 0, 200000, i)) M101
            exact k _ _ i _ ⟨0, _, _, _, hS, Or.inr ⟨rfl, i12.symm⟩⟩ (fun q j h1 h2 => (i11 q j (by omega) (by omega) (by omega) (by omega)).trans ((hK q j (by omega) (by omega) (by omega) (by omega)).symm.trans (hfr q j h1 h2))) (rz_85i i1.1 (by rw [e48]; exact hN))
          · intro (c13 : ¬ 0 = 0)
            exfalso
            omega
  refine hgo.1 17 [23] 0 _ _ _ ?_
  show xa_C (xl_I _) A h0 _ 86 [(2, 0, 0, 0, 0), (0, 0, (-2147483648), 2147483647, x1), (0, 0, (-2147483648), 2147483647, x2)] M _
  refine cx_86_50 hT hR hB hFF ?_
  intro r104 M103 (i1 : tk_S N x1 x2 r104 (M103 15 10) (M103 21) (M103 22)) (i2 : r104 = 0 → tk_A N x2 M103) (i3 : ∀ q j, ¬ (15 ≤ q ∧ q ≤ 24) → M103 q j = M q j)
  refine And.intro ?_ ?_
  · intro (c4 : r104 = 0)
    show xa_C (xl_I _) A h0 _ 59 [(2, 48, 0, 0, 0)] M103 _
    refine cx_59_48 ?_
    show Q 23 [(4, (0, 0, 0, 0, 0)), (3, (0, 0, (-4), 0, r104)), (0, (2, 0, 0, 0, 0)), (1, (0, 0, (-2147483648), 2147483647, x1)), (2, (0, 0, (-2147483648), 2147483647, x2))] [] (xa_up M103 48 1 0)
    have er : r104 = 0 := by omega
    rw [er] at i1
    obtain ⟨z1, -, z3, z4⟩ := tk_S_L i1
    have hA := i2 er
    refine hgo.2.1 23 _ [(4, (0, 0, 0, 200000, 0)), (0, (2, 0, 0, 0, 0))] _ _ (xa_subI rfl rfl (fun _ _ _ _ => by omega) (xa_subR rfl (xa_sub0))) ?_
    exact loop 200001 0 (xa_up M103 48 1 0) (by omega) (by show (0 : Int) ≤ 0; omega) ⟨fun _ => xa_up_eq, fun e => absurd e (by omega)⟩ (fun q j h1 h2 => (xa_up_ne (by omega)).trans (i3 q j (by omega))) (tk_re (Ma := M103) (M1 := M103) ⟨z1, z3, z4, hA⟩ i1 fa_Kr (tk_st0 hA) (fs_cb _).1 (fun q j hq => xa_up_ne (by omega))) (by omega)
  · intro (c4 : ¬ r104 = 0)
    show post (some (0, 0, (-4), 0, r104)) M103
    exact k _ _ _ _ ⟨_, _, _, _, i1, Or.inl ⟨by omega, rfl⟩⟩ (fun q j h1 h2 => i3 q j (by omega)) (Or.inl ⟨by have := rz_Sr i1; omega, i3 48 1 (by omega)⟩)
theorem rx_85_55 {A : Nat → Nat} {h0 : g_H} {d : Nat} {M : xa_M} {post : Option xa_V → xa_M → Prop} {l1 u1 l2 u2 x1 x2 : Int} {F : Int → Int} {N : xa_M} (hT : tk_M N) (hR : tk_R M N) (hB : tk_B 55 M N) (hFF : 1 ≤ x1 ∧ x1 ≤ 9 → tk_Y N x1 F) (k : ∀ (lo hi r : Int) (M1 : xa_M), tf_85 N x1 x2 r → (∀ (q : Nat) (j : Int), ¬ (15 ≤ q ∧ q ≤ 27) → ¬ (q = 48 ∨ q = 49) → M1 q j = M q j) → rz_85 N x1 x2 r (M 48 1) (M1 48 1) → post (some (0, 0, lo, hi, r)) M1) : xa_C (xl_I true) A h0 (d + 7) 85 [(2, 0, 0, 0, 0), (0, 0, l1, u1, x1), (0, 0, l2, u2, x2)] M post := by
  refine xa_C_arg [(2, 0, 0, 0, 0), (0, 0, (-2147483648), 2147483647, x1), (0, 0, (-2147483648), 2147483647, x2)] (xa_svR (xa_svI (fun _ _ _ _ => by omega) (xa_svI (fun _ _ _ _ => by omega) xa_sv0))) ?_
  refine xa_meth (Q0 := (5, 1, false, 0, 0, 11)) (by decide +kernel) ⟨rfl, rfl⟩ (full := s_c_85) rfl rfl ?_
  intro hM hv Q hgo
  have loop : ∀ (f : Nat) (i : Int) (M1 : xa_M), 0 ≤ i ∧ i ≤ 200000 → (0 : Int) ≤ M1 48 1 → ((i = 0 → M1 48 1 = 0) ∧ (0 < i → ∃ (n : Int) (W R : Int → Int), tk_S N x1 x2 0 n W R ∧ M1 48 1 = n)) → (∀ (q : Nat) (j : Int), ¬ (15 ≤ q ∧ q ≤ 27) → ¬ (q = 48 ∨ q = 49) → M1 q j = M q j) → (∃ Ma : xa_M, tk_Z N x1 x2 Ma ∧ tk_S N x1 x2 0 (Ma 15 10) (Ma 21) (Ma 22) ∧ fa_K Ma M1 ∧ tk_st N x2 Ma M1 i ∧ i ≤ fs_c (tk_F N (Ma 15 10) (Ma 21) (Ma 22) x2) (tk_pr N (Ma 15 10) (Ma 21)).toNat) → 200000 - i < (f : Int) → Q 23 [(4, (0, 0, 0, 200000, i)), (0, (2, 0, 0, 0, 0))] [] M1 := by
    intro f
    induction f with
    | zero => intro i M1 i1 h48 hN hfr hE hms; clear hE hN; omega
    | succ f ih =>
      intro i M1 i1 h48 hN hfr hE hms
      obtain ⟨Ma, hZ, hS, hK, hst, hge⟩ := hE
      have hL1 := (tk_Zl hT hZ).1
      refine hgo.1 21 [23] 23 _ _ _ ?_
      refine And.intro ?_ ?_
      · intro (c1 : 200000 ≤ i)
        show post (some (0, 0, 0, 200000, i)) M1
        have ea := tk_all hT hZ hst (by omega)
        exact k _ _ i M1 ⟨0, _, _, _, hS, Or.inr ⟨rfl, by clear hN; omega⟩⟩ hfr (rz_85i i1.1 hN)
      · intro (c1 : i < 200000)
        show xa_C (xl_I _) A h0 _ 91 [(2, 15, 0, 0, 0)] M1 _
        refine cx_91t hT hZ hK hst ?_ ?_
        · intro M101 (i2 : fa_K Ma M101) (i3 : tk_in N (Ma 15 10) (Ma 21) (M101 25)) (i4 : tk_F N (Ma 15 10) (Ma 21) (Ma 22) x2 (tk_rk N (Ma 15 10) (Ma 21) (M101 25))) (i5 : fs_c (tk_F N (Ma 15 10) (Ma 21) (Ma 22) x2) (tk_rk N (Ma 15 10) (Ma 21) (M101 25)).toNat = i) (i6 : tk_st N x2 Ma M101 (i + 1))
          have e48 : M101 48 1 = M1 48 1 := (i2 48 1 (by decide) (by decide) (by decide) (by omega)).trans (hK 48 1 (by decide) (by decide) (by decide) (by omega)).symm
          have e10 : M101 15 10 = Ma 15 10 := i2 15 10 (by decide) (by decide) (by decide) (by omega)
          refine And.intro ?_ ?_
          · intro (c7 : 1 = 0)
            exfalso
            omega
          · intro (c7 : ¬ 1 = 0)
            refine And.intro ?_ ?_
            · intro (c8 : ¬ i = 0)
              show Q 23 [(4, (0, 0, 1, 200001, i + 1)), (0, (2, 0, 0, 0, 0))] [] M101
              refine hgo.2.1 23 _ [(4, (0, 0, 0, 200000, i + 1)), (0, (2, 0, 0, 0, 0))] _ _ (xa_subI rfl rfl (fun _ _ _ _ => by omega) (xa_subR rfl (xa_sub0))) ?_
              exact ih (i + 1) M101 (by omega) (by omega) ⟨fun e => by omega, fun _ => by rw [e48]; exact hN.2 (by omega)⟩ (fun q j h1 h2 => (i2 q j (by omega) (by omega) (by omega) (by omega)).trans ((hK q j (by omega) (by omega) (by omega) (by omega)).symm.trans (hfr q j h1 h2))) ⟨Ma, hZ, hS, i2, i6, tk_ge i3 i4 i5⟩ (by omega)
            · intro (c8 : i = 0)
              show xa_C (xl_I _) A h0 _ 98 [(2, 15, 0, 0, 0), (2, 48, 0, 0, 0)] M101 _
              refine rz_98 (by have := hN.1 c8; omega) (by omega) ?_
              intro M102 (i9 : ∀ (q : Nat) (j : Int), ¬ (q = 48 ∨ q = 49) → M102 q j = M101 q j) (i10 : (0 : Int) ≤ M102 48 1) (zM : M102 48 1 = M101 15 10)
              show Q 23 [(4, (0, 0, 1, 200001, i + 1)), (0, (2, 0, 0, 0, 0))] [] M102
              refine hgo.2.1 23 _ [(4, (0, 0, 0, 200000, i + 1)), (0, (2, 0, 0, 0, 0))] _ _ (xa_subI rfl rfl (fun _ _ _ _ => by omega) (xa_subR rfl (xa_sub0))) ?_
              exact ih (i + 1) M102 (by omega) (by omega) ⟨fun e => by omega, fun _ => ⟨_, _, _, hS, zM.trans e10⟩⟩ (fun q j h1 h2 => (i9 q j h2).trans ((fun q j h1 h2 => (i2 q j (by omega) (by omega) (by omega) (by omega)).trans ((hK q j (by omega) (by omega) (by omega) (by omega)).symm.trans (hfr q j h1 h2))) q j h1 h2)) (tk_re hZ hS i2 i6 (tk_ge i3 i4 i5) i9) (by omega)
        · intro M101 (i11 : fa_K Ma M101) (i12 : fs_c (tk_F N (Ma 15 10) (Ma 21) (Ma 22) x2) (tk_pr N (Ma 15 10) (Ma 21)).toNat = i)
          have e48 : M101 48 1 = M1 48 1 := (i11 48 1 (by decide) (by decide) (by decide) (by omega)).trans (hK 48 1 (by decide) (by decide) (by decide) (by omega)).symm
          have e10 : M101 15 10 = Ma 15 10 := i11 15 10 (by decide) (by decide) (by decide) (by omega)
          refine And.intro ?_ ?_
          · intro (c13 : 0 = 0)
            show post (some (0, 0, 0, 200000, i)) M101
            exact k _ _ i _ ⟨0, _, _, _, hS, Or.inr ⟨rfl, i12.symm⟩⟩ (fun q j h1 h2 => (i11 q j (by omega) (by omega) (by omega) (by omega)).trans ((hK q j (by omega) (by omega) (by omega) (by omega)).symm.trans (hfr q j h1 h2))) (rz_85i i1.1 (by rw [e48]; exact hN))
          · intro (c13 : ¬ 0 = 0)
            exfalso
            omega
  refine hgo.1 17 [23] 0 _ _ _ ?_
  show xa_C (xl_I _) A h0 _ 86 [(2, 0, 0, 0, 0), (0, 0, (-2147483648), 2147483647, x1), (0, 0, (-2147483648), 2147483647, x2)] M _
  refine cx_86_55 hT hR hB hFF ?_
  intro r104 M103 (i1 : tk_S N x1 x2 r104 (M103 15 10) (M103 21) (M103 22)) (i2 : r104 = 0 → tk_A N x2 M103) (i3 : ∀ q j, ¬ (15 ≤ q ∧ q ≤ 24) → M103 q j = M q j)
  refine And.intro ?_ ?_
  · intro (c4 : r104 = 0)
    show xa_C (xl_I _) A h0 _ 59 [(2, 48, 0, 0, 0)] M103 _
    refine cx_59_48 ?_
    show Q 23 [(4, (0, 0, 0, 0, 0)), (3, (0, 0, (-4), 0, r104)), (0, (2, 0, 0, 0, 0)), (1, (0, 0, (-2147483648), 2147483647, x1)), (2, (0, 0, (-2147483648), 2147483647, x2))] [] (xa_up M103 48 1 0)
    have er : r104 = 0 := by omega
    rw [er] at i1
    obtain ⟨z1, -, z3, z4⟩ := tk_S_L i1
    have hA := i2 er
    refine hgo.2.1 23 _ [(4, (0, 0, 0, 200000, 0)), (0, (2, 0, 0, 0, 0))] _ _ (xa_subI rfl rfl (fun _ _ _ _ => by omega) (xa_subR rfl (xa_sub0))) ?_
    exact loop 200001 0 (xa_up M103 48 1 0) (by omega) (by show (0 : Int) ≤ 0; omega) ⟨fun _ => xa_up_eq, fun e => absurd e (by omega)⟩ (fun q j h1 h2 => (xa_up_ne (by omega)).trans (i3 q j (by omega))) (tk_re (Ma := M103) (M1 := M103) ⟨z1, z3, z4, hA⟩ i1 fa_Kr (tk_st0 hA) (fs_cb _).1 (fun q j hq => xa_up_ne (by omega))) (by omega)
  · intro (c4 : ¬ r104 = 0)
    show post (some (0, 0, (-4), 0, r104)) M103
    exact k _ _ _ _ ⟨_, _, _, _, i1, Or.inl ⟨by omega, rfl⟩⟩ (fun q j h1 h2 => i3 q j (by omega)) (Or.inl ⟨by have := rz_Sr i1; omega, i3 48 1 (by omega)⟩)
theorem rx_85 {b : Bool} {A : Nat → Nat} {h0 : g_H} {d : Nat} {M : xa_M} {post : Option xa_V → xa_M → Prop} {l1 u1 l2 u2 x1 x2 : Int} {F : Int → Int} {N : xa_M} (hT : tk_M N) (hR : tk_R M N) (hB : tk_B (bk_p b) M N) (hFF : 1 ≤ x1 ∧ x1 ≤ 9 → tk_Y N x1 F) (k : ∀ (lo hi r : Int) (M1 : xa_M), tf_85 N x1 x2 r → (∀ (q : Nat) (j : Int), ¬ (15 ≤ q ∧ q ≤ 27) → ¬ (q = 48 ∨ q = 49) → M1 q j = M q j) → rz_85 N x1 x2 r (M 48 1) (M1 48 1) → post (some (0, 0, lo, hi, r)) M1) : xa_C (xl_I b) A h0 (d + 7) 85 [(2, 0, 0, 0, 0), (0, 0, l1, u1, x1), (0, 0, l2, u2, x2)] M post := by
  cases b
  · exact rx_85_50 hT hR hB hFF k
  · exact rx_85_55 hT hR hB hFF k
theorem rm_fittings {A : Nat → Nat} {h0 : g_H} {d : Nat} {M : xa_M} {post : Option xa_V → xa_M → Prop} {l1 u1 l2 u2 : Int} {a x2 : Int} (hI : xm_Inv M) (k : ∀ (o : Option xa_V) (M1 : xa_M), (∃ lo hi n, o = some (0, 0, lo, hi, n) ∧ tf_85 M a x2 n ∧ rz_85 M a x2 n (M 60 20) (M1 60 20)) → xm_cor M M1 → post o M1) : xa_C xm_I A h0 (d + 4) 237 [(2, 60, 0, 0, 0), (0, 0, l1, u1, a), (0, 0, l2, u2, x2)] M post := by
  refine xa_C_arg [(2, 60, 0, 0, 0), (0, 0, (-2147483648), 2147483647, a), (0, 0, (-2147483648), 2147483647, x2)] (xa_svR (xa_svI (fun _ _ _ _ => by omega) (xa_svI (fun _ _ _ _ => by omega) xa_sv0))) ?_
  refine xa_meth (Q0 := (6, 1, false, 0, 0, 12)) (by decide +kernel) ⟨rfl, rfl⟩ (full := s_c_237) rfl rfl ?_
  intro hM hv Q hgo
  have hTM := tk_M_of hM hI
  have loop0 : ∀ (Mr : xa_M), xm_cor M Mr → tk_S M a x2 0 (Mr 60 32) (Mr 80) (Mr 81) → ∀ (n : Nat) (x4 : Int) (M1 : xa_M), 0 ≤ x4 ∧ x4 ≤ 200000 → xm_cor M M1 → 0 ≤ x2 → x2 < M 60 11 → xm_W M1 x4 → ((x4 = 0 → M1 60 20 = 0) ∧ (0 < x4 → M1 60 20 = Mr 60 32)) → fr_K Mr M1 → x4 = fs_c (fr_F Mr x2) (fr_r Mr M1).toNat → xm_rk M1 (M1 60 32).toNat < (n : Int) → Q 30 [(4, (0, 0, 0, 200000, x4)), (2, (0, 0, (-2147483648), 2147483647, x2)), (0, (2, 60, 0, 0, 0))] [] M1 := by
    intro Mr hcr hSr n
    obtain ⟨eF, ep, er, ei⟩ := fm_e hcr (p := x2)
    induction n with
    | zero => intro x4 M1 b4 hc p0 p1 hW h20 hK hx hms; exact absurd hms (by have := xm_W_rk hW; omega)
    | succ n ih0 =>
      intro x4 M1 b4 hc p0 p1 hW h20 hK hx hms0
      refine hgo.2.2 _ _ _ _ (fun hM1 _ => ?_)
      have e11 := xm_corf hc 11 (by omega)
      have b32 := xm_f32 hM1
      have hrk := (xm_rkb hW.2.1 (M1 60 32).toNat (by omega)).1
      have hWs := hW.2.2.2
      obtain ⟨e, he⟩ : ∃ e, e = xm_rk M1 (M1 60 32).toNat := ⟨_, rfl⟩
      have loop1 : ∀ (n : Nat) (x5 x4 : Int) (M1 : xa_M), 0 ≤ x5 ∧ x5 ≤ 14 → 0 ≤ x4 ∧ x4 ≤ 200000 → xm_cor M M1 → 0 ≤ x2 → x2 < M 60 11 → xm_W M1 x4 → xm_rk M1 (M1 60 32).toNat = e → ((x4 = 0 → M1 60 20 = x5 ∧ x5 ≤ Mr 60 32) ∧ (0 < x4 → M1 60 20 = Mr 60 32)) → fr_F Mr x2 (fr_r Mr M1) → fr_K Mr M1 → x4 = fs_c (fr_F Mr x2) (fr_r Mr M1).toNat → 14 - x5 < (n : Int) → Q 44 [(5, (0, 0, 0, 14, x5)), (4, (0, 0, 0, 200000, x4)), (2, (0, 0, (-2147483648), 2147483647, x2)), (0, (2, 60, 0, 0, 0))] [] M1 := by
        intro n
        induction n with
        | zero => intro x5 x4 M1 b5 b4 hc p0 p1 hW hrke h20 hf hK hx hms; clear hf hx; omega
        | succ n ih1 =>
          intro x5 x4 M1 b5 b4 hc p0 p1 hW hrke h20 hf hK hx hms1
          refine hgo.2.2 _ _ _ _ (fun hM1 _ => ?_)
          have e11 := xm_corf hc 11 (by omega)
          have b32 := xm_f32 hM1
          have hrk := (xm_rkb hW.2.1 (M1 60 32).toNat (by omega)).1
          have hWs := hW.2.2.2
          have b20 := xm_f20 hM1
          have e32 := hK 60 32 (by omega) (by omega)
          have hr0 := fr_r0 hK hW.2.1
          have hn1 : x4 + 1 = fs_c (fr_F Mr x2) (fr_r Mr M1 + 1).toNat := by rw [fa_c1 hr0.1 hf, ← hx]
          refine hgo.1 20 [30, 44] 44 _ _ _ ?_
          refine And.intro ?_ ?_
          · intro (c1 : (M1 60 32) ≤ x5)
            show xa_C xm_I A h0 _ 243 [(2, 60, 0, 0, 0)] M1 _
            refine xa_C_mok (fr_nextW hK hW (fun v2 M2 z2 hc2 e2 wN2 rk2 hK2 n2 l2 hM2 => ?_))
            refine And.intro ?_ ?_
            · intro (c3 : ¬ v2 = 0)
              show Q 30 [(4, (0, 0, 1, 200001, x4 + 1)), (5, (0, 0, 0, 14, x5)), (2, (0, 0, (-2147483648), 2147483647, x2)), (0, (2, 60, 0, 0, 0))] [] M2
              refine hgo.2.1 30 _ [(4, (0, 0, 0, 200000, x4 + 1)), (2, (0, 0, (-2147483648), 2147483647, x2)), (0, (2, 60, 0, 0, 0))] _ _ (xa_subI rfl rfl (fun _ _ _ _ => by omega) (xa_subI rfl rfl (fun _ _ _ _ => by omega) (xa_subR rfl xa_sub0))) ?_
              exact ih0 (x4 + 1) M2 (by omega) (xm_cor_t hc hc2) (by omega) (by omega) (wN2 _ (by omega) (by omega)) (by first | omega | (simp [xa_up]; done) | (simp [xa_up]; omega)) hK2 (by rw [n2 (by omega)]; exact hn1) (by omega)
            · intro (c3 : v2 = 0)
              show post (some (0, 0, 1, 200001, x4 + 1)) M2
              exact k _ _ ⟨_, _, _, rfl, ⟨0, Mr 60 32, Mr 80, Mr 81, hSr, Or.inr ⟨rfl, by rw [← eF, ← ep, ← l2 (by omega), ← hn1]⟩⟩, rz_85i (by omega) ⟨fun e => by omega, fun _ => ⟨_, _, _, hSr, by omega⟩⟩⟩ (xm_cor_t hc hc2)
          · intro (c1 : x5 < (M1 60 32))
            refine And.intro ?_ ?_
            · intro (c4 : ¬ x4 = 0)
              show xa_C xm_I A h0 _ 243 [(2, 60, 0, 0, 0)] M1 _
              refine xa_C_mok (fr_nextW hK hW (fun v5 M5 z5 hc5 e5 wN5 rk5 hK5 n5 l5 hM5 => ?_))
              refine And.intro ?_ ?_
              · intro (c6 : ¬ v5 = 0)
                show Q 30 [(4, (0, 0, 1, 200001, x4 + 1)), (5, (0, 0, 0, 14, x5)), (2, (0, 0, (-2147483648), 2147483647, x2)), (0, (2, 60, 0, 0, 0))] [] M5
                refine hgo.2.1 30 _ [(4, (0, 0, 0, 200000, x4 + 1)), (2, (0, 0, (-2147483648), 2147483647, x2)), (0, (2, 60, 0, 0, 0))] _ _ (xa_subI rfl rfl (fun _ _ _ _ => by omega) (xa_subI rfl rfl (fun _ _ _ _ => by omega) (xa_subR rfl xa_sub0))) ?_
                exact ih0 (x4 + 1) M5 (by omega) (xm_cor_t hc hc5) (by omega) (by omega) (wN5 _ (by omega) (by omega)) (by first | omega | (simp [xa_up]; done) | (simp [xa_up]; omega)) hK5 (by rw [n5 (by omega)]; exact hn1) (by omega)
              · intro (c6 : v5 = 0)
                show post (some (0, 0, 1, 200001, x4 + 1)) M5
                exact k _ _ ⟨_, _, _, rfl, ⟨0, Mr 60 32, Mr 80, Mr 81, hSr, Or.inr ⟨rfl, by rw [← eF, ← ep, ← l5 (by omega), ← hn1]⟩⟩, rz_85i (by omega) ⟨fun e => by omega, fun _ => ⟨_, _, _, hSr, by omega⟩⟩⟩ (xm_cor_t hc hc5)
            · intro (c4 : x4 = 0)
              refine And.intro (show 0 ≤ x5 ∧ x5 < 14 by omega) ?_
              show xa_C xm_I A h0 _ 231 [(2, 60, 0, 0, 0), (1, 0, 0, 400, M1 84 x5)] M1 _
              refine ct_tell (n := M1 60 20) (by first | rfl | (simp [xa_up]; done) | omega) (by omega) (by omega) ?_
              show Q 44 [(5, (0, 0, 1, 15, x5 + 1)), (4, (0, 0, 0, 200000, x4)), (2, (0, 0, (-2147483648), 2147483647, x2)), (0, (2, 60, 0, 0, 0))] [] (xa_up (xa_up M1 74 (M1 60 20) (M1 84 x5)) 60 20 ((M1 60 20) + 1))
              refine hgo.2.1 44 _ [(5, (0, 0, 0, 14, x5 + 1)), (4, (0, 0, 0, 200000, x4)), (2, (0, 0, (-2147483648), 2147483647, x2)), (0, (2, 60, 0, 0, 0))] _ _ (xa_subI rfl rfl (fun _ _ _ _ => by omega) (xa_subI rfl rfl (fun _ _ _ _ => by omega) (xa_subI rfl rfl (fun _ _ _ _ => by omega) (xa_subR rfl xa_sub0)))) ?_
              have e84 : (xa_up (xa_up M1 74 (M1 60 20) (M1 84 x5)) 60 20 ((M1 60 20) + 1)) 84 = M1 84 := funext (fun j => (xa_up_ne (by omega)).trans (xa_up_ne (by omega)))
              have er2 : fr_r Mr (xa_up (xa_up M1 74 (M1 60 20) (M1 84 x5)) 60 20 ((M1 60 20) + 1)) = fr_r Mr M1 := by
                unfold fr_r
                rw [e84]
              exact ih1 (x5 + 1) x4 (xa_up (xa_up M1 74 (M1 60 20) (M1 84 x5)) 60 20 ((M1 60 20) + 1)) (by omega) (by omega) (xm_cor_f (by omega) (xm_cor_a rfl hc)) (by omega) (by omega) (xm_86_W (xm_86_s (by omega)) (xm_86_W (xm_86_s (by omega)) hW).1).1 ((xm_86_W (xm_86_s (by omega)) (xm_86_W (xm_86_s (by omega)) hW).1).2.trans ((xm_86_W (xm_86_s (by omega)) hW).2.trans hrke)) (by first | omega | (simp [xa_up]; done) | (simp [xa_up]; omega)) (by rw [er2]; exact hf) (fun q j h1 h2 => (xa_up_ne (by omega)).trans ((xa_up_ne (by omega)).trans (hK q j h1 h2))) (by rw [er2]; exact hx) (by omega)
      refine hgo.1 14 [30, 44] 30 _ _ _ ?_
      show xa_C xm_I A h0 _ 242 [(2, 60, 0, 0, 0), (0, 0, (-2147483648), 2147483647, x2)] M1 _
      refine xa_C_mok (fr_isF hK (xm_Inv_cor hc hI) hW (by omega) (by omega) (fun v1 M1 z1 q1 hc1 e1 wF1 rk1 hK er1 hM1 => ?_))
      rw [← er1] at q1 hx
      have hr0 := fr_r0 hK wF1.2.1
      refine And.intro ?_ ?_
      · intro (c2 : ¬ v1 = 0)
        show Q 44 [(5, (0, 0, 0, 0, 0)), (4, (0, 0, 0, 200000, x4)), (2, (0, 0, (-2147483648), 2147483647, x2)), (0, (2, 60, 0, 0, 0))] [] M1
        refine hgo.2.1 44 _ [(5, (0, 0, 0, 14, 0)), (4, (0, 0, 0, 200000, x4)), (2, (0, 0, (-2147483648), 2147483647, x2)), (0, (2, 60, 0, 0, 0))] _ _ (xa_subI rfl rfl (fun _ _ _ _ => by omega) (xa_subI rfl rfl (fun _ _ _ _ => by omega) (xa_subI rfl rfl (fun _ _ _ _ => by omega) (xa_subR rfl xa_sub0)))) ?_
        have b39 := xm_f32 hM1
        have e39 := hK 60 32 (by omega) (by omega)
        exact loop1 15 0 x4 M1 (by omega) (by omega) (xm_cor_t hc hc1) (by omega) (by omega) wF1 (by omega) (by first | omega | (simp [xa_up]; done) | (simp [xa_up]; omega)) (q1.mp (by omega)) hK hx (by omega)
      · intro (c2 : v1 = 0)
        have hn0 : x4 = fs_c (fr_F Mr x2) (fr_r Mr M1 + 1).toNat := by rw [fa_c0 hr0.1 (fun h => by have := q1.mpr h; omega), ← hx]
        show xa_C xm_I A h0 _ 243 [(2, 60, 0, 0, 0)] M1 _
        refine xa_C_mok (fr_nextW hK wF1 (fun v3 M3 z3 hc3 e3 wN3 rk3 hK3 n3 l3 hM3 => ?_))
        refine And.intro ?_ ?_
        · intro (c4 : ¬ v3 = 0)
          show Q 30 [(4, (0, 0, 0, 200000, x4)), (2, (0, 0, (-2147483648), 2147483647, x2)), (0, (2, 60, 0, 0, 0))] [] M3
          refine hgo.2.1 30 _ [(4, (0, 0, 0, 200000, x4)), (2, (0, 0, (-2147483648), 2147483647, x2)), (0, (2, 60, 0, 0, 0))] _ _ (xa_subI rfl rfl (fun _ _ _ _ => by omega) (xa_subI rfl rfl (fun _ _ _ _ => by omega) (xa_subR rfl xa_sub0))) ?_
          exact ih0 x4 M3 (by omega) (xm_cor_t (xm_cor_t hc hc1) hc3) (by omega) (by omega) (wN3 _ (by omega) (by omega)) (by first | omega | (simp [xa_up]; done) | (simp [xa_up]; omega)) hK3 (by rw [n3 (by omega)]; exact hn0) (by omega)
        · intro (c4 : v3 = 0)
          show post (some (0, 0, 0, 200000, x4)) M3
          exact k _ _ ⟨_, _, _, rfl, ⟨0, Mr 60 32, Mr 80, Mr 81, hSr, Or.inr ⟨rfl, by rw [← eF, ← ep, ← l3 (by omega), ← hn0]⟩⟩, rz_85i (by omega) ⟨fun e => by omega, fun _ => ⟨_, _, _, hSr, by omega⟩⟩⟩ (xm_cor_t (xm_cor_t hc hc1) hc3)
  refine hgo.1 22 [30, 44] 0 _ _ _ ?_
  show xa_C xm_I A h0 _ 238 [(2, 60, 0, 0, 0), (0, 0, (-2147483648), 2147483647, a), (0, 0, (-2147483648), 2147483647, x2)] (xa_up M 60 21 0) _
  refine rz_fx (j := 238) (by decide) (xa_C_mok (ct_readyF (xm_Inv_cor (xm_cor_f (by omega) xm_cor_r) hI) (fun v1 M1 z1 hc1 hr1 hq1 hM1 => ?_)))
  intro (zM1 : M1 60 20 = M 60 20)
  have hS := rd_S hTM (xm_cor_f (by omega) xm_cor_r) hc1 hM1 hq1
  refine And.intro ?_ ?_
  · intro (c2 : 0 ≤ v1)
    show xa_C xm_I A h0 _ 241 [(2, 60, 0, 0, 0)] (xa_up M1 60 20 0) _
    refine xa_C_mok (fm_firstW (xm_Inv_cor (xm_cor_f (by omega) (xm_cor_t (xm_cor_f (by omega) xm_cor_r) hc1)) hI) (xm_86_Y (xm_86_s (by omega)) ⟨(hr1 (by omega)).1, (hr1 (by omega)).2.1⟩) (fun M3 hc3 e3 wA3 hK3 hr3 hM3 => ?_))
    have w2 := wA3.2.2.2
    have q11 : 0 ≤ x2 ∧ x2 < M 60 11 := by
      have q := (hr1 (by omega)).2.2
      simpa [xa_up] using q
    have e20 : M3 60 20 = 0 := by
      rw [e3]
      simp [xa_up]
    show Q 30 [(4, (0, 0, 0, 0, 0)), (3, (0, 0, (-4), 0, v1)), (0, (2, 60, 0, 0, 0)), (1, (0, 0, (-2147483648), 2147483647, a)), (2, (0, 0, (-2147483648), 2147483647, x2))] [] M3
    refine hgo.2.1 30 _ [(4, (0, 0, 0, 200000, 0)), (2, (0, 0, (-2147483648), 2147483647, x2)), (0, (2, 60, 0, 0, 0))] _ _ (xa_subI rfl rfl (fun _ _ _ _ => by omega) (xa_subI rfl rfl (fun _ _ _ _ => by omega) (xa_subR rfl xa_sub0))) ?_
    have v0 : v1 = 0 := by omega
    rw [v0] at hS
    have c32 : (xa_up M1 60 20 0) 60 32 = M1 60 32 := xa_up_ne (by omega)
    have c80 : (xa_up M1 60 20 0) 80 = M1 80 := funext (fun j => xa_up_ne (by omega))
    have c81 : (xa_up M1 60 20 0) 81 = M1 81 := funext (fun j => xa_up_ne (by omega))
    exact loop0 (xa_up M1 60 20 0) (xm_cor_f (by omega) (xm_cor_t (xm_cor_f (by omega) xm_cor_r) hc1)) (by rw [c32, c80, c81]; exact hS) 200000 0 M3 (by omega) (xm_cor_t (xm_cor_f (by omega) (xm_cor_t (xm_cor_f (by omega) xm_cor_r) hc1)) hc3) (by omega) (by omega) wA3 (by first | omega | (simp [xa_up]; done) | (simp [xa_up]; omega)) hK3 (by rw [hr3]; rfl) (by omega)
  · intro (c2 : v1 < 0)
    show post (some (0, 0, (-4), 0, v1)) M1
    exact k _ _ ⟨_, _, _, rfl, ⟨v1, _, _, _, hS, Or.inl ⟨by omega, rfl⟩⟩, Or.inl ⟨by omega, zM1⟩⟩ (xm_cor_t (xm_cor_f (by omega) xm_cor_r) hc1)
theorem rz_p85 (A : Nat → Nat) (cmp : Bool) : iv_pair (rz_J A) A 85 237 [0, 0] cmp false := rz_armV (fun W b h as M hJ hM hInv hs hR hz => by
  obtain ⟨m1, ys, rfl, -, hs⟩ := iv_spc hs
  obtain ⟨m2, ys, rfl, -, hs⟩ := iv_spc hs
  obtain rfl := iv_sp0 hs
  have b0 := xm_f0 (xa_H_Mok hM)
  have b6 := xm_f6 (xa_H_Mok hM)
  have r1 : iv_num h 1 9 = M 60 0 := hR.1.1
  have r2 : iv_num h 1 10 = M 60 6 := hR.1.2.1
  have r3 : ∀ i, 0 ≤ i → i < 14 → iv_num h 2 i = M 61 i ∧ iv_num h 3 i = M 62 i ∧ iv_num h 5 i = M 64 i ∧ iv_num h 6 i = M 65 i ∧ iv_num h 4 i = M 63 i := hR.1.2.2.1
  have r4 : ∀ i, 0 ≤ i → i < 16 → iv_num h 7 i = M 66 i ∧ iv_num h 8 i = M 67 i := hR.1.2.2.2
  have hS := hR.2
  obtain ⟨s1, s2, s3, s4⟩ := lm_Sx.mp hR.2.1
  have hMk := xa_H_Mok hM
  have b11 := xm_f11 hMk
  have hT := tk_M_of hMk hInv
  have hRc : tk_R (iv_num h) M := ⟨r1, r2, fun i i0 i1 => by
    obtain ⟨g1, g2, g3, g4, -⟩ := r3 i i0 i1
    exact ⟨g1, g2, g3, g4⟩, r4⟩
  have hB : tk_B (bk_p b) (iv_num h) M := ⟨s3, b11, fun p p0 p1 => by
    obtain ⟨g1, g2, -⟩ := s4 p p0 (by omega) p1
    have t1 := xm_t70 hMk p p0 (by omega)
    have t2 := xm_t71 hMk p p0 (by omega)
    have t3 := hInv.2.2.1 p p0 p1
    exact ⟨⟨g1, g2⟩, by omega, by omega⟩⟩
  have hx : ∃ F : Int → Int, (1 ≤ m1.toInt ∧ m1.toInt ≤ 9) → tk_Y M m1.toInt F := by
    by_cases c : 1 ≤ m1.toInt ∧ m1.toInt ≤ 9
    · obtain ⟨F, hF1, hF2⟩ := wr_ex hMk (X := m1.toInt) (by omega) b6.1 (fun i i0 i1 => tk_AB hT i i0 i1)
      exact ⟨F, fun _ => ⟨hF1, fun a _ _ => hF2 a⟩⟩
    · exact ⟨fun _ => 0, fun h => absurd h c⟩
  obtain ⟨F, hFF⟩ := hx
  have hc := rx_85 (b := b) (A := A) (h0 := h) (d := 53) (M := iv_num h) (N := M) (F := F) (l1 := -2147483648) (u1 := 2147483647) (l2 := -2147483648) (u2 := 2147483647) (x1 := m1.toInt) (x2 := m2.toInt) (post := fun o M1 => ∃ lo hi n, o = some (0, 0, lo, hi, n) ∧ ((tf_85 M m1.toInt m2.toInt n ∧ ∀ (q : Nat) (j : Int), ¬ (15 ≤ q ∧ q ≤ 27) → ¬ (q = 48 ∨ q = 49) → M1 q j = iv_num h q j) ∧ rz_85 M m1.toInt m2.toInt n (iv_num h 48 1) (M1 48 1))) hT hRc hB hFF (fun lo hi n M1 x1 x2 x3 => ⟨lo, hi, n, rfl, ⟨x1, x2⟩, x3⟩)
  have hm := fun (h1 : g_H) => rm_fittings (A := A) (h0 := h1) (d := 56) (M := M) (l1 := -2147483648) (u1 := 2147483647) (l2 := -2147483648) (u2 := 2147483647) (a := m1.toInt) (x2 := m2.toInt) (post := fun o M2 => (∃ lo hi n, o = some (0, 0, lo, hi, n) ∧ ((tf_85 M m1.toInt m2.toInt n ∧ xm_cor M M2) ∧ rz_85 M m1.toInt m2.toInt n (M 60 20) (M2 60 20))) ∧ xm_Inv M2) hInv (fun o M2 x1 x2 => by
    obtain ⟨lo, hi, n, rfl, x1, x3⟩ := x1
    exact ⟨⟨lo, hi, n, rfl, ⟨x1, x2⟩, x3⟩, xm_Inv_cor x2 hInv⟩)
  refine ⟨[(2, 0, 0, 0, 0), (0, 0, -2147483648, 2147483647, m1.toInt), (0, 0, -2147483648, 2147483647, m2.toInt)], [(2, 60, 0, 0, 0), (0, 0, -2147483648, 2147483647, m1.toInt), (0, 0, -2147483648, 2147483647, m2.toInt)], _, _, ⟨rfl, iv_i m1, iv_i m2, trivial⟩, ⟨rfl, iv_i m1, iv_i m2, trivial⟩, fun n n' M1 M2 g1 g2 => by
    obtain ⟨h1, z1⟩ := g1
    obtain ⟨h2, z2⟩ := g2
    have en : n = n' := tf_85_one hT h1.1 h2.1
    exact ⟨fun _ => en, fun x => h2.2 104 x (by unfold xm_scr; omega), fun x => h2.2 105 x (by unfold xm_scr; omega), tf_lmR hR h1.2 h2.2, (by subst en; exact rz_85u hT z1 z2 hz)⟩, hc, hm⟩)
theorem rz_104 {b : Bool} {A : Nat → Nat} {h0 : g_H} {d : Nat} {M : xa_M} {post : Option xa_V → xa_M → Prop} {l1 u1 x1 : Int} (h1 : 0 ≤ x1 ∧ x1 < 14) (hL : 0 ≤ M 23 x1 ∧ M 23 x1 ≤ 400) (hH : M 24 x1 ≤ 400) (k : ∀ M1 : xa_M, (∀ (q : Nat) (j : Int), ¬ (q = 48 ∨ q = 49) → M1 q j = M q j) → M1 48 1 = 3 → post (some (0, 0, 0, 0, 0)) M1) : xa_C (xl_I b) A h0 (d + 3) 104 [(2, 15, 0, 0, 0), (0, 0, l1, u1, x1), (2, 48, 0, 0, 0)] M post := by
  refine xa_C_wk ?_
  refine xa_C_arg [(2, 15, 0, 0, 0), (0, 0, (-2147483648), 2147483647, x1), (2, 48, 0, 0, 0)] (xa_svR (xa_svI (fun _ _ _ _ => by omega) (xa_svR xa_sv0))) ?_
  refine xa_meth (Q0 := (7, 1, false, 0, 0, 3)) (by decide +kernel) ⟨rfl, rfl⟩ (full := s_c_104) rfl rfl ?_
  intro hM hv Q hgo
  have loop : ∀ (f : Nat) (n u v w : Int), 0 ≤ n ∧ n ≤ 401 → 401 - n < (f : Int) → Q 18 [(6, (0, 0, 0, 401, n)), (5, (0, 0, (-2147483648), 2147483647, u)), (4, (0, 0, (-2147483648), 2147483647, v)), (3, (0, 0, (-2147483648), 2147483647, w)), (0, (2, 15, 0, 0, 0)), (1, (0, 0, 0, 13, x1)), (2, (2, 48, 0, 0, 0))] [] M := by
    intro f
    induction f with
    | zero => intro n u v w n1 hms; omega
    | succ f ih =>
      intro n u v w n1 hms
      refine hgo.1 27 [18] 18 _ _ _ ?_
      show xa_C (xl_I b) A h0 _ 23 [(2, 24, 0, 0, 0), (0, 0, 0, 13, x1)] M _
      refine cx_23_24 (show 0 ≤ x1 ∧ x1 < 14 by omega) ?_
      refine And.intro ?_ ?_
      · intro (c1 : (M 24 x1) < n)
        show xa_C (xl_I b) A h0 _ 59 [(2, 48, 0, 0, 0)] M _
        refine cx_59_48 ?_
        show xa_C (xl_I b) A h0 _ 60 [(2, 48, 0, 0, 0), (1, 0, (-2147483648), 2147483647, w)] (xa_up M 48 1 0) _
        refine rz_60 (by show (0 : Int) ≤ 0 ∧ 0 < 16; omega) ?_
        intro M101 (i2 : ∀ (q : Nat) (j : Int), ¬ (q = 48 ∨ q = 49) → M101 q j = (xa_up M 48 1 0) q j) (i3 : (0 : Int) ≤ M101 48 1) (zM101 : M101 48 1 = 0 + 1)
        show xa_C (xl_I b) A h0 _ 60 [(2, 48, 0, 0, 0), (1, 0, (-2147483648), 2147483647, v)] M101 _
        refine rz_60 (by show (0 : Int) ≤ M101 48 1 ∧ M101 48 1 < 16; omega) ?_
        intro M102 (i4 : ∀ (q : Nat) (j : Int), ¬ (q = 48 ∨ q = 49) → M102 q j = M101 q j) (i5 : (0 : Int) ≤ M102 48 1) (zM102 : M102 48 1 = M101 48 1 + 1)
        show xa_C (xl_I b) A h0 _ 60 [(2, 48, 0, 0, 0), (1, 0, (-2147483648), 2147483647, u)] M102 _
        refine rz_60 (by show (0 : Int) ≤ M102 48 1 ∧ M102 48 1 < 16; omega) ?_
        intro M103 (i6 : ∀ (q : Nat) (j : Int), ¬ (q = 48 ∨ q = 49) → M103 q j = M102 q j) (i7 : (0 : Int) ≤ M103 48 1) (zM103 : M103 48 1 = M102 48 1 + 1)
        show xa_wk post (some (0, 0, 0, 0, 0)) M103
        exact xa_wkI _ rfl (fun _ _ => by omega) (k _ (fun q j hq => (i6 q j hq).trans ((i4 q j hq).trans ((i2 q j hq).trans ((xa_up_ne (by omega)))))) (by omega))
      · intro (c1 : n ≤ (M 24 x1))
        show xa_C (xl_I b) A h0 _ 105 [(2, 15, 0, 0, 0), (0, 0, 0, 13, x1), (0, 0, 0, 401, n)] M _
        refine cx_105w (by omega) ?_
        intro r104
        refine And.intro ?_ ?_
        · intro (c8 : r104 ≤ 0)
          show Q 18 [(6, (0, 0, 1, 402, n + 1)), (5, (0, 0, (-2147483648), 2147483647, u)), (4, (0, 0, (-2147483648), 2147483647, v)), (3, (0, 0, (-2147483648), 2147483647, w)), (0, (2, 15, 0, 0, 0)), (1, (0, 0, 0, 13, x1)), (2, (2, 48, 0, 0, 0))] [] M
          refine hgo.2.1 18 _ [(6, (0, 0, 0, 401, n + 1)), (5, (0, 0, (-2147483648), 2147483647, u)), (4, (0, 0, (-2147483648), 2147483647, v)), (3, (0, 0, (-2147483648), 2147483647, w)), (0, (2, 15, 0, 0, 0)), (1, (0, 0, 0, 13, x1)), (2, (2, 48, 0, 0, 0))] _ _ (xa_subI rfl rfl (fun _ _ _ _ => by omega) (xa_subI rfl rfl (fun _ _ _ _ => by omega) (xa_subI rfl rfl (fun _ _ _ _ => by omega) (xa_subI rfl rfl (fun _ _ _ _ => by omega) (xa_subR rfl (xa_subI rfl rfl (fun _ _ _ _ => by omega) (xa_subR rfl (xa_sub0)))))))) ?_
          exact ih (n + 1) u v w (by omega) (by omega)
        · intro (c8 : 0 < r104)
          refine And.intro ?_ ?_
          · intro (c9 : ¬ w = (-1))
            show Q 18 [(6, (0, 0, 1, 402, n + 1)), (5, (0, 0, (-2147483648), 2147483647, xa_w32 (u + 1))), (4, (0, 0, 0, 401, n)), (3, (0, 0, (-2147483648), 2147483647, w)), (0, (2, 15, 0, 0, 0)), (1, (0, 0, 0, 13, x1)), (2, (2, 48, 0, 0, 0))] [] M
            refine hgo.2.1 18 _ [(6, (0, 0, 0, 401, n + 1)), (5, (0, 0, (-2147483648), 2147483647, xa_w32 (u + 1))), (4, (0, 0, (-2147483648), 2147483647, n)), (3, (0, 0, (-2147483648), 2147483647, w)), (0, (2, 15, 0, 0, 0)), (1, (0, 0, 0, 13, x1)), (2, (2, 48, 0, 0, 0))] _ _ (xa_subI rfl rfl (fun _ _ _ _ => by omega) (xa_subI rfl rfl (fun _ _ _ _ => by omega) (xa_subI rfl rfl (fun _ _ _ _ => by omega) (xa_subI rfl rfl (fun _ _ _ _ => by omega) (xa_subR rfl (xa_subI rfl rfl (fun _ _ _ _ => by omega) (xa_subR rfl (xa_sub0)))))))) ?_
            exact ih (n + 1) (xa_w32 (u + 1)) n w (by omega) (by omega)
          · intro (c9 : w = (-1))
            show Q 18 [(6, (0, 0, 1, 402, n + 1)), (5, (0, 0, (-2147483648), 2147483647, xa_w32 (u + 1))), (4, (0, 0, 0, 401, n)), (3, (0, 0, 0, 401, n)), (0, (2, 15, 0, 0, 0)), (1, (0, 0, 0, 13, x1)), (2, (2, 48, 0, 0, 0))] [] M
            refine hgo.2.1 18 _ [(6, (0, 0, 0, 401, n + 1)), (5, (0, 0, (-2147483648), 2147483647, xa_w32 (u + 1))), (4, (0, 0, (-2147483648), 2147483647, n)), (3, (0, 0, (-2147483648), 2147483647, n)), (0, (2, 15, 0, 0, 0)), (1, (0, 0, 0, 13, x1)), (2, (2, 48, 0, 0, 0))] _ _ (xa_subI rfl rfl (fun _ _ _ _ => by omega) (xa_subI rfl rfl (fun _ _ _ _ => by omega) (xa_subI rfl rfl (fun _ _ _ _ => by omega) (xa_subI rfl rfl (fun _ _ _ _ => by omega) (xa_subR rfl (xa_subI rfl rfl (fun _ _ _ _ => by omega) (xa_subR rfl (xa_sub0)))))))) ?_
            exact ih (n + 1) (xa_w32 (u + 1)) n n (by omega) (by omega)
  refine hgo.1 16 [18] 0 _ _ _ ?_
  show xa_C (xl_I b) A h0 _ 23 [(2, 23, 0, 0, 0), (0, 0, (-2147483648), 2147483647, x1)] M _
  refine cx_23_23 (show 0 ≤ x1 ∧ x1 < 14 by omega) ?_
  show Q 18 [(6, (0, 0, (-2147483648), 2147483647, M 23 x1)), (5, (0, 0, 0, 0, 0)), (4, (0, 0, (-1), (-1), (-1))), (3, (0, 0, (-1), (-1), (-1))), (0, (2, 15, 0, 0, 0)), (1, (0, 0, (-2147483648), 2147483647, x1)), (2, (2, 48, 0, 0, 0))] [] M
  refine hgo.2.1 18 _ [(6, (0, 0, 0, 401, M 23 x1)), (5, (0, 0, (-2147483648), 2147483647, 0)), (4, (0, 0, (-2147483648), 2147483647, (-1))), (3, (0, 0, (-2147483648), 2147483647, (-1))), (0, (2, 15, 0, 0, 0)), (1, (0, 0, 0, 13, x1)), (2, (2, 48, 0, 0, 0))] _ _ (xa_subI rfl rfl (fun _ _ _ _ => by omega) (xa_subI rfl rfl (fun _ _ _ _ => by omega) (xa_subI rfl rfl (fun _ _ _ _ => by omega) (xa_subI rfl rfl (fun _ _ _ _ => by omega) (xa_subR rfl (xa_subI rfl rfl (fun _ _ _ _ => by omega) (xa_subR rfl (xa_sub0)))))))) ?_
  exact loop 402 (M 23 x1) 0 (-1) (-1) (by omega) (by omega)
theorem rx_101_50 {A : Nat → Nat} {h0 : g_H} {d : Nat} {M : xa_M} {post : Option xa_V → xa_M → Prop} {l1 u1 l2 u2 l3 u3 x1 x2 x3 : Int} {F : Int → Int} {N : xa_M} (hT : tk_M N) (hR : tk_R M N) (hB : tk_B 50 M N) (hFF : 1 ≤ x1 ∧ x1 ≤ 9 → tk_Y N x1 F) (k : ∀ (lo hi r : Int) (M1 : xa_M), tf_101 N x1 x2 x3 r → (∀ (q : Nat) (j : Int), ¬ (15 ≤ q ∧ q ≤ 29) → ¬ (q = 48 ∨ q = 49) → M1 q j = M q j) → rz_c (r = 0) (M 48 1) (M1 48 1) 3 → post (some (0, 0, lo, hi, r)) M1) : xa_C (xl_I false) A h0 (d + 7) 101 [(2, 0, 0, 0, 0), (0, 0, l1, u1, x1), (0, 0, l2, u2, x2), (0, 0, l3, u3, x3)] M post := by
  refine xa_C_arg [(2, 0, 0, 0, 0), (0, 0, (-2147483648), 2147483647, x1), (0, 0, (-2147483648), 2147483647, x2), (0, 0, (-2147483648), 2147483647, x3)] (xa_svR (xa_svI (fun _ _ _ _ => by omega) (xa_svI (fun _ _ _ _ => by omega) (xa_svI (fun _ _ _ _ => by omega) xa_sv0)))) ?_
  refine xa_meth (Q0 := (6, 1, false, 0, 0, 11)) (by decide +kernel) ⟨rfl, rfl⟩ (full := s_c_101) rfl rfl ?_
  intro hM hv Q hgo
  refine hgo.1 33 [] 0 _ _ _ ?_
  show xa_C (xl_I _) A h0 _ 86 [(2, 0, 0, 0, 0), (0, 0, (-2147483648), 2147483647, x1), (0, 0, (-2147483648), 2147483647, x2)] M _
  refine cx_86_50 hT hR hB hFF ?_
  intro r102 M101 (i1 : tk_S N x1 x2 r102 (M101 15 10) (M101 21) (M101 22)) (i2 : r102 = 0 → tk_A N x2 M101) (i3 : ∀ q j, ¬ (15 ≤ q ∧ q ≤ 24) → M101 q j = M q j)
  have hS := i1
  refine And.intro ?_ ?_
  · intro (c4 : r102 = 0)
    show xa_C (xl_I _) A h0 _ 102 [(2, 15, 0, 0, 0), (0, 0, (-2147483648), 2147483647, x3)] M101 _
    refine cx_102t (by have q := tk_Sl hT hS; omega) ?_
    intro r103 (i5 : (r103 = -1 ∧ ∀ i, 0 ≤ i → i < M101 15 10 → ¬ M101 21 i = x3) ∨ (0 ≤ r103 ∧ r103 < M101 15 10 ∧ M101 21 r103 = x3))
    refine And.intro ?_ ?_
    · intro (c6 : ¬ r103 = (-1))
      refine And.intro ?_ ?_
      · intro (c7 : r102 = 0)
        show xa_C (xl_I _) A h0 _ 103 [(2, 15, 0, 0, 0)] M101 _
        have er : r102 = 0 := by omega
        have hS0 := hS
        rw [er] at hS0
        obtain ⟨z1, z2, z3, z4⟩ := tk_S_L hS0
        have hZ : tk_Z N x1 x2 M101 := ⟨z1, z3, z4, i2 er⟩
        refine cx_103t hT hZ ?_
        intro r104 M105 (i8 : (r104 = 0 ∧ fs_c (tk_F N (M101 15 10) (M101 21) (M101 22) x2) (tk_pr N (M101 15 10) (M101 21)).toNat = 0) ∨ (r104 = 1 ∧ 1 ≤ fs_c (tk_F N (M101 15 10) (M101 21) (M101 22) x2) (tk_pr N (M101 15 10) (M101 21)).toNat)) (i9 : ∀ (q : Nat) (j : Int), ¬ (25 ≤ q ∧ q ≤ 29) → ¬ (q = 15 ∧ j = 13) → M105 q j = M101 q j)
        refine And.intro ?_ ?_
        · intro (c10 : r104 = 0)
          show post (some (0, 0, (-2), (-2), (-2))) M105
          rcases i5 with ⟨e, -⟩ | ⟨e1, e2, e3⟩
          · exfalso
            omega
          · exact k _ _ _ _ ⟨_, _, _, _, i1, Or.inr ⟨by omega, Or.inr ⟨⟨_, e1, e2, e3⟩, Or.inr ⟨by omega, Or.inl ⟨by omega, rfl⟩⟩⟩⟩⟩ (fun q j h1 h2 => (i9 q j (by omega) (by omega)).trans (i3 q j (by omega))) (by have zi3 := i3 48 1 (by omega); have zi9 := i9 48 1 (by omega) (by omega); unfold rz_c; omega)
        · intro (c10 : ¬ r104 = 0)
          show xa_C (xl_I _) A h0 _ 104 [(2, 15, 0, 0, 0), (0, 0, (-1), 13, r103), (2, 48, 0, 0, 0)] M105 _
          have pl : 0 ≤ r103 ∧ r103 < M101 15 10 := by
            rcases i5 with ⟨e, -⟩ | ⟨e1, e2, -⟩
            · omega
            · exact ⟨e1, e2⟩
          obtain ⟨zl1, -, zl2, -⟩ := tk_Zl hT hZ
          have zl3 := (zl2 r103 pl.1 pl.2).1
          have f23 := i9 23 r103 (by omega) (by omega)
          have f24 := i9 24 r103 (by omega) (by omega)
          refine rz_104 (by omega) (by omega) (by omega) ?_
          intro M106 (i11 : ∀ (q : Nat) (j : Int), ¬ (q = 48 ∨ q = 49) → M106 q j = M105 q j) (z48 : M106 48 1 = 3)
          show post (some (0, 0, 0, 0, 0)) M106
          rcases i5 with ⟨e, -⟩ | ⟨e1, e2, e3⟩
          · exfalso
            omega
          · exact k _ _ _ _ ⟨_, _, _, _, i1, Or.inr ⟨by omega, Or.inr ⟨⟨_, e1, e2, e3⟩, Or.inr ⟨by omega, Or.inr ⟨by omega, rfl⟩⟩⟩⟩⟩ (fun q j h1 h2 => (i11 q j h2).trans ((i9 q j (by omega) (by omega)).trans (i3 q j (by omega)))) (by have zi3 := i3 48 1 (by omega); have zi9 := i9 48 1 (by omega) (by omega); unfold rz_c; omega)
      · intro (c7 : ¬ r102 = 0)
        exfalso
        omega
    · intro (c6 : r103 = (-1))
      show post (some (0, 0, (-1), (-1), (-1))) M101
      rcases i5 with ⟨-, e⟩ | ⟨e, -, -⟩
      · exact k _ _ _ _ ⟨_, _, _, _, i1, Or.inr ⟨by omega, Or.inl ⟨e, rfl⟩⟩⟩ (fun q j h1 h2 => i3 q j (by omega)) (by have zi3 := i3 48 1 (by omega); unfold rz_c; omega)
      · exfalso
        omega
  · intro (c4 : ¬ r102 = 0)
    refine And.intro ?_ ?_
    · intro (c12 : r102 = (-4))
      show xa_C (xl_I _) A h0 _ 102 [(2, 15, 0, 0, 0), (0, 0, (-2147483648), 2147483647, x3)] M101 _
      refine cx_102t (by have q := tk_Sl hT hS; omega) ?_
      intro r107 (i13 : (r107 = -1 ∧ ∀ i, 0 ≤ i → i < M101 15 10 → ¬ M101 21 i = x3) ∨ (0 ≤ r107 ∧ r107 < M101 15 10 ∧ M101 21 r107 = x3))
      refine And.intro ?_ ?_
      · intro (c14 : ¬ r107 = (-1))
        refine And.intro ?_ ?_
        · intro (c15 : r102 = 0)
          exfalso
          omega
        · intro (c15 : ¬ r102 = 0)
          show post (some (0, 0, (-4), 0, r102)) M101
          rcases i13 with ⟨e, -⟩ | ⟨e1, e2, e3⟩
          · exfalso
            omega
          · exact k _ _ _ _ ⟨_, _, _, _, i1, Or.inr ⟨by omega, Or.inr ⟨⟨_, e1, e2, e3⟩, Or.inl ⟨by omega, by omega⟩⟩⟩⟩ (fun q j h1 h2 => i3 q j (by omega)) (by have zi3 := i3 48 1 (by omega); unfold rz_c; omega)
      · intro (c14 : r107 = (-1))
        show post (some (0, 0, (-1), (-1), (-1))) M101
        rcases i13 with ⟨-, e⟩ | ⟨e, -, -⟩
        · exact k _ _ _ _ ⟨_, _, _, _, i1, Or.inr ⟨by omega, Or.inl ⟨e, rfl⟩⟩⟩ (fun q j h1 h2 => i3 q j (by omega)) (by have zi3 := i3 48 1 (by omega); unfold rz_c; omega)
        · exfalso
          omega
    · intro (c12 : ¬ r102 = (-4))
      show post (some (0, 0, (-4), 0, r102)) M101
      exact k _ _ _ _ ⟨_, _, _, _, i1, Or.inl ⟨by omega, rfl⟩⟩ (fun q j h1 h2 => i3 q j (by omega)) (by have zi3 := i3 48 1 (by omega); unfold rz_c; omega)
theorem rx_101_55 {A : Nat → Nat} {h0 : g_H} {d : Nat} {M : xa_M} {post : Option xa_V → xa_M → Prop} {l1 u1 l2 u2 l3 u3 x1 x2 x3 : Int} {F : Int → Int} {N : xa_M} (hT : tk_M N) (hR : tk_R M N) (hB : tk_B 55 M N) (hFF : 1 ≤ x1 ∧ x1 ≤ 9 → tk_Y N x1 F) (k : ∀ (lo hi r : Int) (M1 : xa_M), tf_101 N x1 x2 x3 r → (∀ (q : Nat) (j : Int), ¬ (15 ≤ q ∧ q ≤ 29) → ¬ (q = 48 ∨ q = 49) → M1 q j = M q j) → rz_c (r = 0) (M 48 1) (M1 48 1) 3 → post (some (0, 0, lo, hi, r)) M1) : xa_C (xl_I true) A h0 (d + 7) 101 [(2, 0, 0, 0, 0), (0, 0, l1, u1, x1), (0, 0, l2, u2, x2), (0, 0, l3, u3, x3)] M post := by
  refine xa_C_arg [(2, 0, 0, 0, 0), (0, 0, (-2147483648), 2147483647, x1), (0, 0, (-2147483648), 2147483647, x2), (0, 0, (-2147483648), 2147483647, x3)] (xa_svR (xa_svI (fun _ _ _ _ => by omega) (xa_svI (fun _ _ _ _ => by omega) (xa_svI (fun _ _ _ _ => by omega) xa_sv0)))) ?_
  refine xa_meth (Q0 := (6, 1, false, 0, 0, 11)) (by decide +kernel) ⟨rfl, rfl⟩ (full := s_c_101) rfl rfl ?_
  intro hM hv Q hgo
  refine hgo.1 33 [] 0 _ _ _ ?_
  show xa_C (xl_I _) A h0 _ 86 [(2, 0, 0, 0, 0), (0, 0, (-2147483648), 2147483647, x1), (0, 0, (-2147483648), 2147483647, x2)] M _
  refine cx_86_55 hT hR hB hFF ?_
  intro r102 M101 (i1 : tk_S N x1 x2 r102 (M101 15 10) (M101 21) (M101 22)) (i2 : r102 = 0 → tk_A N x2 M101) (i3 : ∀ q j, ¬ (15 ≤ q ∧ q ≤ 24) → M101 q j = M q j)
  have hS := i1
  refine And.intro ?_ ?_
  · intro (c4 : r102 = 0)
    show xa_C (xl_I _) A h0 _ 102 [(2, 15, 0, 0, 0), (0, 0, (-2147483648), 2147483647, x3)] M101 _
    refine cx_102t (by have q := tk_Sl hT hS; omega) ?_
    intro r103 (i5 : (r103 = -1 ∧ ∀ i, 0 ≤ i → i < M101 15 10 → ¬ M101 21 i = x3) ∨ (0 ≤ r103 ∧ r103 < M101 15 10 ∧ M101 21 r103 = x3))
    refine And.intro ?_ ?_
    · intro (c6 : ¬ r103 = (-1))
      refine And.intro ?_ ?_
      · intro (c7 : r102 = 0)
        show xa_C (xl_I _) A h0 _ 103 [(2, 15, 0, 0, 0)] M101 _
        have er : r102 = 0 := by omega
        have hS0 := hS
        rw [er] at hS0
        obtain ⟨z1, z2, z3, z4⟩ := tk_S_L hS0
        have hZ : tk_Z N x1 x2 M101 := ⟨z1, z3, z4, i2 er⟩
        refine cx_103t hT hZ ?_
        intro r104 M105 (i8 : (r104 = 0 ∧ fs_c (tk_F N (M101 15 10) (M101 21) (M101 22) x2) (tk_pr N (M101 15 10) (M101 21)).toNat = 0) ∨ (r104 = 1 ∧ 1 ≤ fs_c (tk_F N (M101 15 10) (M101 21) (M101 22) x2) (tk_pr N (M101 15 10) (M101 21)).toNat)) (i9 : ∀ (q : Nat) (j : Int), ¬ (25 ≤ q ∧ q ≤ 29) → ¬ (q = 15 ∧ j = 13) → M105 q j = M101 q j)
        refine And.intro ?_ ?_
        · intro (c10 : r104 = 0)
          show post (some (0, 0, (-2), (-2), (-2))) M105
          rcases i5 with ⟨e, -⟩ | ⟨e1, e2, e3⟩
          · exfalso
            omega
          · exact k _ _ _ _ ⟨_, _, _, _, i1, Or.inr ⟨by omega, Or.inr ⟨⟨_, e1, e2, e3⟩, Or.inr ⟨by omega, Or.inl ⟨by omega, rfl⟩⟩⟩⟩⟩ (fun q j h1 h2 => (i9 q j (by omega) (by omega)).trans (i3 q j (by omega))) (by have zi3 := i3 48 1 (by omega); have zi9 := i9 48 1 (by omega) (by omega); unfold rz_c; omega)
        · intro (c10 : ¬ r104 = 0)
          show xa_C (xl_I _) A h0 _ 104 [(2, 15, 0, 0, 0), (0, 0, (-1), 13, r103), (2, 48, 0, 0, 0)] M105 _
          have pl : 0 ≤ r103 ∧ r103 < M101 15 10 := by
            rcases i5 with ⟨e, -⟩ | ⟨e1, e2, -⟩
            · omega
            · exact ⟨e1, e2⟩
          obtain ⟨zl1, -, zl2, -⟩ := tk_Zl hT hZ
          have zl3 := (zl2 r103 pl.1 pl.2).1
          have f23 := i9 23 r103 (by omega) (by omega)
          have f24 := i9 24 r103 (by omega) (by omega)
          refine rz_104 (by omega) (by omega) (by omega) ?_
          intro M106 (i11 : ∀ (q : Nat) (j : Int), ¬ (q = 48 ∨ q = 49) → M106 q j = M105 q j) (z48 : M106 48 1 = 3)
          show post (some (0, 0, 0, 0, 0)) M106
          rcases i5 with ⟨e, -⟩ | ⟨e1, e2, e3⟩
          · exfalso
            omega
          · exact k _ _ _ _ ⟨_, _, _, _, i1, Or.inr ⟨by omega, Or.inr ⟨⟨_, e1, e2, e3⟩, Or.inr ⟨by omega, Or.inr ⟨by omega, rfl⟩⟩⟩⟩⟩ (fun q j h1 h2 => (i11 q j h2).trans ((i9 q j (by omega) (by omega)).trans (i3 q j (by omega)))) (by have zi3 := i3 48 1 (by omega); have zi9 := i9 48 1 (by omega) (by omega); unfold rz_c; omega)
      · intro (c7 : ¬ r102 = 0)
        exfalso
        omega
    · intro (c6 : r103 = (-1))
      show post (some (0, 0, (-1), (-1), (-1))) M101
      rcases i5 with ⟨-, e⟩ | ⟨e, -, -⟩
      · exact k _ _ _ _ ⟨_, _, _, _, i1, Or.inr ⟨by omega, Or.inl ⟨e, rfl⟩⟩⟩ (fun q j h1 h2 => i3 q j (by omega)) (by have zi3 := i3 48 1 (by omega); unfold rz_c; omega)
      · exfalso
        omega
  · intro (c4 : ¬ r102 = 0)
    refine And.intro ?_ ?_
    · intro (c12 : r102 = (-4))
      show xa_C (xl_I _) A h0 _ 102 [(2, 15, 0, 0, 0), (0, 0, (-2147483648), 2147483647, x3)] M101 _
      refine cx_102t (by have q := tk_Sl hT hS; omega) ?_
      intro r107 (i13 : (r107 = -1 ∧ ∀ i, 0 ≤ i → i < M101 15 10 → ¬ M101 21 i = x3) ∨ (0 ≤ r107 ∧ r107 < M101 15 10 ∧ M101 21 r107 = x3))
      refine And.intro ?_ ?_
      · intro (c14 : ¬ r107 = (-1))
        refine And.intro ?_ ?_
        · intro (c15 : r102 = 0)
          exfalso
          omega
        · intro (c15 : ¬ r102 = 0)
          show post (some (0, 0, (-4), 0, r102)) M101
          rcases i13 with ⟨e, -⟩ | ⟨e1, e2, e3⟩
          · exfalso
            omega
          · exact k _ _ _ _ ⟨_, _, _, _, i1, Or.inr ⟨by omega, Or.inr ⟨⟨_, e1, e2, e3⟩, Or.inl ⟨by omega, by omega⟩⟩⟩⟩ (fun q j h1 h2 => i3 q j (by omega)) (by have zi3 := i3 48 1 (by omega); unfold rz_c; omega)
      · intro (c14 : r107 = (-1))
        show post (some (0, 0, (-1), (-1), (-1))) M101
        rcases i13 with ⟨-, e⟩ | ⟨e, -, -⟩
        · exact k _ _ _ _ ⟨_, _, _, _, i1, Or.inr ⟨by omega, Or.inl ⟨e, rfl⟩⟩⟩ (fun q j h1 h2 => i3 q j (by omega)) (by have zi3 := i3 48 1 (by omega); unfold rz_c; omega)
        · exfalso
          omega
    · intro (c12 : ¬ r102 = (-4))
      show post (some (0, 0, (-4), 0, r102)) M101
      exact k _ _ _ _ ⟨_, _, _, _, i1, Or.inl ⟨by omega, rfl⟩⟩ (fun q j h1 h2 => i3 q j (by omega)) (by have zi3 := i3 48 1 (by omega); unfold rz_c; omega)
theorem rx_101 {b : Bool} {A : Nat → Nat} {h0 : g_H} {d : Nat} {M : xa_M} {post : Option xa_V → xa_M → Prop} {l1 u1 l2 u2 l3 u3 x1 x2 x3 : Int} {F : Int → Int} {N : xa_M} (hT : tk_M N) (hR : tk_R M N) (hB : tk_B (bk_p b) M N) (hFF : 1 ≤ x1 ∧ x1 ≤ 9 → tk_Y N x1 F) (k : ∀ (lo hi r : Int) (M1 : xa_M), tf_101 N x1 x2 x3 r → (∀ (q : Nat) (j : Int), ¬ (15 ≤ q ∧ q ≤ 29) → ¬ (q = 48 ∨ q = 49) → M1 q j = M q j) → rz_c (r = 0) (M 48 1) (M1 48 1) 3 → post (some (0, 0, lo, hi, r)) M1) : xa_C (xl_I b) A h0 (d + 7) 101 [(2, 0, 0, 0, 0), (0, 0, l1, u1, x1), (0, 0, l2, u2, x2), (0, 0, l3, u3, x3)] M post := by
  cases b
  · exact rx_101_50 hT hR hB hFF k
  · exact rx_101_55 hT hR hB hFF k
theorem rm_sure {A : Nat → Nat} {h0 : g_H} {d : Nat} {M : xa_M} {post : Option xa_V → xa_M → Prop} {l1 u1 l2 u2 l3 u3 : Int} {a x2 x3 : Int} (hI : xm_Inv M) (k : ∀ (o : Option xa_V) (M1 : xa_M), (∃ lo hi n, o = some (0, 0, lo, hi, n) ∧ tf_101 M a x2 x3 n ∧ rz_c ((n : Int) = 0) (M 60 20) (M1 60 20) (3)) → xm_cor M M1 → post o M1) : xa_C xm_I A h0 (d + 5) 245 [(2, 60, 0, 0, 0), (0, 0, l1, u1, a), (0, 0, l2, u2, x2), (0, 0, l3, u3, x3)] M post := by
  refine xa_C_arg [(2, 60, 0, 0, 0), (0, 0, (-2147483648), 2147483647, a), (0, 0, (-2147483648), 2147483647, x2), (0, 0, (-2147483648), 2147483647, x3)] (xa_svR (xa_svI (fun _ _ _ _ => by omega) (xa_svI (fun _ _ _ _ => by omega) (xa_svI (fun _ _ _ _ => by omega) xa_sv0)))) ?_
  refine xa_meth (Q0 := (10, 1, false, 0, 0, 12)) (by decide +kernel) ⟨rfl, rfl⟩ (full := s_c_245) rfl rfl ?_
  intro hM hv Q hgo
  have hTM := tk_M_of hM hI
  have loop1 : ∀ (n : Nat) (x9 x8 x7 x6 x5 : Int) (M1 : xa_M), 0 ≤ x9 ∧ x9 ≤ 401 → 0 ≤ x5 ∧ x5 ≤ 13 → xm_cor M M1 → tf_101 M a x2 x3 0 → 401 - x9 < (n : Int) → Q 113 [(9, (0, 0, 0, 401, x9)), (8, (0, 0, (-2147483648), 2147483647, x8)), (7, (0, 0, (-2147483648), 2147483647, x7)), (6, (0, 0, (-2147483648), 2147483647, x6)), (5, (0, 0, 0, 13, x5)), (0, (2, 60, 0, 0, 0))] [] M1 := by
    intro n
    induction n with
    | zero => intro x9 x8 x7 x6 x5 M1 b9 b5 hc hS0 hms; omega
    | succ n ih1 =>
      intro x9 x8 x7 x6 x5 M1 b9 b5 hc hS0 hms1
      refine hgo.1 28 [35, 113] 113 _ _ _ ?_
      refine And.intro ?_ ?_
      · intro (c1 : 400 < x9)
        show xa_C xm_I A h0 _ 231 [(2, 60, 0, 0, 0), (1, 0, (-2147483648), 2147483647, x6)] (xa_up M1 60 20 0) _
        refine ct_tell (n := 0) (by first | rfl | (simp [xa_up]; done) | omega) (by omega) (by omega) ?_
        show xa_C xm_I A h0 _ 231 [(2, 60, 0, 0, 0), (1, 0, (-2147483648), 2147483647, x7)] (xa_up (xa_up (xa_up M1 60 20 0) 74 0 x6) 60 20 1) _
        refine ct_tell (n := 1) (by first | rfl | (simp [xa_up]; done) | omega) (by omega) (by omega) ?_
        show xa_C xm_I A h0 _ 231 [(2, 60, 0, 0, 0), (1, 0, (-2147483648), 2147483647, x8)] (xa_up (xa_up (xa_up (xa_up (xa_up M1 60 20 0) 74 0 x6) 60 20 1) 74 1 x7) 60 20 2) _
        refine ct_tell (n := 2) (by first | rfl | (simp [xa_up]; done) | omega) (by omega) (by omega) ?_
        show post (some (0, 0, 0, 0, 0)) (xa_up (xa_up (xa_up (xa_up (xa_up (xa_up (xa_up M1 60 20 0) 74 0 x6) 60 20 1) 74 1 x7) 60 20 2) 74 2 x8) 60 20 3)
        exact k _ _ ⟨_, _, _, rfl, hS0, by show rz_c ((0 : Int) = 0) (M 60 20) (3) (3); unfold rz_c; omega⟩ (xm_cor_f (by omega) (xm_cor_a rfl (xm_cor_f (by omega) (xm_cor_a rfl (xm_cor_f (by omega) (xm_cor_a rfl (xm_cor_f (by omega) hc)))))))
      · intro (c1 : x9 ≤ 400)
        refine And.intro (show 0 ≤ ((401 * x5) + x9) ∧ ((401 * x5) + x9) < 5614 by omega) ?_
        refine And.intro ?_ ?_
        · intro (c2 : ¬ (M1 87 ((401 * x5) + x9)) = 0)
          refine And.intro ?_ ?_
          · intro (c3 : ¬ x6 = (-1))
            show Q 113 [(9, (0, 0, 1, 402, x9 + 1)), (8, (0, 0, (-2147483648), 2147483647, xa_w32 (x8 + 1))), (7, (0, 0, 0, 401, x9)), (6, (0, 0, (-2147483648), 2147483647, x6)), (5, (0, 0, 0, 13, x5)), (0, (2, 60, 0, 0, 0))] [] M1
            refine hgo.2.1 113 _ [(9, (0, 0, 0, 401, x9 + 1)), (8, (0, 0, (-2147483648), 2147483647, xa_w32 (x8 + 1))), (7, (0, 0, (-2147483648), 2147483647, x9)), (6, (0, 0, (-2147483648), 2147483647, x6)), (5, (0, 0, 0, 13, x5)), (0, (2, 60, 0, 0, 0))] _ _ (xa_subI rfl rfl (fun _ _ _ _ => by omega) (xa_subI rfl rfl (fun _ _ _ _ => by omega) (xa_subI rfl rfl (fun _ _ _ _ => by omega) (xa_subI rfl rfl (fun _ _ _ _ => by omega) (xa_subI rfl rfl (fun _ _ _ _ => by omega) (xa_subR rfl xa_sub0)))))) ?_
            exact ih1 (x9 + 1) (xa_w32 (x8 + 1)) x9 x6 x5 M1 (by omega) (by omega) hc hS0 (by omega)
          · intro (c3 : x6 = (-1))
            show Q 113 [(9, (0, 0, 1, 402, x9 + 1)), (8, (0, 0, (-2147483648), 2147483647, xa_w32 (x8 + 1))), (7, (0, 0, 0, 401, x9)), (6, (0, 0, 0, 401, x9)), (5, (0, 0, 0, 13, x5)), (0, (2, 60, 0, 0, 0))] [] M1
            refine hgo.2.1 113 _ [(9, (0, 0, 0, 401, x9 + 1)), (8, (0, 0, (-2147483648), 2147483647, xa_w32 (x8 + 1))), (7, (0, 0, (-2147483648), 2147483647, x9)), (6, (0, 0, (-2147483648), 2147483647, x9)), (5, (0, 0, 0, 13, x5)), (0, (2, 60, 0, 0, 0))] _ _ (xa_subI rfl rfl (fun _ _ _ _ => by omega) (xa_subI rfl rfl (fun _ _ _ _ => by omega) (xa_subI rfl rfl (fun _ _ _ _ => by omega) (xa_subI rfl rfl (fun _ _ _ _ => by omega) (xa_subI rfl rfl (fun _ _ _ _ => by omega) (xa_subR rfl xa_sub0)))))) ?_
            exact ih1 (x9 + 1) (xa_w32 (x8 + 1)) x9 x9 x5 M1 (by omega) (by omega) hc hS0 (by omega)
        · intro (c2 : (M1 87 ((401 * x5) + x9)) = 0)
          show Q 113 [(9, (0, 0, 1, 402, x9 + 1)), (8, (0, 0, (-2147483648), 2147483647, x8)), (7, (0, 0, (-2147483648), 2147483647, x7)), (6, (0, 0, (-2147483648), 2147483647, x6)), (5, (0, 0, 0, 13, x5)), (0, (2, 60, 0, 0, 0))] [] M1
          refine hgo.2.1 113 _ [(9, (0, 0, 0, 401, x9 + 1)), (8, (0, 0, (-2147483648), 2147483647, x8)), (7, (0, 0, (-2147483648), 2147483647, x7)), (6, (0, 0, (-2147483648), 2147483647, x6)), (5, (0, 0, 0, 13, x5)), (0, (2, 60, 0, 0, 0))] _ _ (xa_subI rfl rfl (fun _ _ _ _ => by omega) (xa_subI rfl rfl (fun _ _ _ _ => by omega) (xa_subI rfl rfl (fun _ _ _ _ => by omega) (xa_subI rfl rfl (fun _ _ _ _ => by omega) (xa_subI rfl rfl (fun _ _ _ _ => by omega) (xa_subR rfl xa_sub0)))))) ?_
          exact ih1 (x9 + 1) x8 x7 x6 x5 M1 (by omega) (by omega) hc hS0 (by omega)
  have loop0 : ∀ (n : Nat) (x6 x5 x4 : Int) (M1 : xa_M), 0 ≤ x6 ∧ x6 ≤ 14 → (-1) ≤ x5 ∧ x5 ≤ 13 → (-4) ≤ x4 ∧ x4 ≤ 0 → xm_cor M M1 → M1 60 20 = M 60 20 → (x4 = 0 ∨ x4 = -4) → tk_S M a x2 x4 (M1 60 32) (M1 80) (M1 81) → ((x5 = -1 ∧ ∀ i, 0 ≤ i → i < x6 → ¬ M1 80 i = x3) ∨ (¬ x5 = -1 ∧ ∃ i, 0 ≤ i ∧ i < x6 ∧ M1 80 i = x3)) → (¬ x5 = -1 → ∃ i, 0 ≤ i ∧ i < x6 ∧ M1 80 i = x3) → x6 ≤ M1 60 32 → (x4 = 0 → xm_Y M1 ∧ 0 ≤ x2 ∧ x2 < M1 60 11) → 14 - x6 < (n : Int) → Q 35 [(6, (0, 0, 0, 14, x6)), (5, (0, 0, (-1), 13, x5)), (4, (0, 0, (-4), 0, x4)), (3, (0, 0, (-2147483648), 2147483647, x3)), (2, (0, 0, (-2147483648), 2147483647, x2)), (0, (2, 60, 0, 0, 0))] [] M1 := by
    intro n
    induction n with
    | zero => intro x6 x5 x4 M1 b6 b5 b4 hc h20 h04 hSr hpl hpl2 hle hv0 hms; clear hpl hpl2; omega
    | succ n ih0 =>
      intro x6 x5 x4 M1 b6 b5 b4 hc h20 h04 hSr hpl hpl2 hle hv0 hms0
      refine hgo.2.2 _ _ _ _ (fun hM1 _ => ?_)
      have b32 := xm_f32 hM1
      refine hgo.1 28 [35, 113] 35 _ _ _ ?_
      refine And.intro ?_ ?_
      · intro (c1 : (M1 60 32) ≤ x6)
        refine And.intro ?_ ?_
        · intro (c2 : ¬ x5 = (-1))
          have hpx : ∃ i, 0 ≤ i ∧ i < M1 60 32 ∧ M1 80 i = x3 := by
            obtain ⟨i, h1, h2, h3⟩ := hpl2 c2
            exact ⟨i, h1, by omega, h3⟩
          refine And.intro ?_ ?_
          · intro (c3 : 0 ≤ x4)
            show xa_C xm_I A h0 _ 246 [(2, 60, 0, 0, 0), (0, 0, (-2147483648), 2147483647, x2)] M1 _
            refine rz_fx (j := 246) (by decide) (xa_C_mok (ct_countFitsF (xm_Inv_cor hc hI) (hv0 (by omega)).1 (by have q := (hv0 (by omega)).2; omega) (by have q := (hv0 (by omega)).2; omega) (fun M4 hc4 hq4 hM4 => ?_)))
            intro (zM4 : M4 60 20 = M1 60 20)
            refine And.intro ?_ ?_
            · intro (c5 : ¬ (M4 60 39) = 0)
              show Q 113 [(9, (0, 0, 0, 0, 0)), (8, (0, 0, 0, 0, 0)), (7, (0, 0, (-1), (-1), (-1))), (6, (0, 0, (-1), (-1), (-1))), (5, (0, 0, (-1), 13, x5)), (4, (0, 0, (-4), 0, x4)), (3, (0, 0, (-2147483648), 2147483647, x3)), (2, (0, 0, (-2147483648), 2147483647, x2)), (0, (2, 60, 0, 0, 0))] [] M4
              refine hgo.2.1 113 _ [(9, (0, 0, 0, 401, 0)), (8, (0, 0, (-2147483648), 2147483647, 0)), (7, (0, 0, (-2147483648), 2147483647, (-1))), (6, (0, 0, (-2147483648), 2147483647, (-1))), (5, (0, 0, 0, 13, x5)), (0, (2, 60, 0, 0, 0))] _ _ (xa_subI rfl rfl (fun _ _ _ _ => by omega) (xa_subI rfl rfl (fun _ _ _ _ => by omega) (xa_subI rfl rfl (fun _ _ _ _ => by omega) (xa_subI rfl rfl (fun _ _ _ _ => by omega) (xa_subI rfl rfl (fun _ _ _ _ => by omega) (xa_subR rfl xa_sub0)))))) ?_
              have e0 : x4 = 0 := by omega
              obtain ⟨Mr, hKr, hq⟩ := hq4
              obtain ⟨eL, eH, e81, e32, e71, e70⟩ := fr_L_k hKr
              obtain ⟨eF, ep, -, -⟩ := fm_e hc (p := x2)
              have eFr : fr_F Mr x2 = fr_F M1 x2 := by
                unfold fr_F
                rw [eL, eH, e81, e32, e71, e70]
              rw [eFr, eL, eH, e32, eF, ep] at hq
              have hcb := fs_cb (F := tk_F M (M1 60 32) (M1 80) (M1 81) x2) (tk_pr M (M1 60 32) (M1 80)).toNat
              exact loop1 402 0 0 (-1) (-1) x5 M4 (by omega) (by omega) (xm_cor_t hc hc4) ⟨0, _, _, _, by rw [← e0]; exact hSr, Or.inr ⟨Or.inl rfl, Or.inr ⟨hpx, Or.inr ⟨rfl, Or.inr ⟨by omega, rfl⟩⟩⟩⟩⟩ (by omega)
            · intro (c5 : (M4 60 39) = 0)
              show post (some (0, 0, (-2), (-2), (-2))) M4
              have e0 : x4 = 0 := by omega
              obtain ⟨Mr, hKr, hq⟩ := hq4
              obtain ⟨eL, eH, e81, e32, e71, e70⟩ := fr_L_k hKr
              obtain ⟨eF, ep, -, -⟩ := fm_e hc (p := x2)
              have eFr : fr_F Mr x2 = fr_F M1 x2 := by
                unfold fr_F
                rw [eL, eH, e81, e32, e71, e70]
              rw [eFr, eL, eH, e32, eF, ep] at hq
              have hcb := fs_cb (F := tk_F M (M1 60 32) (M1 80) (M1 81) x2) (tk_pr M (M1 60 32) (M1 80)).toNat
              exact k _ _ ⟨_, _, _, rfl, ⟨0, _, _, _, by rw [← e0]; exact hSr, Or.inr ⟨Or.inl rfl, Or.inr ⟨hpx, Or.inr ⟨rfl, Or.inl ⟨by omega, rfl⟩⟩⟩⟩⟩, by show rz_c (((-2) : Int) = 0) (M 60 20) (M4 60 20) (3); unfold rz_c; omega⟩ (xm_cor_t hc hc4)
          · intro (c3 : x4 < 0)
            show post (some (0, 0, (-4), 0, x4)) M1
            exact k _ _ ⟨_, _, _, rfl, ⟨x4, _, _, _, hSr, Or.inr ⟨h04, Or.inr ⟨hpx, Or.inl ⟨by rcases h04 with e | e; exact absurd e (Int.ne_of_lt (by assumption)); exact e, by rcases h04 with e | e; exact absurd e (Int.ne_of_lt (by assumption)); exact e⟩⟩⟩⟩, by show rz_c ((x4 : Int) = 0) (M 60 20) (M1 60 20) (3); unfold rz_c; omega⟩ hc
        · intro (c2 : x5 = (-1))
          show post (some (0, 0, (-1), (-1), (-1))) M1
          rcases hpl with ⟨-, h⟩ | h
          · exact k _ _ ⟨_, _, _, rfl, ⟨x4, _, _, _, hSr, Or.inr ⟨h04, Or.inl ⟨fun i i0 i1 => h i i0 (by omega), rfl⟩⟩⟩, by show rz_c (((-1) : Int) = 0) (M 60 20) (M1 60 20) (3); unfold rz_c; omega⟩ hc
          · exact absurd c2 h.1
      · intro (c1 : x6 < (M1 60 32))
        refine And.intro (show 0 ≤ x6 ∧ x6 < 14 by omega) ?_
        refine And.intro ?_ ?_
        · intro (c6 : ¬ (M1 80 x6) = x3)
          show Q 35 [(6, (0, 0, 1, 15, x6 + 1)), (5, (0, 0, (-1), 13, x5)), (4, (0, 0, (-4), 0, x4)), (3, (0, 0, (-2147483648), 2147483647, x3)), (2, (0, 0, (-2147483648), 2147483647, x2)), (0, (2, 60, 0, 0, 0))] [] M1
          refine hgo.2.1 35 _ [(6, (0, 0, 0, 14, x6 + 1)), (5, (0, 0, (-1), 13, x5)), (4, (0, 0, (-4), 0, x4)), (3, (0, 0, (-2147483648), 2147483647, x3)), (2, (0, 0, (-2147483648), 2147483647, x2)), (0, (2, 60, 0, 0, 0))] _ _ (xa_subI rfl rfl (fun _ _ _ _ => by omega) (xa_subI rfl rfl (fun _ _ _ _ => by omega) (xa_subI rfl rfl (fun _ _ _ _ => by omega) (xa_subI rfl rfl (fun _ _ _ _ => by omega) (xa_subI rfl rfl (fun _ _ _ _ => by omega) (xa_subR rfl xa_sub0)))))) ?_
          exact ih0 (x6 + 1) x5 x4 M1 (by omega) (by omega) (by omega) hc h20 h04 hSr (by
            rcases hpl with ⟨e, h⟩ | ⟨e, i, h1, h2, h3⟩
            · refine Or.inl ⟨e, fun i i0 i1 => ?_⟩
              by_cases q : i = x6
              · rw [q]
                exact c6
              · exact h i i0 (by omega)
            · exact Or.inr ⟨e, i, h1, by omega, h3⟩) (fun h => by
            obtain ⟨i, h1, h2, h3⟩ := hpl2 h
            exact ⟨i, h1, by omega, h3⟩) (by omega) hv0 (by omega)
        · intro (c6 : (M1 80 x6) = x3)
          show Q 35 [(6, (0, 0, 1, 15, x6 + 1)), (5, (0, 0, 0, 14, x6)), (4, (0, 0, (-4), 0, x4)), (3, (0, 0, (-2147483648), 2147483647, x3)), (2, (0, 0, (-2147483648), 2147483647, x2)), (0, (2, 60, 0, 0, 0))] [] M1
          refine hgo.2.1 35 _ [(6, (0, 0, 0, 14, x6 + 1)), (5, (0, 0, (-1), 13, x6)), (4, (0, 0, (-4), 0, x4)), (3, (0, 0, (-2147483648), 2147483647, x3)), (2, (0, 0, (-2147483648), 2147483647, x2)), (0, (2, 60, 0, 0, 0))] _ _ (xa_subI rfl rfl (fun _ _ _ _ => by omega) (xa_subI rfl rfl (fun _ _ _ _ => by omega) (xa_subI rfl rfl (fun _ _ _ _ => by omega) (xa_subI rfl rfl (fun _ _ _ _ => by omega) (xa_subI rfl rfl (fun _ _ _ _ => by omega) (xa_subR rfl xa_sub0)))))) ?_
          exact ih0 (x6 + 1) x6 x4 M1 (by omega) (by omega) (by omega) hc h20 h04 hSr (Or.inr ⟨by omega, x6, b6.1, by omega, c6⟩) (fun _ => ⟨x6, b6.1, by omega, c6⟩) (by omega) hv0 (by omega)
  refine hgo.1 23 [35, 113] 0 _ _ _ ?_
  show xa_C xm_I A h0 _ 238 [(2, 60, 0, 0, 0), (0, 0, (-2147483648), 2147483647, a), (0, 0, (-2147483648), 2147483647, x2)] (xa_up M 60 21 0) _
  refine rz_fx (j := 238) (by decide) (xa_C_mok (ct_readyF (xm_Inv_cor (xm_cor_f (by omega) xm_cor_r) hI) (fun v1 M1 z1 hc1 hr1 hq1 hM1 => ?_)))
  intro (zM1 : M1 60 20 = M 60 20)
  have hS := rd_S hTM (xm_cor_f (by omega) xm_cor_r) hc1 hM1 hq1
  refine And.intro ?_ ?_
  · intro (c2 : v1 = (-1))
    show post (some (0, 0, (-4), 0, v1)) M1
    exact k _ _ ⟨_, _, _, rfl, ⟨v1, _, _, _, hS, Or.inl ⟨by omega, rfl⟩⟩, by show rz_c ((v1 : Int) = 0) (M 60 20) (M1 60 20) (3); unfold rz_c; omega⟩ (xm_cor_t (xm_cor_f (by omega) xm_cor_r) hc1)
  · intro (c2 : ¬ v1 = (-1))
    refine And.intro ?_ ?_
    · intro (c3 : ¬ v1 = (-2))
      show Q 35 [(6, (0, 0, 0, 0, 0)), (5, (0, 0, (-1), (-1), (-1))), (4, (0, 0, (-4), 0, v1)), (0, (2, 60, 0, 0, 0)), (1, (0, 0, (-2147483648), 2147483647, a)), (2, (0, 0, (-2147483648), 2147483647, x2)), (3, (0, 0, (-2147483648), 2147483647, x3))] [] M1
      refine hgo.2.1 35 _ [(6, (0, 0, 0, 14, 0)), (5, (0, 0, (-1), 13, (-1))), (4, (0, 0, (-4), 0, v1)), (3, (0, 0, (-2147483648), 2147483647, x3)), (2, (0, 0, (-2147483648), 2147483647, x2)), (0, (2, 60, 0, 0, 0))] _ _ (xa_subI rfl rfl (fun _ _ _ _ => by omega) (xa_subI rfl rfl (fun _ _ _ _ => by omega) (xa_subI rfl rfl (fun _ _ _ _ => by omega) (xa_subI rfl rfl (fun _ _ _ _ => by omega) (xa_subI rfl rfl (fun _ _ _ _ => by omega) (xa_subR rfl xa_sub0)))))) ?_
      exact loop0 15 0 (-1) v1 M1 (by omega) (by omega) (by omega) (xm_cor_t (xm_cor_f (by omega) xm_cor_r) hc1) zM1 (by omega) hS (Or.inl ⟨rfl, fun i i0 i1 => by omega⟩) (fun h => absurd rfl h) (xm_f32 hM1).1 (fun h => ⟨⟨(hr1 h).1, (hr1 h).2.1⟩, by have q := (hr1 h).2.2; have e := xm_corf (xm_cor_t (xm_cor_f (by omega) xm_cor_r) hc1) 11 (by omega); simp [xa_up] at q; omega⟩) (by omega)
    · intro (c3 : v1 = (-2))
      show post (some (0, 0, (-4), 0, v1)) M1
      exact k _ _ ⟨_, _, _, rfl, ⟨v1, _, _, _, hS, Or.inl ⟨by omega, rfl⟩⟩, by show rz_c ((v1 : Int) = 0) (M 60 20) (M1 60 20) (3); unfold rz_c; omega⟩ (xm_cor_t (xm_cor_f (by omega) xm_cor_r) hc1)
theorem rz_p101 (A : Nat → Nat) (cmp : Bool) : iv_pair (rz_J A) A 101 245 [0, 0, 0] cmp false := rz_armV (fun W b h as M hJ hM hInv hs hR hz => by
  obtain ⟨m1, ys, rfl, -, hs⟩ := iv_spc hs
  obtain ⟨m2, ys, rfl, -, hs⟩ := iv_spc hs
  obtain ⟨m3, ys, rfl, -, hs⟩ := iv_spc hs
  obtain rfl := iv_sp0 hs
  have b0 := xm_f0 (xa_H_Mok hM)
  have b6 := xm_f6 (xa_H_Mok hM)
  have r1 : iv_num h 1 9 = M 60 0 := hR.1.1
  have r2 : iv_num h 1 10 = M 60 6 := hR.1.2.1
  have r3 : ∀ i, 0 ≤ i → i < 14 → iv_num h 2 i = M 61 i ∧ iv_num h 3 i = M 62 i ∧ iv_num h 5 i = M 64 i ∧ iv_num h 6 i = M 65 i ∧ iv_num h 4 i = M 63 i := hR.1.2.2.1
  have r4 : ∀ i, 0 ≤ i → i < 16 → iv_num h 7 i = M 66 i ∧ iv_num h 8 i = M 67 i := hR.1.2.2.2
  have hS := hR.2
  obtain ⟨s1, s2, s3, s4⟩ := lm_Sx.mp hR.2.1
  have hMk := xa_H_Mok hM
  have b11 := xm_f11 hMk
  have hT := tk_M_of hMk hInv
  have hRc : tk_R (iv_num h) M := ⟨r1, r2, fun i i0 i1 => by
    obtain ⟨g1, g2, g3, g4, -⟩ := r3 i i0 i1
    exact ⟨g1, g2, g3, g4⟩, r4⟩
  have hB : tk_B (bk_p b) (iv_num h) M := ⟨s3, b11, fun p p0 p1 => by
    obtain ⟨g1, g2, -⟩ := s4 p p0 (by omega) p1
    have t1 := xm_t70 hMk p p0 (by omega)
    have t2 := xm_t71 hMk p p0 (by omega)
    have t3 := hInv.2.2.1 p p0 p1
    exact ⟨⟨g1, g2⟩, by omega, by omega⟩⟩
  have hx : ∃ F : Int → Int, (1 ≤ m1.toInt ∧ m1.toInt ≤ 9) → tk_Y M m1.toInt F := by
    by_cases c : 1 ≤ m1.toInt ∧ m1.toInt ≤ 9
    · obtain ⟨F, hF1, hF2⟩ := wr_ex hMk (X := m1.toInt) (by omega) b6.1 (fun i i0 i1 => tk_AB hT i i0 i1)
      exact ⟨F, fun _ => ⟨hF1, fun a _ _ => hF2 a⟩⟩
    · exact ⟨fun _ => 0, fun h => absurd h c⟩
  obtain ⟨F, hFF⟩ := hx
  have hc := rx_101 (b := b) (A := A) (h0 := h) (d := 53) (M := iv_num h) (N := M) (F := F) (l1 := -2147483648) (u1 := 2147483647) (l2 := -2147483648) (u2 := 2147483647) (l3 := -2147483648) (u3 := 2147483647) (x1 := m1.toInt) (x2 := m2.toInt) (x3 := m3.toInt) (post := fun o M1 => ∃ lo hi n, o = some (0, 0, lo, hi, n) ∧ ((tf_101 M m1.toInt m2.toInt m3.toInt n ∧ ∀ (q : Nat) (j : Int), ¬ (15 ≤ q ∧ q ≤ 29) → ¬ (q = 48 ∨ q = 49) → M1 q j = iv_num h q j) ∧ rz_c ((n : Int) = 0) (iv_num h 48 1) (M1 48 1) (3))) hT hRc hB hFF (fun lo hi n M1 x1 x2 x3 => ⟨lo, hi, n, rfl, ⟨x1, x2⟩, x3⟩)
  have hm := fun (h1 : g_H) => rm_sure (A := A) (h0 := h1) (d := 55) (M := M) (l1 := -2147483648) (u1 := 2147483647) (l2 := -2147483648) (u2 := 2147483647) (l3 := -2147483648) (u3 := 2147483647) (a := m1.toInt) (x2 := m2.toInt) (x3 := m3.toInt) (post := fun o M2 => (∃ lo hi n, o = some (0, 0, lo, hi, n) ∧ ((tf_101 M m1.toInt m2.toInt m3.toInt n ∧ xm_cor M M2) ∧ rz_c ((n : Int) = 0) (M 60 20) (M2 60 20) (3))) ∧ xm_Inv M2) hInv (fun o M2 x1 x2 => by
    obtain ⟨lo, hi, n, rfl, x1, x3⟩ := x1
    exact ⟨⟨lo, hi, n, rfl, ⟨x1, x2⟩, x3⟩, xm_Inv_cor x2 hInv⟩)
  refine ⟨[(2, 0, 0, 0, 0), (0, 0, -2147483648, 2147483647, m1.toInt), (0, 0, -2147483648, 2147483647, m2.toInt), (0, 0, -2147483648, 2147483647, m3.toInt)], [(2, 60, 0, 0, 0), (0, 0, -2147483648, 2147483647, m1.toInt), (0, 0, -2147483648, 2147483647, m2.toInt), (0, 0, -2147483648, 2147483647, m3.toInt)], _, _, ⟨rfl, iv_i m1, iv_i m2, iv_i m3, trivial⟩, ⟨rfl, iv_i m1, iv_i m2, iv_i m3, trivial⟩, fun n n' M1 M2 g1 g2 => by
    obtain ⟨h1, z1⟩ := g1
    obtain ⟨h2, z2⟩ := g2
    have en : n = n' := tf_101_one hT h1.1 h2.1
    exact ⟨fun _ => en, fun x => h2.2 104 x (by unfold xm_scr; omega), fun x => h2.2 105 x (by unfold xm_scr; omega), tf_lmR2 hR h1.2 h2.2, rz_c1 z1 z2 (by rw [en]) hz⟩, hc, hm⟩)
theorem rz_108 {b : Bool} {A : Nat → Nat} {h0 : g_H} {d : Nat} {M : xa_M} {post : Option xa_V → xa_M → Prop} {c : Int → Int → Int} {u : Int → Int} (h10 : 1 ≤ M 15 10 ∧ M 15 10 ≤ 14) (hw1 : ∀ w, 0 ≤ w → w < M 15 10 → 10 ≤ M 23 w ∧ M 23 w ≤ M 24 w ∧ M 24 w ≤ 400) (hw2 : ∀ w, 0 ≤ w → w < M 15 10 → ∀ n, M 23 w ≤ n → n ≤ M 24 w → 0 ≤ M 29 w + n ∧ M 29 w + n < 800) (hw3 : ∀ w, 0 ≤ w → w < M 15 10 → ∀ n, M 23 w ≤ n → n ≤ M 24 w → M 28 (M 29 w + n) = c w n) (hw4 : ∀ w, 0 ≤ w → w < M 15 10 → ∀ n, ¬ (M 23 w ≤ n ∧ n ≤ M 24 w) → c w n = 0) (hmu : ∀ w, 0 ≤ w → w < M 15 10 → nx_m (c w) (u w)) (k : ∀ (g : Int) (M1 : xa_M), (0 ≤ g ∧ g < M 15 10) → (∀ j, 0 ≤ j → j < g → u g < u j) → (∀ j, 0 ≤ j → j < M 15 10 → u g ≤ u j) → (∀ (q : Nat) (j : Int), ¬ (q = 48 ∨ q = 49) → M1 q j = M q j) → M1 48 1 = 1 → post (some (0, 0, (-2147483648), 2147483647, M 21 g)) M1) : xa_C (xl_I b) A h0 (d + 4) 108 [(2, 15, 0, 0, 0), (2, 48, 0, 0, 0)] M post := by
  refine xa_meth (Q0 := (4, 1, false, 0, 0, 3)) (by decide +kernel) ⟨rfl, rfl⟩ (full := s_c_108) rfl rfl ?_
  intro hM hv Q hgo
  have loop : ∀ (f : Nat) (i g : Int), 1 ≤ i ∧ i ≤ 14 → (0 ≤ g ∧ g < i ∧ g < M 15 10) → (∀ j, 0 ≤ j → j < g → u g < u j) → (∀ j, 0 ≤ j → j < i → u g ≤ u j) → 14 - i < (f : Int) → Q 4 [(3, (0, 0, 0, 14, i)), (2, (0, 0, 0, 13, g)), (0, (2, 15, 0, 0, 0)), (1, (2, 48, 0, 0, 0))] [] M := by
    intro f
    induction f with
    | zero => intro i g i1 g1 hlt hle hms; clear hlt hle; omega
    | succ f ih =>
      intro i g i1 g1 hlt hle hms
      refine hgo.1 21 [4] 4 _ _ _ ?_
      refine And.intro ?_ ?_
      · intro (c1 : (M 15 10) ≤ i)
        show xa_C (xl_I b) A h0 _ 59 [(2, 48, 0, 0, 0)] M _
        refine cx_59_48 ?_
        show xa_C (xl_I b) A h0 _ 109 [(2, 15, 0, 0, 0), (0, 0, 0, 13, g)] (xa_up M 48 1 0) _
        refine cx_109n (by omega) (hw1 g (by omega) (by omega)) (hw2 g (by omega) (by omega)) (hw3 g (by omega) (by omega)) (hw4 g (by omega) (by omega)) (hmu g (by omega) (by omega)) ?_
        show xa_C (xl_I b) A h0 _ 60 [(2, 48, 0, 0, 0), (1, 0, (-2147483648), 2147483647, u g)] (xa_up M 48 1 0) _
        refine rz_60 (by show (0 : Int) ≤ 0 ∧ 0 < 16; omega) ?_
        intro M101 (i2 : ∀ (q : Nat) (j : Int), ¬ (q = 48 ∨ q = 49) → M101 q j = (xa_up M 48 1 0) q j) (i3 : (0 : Int) ≤ M101 48 1) (zM101 : M101 48 1 = 0 + 1)
        show xa_C (xl_I b) A h0 _ 23 [(2, 21, 0, 0, 0), (0, 0, 0, 13, g)] M101 _
        refine cx_23_21 (show 0 ≤ g ∧ g < 14 by omega) ?_
        show post (some (0, 0, (-2147483648), 2147483647, M101 21 g)) M101
        have e21 : M101 21 g = M 21 g := (i2 21 g (by decide)).trans (xa_up_ne (by omega))
        rw [e21]
        exact k g _ (by omega) hlt (fun j j0 j1 => hle j j0 (by omega)) (fun q j hq => (i2 q j hq).trans (xa_up_ne (by omega))) (by omega)
      · intro (c1 : i < (M 15 10))
        show xa_C (xl_I b) A h0 _ 109 [(2, 15, 0, 0, 0), (0, 0, 0, 14, i)] M _
        refine cx_109n (by omega) (hw1 i (by omega) (by omega)) (hw2 i (by omega) (by omega)) (hw3 i (by omega) (by omega)) (hw4 i (by omega) (by omega)) (hmu i (by omega) (by omega)) ?_
        show xa_C (xl_I b) A h0 _ 109 [(2, 15, 0, 0, 0), (0, 0, 0, 13, g)] M _
        refine cx_109n (by omega) (hw1 g (by omega) (by omega)) (hw2 g (by omega) (by omega)) (hw3 g (by omega) (by omega)) (hw4 g (by omega) (by omega)) (hmu g (by omega) (by omega)) ?_
        refine And.intro ?_ ?_
        · intro (c4 : (u g) ≤ (u i))
          show Q 4 [(3, (0, 0, 1, 15, i + 1)), (2, (0, 0, 0, 13, g)), (0, (2, 15, 0, 0, 0)), (1, (2, 48, 0, 0, 0))] [] M
          refine hgo.2.1 4 _ [(3, (0, 0, 0, 14, i + 1)), (2, (0, 0, 0, 13, g)), (0, (2, 15, 0, 0, 0)), (1, (2, 48, 0, 0, 0))] _ _ (xa_subI rfl rfl (fun _ _ _ _ => by omega) (xa_subI rfl rfl (fun _ _ _ _ => by omega) (xa_subR rfl (xa_subR rfl (xa_sub0))))) ?_
          exact ih (i + 1) g (by omega) (by omega) hlt (fun j j0 j1 => by
            by_cases e : j = i
            · rw [e]
              omega
            · exact hle j j0 (by omega)) (by omega)
        · intro (c4 : (u i) < (u g))
          show Q 4 [(3, (0, 0, 1, 15, i + 1)), (2, (0, 0, 0, 14, i)), (0, (2, 15, 0, 0, 0)), (1, (2, 48, 0, 0, 0))] [] M
          refine hgo.2.1 4 _ [(3, (0, 0, 0, 14, i + 1)), (2, (0, 0, 0, 13, i)), (0, (2, 15, 0, 0, 0)), (1, (2, 48, 0, 0, 0))] _ _ (xa_subI rfl rfl (fun _ _ _ _ => by omega) (xa_subI rfl rfl (fun _ _ _ _ => by omega) (xa_subR rfl (xa_subR rfl (xa_sub0))))) ?_
          exact ih (i + 1) i (by omega) (by omega) (fun j j0 j1 => by
            have := hle j j0 j1
            omega) (fun j j0 j1 => by
            by_cases e : j = i
            · rw [e]
              exact Int.le_refl _
            · have := hle j j0 (by omega)
              omega) (by omega)
  refine hgo.1 9 [4] 0 _ _ _ ?_
  show Q 4 [(3, (0, 0, 1, 1, 1)), (2, (0, 0, 0, 0, 0)), (0, (2, 15, 0, 0, 0)), (1, (2, 48, 0, 0, 0))] [] M
  refine hgo.2.1 4 _ [(3, (0, 0, 0, 14, 1)), (2, (0, 0, 0, 13, 0)), (0, (2, 15, 0, 0, 0)), (1, (2, 48, 0, 0, 0))] _ _ (xa_subI rfl rfl (fun _ _ _ _ => by omega) (xa_subI rfl rfl (fun _ _ _ _ => by omega) (xa_subR rfl (xa_subR rfl (xa_sub0))))) ?_
  exact loop 15 1 0 (by omega) (by omega) (fun j j0 j1 => by omega) (fun j j0 j1 => by rw [show j = 0 by omega]; exact Int.le_refl _) (by omega)
theorem rx_107_50 {A : Nat → Nat} {h0 : g_H} {d : Nat} {M : xa_M} {post : Option xa_V → xa_M → Prop} {l1 u1 l2 u2 x1 x2 : Int} {F : Int → Int} {N : xa_M} (hT : tk_M N) (hR : tk_R M N) (hB : tk_B 50 M N) (hFF : 1 ≤ x1 ∧ x1 ≤ 9 → tk_Y N x1 F) (k : ∀ (lo hi r : Int) (M1 : xa_M), tf_107 N x1 x2 r → (∀ (q : Nat) (j : Int), ¬ (15 ≤ q ∧ q ≤ 29) → ¬ (q = 48 ∨ q = 49) → M1 q j = M q j) → rz_c (0 ≤ r) (M 48 1) (M1 48 1) 1 → post (some (0, 0, lo, hi, r)) M1) : xa_C (xl_I false) A h0 (d + 7) 107 [(2, 0, 0, 0, 0), (0, 0, l1, u1, x1), (0, 0, l2, u2, x2)] M post := by
  refine xa_C_arg [(2, 0, 0, 0, 0), (0, 0, (-2147483648), 2147483647, x1), (0, 0, (-2147483648), 2147483647, x2)] (xa_svR (xa_svI (fun _ _ _ _ => by omega) (xa_svI (fun _ _ _ _ => by omega) xa_sv0))) ?_
  refine xa_meth (Q0 := (4, 1, false, 0, 0, 11)) (by decide +kernel) ⟨rfl, rfl⟩ (full := s_c_107) rfl rfl ?_
  intro hM hv Q hgo
  refine hgo.1 22 [] 0 _ _ _ ?_
  show xa_C (xl_I _) A h0 _ 86 [(2, 0, 0, 0, 0), (0, 0, (-2147483648), 2147483647, x1), (0, 0, (-2147483648), 2147483647, x2)] M _
  refine cx_86_50 hT hR hB hFF ?_
  intro r102 M101 (i1 : tk_S N x1 x2 r102 (M101 15 10) (M101 21) (M101 22)) (i2 : r102 = 0 → tk_A N x2 M101) (i3 : ∀ q j, ¬ (15 ≤ q ∧ q ≤ 24) → M101 q j = M q j)
  refine And.intro ?_ ?_
  · intro (c4 : r102 = 0)
    show xa_C (xl_I _) A h0 _ 103 [(2, 15, 0, 0, 0)] M101 _
    have er : r102 = 0 := by omega
    have hS0 := i1
    rw [er] at hS0
    obtain ⟨z1, z2, z3, z4⟩ := tk_S_L hS0
    have hZ : tk_Z N x1 x2 M101 := ⟨z1, z3, z4, i2 er⟩
    refine cx_103n hT hZ ?_
    intro r103 M104 (i5 : (r103 = 0 ∧ fs_c (tk_F N (M101 15 10) (M101 21) (M101 22) x2) (tk_pr N (M101 15 10) (M101 21)).toNat = 0) ∨ (r103 = 1 ∧ 1 ≤ fs_c (tk_F N (M101 15 10) (M101 21) (M101 22) x2) (tk_pr N (M101 15 10) (M101 21)).toNat)) (i6 : r103 = 1 → (∀ w : Int, 0 ≤ w → w < M101 15 10 → M104 29 w = nx_B (fun i => N 61 (M101 21 i)) (fun i => N 62 (M101 21 i)) w.toNat - N 61 (M101 21 w)) ∧ nx_T (M104 28) (fun i => N 61 (M101 21 i)) (fun i => N 62 (M101 21 i)) (M101 15 10) (fun j n => fs_c (nx_G (fun i => N 61 (M101 21 i)) (fun i => N 62 (M101 21 i)) (M101 15 10).toNat (tk_F N (M101 15 10) (M101 21) (M101 22) x2) j n) (tk_pr N (M101 15 10) (M101 21)).toNat)) (i7 : ∀ (q : Nat) (j : Int), ¬ (25 ≤ q ∧ q ≤ 29) → ¬ (q = 15 ∧ j = 13) → M104 q j = M101 q j)
    refine And.intro ?_ ?_
    · intro (c8 : r103 = 0)
      show post (some (0, 0, (-2), (-2), (-2))) M104
      exact k _ _ _ _ ⟨_, _, _, _, i1, Or.inr ⟨by omega, Or.inl ⟨by omega, rfl⟩⟩⟩ (fun q j h1 h2 => (i7 q j (by omega) (by omega)).trans (i3 q j (by omega))) (by have zr := rz_Sr i1; have zi3 := i3 48 1 (by omega); have zi7 := i7 48 1 (by omega) (by omega); unfold rz_c; omega)
    · intro (c8 : ¬ r103 = 0)
      show xa_C (xl_I _) A h0 _ 108 [(2, 15, 0, 0, 0), (2, 48, 0, 0, 0)] M104 _
      obtain ⟨y1, y2, y3, y4, y5, y6⟩ := nx_cls hT hZ (i6 (by omega)) i7
      have f10 := i7 15 10 (by decide) (by omega)
      have zl := (tk_Zr hT hZ).1
      refine rz_108 (by omega) y1 y2 y3 y4 y5 ?_
      intro g106 M105 (i9 : 0 ≤ g106 ∧ g106 < M104 15 10) (i10 : ∀ j, 0 ≤ j → j < g106 → (nx_u N M101 x2) g106 < (nx_u N M101 x2) j) (i11 : ∀ j, 0 ≤ j → j < M104 15 10 → (nx_u N M101 x2) g106 ≤ (nx_u N M101 x2) j) (i12 : ∀ (q : Nat) (j : Int), ¬ (q = 48 ∨ q = 49) → M105 q j = M104 q j) (z48 : M105 48 1 = 1)
      show post (some (0, 0, (-2147483648), 2147483647, M104 21 g106)) M105
      have q10 := i7 15 10 (by decide) (by omega)
      exact k _ _ _ _ ⟨_, _, _, _, i1, Or.inr ⟨by omega, Or.inr ⟨by omega, _, _, y6, by omega, i10, (fun j j0 j1 => i11 j j0 (by omega)), i7 21 _ (by omega) (by omega)⟩⟩⟩ (fun q j h1 h2 => (i12 q j h2).trans ((i7 q j (by omega) (by omega)).trans (i3 q j (by omega)))) (Or.inl ⟨by rw [i7 21 _ (by omega) (by omega)]; exact ((tk_Zl hT hZ).2.2.1 g106 i9.1 (by omega)).2.1, z48⟩)
  · intro (c4 : ¬ r102 = 0)
    show post (some (0, 0, (-4), 0, r102)) M101
    exact k _ _ _ _ ⟨_, _, _, _, i1, Or.inl ⟨by omega, rfl⟩⟩ (fun q j h1 h2 => i3 q j (by omega)) (by have zr := rz_Sr i1; have zi3 := i3 48 1 (by omega); unfold rz_c; omega)
theorem rx_107_55 {A : Nat → Nat} {h0 : g_H} {d : Nat} {M : xa_M} {post : Option xa_V → xa_M → Prop} {l1 u1 l2 u2 x1 x2 : Int} {F : Int → Int} {N : xa_M} (hT : tk_M N) (hR : tk_R M N) (hB : tk_B 55 M N) (hFF : 1 ≤ x1 ∧ x1 ≤ 9 → tk_Y N x1 F) (k : ∀ (lo hi r : Int) (M1 : xa_M), tf_107 N x1 x2 r → (∀ (q : Nat) (j : Int), ¬ (15 ≤ q ∧ q ≤ 29) → ¬ (q = 48 ∨ q = 49) → M1 q j = M q j) → rz_c (0 ≤ r) (M 48 1) (M1 48 1) 1 → post (some (0, 0, lo, hi, r)) M1) : xa_C (xl_I true) A h0 (d + 7) 107 [(2, 0, 0, 0, 0), (0, 0, l1, u1, x1), (0, 0, l2, u2, x2)] M post := by
  refine xa_C_arg [(2, 0, 0, 0, 0), (0, 0, (-2147483648), 2147483647, x1), (0, 0, (-2147483648), 2147483647, x2)] (xa_svR (xa_svI (fun _ _ _ _ => by omega) (xa_svI (fun _ _ _ _ => by omega) xa_sv0))) ?_
  refine xa_meth (Q0 := (4, 1, false, 0, 0, 11)) (by decide +kernel) ⟨rfl, rfl⟩ (full := s_c_107) rfl rfl ?_
  intro hM hv Q hgo
  refine hgo.1 22 [] 0 _ _ _ ?_
  show xa_C (xl_I _) A h0 _ 86 [(2, 0, 0, 0, 0), (0, 0, (-2147483648), 2147483647, x1), (0, 0, (-2147483648), 2147483647, x2)] M _
  refine cx_86_55 hT hR hB hFF ?_
  intro r102 M101 (i1 : tk_S N x1 x2 r102 (M101 15 10) (M101 21) (M101 22)) (i2 : r102 = 0 → tk_A N x2 M101) (i3 : ∀ q j, ¬ (15 ≤ q ∧ q ≤ 24) → M101 q j = M q j)
  refine And.intro ?_ ?_
  · intro (c4 : r102 = 0)
    show xa_C (xl_I _) A h0 _ 103 [(2, 15, 0, 0, 0)] M101 _
    have er : r102 = 0 := by omega
    have hS0 := i1
    rw [er] at hS0
    obtain ⟨z1, z2, z3, z4⟩ := tk_S_L hS0
    have hZ : tk_Z N x1 x2 M101 := ⟨z1, z3, z4, i2 er⟩
    refine cx_103n hT hZ ?_
    intro r103 M104 (i5 : (r103 = 0 ∧ fs_c (tk_F N (M101 15 10) (M101 21) (M101 22) x2) (tk_pr N (M101 15 10) (M101 21)).toNat = 0) ∨ (r103 = 1 ∧ 1 ≤ fs_c (tk_F N (M101 15 10) (M101 21) (M101 22) x2) (tk_pr N (M101 15 10) (M101 21)).toNat)) (i6 : r103 = 1 → (∀ w : Int, 0 ≤ w → w < M101 15 10 → M104 29 w = nx_B (fun i => N 61 (M101 21 i)) (fun i => N 62 (M101 21 i)) w.toNat - N 61 (M101 21 w)) ∧ nx_T (M104 28) (fun i => N 61 (M101 21 i)) (fun i => N 62 (M101 21 i)) (M101 15 10) (fun j n => fs_c (nx_G (fun i => N 61 (M101 21 i)) (fun i => N 62 (M101 21 i)) (M101 15 10).toNat (tk_F N (M101 15 10) (M101 21) (M101 22) x2) j n) (tk_pr N (M101 15 10) (M101 21)).toNat)) (i7 : ∀ (q : Nat) (j : Int), ¬ (25 ≤ q ∧ q ≤ 29) → ¬ (q = 15 ∧ j = 13) → M104 q j = M101 q j)
    refine And.intro ?_ ?_
    · intro (c8 : r103 = 0)
      show post (some (0, 0, (-2), (-2), (-2))) M104
      exact k _ _ _ _ ⟨_, _, _, _, i1, Or.inr ⟨by omega, Or.inl ⟨by omega, rfl⟩⟩⟩ (fun q j h1 h2 => (i7 q j (by omega) (by omega)).trans (i3 q j (by omega))) (by have zr := rz_Sr i1; have zi3 := i3 48 1 (by omega); have zi7 := i7 48 1 (by omega) (by omega); unfold rz_c; omega)
    · intro (c8 : ¬ r103 = 0)
      show xa_C (xl_I _) A h0 _ 108 [(2, 15, 0, 0, 0), (2, 48, 0, 0, 0)] M104 _
      obtain ⟨y1, y2, y3, y4, y5, y6⟩ := nx_cls hT hZ (i6 (by omega)) i7
      have f10 := i7 15 10 (by decide) (by omega)
      have zl := (tk_Zr hT hZ).1
      refine rz_108 (by omega) y1 y2 y3 y4 y5 ?_
      intro g106 M105 (i9 : 0 ≤ g106 ∧ g106 < M104 15 10) (i10 : ∀ j, 0 ≤ j → j < g106 → (nx_u N M101 x2) g106 < (nx_u N M101 x2) j) (i11 : ∀ j, 0 ≤ j → j < M104 15 10 → (nx_u N M101 x2) g106 ≤ (nx_u N M101 x2) j) (i12 : ∀ (q : Nat) (j : Int), ¬ (q = 48 ∨ q = 49) → M105 q j = M104 q j) (z48 : M105 48 1 = 1)
      show post (some (0, 0, (-2147483648), 2147483647, M104 21 g106)) M105
      have q10 := i7 15 10 (by decide) (by omega)
      exact k _ _ _ _ ⟨_, _, _, _, i1, Or.inr ⟨by omega, Or.inr ⟨by omega, _, _, y6, by omega, i10, (fun j j0 j1 => i11 j j0 (by omega)), i7 21 _ (by omega) (by omega)⟩⟩⟩ (fun q j h1 h2 => (i12 q j h2).trans ((i7 q j (by omega) (by omega)).trans (i3 q j (by omega)))) (Or.inl ⟨by rw [i7 21 _ (by omega) (by omega)]; exact ((tk_Zl hT hZ).2.2.1 g106 i9.1 (by omega)).2.1, z48⟩)
  · intro (c4 : ¬ r102 = 0)
    show post (some (0, 0, (-4), 0, r102)) M101
    exact k _ _ _ _ ⟨_, _, _, _, i1, Or.inl ⟨by omega, rfl⟩⟩ (fun q j h1 h2 => i3 q j (by omega)) (by have zr := rz_Sr i1; have zi3 := i3 48 1 (by omega); unfold rz_c; omega)
theorem rx_107 {b : Bool} {A : Nat → Nat} {h0 : g_H} {d : Nat} {M : xa_M} {post : Option xa_V → xa_M → Prop} {l1 u1 l2 u2 x1 x2 : Int} {F : Int → Int} {N : xa_M} (hT : tk_M N) (hR : tk_R M N) (hB : tk_B (bk_p b) M N) (hFF : 1 ≤ x1 ∧ x1 ≤ 9 → tk_Y N x1 F) (k : ∀ (lo hi r : Int) (M1 : xa_M), tf_107 N x1 x2 r → (∀ (q : Nat) (j : Int), ¬ (15 ≤ q ∧ q ≤ 29) → ¬ (q = 48 ∨ q = 49) → M1 q j = M q j) → rz_c (0 ≤ r) (M 48 1) (M1 48 1) 1 → post (some (0, 0, lo, hi, r)) M1) : xa_C (xl_I b) A h0 (d + 7) 107 [(2, 0, 0, 0, 0), (0, 0, l1, u1, x1), (0, 0, l2, u2, x2)] M post := by
  cases b
  · exact rx_107_50 hT hR hB hFF k
  · exact rx_107_55 hT hR hB hFF k
theorem rm_next {A : Nat → Nat} {h0 : g_H} {d : Nat} {M : xa_M} {post : Option xa_V → xa_M → Prop} {l1 u1 l2 u2 : Int} {a x2 : Int} (hI : xm_Inv M) (k : ∀ (o : Option xa_V) (M1 : xa_M), (∃ lo hi n, o = some (0, 0, lo, hi, n) ∧ tf_107 M a x2 n ∧ rz_c (0 ≤ (n : Int)) (M 60 20) (M1 60 20) (1)) → xm_cor M M1 → post o M1) : xa_C xm_I A h0 (d + 5) 249 [(2, 60, 0, 0, 0), (0, 0, l1, u1, a), (0, 0, l2, u2, x2)] M post := by
  refine xa_C_arg [(2, 60, 0, 0, 0), (0, 0, (-2147483648), 2147483647, a), (0, 0, (-2147483648), 2147483647, x2)] (xa_svR (xa_svI (fun _ _ _ _ => by omega) (xa_svI (fun _ _ _ _ => by omega) xa_sv0))) ?_
  refine xa_meth (Q0 := (9, 1, false, 0, 0, 12)) (by decide +kernel) ⟨rfl, rfl⟩ (full := s_c_249) rfl rfl ?_
  intro hM hv Q hgo
  have hTM := tk_M_of hM hI
  have loop0 : ∀ (Mb : xa_M) (c : Int → Int → Int) (u : Int → Int), (∀ w n : Int, 0 ≤ w → w < Mb 60 32 → 0 ≤ n → n ≤ 400 → Mb 87 (401 * w + n) = c w n) → (∀ w, 0 ≤ w → w < Mb 60 32 → u w = nx_mx (c w) 401) → (∀ (x4 : Int) (o : Option xa_V) (M1 : xa_M), (∃ b, (0 ≤ b ∧ b < Mb 60 32) ∧ (∀ i, 0 ≤ i → i < b → u b < u i) ∧ (∀ i, 0 ≤ i → i < Mb 60 32 → u b ≤ u i) ∧ x4 = Mb 80 b) → (∃ lo hi, o = some (0, 0, lo, hi, x4)) → xm_cor M M1 → M1 60 20 = 1 → post o M1) → 1 ≤ Mb 60 32 → ∀ (n : Nat) (x6 x5 x4 : Int) (M1 : xa_M), 0 ≤ x6 ∧ x6 ≤ 14 → (-1) ≤ x4 ∧ x4 ≤ 13 → xm_cor M M1 → M1 = Mb → nx_best (Mb 80) u x6 x4 x5 → x6 ≤ Mb 60 32 → 14 - x6 < (n : Int) → Q 42 [(6, (0, 0, 0, 14, x6)), (5, (0, 0, (-2147483648), 2147483647, x5)), (4, (0, 0, (-1), 13, x4)), (0, (2, 60, 0, 0, 0))] [] M1 := by
    intro Mb c u hc87 hu kk hs1 n
    induction n with
    | zero => intro x6 x5 x4 M1 b6 b4 hc hMb hbest h6 hms; clear hbest; omega
    | succ n ih0 =>
      intro x6 x5 x4 M1 b6 b4 hc hMb hbest h6 hms0
      refine hgo.2.2 _ _ _ _ (fun hM1 _ => ?_)
      have b32 := xm_f32 hM1
      have t80 : x6 < 14 → 0 ≤ M1 80 x6 ∧ M1 80 x6 ≤ 13 := fun h => xm_t80 hM1 x6 (by omega) h
      obtain ⟨n0, hn0⟩ : ∃ n0, n0 = n := ⟨_, rfl⟩
      have loop1 : ∀ (n : Nat) (x8 x7 x6 x5 x4 : Int) (M1 : xa_M), 0 ≤ x8 ∧ x8 ≤ 401 → 0 ≤ x6 ∧ x6 ≤ 13 → (-1) ≤ x4 ∧ x4 ≤ 13 → xm_cor M M1 → M1 = Mb → nx_best (Mb 80) u x6 x4 x5 → x6 < Mb 60 32 → x7 = nx_mx (c x6) x8.toNat → 13 - x6 < (n0 : Int) → 401 - x8 < (n : Int) → Q 57 [(8, (0, 0, 0, 401, x8)), (7, (0, 0, (-2147483648), 2147483647, x7)), (6, (0, 0, 0, 13, x6)), (5, (0, 0, (-2147483648), 2147483647, x5)), (4, (0, 0, (-1), 13, x4)), (0, (2, 60, 0, 0, 0))] [] M1 := by
        intro n
        induction n with
        | zero => intro x8 x7 x6 x5 x4 M1 b8 b6 b4 hc hMb hbest h6 h7 hn6 hms; clear hbest h7; omega
        | succ n ih1 =>
          intro x8 x7 x6 x5 x4 M1 b8 b6 b4 hc hMb hbest h6 h7 hn6 hms1
          refine hgo.2.2 _ _ _ _ (fun hM1 _ => ?_)
          have t80 := xm_t80 hM1 x6 (by omega) (by omega)
          refine hgo.1 23 [42, 57] 57 _ _ _ ?_
          refine And.intro ?_ ?_
          · intro (c1 : 400 < x8)
            refine And.intro ?_ ?_
            · intro (c2 : x4 = (-1))
              show Q 42 [(6, (0, 0, 1, 14, x6 + 1)), (5, (0, 0, (-2147483648), 2147483647, x7)), (4, (0, 0, 0, 13, M1 80 x6)), (8, (0, 0, 0, 401, x8)), (7, (0, 0, (-2147483648), 2147483647, x7)), (0, (2, 60, 0, 0, 0))] [] M1
              refine hgo.2.1 42 _ [(6, (0, 0, 0, 14, x6 + 1)), (5, (0, 0, (-2147483648), 2147483647, x7)), (4, (0, 0, (-1), 13, M1 80 x6)), (0, (2, 60, 0, 0, 0))] _ _ (xa_subI rfl rfl (fun _ _ _ _ => by omega) (xa_subI rfl rfl (fun _ _ _ _ => by omega) (xa_subI rfl rfl (fun _ _ _ _ => by omega) (xa_subR rfl xa_sub0)))) ?_
              have h7u : x7 = u x6 := by rw [hu x6 b6.1 h6, h7, show x8.toNat = 401 by omega]
              exact ih0 (x6 + 1) x7 (M1 80 x6) M1 (by omega) (by omega) hc hMb (by rw [hMb]; exact nx_best1 hbest b6.1 h7u (Or.inl c2) (by rw [← hMb]; exact t80.1)) (by omega) (by omega)
            · intro (c2 : ¬ x4 = (-1))
              refine And.intro ?_ ?_
              · intro (c3 : x7 < x5)
                show Q 42 [(6, (0, 0, 1, 14, x6 + 1)), (5, (0, 0, (-2147483648), 2147483647, x7)), (4, (0, 0, 0, 13, M1 80 x6)), (8, (0, 0, 0, 401, x8)), (7, (0, 0, (-2147483648), 2147483647, x7)), (0, (2, 60, 0, 0, 0))] [] M1
                refine hgo.2.1 42 _ [(6, (0, 0, 0, 14, x6 + 1)), (5, (0, 0, (-2147483648), 2147483647, x7)), (4, (0, 0, (-1), 13, M1 80 x6)), (0, (2, 60, 0, 0, 0))] _ _ (xa_subI rfl rfl (fun _ _ _ _ => by omega) (xa_subI rfl rfl (fun _ _ _ _ => by omega) (xa_subI rfl rfl (fun _ _ _ _ => by omega) (xa_subR rfl xa_sub0)))) ?_
                have h7u : x7 = u x6 := by rw [hu x6 b6.1 h6, h7, show x8.toNat = 401 by omega]
                exact ih0 (x6 + 1) x7 (M1 80 x6) M1 (by omega) (by omega) hc hMb (by rw [hMb]; exact nx_best1 hbest b6.1 h7u (Or.inr c3) (by rw [← hMb]; exact t80.1)) (by omega) (by omega)
              · intro (c3 : x5 ≤ x7)
                show Q 42 [(6, (0, 0, 1, 14, x6 + 1)), (8, (0, 0, 0, 401, x8)), (7, (0, 0, (-2147483648), 2147483647, x7)), (5, (0, 0, (-2147483648), 2147483647, x5)), (4, (0, 0, (-1), 13, x4)), (0, (2, 60, 0, 0, 0))] [] M1
                refine hgo.2.1 42 _ [(6, (0, 0, 0, 14, x6 + 1)), (5, (0, 0, (-2147483648), 2147483647, x5)), (4, (0, 0, (-1), 13, x4)), (0, (2, 60, 0, 0, 0))] _ _ (xa_subI rfl rfl (fun _ _ _ _ => by omega) (xa_subI rfl rfl (fun _ _ _ _ => by omega) (xa_subI rfl rfl (fun _ _ _ _ => by omega) (xa_subR rfl xa_sub0)))) ?_
                have h7u : x7 = u x6 := by rw [hu x6 b6.1 h6, h7, show x8.toNat = 401 by omega]
                exact ih0 (x6 + 1) x5 x4 M1 (by omega) (by omega) hc hMb (nx_best2 hbest b6.1 h7u c2 c3) (by omega) (by omega)
          · intro (c1 : x8 ≤ 400)
            refine And.intro (show 0 ≤ ((401 * x6) + x8) ∧ ((401 * x6) + x8) < 5614 by omega) ?_
            show xa_C xm_I A h0 _ 35 [(0, 0, (-2147483648), 2147483647, x7), (0, 0, (-2147483648), 2147483647, M1 87 ((401 * x6) + x8))] M1 _
            refine ct_max (-2147483648) 2147483647 (by decide) (by decide) (by decide) (fun r4 br4 er4 => ?_)
            show Q 57 [(8, (0, 0, 1, 402, x8 + 1)), (7, (0, 0, (-2147483648), 2147483647, r4)), (6, (0, 0, 0, 13, x6)), (5, (0, 0, (-2147483648), 2147483647, x5)), (4, (0, 0, (-1), 13, x4)), (0, (2, 60, 0, 0, 0))] [] M1
            refine hgo.2.1 57 _ [(8, (0, 0, 0, 401, x8 + 1)), (7, (0, 0, (-2147483648), 2147483647, r4)), (6, (0, 0, 0, 13, x6)), (5, (0, 0, (-2147483648), 2147483647, x5)), (4, (0, 0, (-1), 13, x4)), (0, (2, 60, 0, 0, 0))] _ _ (xa_subI rfl rfl (fun _ _ _ _ => by omega) (xa_subI rfl rfl (fun _ _ _ _ => by omega) (xa_subI rfl rfl (fun _ _ _ _ => by omega) (xa_subI rfl rfl (fun _ _ _ _ => by omega) (xa_subI rfl rfl (fun _ _ _ _ => by omega) (xa_subR rfl xa_sub0)))))) ?_
            have h87 := hc87 x6 x8 b6.1 h6 b8.1 c1
            rw [hMb, h87] at er4
            exact ih1 (x8 + 1) r4 x6 x5 x4 M1 (by omega) (by omega) (by omega) hc hMb hbest h6 (nx_mxs b8.1 h7 er4) (by omega) (by omega)
      refine hgo.1 17 [42, 57] 42 _ _ _ ?_
      refine And.intro ?_ ?_
      · intro (c1 : (M1 60 32) ≤ x6)
        show xa_C xm_I A h0 _ 231 [(2, 60, 0, 0, 0), (1, 0, (-2147483648), 2147483647, x5)] (xa_up M1 60 20 0) _
        refine ct_tell (n := 0) (by first | rfl | (simp [xa_up]; done) | omega) (by omega) (by omega) ?_
        show post (some (0, 0, (-1), 13, x4)) (xa_up (xa_up (xa_up M1 60 20 0) 74 0 x5) 60 20 1)
        exact kk x4 _ _ (nx_bestE hbest hs1 (by rw [← hMb]; exact c1) h6) ⟨_, _, rfl⟩ (xm_cor_f (by omega) (xm_cor_a rfl (xm_cor_f (by omega) hc))) xa_up_eq
      · intro (c1 : x6 < (M1 60 32))
        show Q 57 [(8, (0, 0, 0, 0, 0)), (7, (0, 0, 0, 0, 0)), (6, (0, 0, 0, 14, x6)), (5, (0, 0, (-2147483648), 2147483647, x5)), (4, (0, 0, (-1), 13, x4)), (0, (2, 60, 0, 0, 0))] [] M1
        refine hgo.2.1 57 _ [(8, (0, 0, 0, 401, 0)), (7, (0, 0, (-2147483648), 2147483647, 0)), (6, (0, 0, 0, 13, x6)), (5, (0, 0, (-2147483648), 2147483647, x5)), (4, (0, 0, (-1), 13, x4)), (0, (2, 60, 0, 0, 0))] _ _ (xa_subI rfl rfl (fun _ _ _ _ => by omega) (xa_subI rfl rfl (fun _ _ _ _ => by omega) (xa_subI rfl rfl (fun _ _ _ _ => by omega) (xa_subI rfl rfl (fun _ _ _ _ => by omega) (xa_subI rfl rfl (fun _ _ _ _ => by omega) (xa_subR rfl xa_sub0)))))) ?_
        exact loop1 402 0 0 x6 x5 x4 M1 (by omega) (by omega) (by omega) hc hMb hbest (by rw [← hMb]; exact c1) rfl (by omega) (by omega)
  refine hgo.1 27 [42, 57] 0 _ _ _ ?_
  show xa_C xm_I A h0 _ 238 [(2, 60, 0, 0, 0), (0, 0, (-2147483648), 2147483647, a), (0, 0, (-2147483648), 2147483647, x2)] (xa_up M 60 21 0) _
  refine rz_fx (j := 238) (by decide) (xa_C_mok (ct_readyF (xm_Inv_cor (xm_cor_f (by omega) xm_cor_r) hI) (fun v1 M1 z1 hc1 hr1 hq1 hM1 => ?_)))
  intro (zM1 : M1 60 20 = M 60 20)
  have hS := rd_S hTM (xm_cor_f (by omega) xm_cor_r) hc1 hM1 hq1
  refine And.intro ?_ ?_
  · intro (c2 : 0 ≤ v1)
    show xa_C xm_I A h0 _ 246 [(2, 60, 0, 0, 0), (0, 0, (-2147483648), 2147483647, x2)] M1 _
    refine rz_fx (j := 246) (by decide) (xa_C_mok (ct_countFitsN (xm_Inv_cor (xm_cor_t (xm_cor_f (by omega) xm_cor_r) hc1) hI) ⟨(hr1 (by omega)).1, (hr1 (by omega)).2.1⟩ (by have q := (hr1 (by omega)).2.2; have e := xm_corf (xm_cor_t (xm_cor_f (by omega) xm_cor_r) hc1) 11 (by omega); simp [xa_up] at q; omega) (by have q := (hr1 (by omega)).2.2; have e := xm_corf (xm_cor_t (xm_cor_f (by omega) xm_cor_r) hc1) 11 (by omega); simp [xa_up] at q; omega) (fun M3 hc3 hq3 hM3 => ?_)))
    intro (zM3 : M3 60 20 = M1 60 20)
    refine And.intro ?_ ?_
    · intro (c4 : ¬ (M3 60 39) = 0)
      show Q 42 [(6, (0, 0, 0, 0, 0)), (5, (0, 0, 0, 0, 0)), (4, (0, 0, (-1), (-1), (-1))), (3, (0, 0, (-4), 0, v1)), (0, (2, 60, 0, 0, 0)), (1, (0, 0, (-2147483648), 2147483647, a)), (2, (0, 0, (-2147483648), 2147483647, x2))] [] M3
      refine hgo.2.1 42 _ [(6, (0, 0, 0, 14, 0)), (5, (0, 0, (-2147483648), 2147483647, 0)), (4, (0, 0, (-1), 13, (-1))), (0, (2, 60, 0, 0, 0))] _ _ (xa_subI rfl rfl (fun _ _ _ _ => by omega) (xa_subI rfl rfl (fun _ _ _ _ => by omega) (xa_subI rfl rfl (fun _ _ _ _ => by omega) (xa_subR rfl xa_sub0)))) ?_
      have e0 : v1 = 0 := by omega
      rw [e0] at hS
      obtain ⟨Mr, hKr, hKs, hq, hAr⟩ := hq3
      obtain ⟨eL, eH, e81, e32, e71, e70⟩ := fr_L_k hKr
      have hcM := xm_cor_t (xm_cor_f (M := M) (j := 21) (v := 0) (by omega) xm_cor_r) hc1
      obtain ⟨eF, ep, -, -⟩ := fm_e hcM (p := x2)
      have eFr : fr_F Mr x2 = fr_F M1 x2 := by
        unfold fr_F
        rw [eL, eH, e81, e32, e71, e70]
      rw [eFr, eL, eH, e32, eF, ep] at hq
      have hcb := fs_cb (F := tk_F M (M1 60 32) (M1 80) (M1 81) x2) (tk_pr M (M1 60 32) (M1 80)).toNat
      have e61 := (tk_ce hcM).2.1
      have e62 := (tk_ce hcM).2.2.1
      obtain ⟨-, -, hL, -⟩ := tk_S_L hS
      have hX := (tk_S_L hS).1
      obtain ⟨s1, -, s3⟩ := tk_lst hTM ⟨hX.1, by omega⟩ hL
      have m32 : M3 60 32 = M1 60 32 := (hKs 60 32 (by decide) (by omega)).trans e32
      have m80 : ∀ j, M3 80 j = M1 80 j := fun j => (hKs 80 j (by decide) (by omega)).trans (hKr 80 j (by decide) (by omega))
      have hK9 : ∀ w n : Int, fs_c (nx_G (fr_L Mr) (fr_H Mr) (Mr 60 32).toNat (fr_F Mr x2) w n) (fs_pr (fr_L Mr) (fr_H Mr) (Mr 60 32).toNat).toNat = nx_K M (M1 60 32) (M1 80) (M1 81) x2 w n := fun w n => by
        rw [eFr, eL, eH, e32, eF, ep]
        unfold nx_K fr_L fr_H
        rw [e61, e62]
      have h87 : ∀ w n : Int, 0 ≤ w → w < M3 60 32 → 0 ≤ n → n ≤ 400 → M3 87 (401 * w + n) = nx_K M (M1 60 32) (M1 80) (M1 81) x2 w n := fun w n w0 w1 n0 n1 => (hAr w n w0 (by omega) n0 n1).trans (hK9 w n)
      have hmu : ∀ i, 0 ≤ i → i < M1 60 32 → nx_m (nx_K M (M1 60 32) (M1 80) (M1 81) x2 i) (nx_mx (nx_K M (M1 60 32) (M1 80) (M1 81) x2 i) 401) := fun i i0 i1 => nx_mxm (fun n hn => by
        have a := (s3 i i0 i1).2
        have e : nx_K M (M1 60 32) (M1 80) (M1 81) x2 i n = 0 := nx_z i0 (by omega) (fun h => hn (by have h : M 61 (M1 80 i) ≤ n ∧ n ≤ M 62 (M1 80 i) := h; omega)) _
        omega)
      refine loop0 M3 (nx_K M (M1 60 32) (M1 80) (M1 81) x2) (fun w => nx_mx (nx_K M (M1 60 32) (M1 80) (M1 81) x2 w) 401) h87 (fun w _ _ => rfl) (fun y4 o M9 hb ho hc9 h20 => ?_) (by omega) 15 0 0 (-1) M3 (by omega) (by omega) (xm_cor_t (xm_cor_t (xm_cor_f (by omega) xm_cor_r) hc1) hc3) rfl (Or.inl ⟨rfl, rfl⟩) (by omega) (by omega)
      obtain ⟨g, ⟨g0, g1⟩, g2, g3, g4⟩ := hb
      obtain ⟨lo, hi, ho⟩ := ho
      exact k o M9 ⟨lo, hi, y4, ho, ⟨0, _, _, _, hS, Or.inr ⟨rfl, Or.inr ⟨by omega, fun w => nx_mx (nx_K M (M1 60 32) (M1 80) (M1 81) x2 w) 401, g, hmu, ⟨g0, by omega⟩, g2, fun i i0 i1 => g3 i i0 (by omega), g4.trans (m80 g)⟩⟩⟩, Or.inl ⟨by rw [g4, m80]; exact (xm_t80 hM1 g g0 (by have q := (xm_f32 hM1).2; omega)).1, h20⟩⟩ hc9
    · intro (c4 : (M3 60 39) = 0)
      show post (some (0, 0, (-2), (-2), (-2))) M3
      have e0 : v1 = 0 := by omega
      rw [e0] at hS
      obtain ⟨Mr, hKr, hKs, hq, hAr⟩ := hq3
      obtain ⟨eL, eH, e81, e32, e71, e70⟩ := fr_L_k hKr
      have hcM := xm_cor_t (xm_cor_f (M := M) (j := 21) (v := 0) (by omega) xm_cor_r) hc1
      obtain ⟨eF, ep, -, -⟩ := fm_e hcM (p := x2)
      have eFr : fr_F Mr x2 = fr_F M1 x2 := by
        unfold fr_F
        rw [eL, eH, e81, e32, e71, e70]
      rw [eFr, eL, eH, e32, eF, ep] at hq
      have hcb := fs_cb (F := tk_F M (M1 60 32) (M1 80) (M1 81) x2) (tk_pr M (M1 60 32) (M1 80)).toNat
      exact k _ _ ⟨_, _, _, rfl, ⟨0, _, _, _, hS, Or.inr ⟨rfl, Or.inl ⟨by omega, rfl⟩⟩⟩, by show rz_c (0 ≤ ((-2) : Int)) (M 60 20) (M3 60 20) (1); unfold rz_c; omega⟩ (xm_cor_t (xm_cor_t (xm_cor_f (by omega) xm_cor_r) hc1) hc3)
  · intro (c2 : v1 < 0)
    show post (some (0, 0, (-4), 0, v1)) M1
    exact k _ _ ⟨_, _, _, rfl, ⟨v1, _, _, _, hS, Or.inl ⟨by omega, rfl⟩⟩, by show rz_c (0 ≤ (v1 : Int)) (M 60 20) (M1 60 20) (1); unfold rz_c; omega⟩ (xm_cor_t (xm_cor_f (by omega) xm_cor_r) hc1)
theorem rz_p107 (A : Nat → Nat) (cmp : Bool) : iv_pair (rz_J A) A 107 249 [0, 0] cmp false := rz_armV (fun W b h as M hJ hM hInv hs hR hz => by
  obtain ⟨m1, ys, rfl, -, hs⟩ := iv_spc hs
  obtain ⟨m2, ys, rfl, -, hs⟩ := iv_spc hs
  obtain rfl := iv_sp0 hs
  have b0 := xm_f0 (xa_H_Mok hM)
  have b6 := xm_f6 (xa_H_Mok hM)
  have r1 : iv_num h 1 9 = M 60 0 := hR.1.1
  have r2 : iv_num h 1 10 = M 60 6 := hR.1.2.1
  have r3 : ∀ i, 0 ≤ i → i < 14 → iv_num h 2 i = M 61 i ∧ iv_num h 3 i = M 62 i ∧ iv_num h 5 i = M 64 i ∧ iv_num h 6 i = M 65 i ∧ iv_num h 4 i = M 63 i := hR.1.2.2.1
  have r4 : ∀ i, 0 ≤ i → i < 16 → iv_num h 7 i = M 66 i ∧ iv_num h 8 i = M 67 i := hR.1.2.2.2
  have hS := hR.2
  obtain ⟨s1, s2, s3, s4⟩ := lm_Sx.mp hR.2.1
  have hMk := xa_H_Mok hM
  have b11 := xm_f11 hMk
  have hT := tk_M_of hMk hInv
  have hRc : tk_R (iv_num h) M := ⟨r1, r2, fun i i0 i1 => by
    obtain ⟨g1, g2, g3, g4, -⟩ := r3 i i0 i1
    exact ⟨g1, g2, g3, g4⟩, r4⟩
  have hB : tk_B (bk_p b) (iv_num h) M := ⟨s3, b11, fun p p0 p1 => by
    obtain ⟨g1, g2, -⟩ := s4 p p0 (by omega) p1
    have t1 := xm_t70 hMk p p0 (by omega)
    have t2 := xm_t71 hMk p p0 (by omega)
    have t3 := hInv.2.2.1 p p0 p1
    exact ⟨⟨g1, g2⟩, by omega, by omega⟩⟩
  have hx : ∃ F : Int → Int, (1 ≤ m1.toInt ∧ m1.toInt ≤ 9) → tk_Y M m1.toInt F := by
    by_cases c : 1 ≤ m1.toInt ∧ m1.toInt ≤ 9
    · obtain ⟨F, hF1, hF2⟩ := wr_ex hMk (X := m1.toInt) (by omega) b6.1 (fun i i0 i1 => tk_AB hT i i0 i1)
      exact ⟨F, fun _ => ⟨hF1, fun a _ _ => hF2 a⟩⟩
    · exact ⟨fun _ => 0, fun h => absurd h c⟩
  obtain ⟨F, hFF⟩ := hx
  have hc := rx_107 (b := b) (A := A) (h0 := h) (d := 53) (M := iv_num h) (N := M) (F := F) (l1 := -2147483648) (u1 := 2147483647) (l2 := -2147483648) (u2 := 2147483647) (x1 := m1.toInt) (x2 := m2.toInt) (post := fun o M1 => ∃ lo hi n, o = some (0, 0, lo, hi, n) ∧ ((tf_107 M m1.toInt m2.toInt n ∧ ∀ (q : Nat) (j : Int), ¬ (15 ≤ q ∧ q ≤ 29) → ¬ (q = 48 ∨ q = 49) → M1 q j = iv_num h q j) ∧ rz_c (0 ≤ (n : Int)) (iv_num h 48 1) (M1 48 1) (1))) hT hRc hB hFF (fun lo hi n M1 x1 x2 x3 => ⟨lo, hi, n, rfl, ⟨x1, x2⟩, x3⟩)
  have hm := fun (h1 : g_H) => rm_next (A := A) (h0 := h1) (d := 55) (M := M) (l1 := -2147483648) (u1 := 2147483647) (l2 := -2147483648) (u2 := 2147483647) (a := m1.toInt) (x2 := m2.toInt) (post := fun o M2 => (∃ lo hi n, o = some (0, 0, lo, hi, n) ∧ ((tf_107 M m1.toInt m2.toInt n ∧ xm_cor M M2) ∧ rz_c (0 ≤ (n : Int)) (M 60 20) (M2 60 20) (1))) ∧ xm_Inv M2) hInv (fun o M2 x1 x2 => by
    obtain ⟨lo, hi, n, rfl, x1, x3⟩ := x1
    exact ⟨⟨lo, hi, n, rfl, ⟨x1, x2⟩, x3⟩, xm_Inv_cor x2 hInv⟩)
  refine ⟨[(2, 0, 0, 0, 0), (0, 0, -2147483648, 2147483647, m1.toInt), (0, 0, -2147483648, 2147483647, m2.toInt)], [(2, 60, 0, 0, 0), (0, 0, -2147483648, 2147483647, m1.toInt), (0, 0, -2147483648, 2147483647, m2.toInt)], _, _, ⟨rfl, iv_i m1, iv_i m2, trivial⟩, ⟨rfl, iv_i m1, iv_i m2, trivial⟩, fun n n' M1 M2 g1 g2 => by
    obtain ⟨h1, z1⟩ := g1
    obtain ⟨h2, z2⟩ := g2
    have en : n = n' := tf_107_one hT h1.1 h2.1
    exact ⟨fun _ => en, fun x => h2.2 104 x (by unfold xm_scr; omega), fun x => h2.2 105 x (by unfold xm_scr; omega), tf_lmR2 hR h1.2 h2.2, rz_c1 z1 z2 (by rw [en]) hz⟩, hc, hm⟩)

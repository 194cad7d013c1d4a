-- fit of the model, told isFitting (made by wip/p24/xa/xm20.py)
set_option maxRecDepth 20000
theorem xm_Inv_63 {M : xa_M} {j v : Int} (hI : xm_Inv M) (hv : 10 ≤ v) : xm_Inv (xa_up M 63 j v) := by
  refine xm_Inv_b (M := M) (fun j => by simp [xa_up]) (fun j => by simp [xa_up]) hI (fun w w0 w1 => ?_) (fun m m0 m1 => ?_) (fun p p0 p1 => ?_) ?_
  · have := hI.1 w w0 (by simpa [xa_up] using w1)
    simp only [xa_up]
    rw [if_neg (by omega), if_neg (by omega)]
    refine ⟨this.1, this.2.1, ?_⟩
    split
    · exact hv
    · exact this.2.2
  · have := hI.2.1 m m0 (by simpa [xa_up] using m1)
    simpa [xa_up] using this
  · have := hI.2.2.1 p p0 (by simpa [xa_up] using p1)
    simpa [xa_up] using this
  · have := hI.2.2.2.1
    simpa [xa_up] using this
theorem xm_W10 {M : xa_M} {y : Int} (hM : xa_Mok xm_I M) (hI : xm_Inv M) (hW : xm_W M y) (i : Int) (i0 : 0 ≤ i) (i1 : i < M 60 32) : 10 ≤ M 84 i := by
  have a := xm_way_sp hM hI hW.1 i i0 i1
  have b := hW.2.1 i i0 i1
  omega
theorem ms_fit {A : Nat → Nat} {h0 : g_H} {d : Nat} {M : xa_M} {post : Option xa_V → xa_M → Prop} {l1 u1 l2 u2 l3 u3 : Int} {a x2 x3 : Int} (h242 : xm_fd) (hI : xm_Inv M) (k : ∀ (o : Option xa_V) (M1 : xa_M), xm_Inv M1 → post o M1) : xa_C xm_I A h0 (d + 4) 244 [(2, 60, 0, 0, 0), (0, 0, l1, u1, a), (0, 0, l2, u2, x2), (0, 0, l3, u3, x3)] M post := by
  refine xa_C_arg [(2, 60, 0, 0, 0), (0, 0, (-2147483648), 2147483647, a), (0, 0, (-2147483648), 2147483647, x2), (0, 0, (-2147483648), 2147483647, x3)] (xa_svR (xa_svI (fun _ _ _ _ => by omega) (xa_svI (fun _ _ _ _ => by omega) (xa_svI (fun _ _ _ _ => by omega) xa_sv0)))) ?_
  refine xa_meth (Q0 := (6, 2, false, 0, 0, 12)) (by decide +kernel) ⟨rfl, rfl⟩ (full := s_c_244) rfl rfl ?_
  intro hM hv Q hgo
  have loopT : ∀ (n : Nat) (x5 : Int) (M1 : xa_M), 0 ≤ x5 → x5 ≤ 14 → xm_Inv M1 → (∀ i, 0 ≤ i → i < M1 60 32 → 10 ≤ M1 84 i) → 14 - x5 < (n : Int) → Q 47 [(5, (0, 0, 0, 14, x5)), (0, (2, 60, 0, 0, 0))] [] M1 := by
    intro n
    induction n with
    | zero => intro x5 M1 h1 h2 hJ ht hms; omega
    | succ n ih =>
      intro x5 M1 h1 h2 hJ ht hms
      refine hgo.2.2 _ _ _ _ (fun hM1 _ => ?_)
      have b32 := xm_f32 hM1
      have t80 : x5 < 14 → 0 ≤ M1 80 x5 ∧ M1 80 x5 ≤ 13 := fun h => xm_t80 hM1 x5 h1 h
      have t84 : x5 < 14 → 0 ≤ M1 84 x5 ∧ M1 84 x5 ≤ 400 := fun h => xm_t84 hM1 x5 h1 h
      have t10 : x5 < M1 60 32 → 10 ≤ M1 84 x5 := fun h => ht x5 h1 h
      refine hgo.1 22 [27, 47] 47 _ _ _ ?_
      refine And.intro ?_ ?_
      · intro (c1 : (M1 60 32) ≤ x5)
        show post (some (0, 0, 1, 1, 1)) M1
        exact k _ _ hJ
      · intro (c1 : x5 < (M1 60 32))
        refine And.intro (show 0 ≤ x5 ∧ x5 < 14 by omega) ?_
        refine And.intro (show 0 ≤ x5 ∧ x5 < 14 by omega) ?_
        show Q 47 [(5, (0, 0, 1, 15, x5 + 1)), (0, (2, 60, 0, 0, 0))] [] (xa_up M1 63 (M1 80 x5) (M1 84 x5))
        refine hgo.2.1 47 _ [(5, (0, 0, 0, 14, x5 + 1)), (0, (2, 60, 0, 0, 0))] _ _ (xa_subI rfl rfl (fun _ _ _ _ => by omega) (xa_subR rfl xa_sub0)) ?_
        exact ih (x5 + 1) (xa_up M1 63 (M1 80 x5) (M1 84 x5)) (by omega) (by omega) (xm_Inv_63 hJ (by have := ht x5 h1 (by omega); omega)) (fun i i0 i1 => by simp [xa_up] at i1 ⊢; exact ht i i0 i1) (by omega)
  have loop0 : ∀ (n : Nat) (x4 : Int) (M1 : xa_M), xm_cor M M1 → 0 ≤ x2 → x2 < M 60 11 → xm_W M1 0 → xm_rk M1 (M1 60 32).toNat < (n : Int) → Q 27 [(4, (0, 0, (-2147483648), 2147483647, x4)), (3, (0, 0, (-2147483648), 2147483647, x3)), (2, (0, 0, (-2147483648), 2147483647, x2)), (0, (2, 60, 0, 0, 0))] [] M1 := by
    intro n
    induction n with
    | zero => intro x4 M1 hc p0 p1 hW hms; exact absurd hms (by have := xm_W_rk hW; omega)
    | succ n ih0 =>
      intro x4 M1 hc p0 p1 hW hms0
      refine hgo.2.2 _ _ _ _ (fun hM1 _ => ?_)
      have e11 := xm_corf hc 11 (by omega)
      have b11 := xm_f11 hM1
      have b32 := xm_f32 hM1
      have hrk := (xm_rkb hW.2.1 (M1 60 32).toNat (by omega)).1
      have hWs := hW.2.2.2
      refine hgo.1 17 [27, 47] 27 _ _ _ ?_
      show xa_C xm_I A h0 _ 242 [(2, 60, 0, 0, 0), (0, 0, (-2147483648), 2147483647, x2)] M1 _
      refine xa_C_mok (ct_isF h242 (xm_Inv_cor hc hI) hW (by omega) (by omega) (fun v1 M1 z1 hc1 e1 wF1 rk1 hM1 => ?_))
      refine And.intro ?_ ?_
      · intro (c2 : ¬ v1 = 0)
        refine And.intro ?_ ?_
        · intro (c3 : ¬ x4 = x3)
          show xa_C xm_I A h0 _ 243 [(2, 60, 0, 0, 0)] M1 _
          refine xa_C_mok (ct_nextW wF1 (fun v4 M4 z4 hc4 e4 wN4 rk4 hM4 => ?_))
          refine And.intro ?_ ?_
          · intro (c5 : ¬ v4 = 0)
            show Q 27 [(4, (0, 0, (-2147483648), 2147483647, xa_w32 (x4 + 1))), (3, (0, 0, (-2147483648), 2147483647, x3)), (2, (0, 0, (-2147483648), 2147483647, x2)), (0, (2, 60, 0, 0, 0))] [] M4
            refine hgo.2.1 27 _ [(4, (0, 0, (-2147483648), 2147483647, xa_w32 (x4 + 1))), (3, (0, 0, (-2147483648), 2147483647, x3)), (2, (0, 0, (-2147483648), 2147483647, x2)), (0, (2, 60, 0, 0, 0))] _ _ (xa_subI rfl rfl (fun _ _ _ _ => by omega) (xa_subI rfl rfl (fun _ _ _ _ => by omega) (xa_subI rfl rfl (fun _ _ _ _ => by omega) (xa_subR rfl xa_sub0)))) ?_
            exact ih0 (xa_w32 (x4 + 1)) M4 (xm_cor_t (xm_cor_t hc hc1) hc4) (by omega) (by omega) (wN4 _ (by omega) (by omega)) (by omega)
          · intro (c5 : v4 = 0)
            show post (some (0, 0, 0, 0, 0)) M4
            exact k _ _ (xm_Inv_cor (xm_cor_t (xm_cor_t hc hc1) hc4) hI)
        · intro (c3 : x4 = x3)
          show Q 47 [(5, (0, 0, 0, 0, 0)), (4, (0, 0, (-2147483648), 2147483647, x4)), (3, (0, 0, (-2147483648), 2147483647, x3)), (2, (0, 0, (-2147483648), 2147483647, x2)), (0, (2, 60, 0, 0, 0))] [] M1
          refine hgo.2.1 47 _ [(5, (0, 0, 0, 14, 0)), (0, (2, 60, 0, 0, 0))] _ _ (xa_subI rfl rfl (fun _ _ _ _ => by omega) (xa_subR rfl xa_sub0)) ?_
          exact loopT 15 0 M1 (by omega) (by omega) (xm_Inv_cor (xm_cor_t hc hc1) hI) (xm_W10 hM1 (xm_Inv_cor (xm_cor_t hc hc1) hI) wF1) (by omega)
      · intro (c2 : v1 = 0)
        show xa_C xm_I A h0 _ 243 [(2, 60, 0, 0, 0)] M1 _
        refine xa_C_mok (ct_nextW wF1 (fun v6 M6 z6 hc6 e6 wN6 rk6 hM6 => ?_))
        refine And.intro ?_ ?_
        · intro (c7 : ¬ v6 = 0)
          show Q 27 [(4, (0, 0, (-2147483648), 2147483647, x4)), (3, (0, 0, (-2147483648), 2147483647, x3)), (2, (0, 0, (-2147483648), 2147483647, x2)), (0, (2, 60, 0, 0, 0))] [] M6
          refine hgo.2.1 27 _ [(4, (0, 0, (-2147483648), 2147483647, x4)), (3, (0, 0, (-2147483648), 2147483647, x3)), (2, (0, 0, (-2147483648), 2147483647, x2)), (0, (2, 60, 0, 0, 0))] _ _ (xa_subI rfl rfl (fun _ _ _ _ => by omega) (xa_subI rfl rfl (fun _ _ _ _ => by omega) (xa_subI rfl rfl (fun _ _ _ _ => by omega) (xa_subR rfl xa_sub0)))) ?_
          exact ih0 x4 M6 (xm_cor_t (xm_cor_t hc hc1) hc6) (by omega) (by omega) (wN6 _ (by omega) (by omega)) (by omega)
        · intro (c7 : v6 = 0)
          show post (some (0, 0, 0, 0, 0)) M6
          exact k _ _ (xm_Inv_cor (xm_cor_t (xm_cor_t hc hc1) hc6) hI)
  refine hgo.1 19 [27, 47] 0 _ _ _ ?_
  show xa_C xm_I A h0 _ 238 [(2, 60, 0, 0, 0), (0, 0, (-2147483648), 2147483647, a), (0, 0, (-2147483648), 2147483647, x2)] (xa_up M 60 21 0) _
  refine xa_C_mok (ct_ready (xm_Inv_cor (xm_cor_f (by omega) xm_cor_r) hI) (fun v1 M1 z1 hc1 hr1 hM1 => ?_))
  refine And.intro ?_ ?_
  · intro (c2 : v1 < 0)
    show post (some (0, 0, 0, 0, 0)) M1
    exact k _ _ (xm_Inv_cor (xm_cor_t (xm_cor_f (by omega) xm_cor_r) hc1) hI)
  · intro (c2 : 0 ≤ v1)
    refine And.intro ?_ ?_
    · intro (c3 : 0 ≤ x3)
      show xa_C xm_I A h0 _ 241 [(2, 60, 0, 0, 0)] M1 _
      refine xa_C_mok (ct_firstW (xm_Inv_cor (xm_cor_t (xm_cor_f (by omega) xm_cor_r) hc1) hI) ⟨(hr1 (by omega)).1, (hr1 (by omega)).2.1⟩ (fun M4 hc4 e4 wA4 hM4 => ?_))
      have w2 := wA4.2.2.2
      have q11 : 0 ≤ x2 ∧ x2 < M 60 11 := by
        have q := (hr1 (by omega)).2.2
        simpa [xa_up] using q
      show Q 27 [(4, (0, 0, 0, 0, 0)), (0, (2, 60, 0, 0, 0)), (1, (0, 0, (-2147483648), 2147483647, a)), (2, (0, 0, (-2147483648), 2147483647, x2)), (3, (0, 0, (-2147483648), 2147483647, x3))] [] M4
      refine hgo.2.1 27 _ [(4, (0, 0, (-2147483648), 2147483647, 0)), (3, (0, 0, (-2147483648), 2147483647, x3)), (2, (0, 0, (-2147483648), 2147483647, x2)), (0, (2, 60, 0, 0, 0))] _ _ (xa_subI rfl rfl (fun _ _ _ _ => by omega) (xa_subI rfl rfl (fun _ _ _ _ => by omega) (xa_subI rfl rfl (fun _ _ _ _ => by omega) (xa_subR rfl xa_sub0)))) ?_
      exact loop0 200000 0 M4 (xm_cor_t (xm_cor_t (xm_cor_f (by omega) xm_cor_r) hc1) hc4) (by omega) (by omega) wA4 (by omega)
    · intro (c3 : x3 < 0)
      show post (some (0, 0, 0, 0, 0)) M1
      exact k _ _ (xm_Inv_cor (xm_cor_t (xm_cor_f (by omega) xm_cor_r) hc1) hI)

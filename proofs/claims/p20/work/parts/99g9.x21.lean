-- sure, on both sides
set_option maxRecDepth 20000
/-- other cells than those of the search have become other -/
theorem tk_r2 {N M1 M2 Ma : xa_M} {X p i : Int} (hZ : tk_Z N X p Ma) (hK : fa_K Ma M1) (hst : tk_st N p Ma M1 i) (e : ∀ (q : Nat) (j : Int), ¬ (q = 28 ∨ q = 29) → M2 q j = M1 q j) : ∃ Ma' : xa_M, tk_Z N X p Ma' ∧ fa_K Ma' M2 ∧ tk_st N p Ma' M2 i ∧ Ma' 15 10 = Ma 15 10 ∧ Ma' 21 = Ma 21 ∧ Ma' 22 = Ma 22 := by
  obtain ⟨Ma', hm⟩ : ∃ Ma' : xa_M, ∀ (q : Nat) (j : Int), Ma' q j = if q = 28 ∨ q = 29 then M2 q j else Ma q j := ⟨fun q j => if q = 28 ∨ q = 29 then M2 q j else Ma q j, fun _ _ => rfl⟩
  have hn : ∀ q, ¬ (q = 28 ∨ q = 29) → Ma' q = Ma q := fun q hq => funext (fun j => (hm q j).trans (if_neg hq))
  have hn2 : ∀ q, ¬ (q = 28 ∨ q = 29) → M2 q = M1 q := fun q hq => funext (fun j => e q j hq)
  have e15 := hn 15 (by decide)
  have e21 := hn 21 (by decide)
  have e22 := hn 22 (by decide)
  have e23 := hn 23 (by decide)
  have e24 := hn 24 (by decide)
  have f15 := hn2 15 (by decide)
  have f22 := hn2 22 (by decide)
  have f25 := hn2 25 (by decide)
  have f26 := hn2 26 (by decide)
  have f27 := hn2 27 (by decide)
  refine ⟨Ma', ?_, fun q j a b c d => ?_, ?_, by rw [e15], e21, e22⟩
  · unfold tk_Z tk_A
    rw [e15, e21, e22, e23, e24]
    exact hZ
  · by_cases hq : q = 28 ∨ q = 29
    · rw [hm q j, if_pos hq]
    · rw [hm q j, if_neg hq, e q j hq]
      exact hK q j a b c d
  · unfold tk_st fa_S fb_P at hst ⊢
    rw [e15, e21, e22, e23, e24, f15, f22, f25, f26, f27]
    exact hst
theorem cx_89_15 {b : Bool} {A : Nat → Nat} {h0 : g_H} {d : Nat} {M : xa_M} {post : Option xa_V → xa_M → Prop} {l1 u1 : Int} {x1 : Int} (h1 : 0 ≤ x1 ∧ x1 < 14) (k1 : post (some (0, 0, (-2147483648), 2147483647, xa_w32 ((xa_w32 ((M 24 x1) - (M 23 x1))) + 1))) M) : xa_C (xl_I b) A h0 (d + 2) 89 [(2, 15, 0, 0, 0), (0, 0, l1, u1, x1)] M post := by
  refine xa_C_arg [(2, 15, 0, 0, 0), (0, 0, (-2147483648), 2147483647, x1)] (xa_svR (xa_svI (fun _ _ _ _ => by omega) (xa_sv0))) ?_
  refine xa_meth (Q0 := (2, 1, false, 0, 0, 3)) (by decide +kernel) ⟨rfl, rfl⟩ (full := s_c_89) rfl rfl ?_
  intro hM hv Q hgo
  refine hgo.1 16 [] 0 _ _ _ ?_
  show xa_C (xl_I b) A h0 _ 23 [(2, 24, 0, 0, 0), (0, 0, (-2147483648), 2147483647, x1)] M _
  refine cx_23_24 (show 0 ≤ x1 ∧ x1 < 14 by omega) ?_
  show xa_C (xl_I b) A h0 _ 23 [(2, 23, 0, 0, 0), (0, 0, (-2147483648), 2147483647, x1)] M _
  refine cx_23_23 (show 0 ≤ x1 ∧ x1 < 14 by omega) ?_
  show post (some (0, 0, (-2147483648), 2147483647, xa_w32 ((xa_w32 ((M 24 x1) - (M 23 x1))) + 1))) M
  exact k1
theorem cx_23_29 {b : Bool} {A : Nat → Nat} {h0 : g_H} {d : Nat} {M : xa_M} {post : Option xa_V → xa_M → Prop} {l1 u1 : Int} {i : Int} (h1 : 0 ≤ i ∧ i < 14) (k1 : post (some (0, 0, (-2147483648), 2147483647, M 29 i)) M) : xa_C (xl_I b) A h0 (d + 1) 23 [(2, 29, 0, 0, 0), (0, 0, l1, u1, i)] M post := by
  refine xa_C_arg [(2, 29, 0, 0, 0), (0, 0, (-2147483648), 2147483647, i)] (xa_svR (xa_svI (fun _ _ _ _ => by omega) xa_sv0)) ?_
  refine xa_meth (Q0 := (2, 1, false, 0, 0, 11)) (by decide +kernel) ⟨rfl, rfl⟩ (full := s_c_23) rfl rfl ?_
  intro hM hv Q hgo
  refine hgo.1 15 [] 0 _ _ _ ?_
  refine And.intro ?_ ?_
  · intro (c1 : i < 0)
    show post (some (0, 0, 0, 0, 0)) M
    exact absurd h1 (by omega)
  · intro (c1 : 0 ≤ i)
    refine And.intro ?_ ?_
    · intro (c2 : 14 ≤ i)
      show post (some (0, 0, 0, 0, 0)) M
      exact absurd h1 (by omega)
    · intro (c2 : i < 14)
      refine And.intro (show 0 ≤ i ∧ i < 14 by omega) ?_
      show post (some (0, 0, (-2147483648), 2147483647, M 29 i)) M
      exact k1
/-- isFitting, by the tuple's place -/
theorem fr_isG {A : Nat → Nat} {h0 : g_H} {d : Nat} {M M1 : xa_M} {post : Option xa_V → xa_M → Prop} {l u p y : Int} (hK : fr_K M M1) (hI : xm_Inv M1) (hW : xm_W M1 y) (hp0 : 0 ≤ p) (hp1 : p < M1 60 11) (k : ∀ (r : Int) (M2 : xa_M), (r = 0 ∨ r = 1) → (r = 1 ↔ fr_F M p (fr_r M M1)) → xm_cor M1 M2 → M2 60 20 = M1 60 20 → xm_W M2 y → xm_rk M2 (M2 60 32).toNat = xm_rk M1 (M1 60 32).toNat → fr_K M M2 → fr_r M M2 = fr_r M M1 → (∀ q j, ¬ q = 85 → ¬ q = 86 → M2 q j = M1 q j) → post (some (0, 0, 0, 1, r)) M2) : xa_C xm_I A h0 (d + 3) 242 [(2, 60, 0, 0, 0), (0, 0, l, u, p)] M1 post :=
  ct_isFitF hI hW.1 hW.2.1 hp0 hp1 (fun r M2 hr he h => by
    have h86 : xm_86 M1 M2 := fun q j hq => h q j hq.1 hq.2.1
    refine k r M2 hr (he.trans (fr_fit hK hW.2.1)) (fun q j hs => h q j (fun e => hs (by subst e; exact Or.inl (by decide))) (fun e => hs (by subst e; exact Or.inl (by decide)))) (h 60 20 (by decide) (by decide)) (xm_86_W h86 hW).1 (xm_86_W h86 hW).2 (fun q j h1 h2 => (h q j (by omega) (by omega)).trans (hK q j h1 h2)) ?_ (fun q j a b => h q j a b)
    unfold fr_r
    rw [show M2 84 = M1 84 from funext (fun j => h 84 j (by decide) (by decide))])
/-- the next tuple, by its place -/
theorem fr_nextG {A : Nat → Nat} {h0 : g_H} {d : Nat} {M M1 : xa_M} {post : Option xa_V → xa_M → Prop} {y : Int} (hK : fr_K M M1) (hW : xm_W M1 y) (k : ∀ (r : Int) (M2 : xa_M), (r = 0 ∨ r = 1) → xm_cor M1 M2 → M2 60 20 = M1 60 20 → (∀ z, z ≤ y + 1 → r = 1 → xm_W M2 z) → (r = 1 → xm_rk M2 (M2 60 32).toNat < xm_rk M1 (M1 60 32).toNat) → fr_K M M2 → (r = 1 → fr_r M M2 = fr_r M M1 + 1) → (r = 0 → fr_r M M1 + 1 = fs_pr (fr_L M) (fr_H M) (M 60 32).toNat) → xm_84 M1 M2 → post (some (0, 0, 0, 1, r)) M2) : xa_C xm_I A h0 (d + 1) 243 [(2, 60, 0, 0, 0)] M1 post := by
  obtain ⟨eL, eH, -, e32, -, -⟩ := fr_L_k hK
  refine ct_nextWayF hW.2.1 (fun r M2 hr h84 hF hn hl => ?_)
  rw [eL, eH, e32] at hn hl
  have e32' := h84 60 32 (by decide)
  have e0 := h84 60 0 (by decide)
  have hK2 : fr_K M M2 := fun q j h1 h2 => (h84 q j (by omega)).trans (hK q j h1 h2)
  -- xm_rk falls as fs_rk grows
  have s1 := xm_rks (M := M1) (M1 60 32).toNat
  have s2 := xm_rks (M := M2) (M2 60 32).toNat
  obtain ⟨eL2, eH2, -, e322, -, -⟩ := fr_L_k hK2
  rw [eL, eH] at s1
  rw [eL2, eH2] at s2
  rw [e32] at s1
  rw [e322] at s2
  have hlt : r = 1 → xm_rk M2 (M2 60 32).toNat < xm_rk M1 (M1 60 32).toNat := fun h1 => by
    have := hn h1
    rw [e32, e322]
    omega
  refine k r M2 hr (xm_84_c h84) (h84 60 20 (by decide)) (fun z hz h1 => ⟨fun i i0 i1 => ?_, hF, ?_, ?_⟩) hlt hK2 hn hl h84
  · rw [e32'] at i1
    rw [e0, h84 80 i (by decide)]
    exact hW.1 i i0 i1
  · rw [e32', xm_pr_84 h84]
    exact hW.2.2.1
  · have := hlt h1
    have := hW.2.2.2
    omega
theorem fm_firstG {A : Nat → Nat} {h0 : g_H} {d : Nat} {M : xa_M} {post : Option xa_V → xa_M → Prop} (hI : xm_Inv M) (hY : xm_Y M) (k : ∀ (M1 : xa_M), xm_cor M M1 → M1 60 20 = M 60 20 → xm_W M1 0 → fr_K M M1 → fr_r M M1 = 0 → xm_84 M M1 → post none M1) : xa_C xm_I A h0 (d + 1) 241 [(2, 60, 0, 0, 0)] M post :=
  xa_C_asm (fun hM _ => ct_firstWay (fun M1 h84 ht => by
    have hw := hY.1
    have hp := hY.2
    have e32 := h84 60 32 (by decide)
    have e0 := h84 60 0 (by decide)
    have b32 := xm_f32 hM
    have hF : xm_fit M1 := fun i i0 i1 => by
      rw [e32] at i1
      rw [h84 80 i (by decide), h84 61 _ (by decide), h84 62 _ (by decide), ht i i0 i1]
      have := xm_way_sp hM hI hw i i0 i1
      omega
    have hb := xm_rkb hF (M1 60 32).toNat (by omega)
    have hp1 : xm_pr M1 (M1 60 32).toNat ≤ 200000 := by
      rw [e32, xm_pr_84 h84]
      exact hp
    refine k M1 (xm_84_c h84) (h84 60 20 (by decide)) ⟨fun i i0 i1 => ?_, hF, hp1, by omega⟩ (fun q j h1 h2 => h84 q j (by omega)) (fs_first _ (fun i i0 i1 => ht i i0 (by omega))) h84
    rw [e32] at i1
    rw [e0, h84 80 i (by decide)]
    exact hw i i0 i1))
theorem tf_lmR2 {b : Bool} {U V U' V' : xa_M} (h : lm_R b (xj U V)) (e1 : ∀ (q : Nat) (j : Int), ¬ (15 ≤ q ∧ q ≤ 29) → ¬ (q = 48 ∨ q = 49) → U' q j = U q j) (e2 : xm_cor V V') : lm_R b (xj U' V') := by
  refine lm_R_k (fun q j hC => ?_) h
  unfold xj
  by_cases hq : q < 60
  · rw [if_pos hq, if_pos hq]
    exact e1 q j (by unfold lm_C at hC; omega) (by unfold lm_C at hC; omega)
  · rw [if_neg hq, if_neg hq]
    exact e2 q j (by unfold lm_C at hC; unfold xm_scr; omega)

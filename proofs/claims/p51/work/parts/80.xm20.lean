-- fittings of the model, told isFitting (made by wip/p24/xa/xm18.py)
set_option maxRecDepth 20000
/-- way, tries and how many: y are counted already -/
def xm_W (M : xa_M) (y : Int) : Prop := xm_way M ∧ xm_fit M ∧ xm_pr M (M 60 32).toNat ≤ 200000 ∧ y + xm_rk M (M 60 32).toNat < 200000
/-- what isFitting and tell may change -/
def xm_86 (M M1 : xa_M) : Prop := ∀ q j, (q ≠ 85 ∧ q ≠ 86 ∧ q ≠ 74 ∧ q ≠ 87 ∧ ¬ (q = 60 ∧ (j = 20 ∨ j = 39))) → M1 q j = M q j
theorem xm_86_p {M M1 : xa_M} (h : xm_86 M M1) : ∀ n : Nat, xm_pr M1 n = xm_pr M n ∧ xm_rk M1 n = xm_rk M n := by
  intro n
  induction n with
  | zero => exact ⟨rfl, rfl⟩
  | succ n ih =>
    have e1 := h 80 n (by omega)
    have e2 := h 62 (M 80 n) (by omega)
    have e3 := h 61 (M 80 n) (by omega)
    have e4 := h 84 n (by omega)
    show xm_pr M1 n * (M1 62 (M1 80 n) - M1 61 (M1 80 n) + 1) = xm_pr M n * (M 62 (M 80 n) - M 61 (M 80 n) + 1) ∧ xm_rk M1 n * (M1 62 (M1 80 n) - M1 61 (M1 80 n) + 1) + (M1 62 (M1 80 n) - M1 84 n) = xm_rk M n * (M 62 (M 80 n) - M 61 (M 80 n) + 1) + (M 62 (M 80 n) - M 84 n)
    rw [ih.1, ih.2, e1, e2, e3, e4]
    exact ⟨rfl, rfl⟩
theorem xm_86_W {M M1 : xa_M} {y : Int} (h : xm_86 M M1) (hW : xm_W M y) : xm_W M1 y ∧ xm_rk M1 (M1 60 32).toNat = xm_rk M (M 60 32).toNat := by
  obtain ⟨a, b, c, d⟩ := hW
  have e32 := h 60 32 (by omega)
  have e0 := h 60 0 (by omega)
  refine ⟨⟨fun i i0 i1 => ?_, fun i i0 i1 => ?_, ?_, ?_⟩, ?_⟩
  · rw [e32] at i1
    rw [e0, h 80 i (by omega)]
    exact a i i0 i1
  · rw [e32] at i1
    rw [h 80 i (by omega), h 61 _ (by omega), h 62 _ (by omega), h 84 i (by omega)]
    exact b i i0 i1
  · rw [e32, (xm_86_p h _).1]
    exact c
  · rw [e32, (xm_86_p h _).2]
    exact d
  · rw [e32, (xm_86_p h _).2]
theorem xm_W_rk {M : xa_M} {y : Int} (hW : xm_W M y) : 0 ≤ xm_rk M (M 60 32).toNat := by
  by_cases h : 0 ≤ M 60 32
  · exact (xm_rkb hW.2.1 _ (by omega)).1
  · have e : (M 60 32).toNat = 0 := by omega
    rw [e]
    exact Int.le_refl 0
theorem xm_86_s {M : xa_M} {q : Nat} {i v : Int} (hq : q = 74 ∨ q = 87 ∨ (q = 60 ∧ (i = 20 ∨ i = 39))) : xm_86 M (xa_up M q i v) := by
  intro q2 j h
  simp only [xa_up]
  rw [if_neg (fun e => by obtain ⟨e1, e2⟩ := e; subst e1; subst e2; omega)]
/-- way and how many ways -/
def xm_Y (M : xa_M) : Prop := xm_way M ∧ xm_pr M (M 60 32).toNat ≤ 200000
theorem xm_86_Y {M M1 : xa_M} (h : xm_86 M M1) (hY : xm_Y M) : xm_Y M1 := by
  have e32 := h 60 32 (by decide)
  have e0 := h 60 0 (by decide)
  refine ⟨fun i i0 i1 => ?_, ?_⟩
  · rw [e32] at i1
    rw [e0, h 80 i (by omega)]
    exact hY.1 i i0 i1
  · rw [e32, (xm_86_p h _).1]
    exact hY.2
/-- isFitting's contract (to be proved) -/
def xm_fd : Prop := ∀ {A : Nat → Nat} {h0 : g_H} {d : Nat} {M : xa_M} {post : Option xa_V → xa_M → Prop} {l u p : Int}, xm_Inv M → xm_way M → xm_fit M → 0 ≤ p → p < M 60 11 → (∀ (r : Int) (M1 : xa_M), (r = 0 ∨ r = 1) → (∀ q j, q ≠ 85 → q ≠ 86 → M1 q j = M q j) → post (some (0, 0, 0, 1, r)) M1) → xa_C xm_I A h0 (d + 3) 242 [(2, 60, 0, 0, 0), (0, 0, l, u, p)] M post
theorem ct_isF {A : Nat → Nat} {h0 : g_H} {d : Nat} {M : xa_M} {post : Option xa_V → xa_M → Prop} {l u p y : Int} (h242 : xm_fd) (hI : xm_Inv M) (hW : xm_W M y) (hp0 : 0 ≤ p) (hp1 : p < M 60 11) (k : ∀ (r : Int) (M1 : xa_M), (r = 0 ∨ r = 1) → xm_cor M M1 → M1 60 20 = M 60 20 → xm_W M1 y → xm_rk M1 (M1 60 32).toNat = xm_rk M (M 60 32).toNat → post (some (0, 0, 0, 1, r)) M1) : xa_C xm_I A h0 (d + 3) 242 [(2, 60, 0, 0, 0), (0, 0, l, u, p)] M post :=
  h242 hI hW.1 hW.2.1 hp0 hp1 (fun r M1 hr h => by
    have h86 : xm_86 M M1 := fun q j hq => h q j hq.1 hq.2.1
    refine k r M1 hr (fun q j hs => h q j (fun e => hs (by subst e; exact Or.inl (by decide))) (fun e => hs (by subst e; exact Or.inl (by decide)))) (h 60 20 (by decide) (by decide)) (xm_86_W h86 hW).1 (xm_86_W h86 hW).2)
theorem ct_nextW {A : Nat → Nat} {h0 : g_H} {d : Nat} {M : xa_M} {post : Option xa_V → xa_M → Prop} {y : Int} (hW : xm_W M y) (k : ∀ (r : Int) (M1 : xa_M), (r = 0 ∨ r = 1) → xm_cor M M1 → M1 60 20 = M 60 20 → (∀ z, z ≤ y + 1 → r = 1 → xm_W M1 z) → (r = 1 → xm_rk M1 (M1 60 32).toNat < xm_rk M (M 60 32).toNat) → post (some (0, 0, 0, 1, r)) M1) : xa_C xm_I A h0 (d + 1) 243 [(2, 60, 0, 0, 0)] M post :=
  ct_nextWay hW.2.1 (fun r M1 hr h84 hF hR => by
    have e32 := h84 60 32 (by decide)
    have e0 := h84 60 0 (by decide)
    refine k r M1 hr (xm_84_c h84) (h84 60 20 (by decide)) (fun z hz h1 => ⟨fun i i0 i1 => ?_, hF, ?_, ?_⟩) (fun h1 => ?_)
    · rw [e32] at i1
      rw [e0, h84 80 i (by decide)]
      exact hW.1 i i0 i1
    · rw [e32, xm_pr_84 h84]
      exact hW.2.2.1
    · have := hR h1
      have := hW.2.2.2
      rw [e32]
      omega
    · rw [e32]
      exact hR h1)
theorem ct_firstW {A : Nat → Nat} {h0 : g_H} {d : Nat} {M : xa_M} {post : Option xa_V → xa_M → Prop} (hI : xm_Inv M) (hY : xm_Y M) (k : ∀ (M1 : xa_M), xm_cor M M1 → M1 60 20 = M 60 20 → xm_W M1 0 → post none M1) : xa_C xm_I A h0 (d + 1) 241 [(2, 60, 0, 0, 0)] M post :=
  xa_C_asm (fun hM _ => ct_firstWay (fun M1 h84 ht => by
    have hw := hY.1
    have hp := hY.2
    have e32 := h84 60 32 (by decide)
    have e0 := h84 60 0 (by decide)
    have b32 := xm_f32 hM
    have hF : xm_fit M1 := fun i i0 i1 => by
      rw [e32] at i1
      rw [h84 80 i (by decide), h84 61 _ (by decide), h84 62 _ (by decide), ht i i0 i1]
      have := xm_way_sp hM hI hw i i0 i1
      omega
    have hb := xm_rkb hF (M1 60 32).toNat (by omega)
    have hp1 : xm_pr M1 (M1 60 32).toNat ≤ 200000 := by
      rw [e32, xm_pr_84 h84]
      exact hp
    refine k M1 (xm_84_c h84) (h84 60 20 (by decide)) ⟨fun i i0 i1 => ?_, hF, hp1, by omega⟩
    rw [e32] at i1
    rw [e0, h84 80 i (by decide)]
    exact hw i i0 i1))
theorem ms_fittings {A : Nat → Nat} {h0 : g_H} {d : Nat} {M : xa_M} {post : Option xa_V → xa_M → Prop} {l1 u1 l2 u2 : Int} {a x2 : Int} (h242 : xm_fd) (hI : xm_Inv M) (k : ∀ (o : Option xa_V) (M1 : xa_M), xm_cor M M1 → post o M1) : xa_C xm_I A h0 (d + 4) 237 [(2, 60, 0, 0, 0), (0, 0, l1, u1, a), (0, 0, l2, u2, x2)] M post := by
  refine xa_C_arg [(2, 60, 0, 0, 0), (0, 0, (-2147483648), 2147483647, a), (0, 0, (-2147483648), 2147483647, x2)] (xa_svR (xa_svI (fun _ _ _ _ => by omega) (xa_svI (fun _ _ _ _ => by omega) xa_sv0))) ?_
  refine xa_meth (Q0 := (6, 1, false, 0, 0, 12)) (by decide +kernel) ⟨rfl, rfl⟩ (full := s_c_237) rfl rfl ?_
  intro hM hv Q hgo
  have loop0 : ∀ (n : Nat) (x4 : Int) (M1 : xa_M), 0 ≤ x4 ∧ x4 ≤ 200000 → xm_cor M M1 → 0 ≤ x2 → x2 < M 60 11 → xm_W M1 x4 → (x4 = 0 → M1 60 20 = 0) → xm_rk M1 (M1 60 32).toNat < (n : Int) → Q 30 [(4, (0, 0, 0, 200000, x4)), (2, (0, 0, (-2147483648), 2147483647, x2)), (0, (2, 60, 0, 0, 0))] [] M1 := by
    intro n
    induction n with
    | zero => intro x4 M1 b4 hc p0 p1 hW h20 hms; exact absurd hms (by have := xm_W_rk hW; omega)
    | succ n ih0 =>
      intro x4 M1 b4 hc p0 p1 hW h20 hms0
      refine hgo.2.2 _ _ _ _ (fun hM1 _ => ?_)
      have e11 := xm_corf hc 11 (by omega)
      have b32 := xm_f32 hM1
      have hrk := (xm_rkb hW.2.1 (M1 60 32).toNat (by omega)).1
      have hWs := hW.2.2.2
      obtain ⟨e, he⟩ : ∃ e, e = xm_rk M1 (M1 60 32).toNat := ⟨_, rfl⟩
      have loop1 : ∀ (n : Nat) (x5 x4 : Int) (M1 : xa_M), 0 ≤ x5 ∧ x5 ≤ 14 → 0 ≤ x4 ∧ x4 ≤ 200000 → xm_cor M M1 → 0 ≤ x2 → x2 < M 60 11 → xm_W M1 x4 → xm_rk M1 (M1 60 32).toNat = e → (x4 = 0 → M1 60 20 ≤ x5) → 14 - x5 < (n : Int) → Q 44 [(5, (0, 0, 0, 14, x5)), (4, (0, 0, 0, 200000, x4)), (2, (0, 0, (-2147483648), 2147483647, x2)), (0, (2, 60, 0, 0, 0))] [] M1 := by
        intro n
        induction n with
        | zero => intro x5 x4 M1 b5 b4 hc p0 p1 hW hrke h20 hms; omega
        | succ n ih1 =>
          intro x5 x4 M1 b5 b4 hc p0 p1 hW hrke h20 hms1
          refine hgo.2.2 _ _ _ _ (fun hM1 _ => ?_)
          have e11 := xm_corf hc 11 (by omega)
          have b32 := xm_f32 hM1
          have hrk := (xm_rkb hW.2.1 (M1 60 32).toNat (by omega)).1
          have hWs := hW.2.2.2
          have b20 := xm_f20 hM1
          refine hgo.1 20 [30, 44] 44 _ _ _ ?_
          refine And.intro ?_ ?_
          · intro (c1 : (M1 60 32) ≤ x5)
            show xa_C xm_I A h0 _ 243 [(2, 60, 0, 0, 0)] M1 _
            refine xa_C_mok (ct_nextW hW (fun v2 M2 z2 hc2 e2 wN2 rk2 hM2 => ?_))
            refine And.intro ?_ ?_
            · intro (c3 : ¬ v2 = 0)
              show Q 30 [(4, (0, 0, 1, 200001, x4 + 1)), (5, (0, 0, 0, 14, x5)), (2, (0, 0, (-2147483648), 2147483647, x2)), (0, (2, 60, 0, 0, 0))] [] M2
              refine hgo.2.1 30 _ [(4, (0, 0, 0, 200000, x4 + 1)), (2, (0, 0, (-2147483648), 2147483647, x2)), (0, (2, 60, 0, 0, 0))] _ _ (xa_subI rfl rfl (fun _ _ _ _ => by omega) (xa_subI rfl rfl (fun _ _ _ _ => by omega) (xa_subR rfl xa_sub0))) ?_
              exact ih0 (x4 + 1) M2 (by omega) (xm_cor_t hc hc2) (by omega) (by omega) (wN2 _ (by omega) (by omega)) (by first | omega | (simp [xa_up]; done) | (simp [xa_up]; omega)) (by omega)
            · intro (c3 : v2 = 0)
              show post (some (0, 0, 1, 200001, x4 + 1)) M2
              exact k _ _ (xm_cor_t hc hc2)
          · intro (c1 : x5 < (M1 60 32))
            refine And.intro ?_ ?_
            · intro (c4 : ¬ x4 = 0)
              show xa_C xm_I A h0 _ 243 [(2, 60, 0, 0, 0)] M1 _
              refine xa_C_mok (ct_nextW hW (fun v5 M5 z5 hc5 e5 wN5 rk5 hM5 => ?_))
              refine And.intro ?_ ?_
              · intro (c6 : ¬ v5 = 0)
                show Q 30 [(4, (0, 0, 1, 200001, x4 + 1)), (5, (0, 0, 0, 14, x5)), (2, (0, 0, (-2147483648), 2147483647, x2)), (0, (2, 60, 0, 0, 0))] [] M5
                refine hgo.2.1 30 _ [(4, (0, 0, 0, 200000, x4 + 1)), (2, (0, 0, (-2147483648), 2147483647, x2)), (0, (2, 60, 0, 0, 0))] _ _ (xa_subI rfl rfl (fun _ _ _ _ => by omega) (xa_subI rfl rfl (fun _ _ _ _ => by omega) (xa_subR rfl xa_sub0))) ?_
                exact ih0 (x4 + 1) M5 (by omega) (xm_cor_t hc hc5) (by omega) (by omega) (wN5 _ (by omega) (by omega)) (by first | omega | (simp [xa_up]; done) | (simp [xa_up]; omega)) (by omega)
              · intro (c6 : v5 = 0)
                show post (some (0, 0, 1, 200001, x4 + 1)) M5
                exact k _ _ (xm_cor_t hc hc5)
            · intro (c4 : x4 = 0)
              refine And.intro (show 0 ≤ x5 ∧ x5 < 14 by omega) ?_
              show xa_C xm_I A h0 _ 231 [(2, 60, 0, 0, 0), (1, 0, 0, 400, M1 84 x5)] M1 _
              refine ct_tell (n := M1 60 20) (by first | rfl | (simp [xa_up]; done) | omega) (by omega) (by omega) ?_
              show Q 44 [(5, (0, 0, 1, 15, x5 + 1)), (4, (0, 0, 0, 200000, x4)), (2, (0, 0, (-2147483648), 2147483647, x2)), (0, (2, 60, 0, 0, 0))] [] (xa_up (xa_up M1 74 (M1 60 20) (M1 84 x5)) 60 20 ((M1 60 20) + 1))
              refine hgo.2.1 44 _ [(5, (0, 0, 0, 14, x5 + 1)), (4, (0, 0, 0, 200000, x4)), (2, (0, 0, (-2147483648), 2147483647, x2)), (0, (2, 60, 0, 0, 0))] _ _ (xa_subI rfl rfl (fun _ _ _ _ => by omega) (xa_subI rfl rfl (fun _ _ _ _ => by omega) (xa_subI rfl rfl (fun _ _ _ _ => by omega) (xa_subR rfl xa_sub0)))) ?_
              exact ih1 (x5 + 1) x4 (xa_up (xa_up M1 74 (M1 60 20) (M1 84 x5)) 60 20 ((M1 60 20) + 1)) (by omega) (by omega) (xm_cor_f (by omega) (xm_cor_a rfl hc)) (by omega) (by omega) (xm_86_W (xm_86_s (by omega)) (xm_86_W (xm_86_s (by omega)) hW).1).1 ((xm_86_W (xm_86_s (by omega)) (xm_86_W (xm_86_s (by omega)) hW).1).2.trans ((xm_86_W (xm_86_s (by omega)) hW).2.trans hrke)) (by first | omega | (simp [xa_up]; done) | (simp [xa_up]; omega)) (by omega)
      refine hgo.1 14 [30, 44] 30 _ _ _ ?_
      show xa_C xm_I A h0 _ 242 [(2, 60, 0, 0, 0), (0, 0, (-2147483648), 2147483647, x2)] M1 _
      refine xa_C_mok (ct_isF h242 (xm_Inv_cor hc hI) hW (by omega) (by omega) (fun v1 M1 z1 hc1 e1 wF1 rk1 hM1 => ?_))
      refine And.intro ?_ ?_
      · intro (c2 : ¬ v1 = 0)
        show Q 44 [(5, (0, 0, 0, 0, 0)), (4, (0, 0, 0, 200000, x4)), (2, (0, 0, (-2147483648), 2147483647, x2)), (0, (2, 60, 0, 0, 0))] [] M1
        refine hgo.2.1 44 _ [(5, (0, 0, 0, 14, 0)), (4, (0, 0, 0, 200000, x4)), (2, (0, 0, (-2147483648), 2147483647, x2)), (0, (2, 60, 0, 0, 0))] _ _ (xa_subI rfl rfl (fun _ _ _ _ => by omega) (xa_subI rfl rfl (fun _ _ _ _ => by omega) (xa_subI rfl rfl (fun _ _ _ _ => by omega) (xa_subR rfl xa_sub0)))) ?_
        exact loop1 15 0 x4 M1 (by omega) (by omega) (xm_cor_t hc hc1) (by omega) (by omega) wF1 (by omega) (by first | omega | (simp [xa_up]; done) | (simp [xa_up]; omega)) (by omega)
      · intro (c2 : v1 = 0)
        show xa_C xm_I A h0 _ 243 [(2, 60, 0, 0, 0)] M1 _
        refine xa_C_mok (ct_nextW wF1 (fun v3 M3 z3 hc3 e3 wN3 rk3 hM3 => ?_))
        refine And.intro ?_ ?_
        · intro (c4 : ¬ v3 = 0)
          show Q 30 [(4, (0, 0, 0, 200000, x4)), (2, (0, 0, (-2147483648), 2147483647, x2)), (0, (2, 60, 0, 0, 0))] [] M3
          refine hgo.2.1 30 _ [(4, (0, 0, 0, 200000, x4)), (2, (0, 0, (-2147483648), 2147483647, x2)), (0, (2, 60, 0, 0, 0))] _ _ (xa_subI rfl rfl (fun _ _ _ _ => by omega) (xa_subI rfl rfl (fun _ _ _ _ => by omega) (xa_subR rfl xa_sub0))) ?_
          exact ih0 x4 M3 (by omega) (xm_cor_t (xm_cor_t hc hc1) hc3) (by omega) (by omega) (wN3 _ (by omega) (by omega)) (by first | omega | (simp [xa_up]; done) | (simp [xa_up]; omega)) (by omega)
        · intro (c4 : v3 = 0)
          show post (some (0, 0, 0, 200000, x4)) M3
          exact k _ _ (xm_cor_t (xm_cor_t hc hc1) hc3)
  refine hgo.1 22 [30, 44] 0 _ _ _ ?_
  show xa_C xm_I A h0 _ 238 [(2, 60, 0, 0, 0), (0, 0, (-2147483648), 2147483647, a), (0, 0, (-2147483648), 2147483647, x2)] (xa_up M 60 21 0) _
  refine xa_C_mok (ct_ready (xm_Inv_cor (xm_cor_f (by omega) xm_cor_r) hI) (fun v1 M1 z1 hc1 hr1 hM1 => ?_))
  refine And.intro ?_ ?_
  · intro (c2 : 0 ≤ v1)
    show xa_C xm_I A h0 _ 241 [(2, 60, 0, 0, 0)] (xa_up M1 60 20 0) _
    refine xa_C_mok (ct_firstW (xm_Inv_cor (xm_cor_f (by omega) (xm_cor_t (xm_cor_f (by omega) xm_cor_r) hc1)) hI) (xm_86_Y (xm_86_s (by omega)) ⟨(hr1 (by omega)).1, (hr1 (by omega)).2.1⟩) (fun M3 hc3 e3 wA3 hM3 => ?_))
    have w2 := wA3.2.2.2
    have q11 : 0 ≤ x2 ∧ x2 < M 60 11 := by
      have q := (hr1 (by omega)).2.2
      simpa [xa_up] using q
    have e20 : M3 60 20 = 0 := by
      rw [e3]
      simp [xa_up]
    show Q 30 [(4, (0, 0, 0, 0, 0)), (3, (0, 0, (-4), 0, v1)), (0, (2, 60, 0, 0, 0)), (1, (0, 0, (-2147483648), 2147483647, a)), (2, (0, 0, (-2147483648), 2147483647, x2))] [] M3
    refine hgo.2.1 30 _ [(4, (0, 0, 0, 200000, 0)), (2, (0, 0, (-2147483648), 2147483647, x2)), (0, (2, 60, 0, 0, 0))] _ _ (xa_subI rfl rfl (fun _ _ _ _ => by omega) (xa_subI rfl rfl (fun _ _ _ _ => by omega) (xa_subR rfl xa_sub0))) ?_
    exact loop0 200000 0 M3 (by omega) (xm_cor_t (xm_cor_f (by omega) (xm_cor_t (xm_cor_f (by omega) xm_cor_r) hc1)) hc3) (by omega) (by omega) wA3 (by first | omega | (simp [xa_up]; done) | (simp [xa_up]; omega)) (by omega)
  · intro (c2 : v1 < 0)
    show post (some (0, 0, (-4), 0, v1)) M1
    exact k _ _ (xm_cor_t (xm_cor_f (by omega) xm_cor_r) hc1)
theorem ct_countFits {A : Nat → Nat} {h0 : g_H} {d : Nat} {M : xa_M} {post : Option xa_V → xa_M → Prop} {l1 u1 : Int} {x1 : Int} (h242 : xm_fd) (hI : xm_Inv M) (hY : xm_Y M) (p0 : 0 ≤ x1) (p1 : x1 < M 60 11) (k : ∀ (M1 : xa_M), xm_cor M M1 → post none M1) : xa_C xm_I A h0 (d + 4) 246 [(2, 60, 0, 0, 0), (0, 0, l1, u1, x1)] M post := by
  refine xa_C_arg [(2, 60, 0, 0, 0), (0, 0, (-2147483648), 2147483647, x1)] (xa_svR (xa_svI (fun _ _ _ _ => by omega) xa_sv0)) ?_
  refine xa_meth (Q0 := (3, 0, false, 0, 0, 12)) (by decide +kernel) ⟨rfl, rfl⟩ (full := s_c_246) rfl rfl ?_
  intro hM hv Q hgo
  have loop1 : ∀ (n : Nat) (M1 : xa_M), xm_cor M M1 → xm_W M1 0 → xm_rk M1 (M1 60 32).toNat < (n : Int) → Q 33 [(1, (0, 0, (-2147483648), 2147483647, x1)), (0, (2, 60, 0, 0, 0))] [] M1 := by
    intro n
    induction n with
    | zero => intro M1 hc hW hms; exact absurd hms (by have := xm_W_rk hW; omega)
    | succ n ih1 =>
      intro M1 hc hW hms1
      refine hgo.2.2 _ _ _ _ (fun hM1 _ => ?_)
      have e11 := xm_corf hc 11 (by omega)
      have b32 := xm_f32 hM1
      have hrk := (xm_rkb hW.2.1 (M1 60 32).toNat (by omega)).1
      have hWs := hW.2.2.2
      obtain ⟨e, he⟩ : ∃ e, e = xm_rk M1 (M1 60 32).toNat := ⟨_, rfl⟩
      have loop2 : ∀ (n : Nat) (x2 : Int) (M1 : xa_M), 0 ≤ x2 ∧ x2 ≤ 14 → xm_cor M M1 → xm_W M1 0 → xm_rk M1 (M1 60 32).toNat = e → 14 - x2 < (n : Int) → Q 56 [(2, (0, 0, 0, 14, x2)), (1, (0, 0, (-2147483648), 2147483647, x1)), (0, (2, 60, 0, 0, 0))] [] M1 := by
        intro n
        induction n with
        | zero => intro x2 M1 b2 hc hW hrke hms; omega
        | succ n ih2 =>
          intro x2 M1 b2 hc hW hrke hms2
          refine hgo.2.2 _ _ _ _ (fun hM1 _ => ?_)
          have e11 := xm_corf hc 11 (by omega)
          have b32 := xm_f32 hM1
          have hrk := (xm_rkb hW.2.1 (M1 60 32).toNat (by omega)).1
          have hWs := hW.2.2.2
          have t84 : x2 < M1 60 32 → 0 ≤ M1 84 x2 ∧ M1 84 x2 ≤ 400 := fun h => xm_t84 hM1 x2 (by omega) (by omega)
          refine hgo.1 26 [2, 33, 56] 56 _ _ _ ?_
          refine And.intro ?_ ?_
          · intro (c1 : (M1 60 32) ≤ x2)
            show xa_C xm_I A h0 _ 243 [(2, 60, 0, 0, 0)] M1 _
            refine xa_C_mok (ct_nextW hW (fun v2 M2 z2 hc2 e2 wN2 rk2 hM2 => ?_))
            refine And.intro ?_ ?_
            · intro (c3 : ¬ v2 = 0)
              show Q 33 [(2, (0, 0, 0, 14, x2)), (1, (0, 0, (-2147483648), 2147483647, x1)), (0, (2, 60, 0, 0, 0))] [] M2
              refine hgo.2.1 33 _ [(1, (0, 0, (-2147483648), 2147483647, x1)), (0, (2, 60, 0, 0, 0))] _ _ (xa_subI rfl rfl (fun _ _ _ _ => by omega) (xa_subR rfl xa_sub0)) ?_
              exact ih1 M2 (xm_cor_t hc hc2) (wN2 _ (by omega) (by omega)) (by omega)
            · intro (c3 : v2 = 0)
              show post none M2
              exact k _ (xm_cor_t hc hc2)
          · intro (c1 : x2 < (M1 60 32))
            refine And.intro (show 0 ≤ x2 ∧ x2 < 14 by omega) ?_
            refine And.intro (show 0 ≤ ((401 * x2) + (M1 84 x2)) ∧ ((401 * x2) + (M1 84 x2)) < 5614 by omega) ?_
            refine And.intro (show 0 ≤ ((401 * x2) + (M1 84 x2)) ∧ ((401 * x2) + (M1 84 x2)) < 5614 by omega) ?_
            show Q 56 [(2, (0, 0, 1, 15, x2 + 1)), (1, (0, 0, (-2147483648), 2147483647, x1)), (0, (2, 60, 0, 0, 0))] [] (xa_up M1 87 ((401 * x2) + (M1 84 x2)) (xa_w32 ((M1 87 ((401 * x2) + (M1 84 x2))) + 1)))
            refine hgo.2.1 56 _ [(2, (0, 0, 0, 14, x2 + 1)), (1, (0, 0, (-2147483648), 2147483647, x1)), (0, (2, 60, 0, 0, 0))] _ _ (xa_subI rfl rfl (fun _ _ _ _ => by omega) (xa_subI rfl rfl (fun _ _ _ _ => by omega) (xa_subR rfl xa_sub0))) ?_
            exact ih2 (x2 + 1) (xa_up M1 87 ((401 * x2) + (M1 84 x2)) (xa_w32 ((M1 87 ((401 * x2) + (M1 84 x2))) + 1))) (by omega) (xm_cor_a rfl hc) (xm_86_W (xm_86_s (by omega)) hW).1 ((xm_86_W (xm_86_s (by omega)) hW).2.trans hrke) (by omega)
      refine hgo.1 17 [2, 33, 56] 33 _ _ _ ?_
      show xa_C xm_I A h0 _ 242 [(2, 60, 0, 0, 0), (0, 0, (-2147483648), 2147483647, x1)] M1 _
      refine xa_C_mok (ct_isF h242 (xm_Inv_cor hc hI) hW (by omega) (by omega) (fun v1 M1 z1 hc1 e1 wF1 rk1 hM1 => ?_))
      refine And.intro ?_ ?_
      · intro (c2 : ¬ v1 = 0)
        show Q 56 [(2, (0, 0, 0, 0, 0)), (1, (0, 0, (-2147483648), 2147483647, x1)), (0, (2, 60, 0, 0, 0))] [] (xa_up M1 60 39 (xa_w32 ((M1 60 39) + 1)))
        refine hgo.2.1 56 _ [(2, (0, 0, 0, 14, 0)), (1, (0, 0, (-2147483648), 2147483647, x1)), (0, (2, 60, 0, 0, 0))] _ _ (xa_subI rfl rfl (fun _ _ _ _ => by omega) (xa_subI rfl rfl (fun _ _ _ _ => by omega) (xa_subR rfl xa_sub0))) ?_
        exact loop2 15 0 (xa_up M1 60 39 (xa_w32 ((M1 60 39) + 1))) (by omega) (xm_cor_f (by omega) (xm_cor_t hc hc1)) (xm_86_W (xm_86_s (by omega)) wF1).1 ((xm_86_W (xm_86_s (by omega)) wF1).2.trans (rk1.trans he.symm)) (by omega)
      · intro (c2 : v1 = 0)
        show xa_C xm_I A h0 _ 243 [(2, 60, 0, 0, 0)] M1 _
        refine xa_C_mok (ct_nextW wF1 (fun v3 M3 z3 hc3 e3 wN3 rk3 hM3 => ?_))
        refine And.intro ?_ ?_
        · intro (c4 : ¬ v3 = 0)
          show Q 33 [(1, (0, 0, (-2147483648), 2147483647, x1)), (0, (2, 60, 0, 0, 0))] [] M3
          refine hgo.2.1 33 _ [(1, (0, 0, (-2147483648), 2147483647, x1)), (0, (2, 60, 0, 0, 0))] _ _ (xa_subI rfl rfl (fun _ _ _ _ => by omega) (xa_subR rfl xa_sub0)) ?_
          exact ih1 M3 (xm_cor_t (xm_cor_t hc hc1) hc3) (wN3 _ (by omega) (by omega)) (by omega)
        · intro (c4 : v3 = 0)
          show post none M3
          exact k _ (xm_cor_t (xm_cor_t hc hc1) hc3)
  have loop0 : ∀ (n : Nat) (x2 : Int) (M1 : xa_M), 0 ≤ x2 ∧ x2 ≤ 5614 → xm_cor M M1 → xm_Y M1 → 5614 - x2 < (n : Int) → Q 2 [(2, (0, 0, 0, 5614, x2)), (1, (0, 0, (-2147483648), 2147483647, x1)), (0, (2, 60, 0, 0, 0))] [] M1 := by
    intro n
    induction n with
    | zero => intro x2 M1 b2 hc hY hms; omega
    | succ n ih0 =>
      intro x2 M1 b2 hc hY hms0
      have e11 := xm_corf hc 11 (by omega)
      refine hgo.1 17 [2, 33, 56] 2 _ _ _ ?_
      refine And.intro ?_ ?_
      · intro (c1 : 5614 ≤ x2)
        show xa_C xm_I A h0 _ 241 [(2, 60, 0, 0, 0)] (xa_up M1 60 39 0) _
        refine xa_C_mok (ct_firstW (xm_Inv_cor (xm_cor_f (by omega) hc) hI) (xm_86_Y (xm_86_s (by omega)) hY) (fun M2 hc2 e2 wA2 hM2 => ?_))
        have w2 := wA2.2.2.2
        show Q 33 [(2, (0, 0, 0, 5614, x2)), (1, (0, 0, (-2147483648), 2147483647, x1)), (0, (2, 60, 0, 0, 0))] [] M2
        refine hgo.2.1 33 _ [(1, (0, 0, (-2147483648), 2147483647, x1)), (0, (2, 60, 0, 0, 0))] _ _ (xa_subI rfl rfl (fun _ _ _ _ => by omega) (xa_subR rfl xa_sub0)) ?_
        exact loop1 200000 M2 (xm_cor_t (xm_cor_f (by omega) hc) hc2) wA2 (by omega)
      · intro (c1 : x2 < 5614)
        refine And.intro (show 0 ≤ x2 ∧ x2 < 5614 by omega) ?_
        show Q 2 [(2, (0, 0, 1, 5615, x2 + 1)), (1, (0, 0, (-2147483648), 2147483647, x1)), (0, (2, 60, 0, 0, 0))] [] (xa_up M1 87 x2 0)
        refine hgo.2.1 2 _ [(2, (0, 0, 0, 5614, x2 + 1)), (1, (0, 0, (-2147483648), 2147483647, x1)), (0, (2, 60, 0, 0, 0))] _ _ (xa_subI rfl rfl (fun _ _ _ _ => by omega) (xa_subI rfl rfl (fun _ _ _ _ => by omega) (xa_subR rfl xa_sub0))) ?_
        exact ih0 (x2 + 1) (xa_up M1 87 x2 0) (by omega) (xm_cor_a rfl hc) (xm_86_Y (xm_86_s (by omega)) hY) (by omega)
  refine hgo.1 7 [2, 33, 56] 0 _ _ _ ?_
  show Q 2 [(2, (0, 0, 0, 0, 0)), (0, (2, 60, 0, 0, 0)), (1, (0, 0, (-2147483648), 2147483647, x1))] [] M
  refine hgo.2.1 2 _ [(2, (0, 0, 0, 5614, 0)), (1, (0, 0, (-2147483648), 2147483647, x1)), (0, (2, 60, 0, 0, 0))] _ _ (xa_subI rfl rfl (fun _ _ _ _ => by omega) (xa_subI rfl rfl (fun _ _ _ _ => by omega) (xa_subR rfl xa_sub0))) ?_
  exact loop0 5615 0 M (by omega) xm_cor_r hY (by omega)

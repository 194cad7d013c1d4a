-- joined: 79.xm19, 80.xm20, 81.xm21, 82.xm22, 83.xm23, 84.fp, 85.xd, 86.xd2, 87.xf, 88.xp
section
-- way, ready of the model (made by wip/p24/xa/xm17.py)
set_option maxRecDepth 20000
theorem ct_ready {A : Nat → Nat} {h0 : g_H} {d : Nat} {M : xa_M} {post : Option xa_V → xa_M → Prop} {l1 u1 l2 u2 : Int} {a b : Int} (hI : xm_Inv M) (k : ∀ (r : Int) (M1 : xa_M), (r = 0 ∨ r = -1 ∨ r = -2 ∨ r = -4) → xm_cor M M1 → (r = 0 → xm_way M1 ∧ xm_pr M1 (M1 60 32).toNat ≤ 200000 ∧ 0 ≤ b ∧ b < M 60 11) → post (some (0, 0, -4, 0, r)) M1) : xa_C xm_I A h0 (d + 3) 238 [(2, 60, 0, 0, 0), (0, 0, l1, u1, a), (0, 0, l2, u2, b)] M post := by
  refine xa_C_arg [(2, 60, 0, 0, 0), (0, 0, (-2147483648), 2147483647, a), (0, 0, (-2147483648), 2147483647, b)] (xa_svR (xa_svI (fun _ _ _ _ => by omega) (xa_svI (fun _ _ _ _ => by omega) xa_sv0))) (xa_C_wk ?_)
  refine xa_meth (Q0 := (3, 1, false, 0, 0, 12)) (by decide +kernel) ⟨rfl, rfl⟩ (full := s_c_238) rfl rfl ?_
  intro hM hv Q hgo
  refine hgo.1 23 [] 0 _ _ _ ?_
  show xa_C xm_I A h0 _ 214 [(0, 0, (-2147483648), 2147483647, a), (0, 0, 1, 1, 1), (0, 0, 9, 9, 9)] M _
  refine ct_in ?_ ?_
  · intro (i1 : 1 ≤ a ∧ a ≤ 9)
    show xa_C xm_I A h0 _ 239 [(2, 60, 0, 0, 0), (0, 0, (-2147483648), 2147483647, b)] M _
    refine ct_isPeriod ?_ ?_
    · intro (i2 : 0 ≤ b ∧ b < (M 60 11))
      show xa_C xm_I A h0 _ 236 [(2, 60, 0, 0, 0), (0, 0, (-2147483648), 2147483647, a)] M _
      refine xa_C_mok (ct_findWay (xm_Inv_cor xm_cor_r hI) (by omega) (by omega) (fun v3 M3 hv3 hc3 hw3 hM3 => ?_))
      refine And.intro ?_ ?_
      · intro (c4 : ¬ v3 = 0)
        show xa_C xm_I A h0 _ 240 [(2, 60, 0, 0, 0)] M3 _
        refine ct_areTooMany (xm_Inv_cor (xm_cor_t xm_cor_r hc3) hI) (hw3 (by omega)) (fun r5 zr5 yr5 => ?_)
        refine And.intro ?_ ?_
        · intro (c6 : r5 = 0)
          show xa_wk post (some (0, 0, 0, 0, 0)) M3
          exact xa_wkI 0 rfl (fun _ _ => by omega) (k 0 _ (by omega) (xm_cor_t xm_cor_r hc3) (fun e => by first | (exfalso; omega) | exact ⟨hw3 (by omega), yr5 (by omega), by omega, by omega⟩))
        · intro (c6 : ¬ r5 = 0)
          show xa_wk post (some (0, 0, (-4), (-4), (-4))) M3
          exact xa_wkI (-4) rfl (fun _ _ => by omega) (k (-4) _ (by omega) (xm_cor_t xm_cor_r hc3) (fun e => by first | (exfalso; omega) | exact ⟨hw3 (by omega), yr5 (by omega), by omega, by omega⟩))
      · intro (c4 : v3 = 0)
        show xa_wk post (some (0, 0, (-2), (-2), (-2))) M3
        exact xa_wkI (-2) rfl (fun _ _ => by omega) (k (-2) _ (by omega) (xm_cor_t xm_cor_r hc3) (fun e => by first | (exfalso; omega) | exact ⟨hw3 (by omega), yr5 (by omega), by omega, by omega⟩))
    · intro (i2 : ¬ (0 ≤ b ∧ b < (M 60 11)))
      show xa_wk post (some (0, 0, (-1), (-1), (-1))) M
      exact xa_wkI (-1) rfl (fun _ _ => by omega) (k (-1) _ (by omega) xm_cor_r (fun e => by first | (exfalso; omega) | exact ⟨hw0 (by omega), yr5 (by omega), by omega, by omega⟩))
  · intro (i1 : ¬ (1 ≤ a ∧ a ≤ 9))
    show xa_wk post (some (0, 0, (-1), (-1), (-1))) M
    exact xa_wkI (-1) rfl (fun _ _ => by omega) (k (-1) _ (by omega) xm_cor_r (fun e => by first | (exfalso; omega) | exact ⟨hw0 (by omega), yr5 (by omega), by omega, by omega⟩))
theorem ms_way {A : Nat → Nat} {h0 : g_H} {d : Nat} {M : xa_M} {post : Option xa_V → xa_M → Prop} {l1 u1 : Int} {a : Int} (hI : xm_Inv M) (k : ∀ (o : Option xa_V) (M1 : xa_M), xm_cor M M1 → post o M1) : xa_C xm_I A h0 (d + 4) 235 [(2, 60, 0, 0, 0), (0, 0, l1, u1, a)] M post := by
  refine xa_C_arg [(2, 60, 0, 0, 0), (0, 0, (-2147483648), 2147483647, a)] (xa_svR (xa_svI (fun _ _ _ _ => by omega) xa_sv0)) ?_
  refine xa_meth (Q0 := (3, 1, false, 0, 0, 12)) (by decide +kernel) ⟨rfl, rfl⟩ (full := s_c_235) rfl rfl ?_
  intro hM hv Q hgo
  have loop0 : ∀ (n : Nat) (x2 : Int) (M1 : xa_M), 0 ≤ x2 ∧ x2 ≤ 10 → xm_cor M M1 → M1 60 20 ≤ x2 → 10 - x2 < (n : Int) → Q 35 [(2, (0, 0, 0, 10, x2)), (0, (2, 60, 0, 0, 0))] [] M1 := by
    intro n
    induction n with
    | zero => intro x2 M1 b2 hc h20 hms; omega
    | succ n ih0 =>
      intro x2 M1 b2 hc h20 hms0
      refine hgo.2.2 _ _ _ _ (fun hM1 _ => ?_)
      have b20 := xm_f20 hM1
      have b29 := xm_f29 hM1
      refine hgo.1 18 [35] 35 _ _ _ ?_
      refine And.intro ?_ ?_
      · intro (c1 : (M1 60 29) ≤ x2)
        show post (some (0, 0, 0, 10, M1 60 29)) M1
        exact k _ _ hc
      · intro (c1 : x2 < (M1 60 29))
        refine And.intro (show 0 ≤ x2 ∧ x2 < 10 by omega) ?_
        show xa_C xm_I A h0 _ 231 [(2, 60, 0, 0, 0), (1, 0, 0, 15, M1 79 x2)] M1 _
        refine ct_tell (n := M1 60 20) (by first | rfl | (simp [xa_up]; done) | omega) (by omega) (by omega) ?_
        show Q 35 [(2, (0, 0, 1, 11, x2 + 1)), (0, (2, 60, 0, 0, 0))] [] (xa_up (xa_up M1 74 (M1 60 20) (M1 79 x2)) 60 20 ((M1 60 20) + 1))
        refine hgo.2.1 35 _ [(2, (0, 0, 0, 10, x2 + 1)), (0, (2, 60, 0, 0, 0))] _ _ (xa_subI rfl rfl (fun _ _ _ _ => by omega) (xa_subR rfl xa_sub0)) ?_
        exact ih0 (x2 + 1) (xa_up (xa_up M1 74 (M1 60 20) (M1 79 x2)) 60 20 ((M1 60 20) + 1)) (by omega) (xm_cor_f (by omega) (xm_cor_a rfl hc)) (by first | omega | (simp [xa_up]; done) | (simp [xa_up]; omega)) (by omega)
  refine hgo.1 22 [35] 0 _ _ _ ?_
  show xa_C xm_I A h0 _ 214 [(0, 0, (-2147483648), 2147483647, a), (0, 0, 1, 1, 1), (0, 0, 9, 9, 9)] (xa_up M 60 21 0) _
  refine ct_in ?_ ?_
  · intro (i1 : 1 ≤ a ∧ a ≤ 9)
    show xa_C xm_I A h0 _ 236 [(2, 60, 0, 0, 0), (0, 0, (-2147483648), 2147483647, a)] (xa_up M 60 21 0) _
    refine xa_C_mok (ct_findWay (xm_Inv_cor (xm_cor_f (by omega) xm_cor_r) hI) (by omega) (by omega) (fun v2 M2 hv2 hc2 hw2 hM2 => ?_))
    refine And.intro ?_ ?_
    · intro (c3 : ¬ v2 = 0)
      show Q 35 [(2, (0, 0, 0, 0, 0)), (0, (2, 60, 0, 0, 0)), (1, (0, 0, (-2147483648), 2147483647, a))] [] (xa_up M2 60 20 0)
      refine hgo.2.1 35 _ [(2, (0, 0, 0, 10, 0)), (0, (2, 60, 0, 0, 0))] _ _ (xa_subI rfl rfl (fun _ _ _ _ => by omega) (xa_subR rfl xa_sub0)) ?_
      exact loop0 11 0 (xa_up M2 60 20 0) (by omega) (xm_cor_f (by omega) (xm_cor_t (xm_cor_f (by omega) xm_cor_r) hc2)) (by first | omega | (simp [xa_up]; done) | (simp [xa_up]; omega)) (by omega)
    · intro (c3 : v2 = 0)
      show post (some (0, 0, (-2), (-2), (-2))) M2
      exact k _ _ (xm_cor_t (xm_cor_f (by omega) xm_cor_r) hc2)
  · intro (i1 : ¬ (1 ≤ a ∧ a ≤ 9))
    show post (some (0, 0, (-1), (-1), (-1))) (xa_up M 60 21 0)
    exact k _ _ (xm_cor_f (by omega) xm_cor_r)
end
section
-- fittings of the model, told isFitting (made by wip/p24/xa/xm18.py)
set_option maxRecDepth 20000
/-- way, tries and how many: y are counted already -/
def xm_W (M : xa_M) (y : Int) : Prop := xm_way M ∧ xm_fit M ∧ xm_pr M (M 60 32).toNat ≤ 200000 ∧ y + xm_rk M (M 60 32).toNat < 200000
/-- what isFitting and tell may change -/
def xm_86 (M M1 : xa_M) : Prop := ∀ q j, (q ≠ 85 ∧ q ≠ 86 ∧ q ≠ 74 ∧ q ≠ 87 ∧ ¬ (q = 60 ∧ (j = 20 ∨ j = 39))) → M1 q j = M q j
theorem xm_86_p {M M1 : xa_M} (h : xm_86 M M1) : ∀ n : Nat, xm_pr M1 n = xm_pr M n ∧ xm_rk M1 n = xm_rk M n := by
  intro n
  induction n with
  | zero => exact ⟨rfl, rfl⟩
  | succ n ih =>
    have e1 := h 80 n (by omega)
    have e2 := h 62 (M 80 n) (by omega)
    have e3 := h 61 (M 80 n) (by omega)
    have e4 := h 84 n (by omega)
    show xm_pr M1 n * (M1 62 (M1 80 n) - M1 61 (M1 80 n) + 1) = xm_pr M n * (M 62 (M 80 n) - M 61 (M 80 n) + 1) ∧ xm_rk M1 n * (M1 62 (M1 80 n) - M1 61 (M1 80 n) + 1) + (M1 62 (M1 80 n) - M1 84 n) = xm_rk M n * (M 62 (M 80 n) - M 61 (M 80 n) + 1) + (M 62 (M 80 n) - M 84 n)
    rw [ih.1, ih.2, e1, e2, e3, e4]
    exact ⟨rfl, rfl⟩
theorem xm_86_W {M M1 : xa_M} {y : Int} (h : xm_86 M M1) (hW : xm_W M y) : xm_W M1 y ∧ xm_rk M1 (M1 60 32).toNat = xm_rk M (M 60 32).toNat := by
  obtain ⟨a, b, c, d⟩ := hW
  have e32 := h 60 32 (by omega)
  have e0 := h 60 0 (by omega)
  refine ⟨⟨fun i i0 i1 => ?_, fun i i0 i1 => ?_, ?_, ?_⟩, ?_⟩
  · rw [e32] at i1
    rw [e0, h 80 i (by omega)]
    exact a i i0 i1
  · rw [e32] at i1
    rw [h 80 i (by omega), h 61 _ (by omega), h 62 _ (by omega), h 84 i (by omega)]
    exact b i i0 i1
  · rw [e32, (xm_86_p h _).1]
    exact c
  · rw [e32, (xm_86_p h _).2]
    exact d
  · rw [e32, (xm_86_p h _).2]
theorem xm_W_rk {M : xa_M} {y : Int} (hW : xm_W M y) : 0 ≤ xm_rk M (M 60 32).toNat := by
  by_cases h : 0 ≤ M 60 32
  · exact (xm_rkb hW.2.1 _ (by omega)).1
  · have e : (M 60 32).toNat = 0 := by omega
    rw [e]
    exact Int.le_refl 0
theorem xm_86_s {M : xa_M} {q : Nat} {i v : Int} (hq : q = 74 ∨ q = 87 ∨ (q = 60 ∧ (i = 20 ∨ i = 39))) : xm_86 M (xa_up M q i v) := by
  intro q2 j h
  simp only [xa_up]
  rw [if_neg (fun e => by obtain ⟨e1, e2⟩ := e; subst e1; subst e2; omega)]
/-- way and how many ways -/
def xm_Y (M : xa_M) : Prop := xm_way M ∧ xm_pr M (M 60 32).toNat ≤ 200000
theorem xm_86_Y {M M1 : xa_M} (h : xm_86 M M1) (hY : xm_Y M) : xm_Y M1 := by
  have e32 := h 60 32 (by decide)
  have e0 := h 60 0 (by decide)
  refine ⟨fun i i0 i1 => ?_, ?_⟩
  · rw [e32] at i1
    rw [e0, h 80 i (by omega)]
    exact hY.1 i i0 i1
  · rw [e32, (xm_86_p h _).1]
    exact hY.2
/-- isFitting's contract (to be proved) -/
def xm_fd : Prop := ∀ {A : Nat → Nat} {h0 : g_H} {d : Nat} {M : xa_M} {post : Option xa_V → xa_M → Prop} {l u p : Int}, xm_Inv M → xm_way M → xm_fit M → 0 ≤ p → p < M 60 11 → (∀ (r : Int) (M1 : xa_M), (r = 0 ∨ r = 1) → (∀ q j, q ≠ 85 → q ≠ 86 → M1 q j = M q j) → post (some (0, 0, 0, 1, r)) M1) → xa_C xm_I A h0 (d + 3) 242 [(2, 60, 0, 0, 0), (0, 0, l, u, p)] M post
theorem ct_isF {A : Nat → Nat} {h0 : g_H} {d : Nat} {M : xa_M} {post : Option xa_V → xa_M → Prop} {l u p y : Int} (h242 : xm_fd) (hI : xm_Inv M) (hW : xm_W M y) (hp0 : 0 ≤ p) (hp1 : p < M 60 11) (k : ∀ (r : Int) (M1 : xa_M), (r = 0 ∨ r = 1) → xm_cor M M1 → M1 60 20 = M 60 20 → xm_W M1 y → xm_rk M1 (M1 60 32).toNat = xm_rk M (M 60 32).toNat → post (some (0, 0, 0, 1, r)) M1) : xa_C xm_I A h0 (d + 3) 242 [(2, 60, 0, 0, 0), (0, 0, l, u, p)] M post :=
  h242 hI hW.1 hW.2.1 hp0 hp1 (fun r M1 hr h => by
    have h86 : xm_86 M M1 := fun q j hq => h q j hq.1 hq.2.1
    refine k r M1 hr (fun q j hs => h q j (fun e => hs (by subst e; exact Or.inl (by decide))) (fun e => hs (by subst e; exact Or.inl (by decide)))) (h 60 20 (by decide) (by decide)) (xm_86_W h86 hW).1 (xm_86_W h86 hW).2)
theorem ct_nextW {A : Nat → Nat} {h0 : g_H} {d : Nat} {M : xa_M} {post : Option xa_V → xa_M → Prop} {y : Int} (hW : xm_W M y) (k : ∀ (r : Int) (M1 : xa_M), (r = 0 ∨ r = 1) → xm_cor M M1 → M1 60 20 = M 60 20 → (∀ z, z ≤ y + 1 → r = 1 → xm_W M1 z) → (r = 1 → xm_rk M1 (M1 60 32).toNat < xm_rk M (M 60 32).toNat) → post (some (0, 0, 0, 1, r)) M1) : xa_C xm_I A h0 (d + 1) 243 [(2, 60, 0, 0, 0)] M post :=
  ct_nextWay hW.2.1 (fun r M1 hr h84 hF hR => by
    have e32 := h84 60 32 (by decide)
    have e0 := h84 60 0 (by decide)
    refine k r M1 hr (xm_84_c h84) (h84 60 20 (by decide)) (fun z hz h1 => ⟨fun i i0 i1 => ?_, hF, ?_, ?_⟩) (fun h1 => ?_)
    · rw [e32] at i1
      rw [e0, h84 80 i (by decide)]
      exact hW.1 i i0 i1
    · rw [e32, xm_pr_84 h84]
      exact hW.2.2.1
    · have := hR h1
      have := hW.2.2.2
      rw [e32]
      omega
    · rw [e32]
      exact hR h1)
theorem ct_firstW {A : Nat → Nat} {h0 : g_H} {d : Nat} {M : xa_M} {post : Option xa_V → xa_M → Prop} (hI : xm_Inv M) (hY : xm_Y M) (k : ∀ (M1 : xa_M), xm_cor M M1 → M1 60 20 = M 60 20 → xm_W M1 0 → post none M1) : xa_C xm_I A h0 (d + 1) 241 [(2, 60, 0, 0, 0)] M post :=
  xa_C_asm (fun hM _ => ct_firstWay (fun M1 h84 ht => by
    have hw := hY.1
    have hp := hY.2
    have e32 := h84 60 32 (by decide)
    have e0 := h84 60 0 (by decide)
    have b32 := xm_f32 hM
    have hF : xm_fit M1 := fun i i0 i1 => by
      rw [e32] at i1
      rw [h84 80 i (by decide), h84 61 _ (by decide), h84 62 _ (by decide), ht i i0 i1]
      have := xm_way_sp hM hI hw i i0 i1
      omega
    have hb := xm_rkb hF (M1 60 32).toNat (by omega)
    have hp1 : xm_pr M1 (M1 60 32).toNat ≤ 200000 := by
      rw [e32, xm_pr_84 h84]
      exact hp
    refine k M1 (xm_84_c h84) (h84 60 20 (by decide)) ⟨fun i i0 i1 => ?_, hF, hp1, by omega⟩
    rw [e32] at i1
    rw [e0, h84 80 i (by decide)]
    exact hw i i0 i1))
theorem ct_countFits {A : Nat → Nat} {h0 : g_H} {d : Nat} {M : xa_M} {post : Option xa_V → xa_M → Prop} {l1 u1 : Int} {x1 : Int} (h242 : xm_fd) (hI : xm_Inv M) (hY : xm_Y M) (p0 : 0 ≤ x1) (p1 : x1 < M 60 11) (k : ∀ (M1 : xa_M), xm_cor M M1 → post none M1) : xa_C xm_I A h0 (d + 4) 246 [(2, 60, 0, 0, 0), (0, 0, l1, u1, x1)] M post := by
  refine xa_C_arg [(2, 60, 0, 0, 0), (0, 0, (-2147483648), 2147483647, x1)] (xa_svR (xa_svI (fun _ _ _ _ => by omega) xa_sv0)) ?_
  refine xa_meth (Q0 := (3, 0, false, 0, 0, 12)) (by decide +kernel) ⟨rfl, rfl⟩ (full := s_c_246) rfl rfl ?_
  intro hM hv Q hgo
  have loop1 : ∀ (n : Nat) (M1 : xa_M), xm_cor M M1 → xm_W M1 0 → xm_rk M1 (M1 60 32).toNat < (n : Int) → Q 33 [(1, (0, 0, (-2147483648), 2147483647, x1)), (0, (2, 60, 0, 0, 0))] [] M1 := by
    intro n
    induction n with
    | zero => intro M1 hc hW hms; exact absurd hms (by have := xm_W_rk hW; omega)
    | succ n ih1 =>
      intro M1 hc hW hms1
      refine hgo.2.2 _ _ _ _ (fun hM1 _ => ?_)
      have e11 := xm_corf hc 11 (by omega)
      have b32 := xm_f32 hM1
      have hrk := (xm_rkb hW.2.1 (M1 60 32).toNat (by omega)).1
      have hWs := hW.2.2.2
      obtain ⟨e, he⟩ : ∃ e, e = xm_rk M1 (M1 60 32).toNat := ⟨_, rfl⟩
      have loop2 : ∀ (n : Nat) (x2 : Int) (M1 : xa_M), 0 ≤ x2 ∧ x2 ≤ 14 → xm_cor M M1 → xm_W M1 0 → xm_rk M1 (M1 60 32).toNat = e → 14 - x2 < (n : Int) → Q 56 [(2, (0, 0, 0, 14, x2)), (1, (0, 0, (-2147483648), 2147483647, x1)), (0, (2, 60, 0, 0, 0))] [] M1 := by
        intro n
        induction n with
        | zero => intro x2 M1 b2 hc hW hrke hms; omega
        | succ n ih2 =>
          intro x2 M1 b2 hc hW hrke hms2
          refine hgo.2.2 _ _ _ _ (fun hM1 _ => ?_)
          have e11 := xm_corf hc 11 (by omega)
          have b32 := xm_f32 hM1
          have hrk := (xm_rkb hW.2.1 (M1 60 32).toNat (by omega)).1
          have hWs := hW.2.2.2
          have t84 : x2 < M1 60 32 → 0 ≤ M1 84 x2 ∧ M1 84 x2 ≤ 400 := fun h => xm_t84 hM1 x2 (by omega) (by omega)
          refine hgo.1 26 [2, 33, 56] 56 _ _ _ ?_
          refine And.intro ?_ ?_
          · intro (c1 : (M1 60 32) ≤ x2)
            show xa_C xm_I A h0 _ 243 [(2, 60, 0, 0, 0)] M1 _
            refine xa_C_mok (ct_nextW hW (fun v2 M2 z2 hc2 e2 wN2 rk2 hM2 => ?_))
            refine And.intro ?_ ?_
            · intro (c3 : ¬ v2 = 0)
              show Q 33 [(2, (0, 0, 0, 14, x2)), (1, (0, 0, (-2147483648), 2147483647, x1)), (0, (2, 60, 0, 0, 0))] [] M2
              refine hgo.2.1 33 _ [(1, (0, 0, (-2147483648), 2147483647, x1)), (0, (2, 60, 0, 0, 0))] _ _ (xa_subI rfl rfl (fun _ _ _ _ => by omega) (xa_subR rfl xa_sub0)) ?_
              exact ih1 M2 (xm_cor_t hc hc2) (wN2 _ (by omega) (by omega)) (by omega)
            · intro (c3 : v2 = 0)
              show post none M2
              exact k _ (xm_cor_t hc hc2)
          · intro (c1 : x2 < (M1 60 32))
            refine And.intro (show 0 ≤ x2 ∧ x2 < 14 by omega) ?_
            refine And.intro (show 0 ≤ ((401 * x2) + (M1 84 x2)) ∧ ((401 * x2) + (M1 84 x2)) < 5614 by omega) ?_
            refine And.intro (show 0 ≤ ((401 * x2) + (M1 84 x2)) ∧ ((401 * x2) + (M1 84 x2)) < 5614 by omega) ?_
            show Q 56 [(2, (0, 0, 1, 15, x2 + 1)), (1, (0, 0, (-2147483648), 2147483647, x1)), (0, (2, 60, 0, 0, 0))] [] (xa_up M1 87 ((401 * x2) + (M1 84 x2)) (xa_w32 ((M1 87 ((401 * x2) + (M1 84 x2))) + 1)))
            refine hgo.2.1 56 _ [(2, (0, 0, 0, 14, x2 + 1)), (1, (0, 0, (-2147483648), 2147483647, x1)), (0, (2, 60, 0, 0, 0))] _ _ (xa_subI rfl rfl (fun _ _ _ _ => by omega) (xa_subI rfl rfl (fun _ _ _ _ => by omega) (xa_subR rfl xa_sub0))) ?_
            exact ih2 (x2 + 1) (xa_up M1 87 ((401 * x2) + (M1 84 x2)) (xa_w32 ((M1 87 ((401 * x2) + (M1 84 x2))) + 1))) (by omega) (xm_cor_a rfl hc) (xm_86_W (xm_86_s (by omega)) hW).1 ((xm_86_W (xm_86_s (by omega)) hW).2.trans hrke) (by omega)
      refine hgo.1 17 [2, 33, 56] 33 _ _ _ ?_
      show xa_C xm_I A h0 _ 242 [(2, 60, 0, 0, 0), (0, 0, (-2147483648), 2147483647, x1)] M1 _
      refine xa_C_mok (ct_isF h242 (xm_Inv_cor hc hI) hW (by omega) (by omega) (fun v1 M1 z1 hc1 e1 wF1 rk1 hM1 => ?_))
      refine And.intro ?_ ?_
      · intro (c2 : ¬ v1 = 0)
        show Q 56 [(2, (0, 0, 0, 0, 0)), (1, (0, 0, (-2147483648), 2147483647, x1)), (0, (2, 60, 0, 0, 0))] [] (xa_up M1 60 39 (xa_w32 ((M1 60 39) + 1)))
        refine hgo.2.1 56 _ [(2, (0, 0, 0, 14, 0)), (1, (0, 0, (-2147483648), 2147483647, x1)), (0, (2, 60, 0, 0, 0))] _ _ (xa_subI rfl rfl (fun _ _ _ _ => by omega) (xa_subI rfl rfl (fun _ _ _ _ => by omega) (xa_subR rfl xa_sub0))) ?_
        exact loop2 15 0 (xa_up M1 60 39 (xa_w32 ((M1 60 39) + 1))) (by omega) (xm_cor_f (by omega) (xm_cor_t hc hc1)) (xm_86_W (xm_86_s (by omega)) wF1).1 ((xm_86_W (xm_86_s (by omega)) wF1).2.trans (rk1.trans he.symm)) (by omega)
      · intro (c2 : v1 = 0)
        show xa_C xm_I A h0 _ 243 [(2, 60, 0, 0, 0)] M1 _
        refine xa_C_mok (ct_nextW wF1 (fun v3 M3 z3 hc3 e3 wN3 rk3 hM3 => ?_))
        refine And.intro ?_ ?_
        · intro (c4 : ¬ v3 = 0)
          show Q 33 [(1, (0, 0, (-2147483648), 2147483647, x1)), (0, (2, 60, 0, 0, 0))] [] M3
          refine hgo.2.1 33 _ [(1, (0, 0, (-2147483648), 2147483647, x1)), (0, (2, 60, 0, 0, 0))] _ _ (xa_subI rfl rfl (fun _ _ _ _ => by omega) (xa_subR rfl xa_sub0)) ?_
          exact ih1 M3 (xm_cor_t (xm_cor_t hc hc1) hc3) (wN3 _ (by omega) (by omega)) (by omega)
        · intro (c4 : v3 = 0)
          show post none M3
          exact k _ (xm_cor_t (xm_cor_t hc hc1) hc3)
  have loop0 : ∀ (n : Nat) (x2 : Int) (M1 : xa_M), 0 ≤ x2 ∧ x2 ≤ 5614 → xm_cor M M1 → xm_Y M1 → 5614 - x2 < (n : Int) → Q 2 [(2, (0, 0, 0, 5614, x2)), (1, (0, 0, (-2147483648), 2147483647, x1)), (0, (2, 60, 0, 0, 0))] [] M1 := by
    intro n
    induction n with
    | zero => intro x2 M1 b2 hc hY hms; omega
    | succ n ih0 =>
      intro x2 M1 b2 hc hY hms0
      have e11 := xm_corf hc 11 (by omega)
      refine hgo.1 17 [2, 33, 56] 2 _ _ _ ?_
      refine And.intro ?_ ?_
      · intro (c1 : 5614 ≤ x2)
        show xa_C xm_I A h0 _ 241 [(2, 60, 0, 0, 0)] (xa_up M1 60 39 0) _
        refine xa_C_mok (ct_firstW (xm_Inv_cor (xm_cor_f (by omega) hc) hI) (xm_86_Y (xm_86_s (by omega)) hY) (fun M2 hc2 e2 wA2 hM2 => ?_))
        have w2 := wA2.2.2.2
        show Q 33 [(2, (0, 0, 0, 5614, x2)), (1, (0, 0, (-2147483648), 2147483647, x1)), (0, (2, 60, 0, 0, 0))] [] M2
        refine hgo.2.1 33 _ [(1, (0, 0, (-2147483648), 2147483647, x1)), (0, (2, 60, 0, 0, 0))] _ _ (xa_subI rfl rfl (fun _ _ _ _ => by omega) (xa_subR rfl xa_sub0)) ?_
        exact loop1 200000 M2 (xm_cor_t (xm_cor_f (by omega) hc) hc2) wA2 (by omega)
      · intro (c1 : x2 < 5614)
        refine And.intro (show 0 ≤ x2 ∧ x2 < 5614 by omega) ?_
        show Q 2 [(2, (0, 0, 1, 5615, x2 + 1)), (1, (0, 0, (-2147483648), 2147483647, x1)), (0, (2, 60, 0, 0, 0))] [] (xa_up M1 87 x2 0)
        refine hgo.2.1 2 _ [(2, (0, 0, 0, 5614, x2 + 1)), (1, (0, 0, (-2147483648), 2147483647, x1)), (0, (2, 60, 0, 0, 0))] _ _ (xa_subI rfl rfl (fun _ _ _ _ => by omega) (xa_subI rfl rfl (fun _ _ _ _ => by omega) (xa_subR rfl xa_sub0))) ?_
        exact ih0 (x2 + 1) (xa_up M1 87 x2 0) (by omega) (xm_cor_a rfl hc) (xm_86_Y (xm_86_s (by omega)) hY) (by omega)
  refine hgo.1 7 [2, 33, 56] 0 _ _ _ ?_
  show Q 2 [(2, (0, 0, 0, 0, 0)), (0, (2, 60, 0, 0, 0)), (1, (0, 0, (-2147483648), 2147483647, x1))] [] M
  refine hgo.2.1 2 _ [(2, (0, 0, 0, 5614, 0)), (1, (0, 0, (-2147483648), 2147483647, x1)), (0, (2, 60, 0, 0, 0))] _ _ (xa_subI rfl rfl (fun _ _ _ _ => by omega) (xa_subI rfl rfl (fun _ _ _ _ => by omega) (xa_subR rfl xa_sub0))) ?_
  exact loop0 5615 0 M (by omega) xm_cor_r hY (by omega)
end
section
-- may of the model, told isFitting (made by wip/p24/xa/xm19.py)
set_option maxRecDepth 20000
theorem ms_may {A : Nat → Nat} {h0 : g_H} {d : Nat} {M : xa_M} {post : Option xa_V → xa_M → Prop} {l1 u1 : Int} {a : Int} (h242 : xm_fd) (hI : xm_Inv M) (k : ∀ (o : Option xa_V) (M1 : xa_M), xm_cor M M1 → post o M1) : xa_C xm_I A h0 (d + 4) 247 [(2, 60, 0, 0, 0), (0, 0, l1, u1, a)] M post := by
  refine xa_C_arg [(2, 60, 0, 0, 0), (0, 0, (-2147483648), 2147483647, a)] (xa_svR (xa_svI (fun _ _ _ _ => by omega) xa_sv0)) ?_
  refine xa_meth (Q0 := (4, 1, false, 0, 0, 12)) (by decide +kernel) ⟨rfl, rfl⟩ (full := s_c_247) rfl rfl ?_
  intro hM hv Q hgo
  have loop0 : ∀ (n : Nat) (x2 : Int) (M1 : xa_M), xm_cor M M1 → xm_W M1 0 → xm_rk M1 (M1 60 32).toNat < (n : Int) → Q 44 [(2, (0, 0, (-2147483648), 2147483647, x2)), (0, (2, 60, 0, 0, 0))] [] M1 := by
    intro n
    induction n with
    | zero => intro x2 M1 hc hW hms; exact absurd hms (by have := xm_W_rk hW; omega)
    | succ n ih0 =>
      intro x2 M1 hc hW hms0
      refine hgo.2.2 _ _ _ _ (fun hM1 _ => ?_)
      have e11 := xm_corf hc 11 (by omega)
      have b11 := xm_f11 hM1
      have b32 := xm_f32 hM1
      have hrk := (xm_rkb hW.2.1 (M1 60 32).toNat (by omega)).1
      have hWs := hW.2.2.2
      obtain ⟨e, he⟩ : ∃ e, e = xm_rk M1 (M1 60 32).toNat := ⟨_, rfl⟩
      have loop1 : ∀ (n : Nat) (x3 x2 : Int) (M1 : xa_M), 0 ≤ x3 ∧ x3 ≤ 8 → xm_cor M M1 → xm_W M1 0 → xm_rk M1 (M1 60 32).toNat = e → 8 - x3 < (n : Int) → Q 46 [(3, (0, 0, 0, 8, x3)), (2, (0, 0, (-2147483648), 2147483647, x2)), (0, (2, 60, 0, 0, 0))] [] M1 := by
        intro n
        induction n with
        | zero => intro x3 x2 M1 b3 hc hW hrke hms; omega
        | succ n ih1 =>
          intro x3 x2 M1 b3 hc hW hrke hms1
          refine hgo.2.2 _ _ _ _ (fun hM1 _ => ?_)
          have e11 := xm_corf hc 11 (by omega)
          have b11 := xm_f11 hM1
          have b32 := xm_f32 hM1
          have hrk := (xm_rkb hW.2.1 (M1 60 32).toNat (by omega)).1
          have hWs := hW.2.2.2
          refine hgo.1 25 [44, 46] 46 _ _ _ ?_
          refine And.intro ?_ ?_
          · intro (c1 : (M1 60 11) ≤ x3)
            show xa_C xm_I A h0 _ 243 [(2, 60, 0, 0, 0)] M1 _
            refine xa_C_mok (ct_nextW hW (fun v2 M2 z2 hc2 e2 wN2 rk2 hM2 => ?_))
            refine And.intro ?_ ?_
            · intro (c3 : ¬ v2 = 0)
              show Q 44 [(3, (0, 0, 0, 8, x3)), (2, (0, 0, (-2147483648), 2147483647, x2)), (0, (2, 60, 0, 0, 0))] [] M2
              refine hgo.2.1 44 _ [(2, (0, 0, (-2147483648), 2147483647, x2)), (0, (2, 60, 0, 0, 0))] _ _ (xa_subI rfl rfl (fun _ _ _ _ => by omega) (xa_subR rfl xa_sub0)) ?_
              exact ih0 x2 M2 (xm_cor_t hc hc2) (wN2 _ (by omega) (by omega)) (by omega)
            · intro (c3 : v2 = 0)
              show post (some (0, 0, (-2147483648), 2147483647, x2)) M2
              exact k _ _ (xm_cor_t hc hc2)
          · intro (c1 : x3 < (M1 60 11))
            show xa_C xm_I A h0 _ 248 [(0, 0, (-2147483648), 2147483647, x2), (0, 0, 0, 8, x3)] M1 _
            refine ct_has (fun r4 zr4 er4 => ?_)
            refine And.intro ?_ ?_
            · intro (c5 : ¬ r4 = 0)
              show Q 46 [(3, (0, 0, 1, 9, x3 + 1)), (2, (0, 0, (-2147483648), 2147483647, x2)), (0, (2, 60, 0, 0, 0))] [] M1
              refine hgo.2.1 46 _ [(3, (0, 0, 0, 8, x3 + 1)), (2, (0, 0, (-2147483648), 2147483647, x2)), (0, (2, 60, 0, 0, 0))] _ _ (xa_subI rfl rfl (fun _ _ _ _ => by omega) (xa_subI rfl rfl (fun _ _ _ _ => by omega) (xa_subR rfl xa_sub0))) ?_
              exact ih1 (x3 + 1) x2 M1 (by omega) hc hW (by omega) (by omega)
            · intro (c5 : r4 = 0)
              show xa_C xm_I A h0 _ 242 [(2, 60, 0, 0, 0), (0, 0, 0, 8, x3)] M1 _
              refine xa_C_mok (ct_isF h242 (xm_Inv_cor hc hI) hW (by omega) (by omega) (fun v6 M6 z6 hc6 e6 wF6 rk6 hM6 => ?_))
              refine And.intro ?_ ?_
              · intro (c7 : v6 = 0)
                show Q 46 [(3, (0, 0, 1, 9, x3 + 1)), (2, (0, 0, (-2147483648), 2147483647, x2)), (0, (2, 60, 0, 0, 0))] [] M6
                refine hgo.2.1 46 _ [(3, (0, 0, 0, 8, x3 + 1)), (2, (0, 0, (-2147483648), 2147483647, x2)), (0, (2, 60, 0, 0, 0))] _ _ (xa_subI rfl rfl (fun _ _ _ _ => by omega) (xa_subI rfl rfl (fun _ _ _ _ => by omega) (xa_subR rfl xa_sub0))) ?_
                exact ih1 (x3 + 1) x2 M6 (by omega) (xm_cor_t hc hc6) wF6 (rk6.trans hrke) (by omega)
              · intro (c7 : ¬ v6 = 0)
                show Q 46 [(3, (0, 0, 1, 9, x3 + 1)), (2, (0, 0, (-2147483648), 2147483647, xa_ib 4 x2 (xa_ib 6 1 x3))), (0, (2, 60, 0, 0, 0))] [] M6
                refine hgo.2.1 46 _ [(3, (0, 0, 0, 8, x3 + 1)), (2, (0, 0, (-2147483648), 2147483647, xa_ib 4 x2 (xa_ib 6 1 x3))), (0, (2, 60, 0, 0, 0))] _ _ (xa_subI rfl rfl (fun _ _ _ _ => by omega) (xa_subI rfl rfl (fun _ _ _ _ => by omega) (xa_subR rfl xa_sub0))) ?_
                exact ih1 (x3 + 1) (xa_ib 4 x2 (xa_ib 6 1 x3)) M6 (by omega) (xm_cor_t hc hc6) wF6 (rk6.trans hrke) (by omega)
      refine hgo.1 7 [44, 46] 44 _ _ _ ?_
      show Q 46 [(3, (0, 0, 0, 0, 0)), (2, (0, 0, (-2147483648), 2147483647, x2)), (0, (2, 60, 0, 0, 0))] [] M1
      refine hgo.2.1 46 _ [(3, (0, 0, 0, 8, 0)), (2, (0, 0, (-2147483648), 2147483647, x2)), (0, (2, 60, 0, 0, 0))] _ _ (xa_subI rfl rfl (fun _ _ _ _ => by omega) (xa_subI rfl rfl (fun _ _ _ _ => by omega) (xa_subR rfl xa_sub0))) ?_
      exact loop1 9 0 x2 M1 (by omega) hc hW (by omega) (by omega)
  refine hgo.1 24 [44, 46] 0 _ _ _ ?_
  show xa_C xm_I A h0 _ 214 [(0, 0, (-2147483648), 2147483647, a), (0, 0, 1, 1, 1), (0, 0, 9, 9, 9)] (xa_up M 60 21 0) _
  refine ct_in ?_ ?_
  · intro (i1 : 1 ≤ a ∧ a ≤ 9)
    show xa_C xm_I A h0 _ 236 [(2, 60, 0, 0, 0), (0, 0, (-2147483648), 2147483647, a)] (xa_up M 60 21 0) _
    refine xa_C_mok (ct_findWay (xm_Inv_cor (xm_cor_f (by omega) xm_cor_r) hI) (by omega) (by omega) (fun v2 M2 hv2 hc2 hw2 hM2 => ?_))
    refine And.intro ?_ ?_
    · intro (c3 : ¬ v2 = 0)
      show xa_C xm_I A h0 _ 240 [(2, 60, 0, 0, 0)] M2 _
      refine ct_areTooMany (xm_Inv_cor (xm_cor_t (xm_cor_f (by omega) xm_cor_r) hc2) hI) (hw2 (by omega)) (fun r4 zr4 yr4 => ?_)
      refine And.intro ?_ ?_
      · intro (c5 : r4 = 0)
        show xa_C xm_I A h0 _ 241 [(2, 60, 0, 0, 0)] M2 _
        refine xa_C_mok (ct_firstW (xm_Inv_cor (xm_cor_t (xm_cor_f (by omega) xm_cor_r) hc2) hI) ⟨hw2 (by omega), yr4 (by omega)⟩ (fun M6 hc6 e6 wA6 hM6 => ?_))
        have w2 := wA6.2.2.2
        show Q 44 [(2, (0, 0, 0, 0, 0)), (0, (2, 60, 0, 0, 0)), (1, (0, 0, (-2147483648), 2147483647, a))] [] M6
        refine hgo.2.1 44 _ [(2, (0, 0, (-2147483648), 2147483647, 0)), (0, (2, 60, 0, 0, 0))] _ _ (xa_subI rfl rfl (fun _ _ _ _ => by omega) (xa_subR rfl xa_sub0)) ?_
        exact loop0 200000 0 M6 (xm_cor_t (xm_cor_t (xm_cor_f (by omega) xm_cor_r) hc2) hc6) wA6 (by omega)
      · intro (c5 : ¬ r4 = 0)
        show post (some (0, 0, (-4), (-4), (-4))) M2
        exact k _ _ (xm_cor_t (xm_cor_f (by omega) xm_cor_r) hc2)
    · intro (c3 : v2 = 0)
      show post (some (0, 0, (-2), (-2), (-2))) M2
      exact k _ _ (xm_cor_t (xm_cor_f (by omega) xm_cor_r) hc2)
  · intro (i1 : ¬ (1 ≤ a ∧ a ≤ 9))
    show post (some (0, 0, (-1), (-1), (-1))) (xa_up M 60 21 0)
    exact k _ _ (xm_cor_f (by omega) xm_cor_r)
theorem ms_next {A : Nat → Nat} {h0 : g_H} {d : Nat} {M : xa_M} {post : Option xa_V → xa_M → Prop} {l1 u1 l2 u2 : Int} {a x2 : Int} (h242 : xm_fd) (hI : xm_Inv M) (k : ∀ (o : Option xa_V) (M1 : xa_M), xm_cor M M1 → post o M1) : xa_C xm_I A h0 (d + 5) 249 [(2, 60, 0, 0, 0), (0, 0, l1, u1, a), (0, 0, l2, u2, x2)] M post := by
  refine xa_C_arg [(2, 60, 0, 0, 0), (0, 0, (-2147483648), 2147483647, a), (0, 0, (-2147483648), 2147483647, x2)] (xa_svR (xa_svI (fun _ _ _ _ => by omega) (xa_svI (fun _ _ _ _ => by omega) xa_sv0))) ?_
  refine xa_meth (Q0 := (9, 1, false, 0, 0, 12)) (by decide +kernel) ⟨rfl, rfl⟩ (full := s_c_249) rfl rfl ?_
  intro hM hv Q hgo
  have loop0 : ∀ (n : Nat) (x6 x5 x4 : Int) (M1 : xa_M), 0 ≤ x6 ∧ x6 ≤ 14 → (-1) ≤ x4 ∧ x4 ≤ 13 → xm_cor M M1 → 14 - x6 < (n : Int) → Q 42 [(6, (0, 0, 0, 14, x6)), (5, (0, 0, (-2147483648), 2147483647, x5)), (4, (0, 0, (-1), 13, x4)), (0, (2, 60, 0, 0, 0))] [] M1 := by
    intro n
    induction n with
    | zero => intro x6 x5 x4 M1 b6 b4 hc hms; omega
    | succ n ih0 =>
      intro x6 x5 x4 M1 b6 b4 hc hms0
      refine hgo.2.2 _ _ _ _ (fun hM1 _ => ?_)
      have b32 := xm_f32 hM1
      have t80 : x6 < 14 → 0 ≤ M1 80 x6 ∧ M1 80 x6 ≤ 13 := fun h => xm_t80 hM1 x6 (by omega) h
      obtain ⟨n0, hn0⟩ : ∃ n0, n0 = n := ⟨_, rfl⟩
      have loop1 : ∀ (n : Nat) (x8 x7 x6 x5 x4 : Int) (M1 : xa_M), 0 ≤ x8 ∧ x8 ≤ 401 → 0 ≤ x6 ∧ x6 ≤ 13 → (-1) ≤ x4 ∧ x4 ≤ 13 → xm_cor M M1 → 13 - x6 < (n0 : Int) → 401 - x8 < (n : Int) → Q 57 [(8, (0, 0, 0, 401, x8)), (7, (0, 0, (-2147483648), 2147483647, x7)), (6, (0, 0, 0, 13, x6)), (5, (0, 0, (-2147483648), 2147483647, x5)), (4, (0, 0, (-1), 13, x4)), (0, (2, 60, 0, 0, 0))] [] M1 := by
        intro n
        induction n with
        | zero => intro x8 x7 x6 x5 x4 M1 b8 b6 b4 hc hn6 hms; omega
        | succ n ih1 =>
          intro x8 x7 x6 x5 x4 M1 b8 b6 b4 hc hn6 hms1
          refine hgo.2.2 _ _ _ _ (fun hM1 _ => ?_)
          have t80 := xm_t80 hM1 x6 (by omega) (by omega)
          refine hgo.1 23 [42, 57] 57 _ _ _ ?_
          refine And.intro ?_ ?_
          · intro (c1 : 400 < x8)
            refine And.intro ?_ ?_
            · intro (c2 : x4 = (-1))
              show Q 42 [(6, (0, 0, 1, 14, x6 + 1)), (5, (0, 0, (-2147483648), 2147483647, x7)), (4, (0, 0, 0, 13, M1 80 x6)), (8, (0, 0, 0, 401, x8)), (7, (0, 0, (-2147483648), 2147483647, x7)), (0, (2, 60, 0, 0, 0))] [] M1
              refine hgo.2.1 42 _ [(6, (0, 0, 0, 14, x6 + 1)), (5, (0, 0, (-2147483648), 2147483647, x7)), (4, (0, 0, (-1), 13, M1 80 x6)), (0, (2, 60, 0, 0, 0))] _ _ (xa_subI rfl rfl (fun _ _ _ _ => by omega) (xa_subI rfl rfl (fun _ _ _ _ => by omega) (xa_subI rfl rfl (fun _ _ _ _ => by omega) (xa_subR rfl xa_sub0)))) ?_
              exact ih0 (x6 + 1) x7 (M1 80 x6) M1 (by omega) (by omega) hc (by omega)
            · intro (c2 : ¬ x4 = (-1))
              refine And.intro ?_ ?_
              · intro (c3 : x7 < x5)
                show Q 42 [(6, (0, 0, 1, 14, x6 + 1)), (5, (0, 0, (-2147483648), 2147483647, x7)), (4, (0, 0, 0, 13, M1 80 x6)), (8, (0, 0, 0, 401, x8)), (7, (0, 0, (-2147483648), 2147483647, x7)), (0, (2, 60, 0, 0, 0))] [] M1
                refine hgo.2.1 42 _ [(6, (0, 0, 0, 14, x6 + 1)), (5, (0, 0, (-2147483648), 2147483647, x7)), (4, (0, 0, (-1), 13, M1 80 x6)), (0, (2, 60, 0, 0, 0))] _ _ (xa_subI rfl rfl (fun _ _ _ _ => by omega) (xa_subI rfl rfl (fun _ _ _ _ => by omega) (xa_subI rfl rfl (fun _ _ _ _ => by omega) (xa_subR rfl xa_sub0)))) ?_
                exact ih0 (x6 + 1) x7 (M1 80 x6) M1 (by omega) (by omega) hc (by omega)
              · intro (c3 : x5 ≤ x7)
                show Q 42 [(6, (0, 0, 1, 14, x6 + 1)), (8, (0, 0, 0, 401, x8)), (7, (0, 0, (-2147483648), 2147483647, x7)), (5, (0, 0, (-2147483648), 2147483647, x5)), (4, (0, 0, (-1), 13, x4)), (0, (2, 60, 0, 0, 0))] [] M1
                refine hgo.2.1 42 _ [(6, (0, 0, 0, 14, x6 + 1)), (5, (0, 0, (-2147483648), 2147483647, x5)), (4, (0, 0, (-1), 13, x4)), (0, (2, 60, 0, 0, 0))] _ _ (xa_subI rfl rfl (fun _ _ _ _ => by omega) (xa_subI rfl rfl (fun _ _ _ _ => by omega) (xa_subI rfl rfl (fun _ _ _ _ => by omega) (xa_subR rfl xa_sub0)))) ?_
                exact ih0 (x6 + 1) x5 x4 M1 (by omega) (by omega) hc (by omega)
          · intro (c1 : x8 ≤ 400)
            refine And.intro (show 0 ≤ ((401 * x6) + x8) ∧ ((401 * x6) + x8) < 5614 by omega) ?_
            show xa_C xm_I A h0 _ 35 [(0, 0, (-2147483648), 2147483647, x7), (0, 0, (-2147483648), 2147483647, M1 87 ((401 * x6) + x8))] M1 _
            refine ct_max (-2147483648) 2147483647 (by decide) (by decide) (by decide) (fun r4 br4 er4 => ?_)
            show Q 57 [(8, (0, 0, 1, 402, x8 + 1)), (7, (0, 0, (-2147483648), 2147483647, r4)), (6, (0, 0, 0, 13, x6)), (5, (0, 0, (-2147483648), 2147483647, x5)), (4, (0, 0, (-1), 13, x4)), (0, (2, 60, 0, 0, 0))] [] M1
            refine hgo.2.1 57 _ [(8, (0, 0, 0, 401, x8 + 1)), (7, (0, 0, (-2147483648), 2147483647, r4)), (6, (0, 0, 0, 13, x6)), (5, (0, 0, (-2147483648), 2147483647, x5)), (4, (0, 0, (-1), 13, x4)), (0, (2, 60, 0, 0, 0))] _ _ (xa_subI rfl rfl (fun _ _ _ _ => by omega) (xa_subI rfl rfl (fun _ _ _ _ => by omega) (xa_subI rfl rfl (fun _ _ _ _ => by omega) (xa_subI rfl rfl (fun _ _ _ _ => by omega) (xa_subI rfl rfl (fun _ _ _ _ => by omega) (xa_subR rfl xa_sub0)))))) ?_
            exact ih1 (x8 + 1) r4 x6 x5 x4 M1 (by omega) (by omega) (by omega) hc (by omega) (by omega)
      refine hgo.1 17 [42, 57] 42 _ _ _ ?_
      refine And.intro ?_ ?_
      · intro (c1 : (M1 60 32) ≤ x6)
        show xa_C xm_I A h0 _ 231 [(2, 60, 0, 0, 0), (1, 0, (-2147483648), 2147483647, x5)] (xa_up M1 60 20 0) _
        refine ct_tell (n := 0) (by first | rfl | (simp [xa_up]; done) | omega) (by omega) (by omega) ?_
        show post (some (0, 0, (-1), 13, x4)) (xa_up (xa_up (xa_up M1 60 20 0) 74 0 x5) 60 20 1)
        exact k _ _ (xm_cor_f (by omega) (xm_cor_a rfl (xm_cor_f (by omega) hc)))
      · intro (c1 : x6 < (M1 60 32))
        show Q 57 [(8, (0, 0, 0, 0, 0)), (7, (0, 0, 0, 0, 0)), (6, (0, 0, 0, 14, x6)), (5, (0, 0, (-2147483648), 2147483647, x5)), (4, (0, 0, (-1), 13, x4)), (0, (2, 60, 0, 0, 0))] [] M1
        refine hgo.2.1 57 _ [(8, (0, 0, 0, 401, 0)), (7, (0, 0, (-2147483648), 2147483647, 0)), (6, (0, 0, 0, 13, x6)), (5, (0, 0, (-2147483648), 2147483647, x5)), (4, (0, 0, (-1), 13, x4)), (0, (2, 60, 0, 0, 0))] _ _ (xa_subI rfl rfl (fun _ _ _ _ => by omega) (xa_subI rfl rfl (fun _ _ _ _ => by omega) (xa_subI rfl rfl (fun _ _ _ _ => by omega) (xa_subI rfl rfl (fun _ _ _ _ => by omega) (xa_subI rfl rfl (fun _ _ _ _ => by omega) (xa_subR rfl xa_sub0)))))) ?_
        exact loop1 402 0 0 x6 x5 x4 M1 (by omega) (by omega) (by omega) hc (by omega) (by omega)
  refine hgo.1 27 [42, 57] 0 _ _ _ ?_
  show xa_C xm_I A h0 _ 238 [(2, 60, 0, 0, 0), (0, 0, (-2147483648), 2147483647, a), (0, 0, (-2147483648), 2147483647, x2)] (xa_up M 60 21 0) _
  refine xa_C_mok (ct_ready (xm_Inv_cor (xm_cor_f (by omega) xm_cor_r) hI) (fun v1 M1 z1 hc1 hr1 hM1 => ?_))
  refine And.intro ?_ ?_
  · intro (c2 : 0 ≤ v1)
    show xa_C xm_I A h0 _ 246 [(2, 60, 0, 0, 0), (0, 0, (-2147483648), 2147483647, x2)] M1 _
    refine xa_C_mok (ct_countFits h242 (xm_Inv_cor (xm_cor_t (xm_cor_f (by omega) xm_cor_r) hc1) hI) ⟨(hr1 (by omega)).1, (hr1 (by omega)).2.1⟩ (by have q := (hr1 (by omega)).2.2; have e := xm_corf (xm_cor_t (xm_cor_f (by omega) xm_cor_r) hc1) 11 (by omega); simp [xa_up] at q; omega) (by have q := (hr1 (by omega)).2.2; have e := xm_corf (xm_cor_t (xm_cor_f (by omega) xm_cor_r) hc1) 11 (by omega); simp [xa_up] at q; omega) (fun M3 hc3 hM3 => ?_))
    refine And.intro ?_ ?_
    · intro (c4 : ¬ (M3 60 39) = 0)
      show Q 42 [(6, (0, 0, 0, 0, 0)), (5, (0, 0, 0, 0, 0)), (4, (0, 0, (-1), (-1), (-1))), (3, (0, 0, (-4), 0, v1)), (0, (2, 60, 0, 0, 0)), (1, (0, 0, (-2147483648), 2147483647, a)), (2, (0, 0, (-2147483648), 2147483647, x2))] [] M3
      refine hgo.2.1 42 _ [(6, (0, 0, 0, 14, 0)), (5, (0, 0, (-2147483648), 2147483647, 0)), (4, (0, 0, (-1), 13, (-1))), (0, (2, 60, 0, 0, 0))] _ _ (xa_subI rfl rfl (fun _ _ _ _ => by omega) (xa_subI rfl rfl (fun _ _ _ _ => by omega) (xa_subI rfl rfl (fun _ _ _ _ => by omega) (xa_subR rfl xa_sub0)))) ?_
      exact loop0 15 0 0 (-1) M3 (by omega) (by omega) (xm_cor_t (xm_cor_t (xm_cor_f (by omega) xm_cor_r) hc1) hc3) (by omega)
    · intro (c4 : (M3 60 39) = 0)
      show post (some (0, 0, (-2), (-2), (-2))) M3
      exact k _ _ (xm_cor_t (xm_cor_t (xm_cor_f (by omega) xm_cor_r) hc1) hc3)
  · intro (c2 : v1 < 0)
    show post (some (0, 0, (-4), 0, v1)) M1
    exact k _ _ (xm_cor_t (xm_cor_f (by omega) xm_cor_r) hc1)
theorem ms_sure {A : Nat → Nat} {h0 : g_H} {d : Nat} {M : xa_M} {post : Option xa_V → xa_M → Prop} {l1 u1 l2 u2 l3 u3 : Int} {a x2 x3 : Int} (h242 : xm_fd) (hI : xm_Inv M) (k : ∀ (o : Option xa_V) (M1 : xa_M), xm_cor M M1 → post o M1) : xa_C xm_I A h0 (d + 5) 245 [(2, 60, 0, 0, 0), (0, 0, l1, u1, a), (0, 0, l2, u2, x2), (0, 0, l3, u3, x3)] M post := by
  refine xa_C_arg [(2, 60, 0, 0, 0), (0, 0, (-2147483648), 2147483647, a), (0, 0, (-2147483648), 2147483647, x2), (0, 0, (-2147483648), 2147483647, x3)] (xa_svR (xa_svI (fun _ _ _ _ => by omega) (xa_svI (fun _ _ _ _ => by omega) (xa_svI (fun _ _ _ _ => by omega) xa_sv0)))) ?_
  refine xa_meth (Q0 := (10, 1, false, 0, 0, 12)) (by decide +kernel) ⟨rfl, rfl⟩ (full := s_c_245) rfl rfl ?_
  intro hM hv Q hgo
  have loop1 : ∀ (n : Nat) (x9 x8 x7 x6 x5 : Int) (M1 : xa_M), 0 ≤ x9 ∧ x9 ≤ 401 → 0 ≤ x5 ∧ x5 ≤ 13 → xm_cor M M1 → 401 - x9 < (n : Int) → Q 113 [(9, (0, 0, 0, 401, x9)), (8, (0, 0, (-2147483648), 2147483647, x8)), (7, (0, 0, (-2147483648), 2147483647, x7)), (6, (0, 0, (-2147483648), 2147483647, x6)), (5, (0, 0, 0, 13, x5)), (0, (2, 60, 0, 0, 0))] [] M1 := by
    intro n
    induction n with
    | zero => intro x9 x8 x7 x6 x5 M1 b9 b5 hc hms; omega
    | succ n ih1 =>
      intro x9 x8 x7 x6 x5 M1 b9 b5 hc hms1
      refine hgo.1 28 [35, 113] 113 _ _ _ ?_
      refine And.intro ?_ ?_
      · intro (c1 : 400 < x9)
        show xa_C xm_I A h0 _ 231 [(2, 60, 0, 0, 0), (1, 0, (-2147483648), 2147483647, x6)] (xa_up M1 60 20 0) _
        refine ct_tell (n := 0) (by first | rfl | (simp [xa_up]; done) | omega) (by omega) (by omega) ?_
        show xa_C xm_I A h0 _ 231 [(2, 60, 0, 0, 0), (1, 0, (-2147483648), 2147483647, x7)] (xa_up (xa_up (xa_up M1 60 20 0) 74 0 x6) 60 20 1) _
        refine ct_tell (n := 1) (by first | rfl | (simp [xa_up]; done) | omega) (by omega) (by omega) ?_
        show xa_C xm_I A h0 _ 231 [(2, 60, 0, 0, 0), (1, 0, (-2147483648), 2147483647, x8)] (xa_up (xa_up (xa_up (xa_up (xa_up M1 60 20 0) 74 0 x6) 60 20 1) 74 1 x7) 60 20 2) _
        refine ct_tell (n := 2) (by first | rfl | (simp [xa_up]; done) | omega) (by omega) (by omega) ?_
        show post (some (0, 0, 0, 0, 0)) (xa_up (xa_up (xa_up (xa_up (xa_up (xa_up (xa_up M1 60 20 0) 74 0 x6) 60 20 1) 74 1 x7) 60 20 2) 74 2 x8) 60 20 3)
        exact k _ _ (xm_cor_f (by omega) (xm_cor_a rfl (xm_cor_f (by omega) (xm_cor_a rfl (xm_cor_f (by omega) (xm_cor_a rfl (xm_cor_f (by omega) hc)))))))
      · intro (c1 : x9 ≤ 400)
        refine And.intro (show 0 ≤ ((401 * x5) + x9) ∧ ((401 * x5) + x9) < 5614 by omega) ?_
        refine And.intro ?_ ?_
        · intro (c2 : ¬ (M1 87 ((401 * x5) + x9)) = 0)
          refine And.intro ?_ ?_
          · intro (c3 : ¬ x6 = (-1))
            show Q 113 [(9, (0, 0, 1, 402, x9 + 1)), (8, (0, 0, (-2147483648), 2147483647, xa_w32 (x8 + 1))), (7, (0, 0, 0, 401, x9)), (6, (0, 0, (-2147483648), 2147483647, x6)), (5, (0, 0, 0, 13, x5)), (0, (2, 60, 0, 0, 0))] [] M1
            refine hgo.2.1 113 _ [(9, (0, 0, 0, 401, x9 + 1)), (8, (0, 0, (-2147483648), 2147483647, xa_w32 (x8 + 1))), (7, (0, 0, (-2147483648), 2147483647, x9)), (6, (0, 0, (-2147483648), 2147483647, x6)), (5, (0, 0, 0, 13, x5)), (0, (2, 60, 0, 0, 0))] _ _ (xa_subI rfl rfl (fun _ _ _ _ => by omega) (xa_subI rfl rfl (fun _ _ _ _ => by omega) (xa_subI rfl rfl (fun _ _ _ _ => by omega) (xa_subI rfl rfl (fun _ _ _ _ => by omega) (xa_subI rfl rfl (fun _ _ _ _ => by omega) (xa_subR rfl xa_sub0)))))) ?_
            exact ih1 (x9 + 1) (xa_w32 (x8 + 1)) x9 x6 x5 M1 (by omega) (by omega) hc (by omega)
          · intro (c3 : x6 = (-1))
            show Q 113 [(9, (0, 0, 1, 402, x9 + 1)), (8, (0, 0, (-2147483648), 2147483647, xa_w32 (x8 + 1))), (7, (0, 0, 0, 401, x9)), (6, (0, 0, 0, 401, x9)), (5, (0, 0, 0, 13, x5)), (0, (2, 60, 0, 0, 0))] [] M1
            refine hgo.2.1 113 _ [(9, (0, 0, 0, 401, x9 + 1)), (8, (0, 0, (-2147483648), 2147483647, xa_w32 (x8 + 1))), (7, (0, 0, (-2147483648), 2147483647, x9)), (6, (0, 0, (-2147483648), 2147483647, x9)), (5, (0, 0, 0, 13, x5)), (0, (2, 60, 0, 0, 0))] _ _ (xa_subI rfl rfl (fun _ _ _ _ => by omega) (xa_subI rfl rfl (fun _ _ _ _ => by omega) (xa_subI rfl rfl (fun _ _ _ _ => by omega) (xa_subI rfl rfl (fun _ _ _ _ => by omega) (xa_subI rfl rfl (fun _ _ _ _ => by omega) (xa_subR rfl xa_sub0)))))) ?_
            exact ih1 (x9 + 1) (xa_w32 (x8 + 1)) x9 x9 x5 M1 (by omega) (by omega) hc (by omega)
        · intro (c2 : (M1 87 ((401 * x5) + x9)) = 0)
          show Q 113 [(9, (0, 0, 1, 402, x9 + 1)), (8, (0, 0, (-2147483648), 2147483647, x8)), (7, (0, 0, (-2147483648), 2147483647, x7)), (6, (0, 0, (-2147483648), 2147483647, x6)), (5, (0, 0, 0, 13, x5)), (0, (2, 60, 0, 0, 0))] [] M1
          refine hgo.2.1 113 _ [(9, (0, 0, 0, 401, x9 + 1)), (8, (0, 0, (-2147483648), 2147483647, x8)), (7, (0, 0, (-2147483648), 2147483647, x7)), (6, (0, 0, (-2147483648), 2147483647, x6)), (5, (0, 0, 0, 13, x5)), (0, (2, 60, 0, 0, 0))] _ _ (xa_subI rfl rfl (fun _ _ _ _ => by omega) (xa_subI rfl rfl (fun _ _ _ _ => by omega) (xa_subI rfl rfl (fun _ _ _ _ => by omega) (xa_subI rfl rfl (fun _ _ _ _ => by omega) (xa_subI rfl rfl (fun _ _ _ _ => by omega) (xa_subR rfl xa_sub0)))))) ?_
          exact ih1 (x9 + 1) x8 x7 x6 x5 M1 (by omega) (by omega) hc (by omega)
  have loop0 : ∀ (n : Nat) (x6 x5 x4 : Int) (M1 : xa_M), 0 ≤ x6 ∧ x6 ≤ 14 → (-1) ≤ x5 ∧ x5 ≤ 13 → (-4) ≤ x4 ∧ x4 ≤ 0 → xm_cor M M1 → (x4 = 0 → xm_Y M1 ∧ 0 ≤ x2 ∧ x2 < M1 60 11) → 14 - x6 < (n : Int) → Q 35 [(6, (0, 0, 0, 14, x6)), (5, (0, 0, (-1), 13, x5)), (4, (0, 0, (-4), 0, x4)), (3, (0, 0, (-2147483648), 2147483647, x3)), (2, (0, 0, (-2147483648), 2147483647, x2)), (0, (2, 60, 0, 0, 0))] [] M1 := by
    intro n
    induction n with
    | zero => intro x6 x5 x4 M1 b6 b5 b4 hc hv0 hms; omega
    | succ n ih0 =>
      intro x6 x5 x4 M1 b6 b5 b4 hc hv0 hms0
      refine hgo.2.2 _ _ _ _ (fun hM1 _ => ?_)
      have b32 := xm_f32 hM1
      refine hgo.1 28 [35, 113] 35 _ _ _ ?_
      refine And.intro ?_ ?_
      · intro (c1 : (M1 60 32) ≤ x6)
        refine And.intro ?_ ?_
        · intro (c2 : ¬ x5 = (-1))
          refine And.intro ?_ ?_
          · intro (c3 : 0 ≤ x4)
            show xa_C xm_I A h0 _ 246 [(2, 60, 0, 0, 0), (0, 0, (-2147483648), 2147483647, x2)] M1 _
            refine xa_C_mok (ct_countFits h242 (xm_Inv_cor hc hI) (hv0 (by omega)).1 (by have q := (hv0 (by omega)).2; omega) (by have q := (hv0 (by omega)).2; omega) (fun M4 hc4 hM4 => ?_))
            refine And.intro ?_ ?_
            · intro (c5 : ¬ (M4 60 39) = 0)
              show Q 113 [(9, (0, 0, 0, 0, 0)), (8, (0, 0, 0, 0, 0)), (7, (0, 0, (-1), (-1), (-1))), (6, (0, 0, (-1), (-1), (-1))), (5, (0, 0, (-1), 13, x5)), (4, (0, 0, (-4), 0, x4)), (3, (0, 0, (-2147483648), 2147483647, x3)), (2, (0, 0, (-2147483648), 2147483647, x2)), (0, (2, 60, 0, 0, 0))] [] M4
              refine hgo.2.1 113 _ [(9, (0, 0, 0, 401, 0)), (8, (0, 0, (-2147483648), 2147483647, 0)), (7, (0, 0, (-2147483648), 2147483647, (-1))), (6, (0, 0, (-2147483648), 2147483647, (-1))), (5, (0, 0, 0, 13, x5)), (0, (2, 60, 0, 0, 0))] _ _ (xa_subI rfl rfl (fun _ _ _ _ => by omega) (xa_subI rfl rfl (fun _ _ _ _ => by omega) (xa_subI rfl rfl (fun _ _ _ _ => by omega) (xa_subI rfl rfl (fun _ _ _ _ => by omega) (xa_subI rfl rfl (fun _ _ _ _ => by omega) (xa_subR rfl xa_sub0)))))) ?_
              exact loop1 402 0 0 (-1) (-1) x5 M4 (by omega) (by omega) (xm_cor_t hc hc4) (by omega)
            · intro (c5 : (M4 60 39) = 0)
              show post (some (0, 0, (-2), (-2), (-2))) M4
              exact k _ _ (xm_cor_t hc hc4)
          · intro (c3 : x4 < 0)
            show post (some (0, 0, (-4), 0, x4)) M1
            exact k _ _ hc
        · intro (c2 : x5 = (-1))
          show post (some (0, 0, (-1), (-1), (-1))) M1
          exact k _ _ hc
      · intro (c1 : x6 < (M1 60 32))
        refine And.intro (show 0 ≤ x6 ∧ x6 < 14 by omega) ?_
        refine And.intro ?_ ?_
        · intro (c6 : ¬ (M1 80 x6) = x3)
          show Q 35 [(6, (0, 0, 1, 15, x6 + 1)), (5, (0, 0, (-1), 13, x5)), (4, (0, 0, (-4), 0, x4)), (3, (0, 0, (-2147483648), 2147483647, x3)), (2, (0, 0, (-2147483648), 2147483647, x2)), (0, (2, 60, 0, 0, 0))] [] M1
          refine hgo.2.1 35 _ [(6, (0, 0, 0, 14, x6 + 1)), (5, (0, 0, (-1), 13, x5)), (4, (0, 0, (-4), 0, x4)), (3, (0, 0, (-2147483648), 2147483647, x3)), (2, (0, 0, (-2147483648), 2147483647, x2)), (0, (2, 60, 0, 0, 0))] _ _ (xa_subI rfl rfl (fun _ _ _ _ => by omega) (xa_subI rfl rfl (fun _ _ _ _ => by omega) (xa_subI rfl rfl (fun _ _ _ _ => by omega) (xa_subI rfl rfl (fun _ _ _ _ => by omega) (xa_subI rfl rfl (fun _ _ _ _ => by omega) (xa_subR rfl xa_sub0)))))) ?_
          exact ih0 (x6 + 1) x5 x4 M1 (by omega) (by omega) (by omega) hc hv0 (by omega)
        · intro (c6 : (M1 80 x6) = x3)
          show Q 35 [(6, (0, 0, 1, 15, x6 + 1)), (5, (0, 0, 0, 14, x6)), (4, (0, 0, (-4), 0, x4)), (3, (0, 0, (-2147483648), 2147483647, x3)), (2, (0, 0, (-2147483648), 2147483647, x2)), (0, (2, 60, 0, 0, 0))] [] M1
          refine hgo.2.1 35 _ [(6, (0, 0, 0, 14, x6 + 1)), (5, (0, 0, (-1), 13, x6)), (4, (0, 0, (-4), 0, x4)), (3, (0, 0, (-2147483648), 2147483647, x3)), (2, (0, 0, (-2147483648), 2147483647, x2)), (0, (2, 60, 0, 0, 0))] _ _ (xa_subI rfl rfl (fun _ _ _ _ => by omega) (xa_subI rfl rfl (fun _ _ _ _ => by omega) (xa_subI rfl rfl (fun _ _ _ _ => by omega) (xa_subI rfl rfl (fun _ _ _ _ => by omega) (xa_subI rfl rfl (fun _ _ _ _ => by omega) (xa_subR rfl xa_sub0)))))) ?_
          exact ih0 (x6 + 1) x6 x4 M1 (by omega) (by omega) (by omega) hc hv0 (by omega)
  refine hgo.1 23 [35, 113] 0 _ _ _ ?_
  show xa_C xm_I A h0 _ 238 [(2, 60, 0, 0, 0), (0, 0, (-2147483648), 2147483647, a), (0, 0, (-2147483648), 2147483647, x2)] (xa_up M 60 21 0) _
  refine xa_C_mok (ct_ready (xm_Inv_cor (xm_cor_f (by omega) xm_cor_r) hI) (fun v1 M1 z1 hc1 hr1 hM1 => ?_))
  refine And.intro ?_ ?_
  · intro (c2 : v1 = (-1))
    show post (some (0, 0, (-4), 0, v1)) M1
    exact k _ _ (xm_cor_t (xm_cor_f (by omega) xm_cor_r) hc1)
  · intro (c2 : ¬ v1 = (-1))
    refine And.intro ?_ ?_
    · intro (c3 : ¬ v1 = (-2))
      show Q 35 [(6, (0, 0, 0, 0, 0)), (5, (0, 0, (-1), (-1), (-1))), (4, (0, 0, (-4), 0, v1)), (0, (2, 60, 0, 0, 0)), (1, (0, 0, (-2147483648), 2147483647, a)), (2, (0, 0, (-2147483648), 2147483647, x2)), (3, (0, 0, (-2147483648), 2147483647, x3))] [] M1
      refine hgo.2.1 35 _ [(6, (0, 0, 0, 14, 0)), (5, (0, 0, (-1), 13, (-1))), (4, (0, 0, (-4), 0, v1)), (3, (0, 0, (-2147483648), 2147483647, x3)), (2, (0, 0, (-2147483648), 2147483647, x2)), (0, (2, 60, 0, 0, 0))] _ _ (xa_subI rfl rfl (fun _ _ _ _ => by omega) (xa_subI rfl rfl (fun _ _ _ _ => by omega) (xa_subI rfl rfl (fun _ _ _ _ => by omega) (xa_subI rfl rfl (fun _ _ _ _ => by omega) (xa_subI rfl rfl (fun _ _ _ _ => by omega) (xa_subR rfl xa_sub0)))))) ?_
      exact loop0 15 0 (-1) v1 M1 (by omega) (by omega) (by omega) (xm_cor_t (xm_cor_f (by omega) xm_cor_r) hc1) (fun h => ⟨⟨(hr1 h).1, (hr1 h).2.1⟩, by have q := (hr1 h).2.2; have e := xm_corf (xm_cor_t (xm_cor_f (by omega) xm_cor_r) hc1) 11 (by omega); simp [xa_up] at q; omega⟩) (by omega)
    · intro (c3 : v1 = (-2))
      show post (some (0, 0, (-4), 0, v1)) M1
      exact k _ _ (xm_cor_t (xm_cor_f (by omega) xm_cor_r) hc1)
end
section
-- fit of the model, told isFitting (made by wip/p24/xa/xm20.py)
set_option maxRecDepth 20000
theorem xm_Inv_63 {M : xa_M} {j v : Int} (hI : xm_Inv M) (hv : 10 ≤ v) : xm_Inv (xa_up M 63 j v) := by
  refine xm_Inv_b (M := M) (fun j => by simp [xa_up]) (fun j => by simp [xa_up]) hI (fun w w0 w1 => ?_) (fun m m0 m1 => ?_) (fun p p0 p1 => ?_) ?_
  · have := hI.1 w w0 (by simpa [xa_up] using w1)
    simp only [xa_up]
    rw [if_neg (by omega), if_neg (by omega)]
    refine ⟨this.1, this.2.1, ?_⟩
    split
    · exact hv
    · exact this.2.2
  · have := hI.2.1 m m0 (by simpa [xa_up] using m1)
    simpa [xa_up] using this
  · have := hI.2.2.1 p p0 (by simpa [xa_up] using p1)
    simpa [xa_up] using this
  · have := hI.2.2.2.1
    simpa [xa_up] using this
theorem xm_W10 {M : xa_M} {y : Int} (hM : xa_Mok xm_I M) (hI : xm_Inv M) (hW : xm_W M y) (i : Int) (i0 : 0 ≤ i) (i1 : i < M 60 32) : 10 ≤ M 84 i := by
  have a := xm_way_sp hM hI hW.1 i i0 i1
  have b := hW.2.1 i i0 i1
  omega
end
section
-- isFitting of the model behind its doubles (made by wip/p24/xa/xm21.py)
set_option maxRecDepth 20000
/-- the numbers of an array ahead of n are at least 1 -/
def xm_ge (M : xa_M) (q : Nat) (n : Int) : Prop := ∀ i, 0 ≤ i → i < n → 1 ≤ M q i
theorem xm_ge_z {M : xa_M} {q : Nat} : xm_ge M q 0 := fun i i0 i1 => by omega
theorem xm_ge_s {M : xa_M} {q : Nat} {n v : Int} (h : xm_ge M q n) (hv : 1 ≤ v) : xm_ge (xa_up M q n v) q (n + 1) := by
  intro i i0 i1
  rw [xw_up]
  by_cases e : i = n
  · rw [if_pos e]
    exact hv
  · rw [if_neg e]
    exact h i i0 (by omega)
theorem xm_ge_i {M : xa_M} {q : Nat} {n j v : Int} (h : xm_ge M q n) (hv : 1 ≤ v) : xm_ge (xa_up M q j v) q n := by
  intro i i0 i1
  rw [xw_up]
  split
  · exact hv
  · exact h i i0 i1
theorem xm_ge_o {M : xa_M} {q q2 : Nat} {n j v : Int} (hq : q ≠ q2) (h : xm_ge M q n) : xm_ge (xa_up M q2 j v) q n := by
  intro i i0 i1
  have := h i i0 i1
  simpa [xa_up, hq] using this
def xm_fr (M M1 : xa_M) : Prop := ∀ q j, q ≠ 85 → q ≠ 86 → M1 q j = M q j
theorem xm_fr_u {M M1 : xa_M} {q : Nat} {i v : Int} (hq : q = 85 ∨ q = 86) (h : xm_fr M M1) : xm_fr M (xa_up M1 q i v) := by
  intro q2 j h5 h6
  have := h q2 j h5 h6
  have e : ¬ q2 = q := by omega
  simpa [xa_up, e] using this
theorem xm_td {x g : Int} (h1 : 1 ≤ g) (h2 : g ≤ x) : 1 ≤ x.tdiv g := by
  rw [Int.tdiv_eq_ediv_of_nonneg (by omega)]
  exact (Int.le_ediv_iff_mul_le (by omega)).2 (by omega)
theorem xm_if97 {A : Nat → Nat} {h0 : g_H} {d : Nat} {M : xa_M} {post : Option xa_V → xa_M → Prop} {p : Int} (hM : xa_Mok xm_I M) (hI : xm_Inv M) (ht : ∀ i, 0 ≤ i → i < M 60 32 → 10 ≤ M 84 i) (p0 : 0 ≤ p) (p1 : p < M 60 11) (k : ∀ (r : Int) (M1 : xa_M), (r = 0 ∨ r = 1) → (∀ q j, q ≠ 85 → q ≠ 86 → M1 q j = M q j) → post (some (0, 0, 0, 1, r)) M1) {Q : xa_Q} (hgo : xa_go xm_I (xa_C xm_I A h0 (d + 2)) (xa_wk post) s_c_242 10 2 Q) : Q 97 [(1, (0, 0, 0, 7, p)), (0, (2, 60, 0, 0, 0))] [] M := by
  have b11 := xm_f11 hM
  have hpp := hI.2.2.1 p p0 p1
  have loop4 : ∀ (n : Nat) (x6 x5 : Int) (M1 : xa_M), 0 ≤ x6 ∧ x6 ≤ 15 → 0 ≤ x5 ∧ x5 ≤ 15 → xm_cor M M1 → xm_fr M M1 → 15 - x6 < (n : Int) → Q 322 [(6, (0, 0, 0, 15, x6)), (5, (0, 0, 0, 15, x5)), (0, (2, 60, 0, 0, 0))] [] M1 := by
    intro n
    induction n with
    | zero => intro x6 x5 M1 b6 b5 hc hfr hms; omega
    | succ n ih4 =>
      intro x6 x5 M1 b6 b5 hc hfr hms4
      refine hgo.1 16 [140, 217, 227, 292, 322] 322 _ _ _ ?_
      refine And.intro ?_ ?_
      · intro (c1 : x5 ≤ x6)
        show xa_wk post (some (0, 0, 1, 1, 1)) M1
        exact xa_wkI 1 rfl (fun _ _ => by omega) (k 1 _ (by omega) hfr)
      · intro (c1 : x6 < x5)
        refine And.intro (show 0 ≤ x6 ∧ x6 < 15 by omega) ?_
        refine And.intro ?_ ?_
        · intro (c2 : (M1 86 x6) = 1)
          show Q 322 [(6, (0, 0, 1, 16, x6 + 1)), (5, (0, 0, 0, 15, x5)), (0, (2, 60, 0, 0, 0))] [] M1
          refine hgo.2.1 322 _ [(6, (0, 0, 0, 15, x6 + 1)), (5, (0, 0, 0, 15, x5)), (0, (2, 60, 0, 0, 0))] _ _ (xa_subI rfl rfl (fun _ _ _ _ => by omega) (xa_subI rfl rfl (fun _ _ _ _ => by omega) (xa_subR rfl xa_sub0))) ?_
          exact ih4 (x6 + 1) x5 M1 (by omega) (by omega) hc hfr (by omega)
        · intro (c2 : ¬ (M1 86 x6) = 1)
          show xa_wk post (some (0, 0, 0, 0, 0)) M1
          exact xa_wkI 0 rfl (fun _ _ => by omega) (k 0 _ (by omega) hfr)
  have loop3 : ∀ (n : Nat) (x6 x5 x4 : Int) (M1 : xa_M), 0 ≤ x6 ∧ x6 ≤ 15 → 0 ≤ x5 ∧ x5 ≤ 15 → 0 ≤ x4 ∧ x4 ≤ 15 → xm_cor M M1 → xm_fr M M1 → 15 - x6 < (n : Int) → Q 292 [(6, (0, 0, 0, 15, x6)), (5, (0, 0, 0, 15, x5)), (4, (0, 0, 0, 15, x4)), (0, (2, 60, 0, 0, 0))] [] M1 := by
    intro n
    induction n with
    | zero => intro x6 x5 x4 M1 b6 b5 b4 hc hfr hms; omega
    | succ n ih3 =>
      intro x6 x5 x4 M1 b6 b5 b4 hc hfr hms3
      refine hgo.1 16 [140, 217, 227, 292, 322] 292 _ _ _ ?_
      refine And.intro ?_ ?_
      · intro (c1 : x4 ≤ x6)
        show Q 322 [(6, (0, 0, 0, 0, 0)), (5, (0, 0, 0, 15, x5)), (4, (0, 0, 0, 15, x4)), (0, (2, 60, 0, 0, 0))] [] M1
        refine hgo.2.1 322 _ [(6, (0, 0, 0, 15, 0)), (5, (0, 0, 0, 15, x5)), (0, (2, 60, 0, 0, 0))] _ _ (xa_subI rfl rfl (fun _ _ _ _ => by omega) (xa_subI rfl rfl (fun _ _ _ _ => by omega) (xa_subR rfl xa_sub0))) ?_
        exact loop4 16 0 x5 M1 (by omega) (by omega) hc hfr (by omega)
      · intro (c1 : x6 < x4)
        refine And.intro (show 0 ≤ x6 ∧ x6 < 15 by omega) ?_
        refine And.intro ?_ ?_
        · intro (c2 : (M1 85 x6) = 1)
          show Q 292 [(6, (0, 0, 1, 16, x6 + 1)), (5, (0, 0, 0, 15, x5)), (4, (0, 0, 0, 15, x4)), (0, (2, 60, 0, 0, 0))] [] M1
          refine hgo.2.1 292 _ [(6, (0, 0, 0, 15, x6 + 1)), (5, (0, 0, 0, 15, x5)), (4, (0, 0, 0, 15, x4)), (0, (2, 60, 0, 0, 0))] _ _ (xa_subI rfl rfl (fun _ _ _ _ => by omega) (xa_subI rfl rfl (fun _ _ _ _ => by omega) (xa_subI rfl rfl (fun _ _ _ _ => by omega) (xa_subR rfl xa_sub0)))) ?_
          exact ih3 (x6 + 1) x5 x4 M1 (by omega) (by omega) (by omega) hc hfr (by omega)
        · intro (c2 : ¬ (M1 85 x6) = 1)
          show xa_wk post (some (0, 0, 0, 0, 0)) M1
          exact xa_wkI 0 rfl (fun _ _ => by omega) (k 0 _ (by omega) hfr)
  have loop1 : ∀ (n : Nat) (x6 x5 x4 : Int) (M1 : xa_M), 0 ≤ x6 ∧ x6 ≤ 15 → 0 ≤ x5 ∧ x5 ≤ 15 → 0 ≤ x4 ∧ x4 ≤ 15 → xm_cor M M1 → xm_fr M M1 → xm_ge M1 85 x4 → xm_ge M1 86 x5 → 15 - x6 < (n : Int) → Q 217 [(6, (0, 0, 0, 15, x6)), (5, (0, 0, 0, 15, x5)), (4, (0, 0, 0, 15, x4)), (0, (2, 60, 0, 0, 0))] [] M1 := by
    intro n
    induction n with
    | zero => intro x6 x5 x4 M1 b6 b5 b4 hc hfr hg85 hg86 hms; omega
    | succ n ih1 =>
      intro x6 x5 x4 M1 b6 b5 b4 hc hfr hg85 hg86 hms1
      obtain ⟨n0, hn0⟩ : ∃ n0, n0 = n := ⟨_, rfl⟩
      have loop2 : ∀ (n : Nat) (x7 x6 x5 x4 : Int) (M1 : xa_M), 0 ≤ x7 ∧ x7 ≤ 15 → 0 ≤ x6 ∧ x6 ≤ 14 → 0 ≤ x5 ∧ x5 ≤ 15 → 0 ≤ x4 ∧ x4 ≤ 15 → xm_cor M M1 → xm_fr M M1 → xm_ge M1 85 x4 → xm_ge M1 86 x5 → x6 < x4 → 14 - x6 < (n0 : Int) → 15 - x7 < (n : Int) → Q 227 [(7, (0, 0, 0, 15, x7)), (6, (0, 0, 0, 14, x6)), (5, (0, 0, 0, 15, x5)), (4, (0, 0, 0, 15, x4)), (0, (2, 60, 0, 0, 0))] [] M1 := by
        intro n
        induction n with
        | zero => intro x7 x6 x5 x4 M1 b7 b6 b5 b4 hc hfr hg85 hg86 h64 h60 hms; omega
        | succ n ih2 =>
          intro x7 x6 x5 x4 M1 b7 b6 b5 b4 hc hfr hg85 hg86 h64 h60 hms2
          have a1 := hg85 x6 (by omega) h64
          have a2 := fun h : x7 < x5 => hg86 x7 (by omega) h
          refine hgo.1 36 [140, 217, 227, 292, 322] 227 _ _ _ ?_
          refine And.intro ?_ ?_
          · intro (c1 : x5 ≤ x7)
            show Q 217 [(6, (0, 0, 1, 15, x6 + 1)), (7, (0, 0, 0, 15, x7)), (5, (0, 0, 0, 15, x5)), (4, (0, 0, 0, 15, x4)), (0, (2, 60, 0, 0, 0))] [] M1
            refine hgo.2.1 217 _ [(6, (0, 0, 0, 15, x6 + 1)), (5, (0, 0, 0, 15, x5)), (4, (0, 0, 0, 15, x4)), (0, (2, 60, 0, 0, 0))] _ _ (xa_subI rfl rfl (fun _ _ _ _ => by omega) (xa_subI rfl rfl (fun _ _ _ _ => by omega) (xa_subI rfl rfl (fun _ _ _ _ => by omega) (xa_subR rfl xa_sub0)))) ?_
            exact ih1 (x6 + 1) x5 x4 M1 (by omega) (by omega) (by omega) hc hfr hg85 hg86 (by omega)
          · intro (c1 : x7 < x5)
            refine And.intro (show 0 ≤ x7 ∧ x7 < 15 by omega) ?_
            show xa_C xm_I A h0 _ 229 [(1, 0, (-9223372036854775808), 9223372036854775807, M1 85 x6), (1, 0, (-9223372036854775808), 9223372036854775807, M1 86 x7)] M1 _
            refine ct_gcd3 (by omega) (by omega) (fun g2 eg2 pg2 qg2 ug2 => ?_)
            have tx := xm_td (x := M1 85 x6) (g := g2) (by omega) (by omega)
            have ty := xm_td (x := M1 86 x7) (g := g2) (by omega) (by omega)
            refine And.intro (show 0 ≤ x7 ∧ x7 < 15 by omega) ?_
            refine And.intro (show 0 ≤ x7 ∧ x7 < 15 by omega) ?_
            show Q 227 [(7, (0, 0, 1, 16, x7 + 1)), (8, (1, 0, 1, 9223372036854775807, g2)), (6, (0, 0, 0, 14, x6)), (5, (0, 0, 0, 15, x5)), (4, (0, 0, 0, 15, x4)), (0, (2, 60, 0, 0, 0))] [] (xa_up (xa_up M1 85 x6 ((M1 85 x6).tdiv g2)) 86 x7 ((M1 86 x7).tdiv g2))
            refine hgo.2.1 227 _ [(7, (0, 0, 0, 15, x7 + 1)), (6, (0, 0, 0, 14, x6)), (5, (0, 0, 0, 15, x5)), (4, (0, 0, 0, 15, x4)), (0, (2, 60, 0, 0, 0))] _ _ (xa_subI rfl rfl (fun _ _ _ _ => by omega) (xa_subI rfl rfl (fun _ _ _ _ => by omega) (xa_subI rfl rfl (fun _ _ _ _ => by omega) (xa_subI rfl rfl (fun _ _ _ _ => by omega) (xa_subR rfl xa_sub0))))) ?_
            exact ih2 (x7 + 1) x6 x5 x4 (xa_up (xa_up M1 85 x6 ((M1 85 x6).tdiv g2)) 86 x7 ((M1 86 x7).tdiv g2)) (by omega) (by omega) (by omega) (by omega) (xm_cor_a rfl (xm_cor_a rfl hc)) (xm_fr_u (by decide) (xm_fr_u (by decide) hfr)) (xm_ge_o (by decide) (xm_ge_i hg85 (by omega))) (xm_ge_i (xm_ge_o (by decide) hg86) (by omega)) (by omega) (by omega) (by omega)
      refine hgo.1 10 [140, 217, 227, 292, 322] 217 _ _ _ ?_
      refine And.intro ?_ ?_
      · intro (c1 : x4 ≤ x6)
        show Q 292 [(6, (0, 0, 0, 0, 0)), (5, (0, 0, 0, 15, x5)), (4, (0, 0, 0, 15, x4)), (0, (2, 60, 0, 0, 0))] [] M1
        refine hgo.2.1 292 _ [(6, (0, 0, 0, 15, 0)), (5, (0, 0, 0, 15, x5)), (4, (0, 0, 0, 15, x4)), (0, (2, 60, 0, 0, 0))] _ _ (xa_subI rfl rfl (fun _ _ _ _ => by omega) (xa_subI rfl rfl (fun _ _ _ _ => by omega) (xa_subI rfl rfl (fun _ _ _ _ => by omega) (xa_subR rfl xa_sub0)))) ?_
        exact loop3 16 0 x5 x4 M1 (by omega) (by omega) (by omega) hc hfr (by omega)
      · intro (c1 : x6 < x4)
        show Q 227 [(7, (0, 0, 0, 0, 0)), (6, (0, 0, 0, 15, x6)), (5, (0, 0, 0, 15, x5)), (4, (0, 0, 0, 15, x4)), (0, (2, 60, 0, 0, 0))] [] M1
        refine hgo.2.1 227 _ [(7, (0, 0, 0, 15, 0)), (6, (0, 0, 0, 14, x6)), (5, (0, 0, 0, 15, x5)), (4, (0, 0, 0, 15, x4)), (0, (2, 60, 0, 0, 0))] _ _ (xa_subI rfl rfl (fun _ _ _ _ => by omega) (xa_subI rfl rfl (fun _ _ _ _ => by omega) (xa_subI rfl rfl (fun _ _ _ _ => by omega) (xa_subI rfl rfl (fun _ _ _ _ => by omega) (xa_subR rfl xa_sub0))))) ?_
        exact loop2 16 0 x6 x5 x4 M1 (by omega) (by omega) (by omega) (by omega) hc hfr hg85 hg86 (by omega) (by omega) (by omega)
  have loop0 : ∀ (n : Nat) (x6 x5 x4 : Int) (M1 : xa_M), 0 ≤ x6 ∧ x6 ≤ 14 → 1 ≤ x5 ∧ x5 ≤ 15 → 1 ≤ x4 ∧ x4 ≤ 15 → xm_cor M M1 → xm_fr M M1 → xm_ge M1 85 x4 → xm_ge M1 86 x5 → x4 ≤ x6 + 1 → x5 ≤ x6 + 1 → 14 - x6 < (n : Int) → Q 140 [(6, (0, 0, 0, 14, x6)), (5, (0, 0, 1, 15, x5)), (4, (0, 0, 1, 15, x4)), (0, (2, 60, 0, 0, 0))] [] M1 := by
    intro n
    induction n with
    | zero => intro x6 x5 x4 M1 b6 b5 b4 hc hfr hg85 hg86 h46 h56 hms; omega
    | succ n ih0 =>
      intro x6 x5 x4 M1 b6 b5 b4 hc hfr hg85 hg86 h46 h56 hms0
      refine hgo.2.2 _ _ _ _ (fun hM1 _ => ?_)
      have b32 := xm_f32 hM1
      have e32 := hfr 60 32 (by decide) (by decide)
      have e84 := hfr 84 x6 (by decide) (by decide)
      have h10 := fun h : x6 < M 60 32 => ht x6 (by omega) h
      refine hgo.1 31 [140, 217, 227, 292, 322] 140 _ _ _ ?_
      refine And.intro ?_ ?_
      · intro (c1 : (M1 60 32) ≤ x6)
        show Q 217 [(6, (0, 0, 0, 0, 0)), (5, (0, 0, 1, 15, x5)), (4, (0, 0, 1, 15, x4)), (0, (2, 60, 0, 0, 0))] [] M1
        refine hgo.2.1 217 _ [(6, (0, 0, 0, 15, 0)), (5, (0, 0, 0, 15, x5)), (4, (0, 0, 0, 15, x4)), (0, (2, 60, 0, 0, 0))] _ _ (xa_subI rfl rfl (fun _ _ _ _ => by omega) (xa_subI rfl rfl (fun _ _ _ _ => by omega) (xa_subI rfl rfl (fun _ _ _ _ => by omega) (xa_subR rfl xa_sub0)))) ?_
        exact loop1 16 0 x5 x4 M1 (by omega) (by omega) (by omega) hc hfr hg85 hg86 (by omega)
      · intro (c1 : x6 < (M1 60 32))
        refine And.intro (show 0 ≤ x6 ∧ x6 < 14 by omega) ?_
        refine And.intro ?_ ?_
        · intro (c2 : (M1 81 x6) ≤ 0)
          refine And.intro (show 0 ≤ x6 ∧ x6 < 14 by omega) ?_
          refine And.intro ?_ ?_
          · intro (c3 : 0 ≤ (M1 81 x6))
            show Q 140 [(6, (0, 0, 1, 15, x6 + 1)), (5, (0, 0, 1, 15, x5)), (4, (0, 0, 1, 15, x4)), (0, (2, 60, 0, 0, 0))] [] M1
            refine hgo.2.1 140 _ [(6, (0, 0, 0, 14, x6 + 1)), (5, (0, 0, 1, 15, x5)), (4, (0, 0, 1, 15, x4)), (0, (2, 60, 0, 0, 0))] _ _ (xa_subI rfl rfl (fun _ _ _ _ => by omega) (xa_subI rfl rfl (fun _ _ _ _ => by omega) (xa_subI rfl rfl (fun _ _ _ _ => by omega) (xa_subR rfl xa_sub0)))) ?_
            exact ih0 (x6 + 1) x5 x4 M1 (by omega) (by omega) (by omega) hc hfr hg85 hg86 (by omega) (by omega) (by omega)
          · intro (c3 : (M1 81 x6) < 0)
            refine And.intro (show 0 ≤ x6 ∧ x6 < 14 by omega) ?_
            refine And.intro (show 0 ≤ x5 ∧ x5 < 15 by omega) ?_
            show Q 140 [(6, (0, 0, 1, 15, x6 + 1)), (5, (0, 0, 2, 16, x5 + 1)), (4, (0, 0, 1, 15, x4)), (0, (2, 60, 0, 0, 0))] [] (xa_up M1 86 x5 (M1 84 x6))
            refine hgo.2.1 140 _ [(6, (0, 0, 0, 14, x6 + 1)), (5, (0, 0, 1, 15, x5 + 1)), (4, (0, 0, 1, 15, x4)), (0, (2, 60, 0, 0, 0))] _ _ (xa_subI rfl rfl (fun _ _ _ _ => by omega) (xa_subI rfl rfl (fun _ _ _ _ => by omega) (xa_subI rfl rfl (fun _ _ _ _ => by omega) (xa_subR rfl xa_sub0)))) ?_
            exact ih0 (x6 + 1) (x5 + 1) x4 (xa_up M1 86 x5 (M1 84 x6)) (by omega) (by omega) (by omega) (xm_cor_a rfl hc) (xm_fr_u (by decide) hfr) (xm_ge_o (by decide) hg85) (xm_ge_s hg86 (by omega)) (by omega) (by omega) (by omega)
        · intro (c2 : 0 < (M1 81 x6))
          refine And.intro (show 0 ≤ x6 ∧ x6 < 14 by omega) ?_
          refine And.intro (show 0 ≤ x4 ∧ x4 < 15 by omega) ?_
          show Q 140 [(6, (0, 0, 1, 15, x6 + 1)), (4, (0, 0, 2, 16, x4 + 1)), (5, (0, 0, 1, 15, x5)), (0, (2, 60, 0, 0, 0))] [] (xa_up M1 85 x4 (M1 84 x6))
          refine hgo.2.1 140 _ [(6, (0, 0, 0, 14, x6 + 1)), (5, (0, 0, 1, 15, x5)), (4, (0, 0, 1, 15, x4 + 1)), (0, (2, 60, 0, 0, 0))] _ _ (xa_subI rfl rfl (fun _ _ _ _ => by omega) (xa_subI rfl rfl (fun _ _ _ _ => by omega) (xa_subI rfl rfl (fun _ _ _ _ => by omega) (xa_subR rfl xa_sub0)))) ?_
          exact ih0 (x6 + 1) x5 (x4 + 1) (xa_up M1 85 x4 (M1 84 x6)) (by omega) (by omega) (by omega) (xm_cor_a rfl hc) (xm_fr_u (by decide) hfr) (xm_ge_s hg85 (by omega)) (xm_ge_o (by decide) hg86) (by omega) (by omega) (by omega)
  refine hgo.1 31 [140, 217, 227, 292, 322] 97 _ _ _ ?_
  show Q 140 [(6, (0, 0, 0, 0, 0)), (5, (0, 0, 1, 1, 0 + 1)), (4, (0, 0, 1, 1, 0 + 1)), (1, (0, 0, 0, 7, p)), (0, (2, 60, 0, 0, 0))] [] (xa_up (xa_up M 85 0 (M 71 p)) 86 0 (M 70 p))
  refine hgo.2.1 140 _ [(6, (0, 0, 0, 14, 0)), (5, (0, 0, 1, 15, 0 + 1)), (4, (0, 0, 1, 15, 0 + 1)), (0, (2, 60, 0, 0, 0))] _ _ (xa_subI rfl rfl (fun _ _ _ _ => by omega) (xa_subI rfl rfl (fun _ _ _ _ => by omega) (xa_subI rfl rfl (fun _ _ _ _ => by omega) (xa_subR rfl xa_sub0)))) ?_
  exact loop0 15 0 (0 + 1) (0 + 1) (xa_up (xa_up M 85 0 (M 71 p)) 86 0 (M 70 p)) (by omega) (by omega) (by omega) (xm_cor_a rfl (xm_cor_a rfl xm_cor_r)) (xm_fr_u (by decide) (xm_fr_u (by decide) (fun _ _ _ _ => rfl))) (xm_ge_o (by decide) (xm_ge_s xm_ge_z (by omega))) (xm_ge_s (xm_ge_o (by decide) xm_ge_z) (by omega)) (by omega) (by omega) (by omega)
end
section
-- doubles that are not NaN
set_option maxRecDepth 20000
/-- a datum that is none of not a number, and fits -/
def fd_ok : FP.Core.Datum → Prop
  | .nan => False
  | .inf _ => True
  | .fin _ c q => c < 9007199254740992 ∧ -1074 ≤ q ∧ q ≤ 971
theorem fd_asm (s : Bool) (e t : Nat) : FP.Core.assemble FP.Core.b64 s e t = (s.toNat * 2048 + e) * 4503599627370496 + t := rfl
theorem fd_enc {d : FP.Core.Datum} (h : fd_ok d) : FP.Core.encode FP.Core.b64 d < 18446744073709551616 ∧ FP.Core.encode FP.Core.b64 d % 9223372036854775808 ≤ 9218868437227405312 := by
  cases d with
  | nan => exact absurd h id
  | inf s =>
    show FP.Core.assemble FP.Core.b64 s 2047 0 < _ ∧ FP.Core.assemble FP.Core.b64 s 2047 0 % _ ≤ _
    rw [fd_asm]
    cases s <;> decide
  | fin s c q =>
    have e1 : FP.Core.Fmt.qmin FP.Core.b64 = -1074 := by decide
    have e2 : FP.Core.Fmt.tails FP.Core.b64 = 4503599627370496 := by decide
    obtain ⟨h1, h2, h3⟩ := h
    have hs : s.toNat ≤ 1 := by cases s <;> decide
    unfold FP.Core.encode
    simp only [e1, e2]
    split
    · rw [fd_asm]
      omega
    · rw [fd_asm]
      omega
theorem fd_rnd (s : Bool) (num den : Nat) (e : Int) : fd_ok (FP.Core.roundRatio FP.Core.b64 s num den e) := by
  have e1 : FP.Core.Fmt.qmin FP.Core.b64 = -1074 := by decide
  have e2 : FP.Core.Fmt.tails FP.Core.b64 = 4503599627370496 := by decide
  have e3 : FP.Core.Fmt.qmax FP.Core.b64 = 971 := by decide
  have e4 : (2 : Nat) ^ FP.Core.b64.p = 9007199254740992 := by decide
  have hb : ∀ (s : Bool) (c : Nat) (q : Int), c < 9007199254740992 → -1074 ≤ q → fd_ok (FP.Core.bound FP.Core.b64 s c q) := by
    intro s c q hc hq
    unfold FP.Core.bound
    rw [e3]
    split
    · rename_i h
      exact ⟨hc, hq, h⟩
    · exact trivial
  unfold FP.Core.roundRatio
  split
  · rw [e1]
    exact ⟨by decide, by decide, by decide⟩
  · unfold FP.Core.roundAt FP.Core.settle
    have hq : -1074 ≤ FP.Core.quantum FP.Core.b64 num den e := by
      unfold FP.Core.quantum
      rw [e1]
      exact Int.le_max_left _ _
    rw [e4, e2]
    split
    · rename_i h
      exact hb _ _ _ h hq
    · exact hb _ _ _ (by decide) (by omega)
theorem fd_n64 {n : Nat} (h1 : n < 18446744073709551616) (h2 : n % 9223372036854775808 ≤ 9218868437227405312) : vf_n64 (UInt64.ofNat n) := by
  unfold vf_n64
  rw [UInt64.le_iff_toNat_le, UInt64.toNat_and]
  have e : (UInt64.ofNat n).toNat = n := by
    rw [UInt64.toNat_ofNat']
    omega
  rw [e]
  show n &&& (2 ^ 63 - 1) ≤ 9218868437227405312
  rw [Nat.and_two_pow_sub_one_eq_mod]
  exact h2
theorem fd_dec {x : UInt64} (h : vf_n64 x) : FP.Core.decode FP.Core.b64 x.toNat ≠ .nan := by
  unfold vf_n64 at h
  rw [UInt64.le_iff_toNat_le, UInt64.toNat_and] at h
  have h : x.toNat &&& (2 ^ 63 - 1) ≤ 9218868437227405312 := h
  rw [Nat.and_two_pow_sub_one_eq_mod] at h
  have hE : FP.Core.fieldE FP.Core.b64 x.toNat = x.toNat / 4503599627370496 % 2048 := rfl
  have hT : FP.Core.fieldT FP.Core.b64 x.toNat = x.toNat % 4503599627370496 := rfl
  unfold FP.Core.decode
  split
  · rename_i c
    rw [hE] at c
    have c : x.toNat / 4503599627370496 % 2048 = 2047 := c
    split
    · simp
    · rename_i c2
      rw [hT] at c2
      omega
  · split <;> simp
theorem fd_mul {x y : UInt64} {t : Bool} {d : Nat} {r : Int} (hx : vf_n64 x) (hy : FP.Core.decode FP.Core.b64 y.toNat = .fin t d r) (hd : d ≠ 0) : vf_n64 (FP.dmul x y) := by
  have hx := fd_dec hx
  have k : fd_ok (FP.Core.round FP.Core.b64 (FP.Core.exactProduct (FP.Core.decode FP.Core.b64 x.toNat) (FP.Core.decode FP.Core.b64 y.toNat))) := by
    rw [hy]
    cases e : FP.Core.decode FP.Core.b64 x.toNat with
    | nan => exact absurd e hx
    | inf s =>
      show fd_ok (FP.Core.round FP.Core.b64 (if d = 0 then .nan else .inf (s != t)))
      rw [if_neg hd]
      exact trivial
    | fin s c q => exact fd_rnd _ _ _ _
  exact fd_n64 (fd_enc k).1 (fd_enc k).2
theorem fd_div {x y : UInt64} {t : Bool} {d : Nat} {r : Int} (hx : vf_n64 x) (hy : FP.Core.decode FP.Core.b64 y.toNat = .fin t d r) (hd : d ≠ 0) : vf_n64 (FP.ddiv x y) := by
  have hx := fd_dec hx
  have k : fd_ok (FP.Core.quotient FP.Core.b64 (FP.Core.decode FP.Core.b64 x.toNat) (FP.Core.decode FP.Core.b64 y.toNat)) := by
    rw [hy]
    cases e : FP.Core.decode FP.Core.b64 x.toNat with
    | nan => exact absurd e hx
    | inf s => exact trivial
    | fin s c q =>
      show fd_ok (if d = 0 then (if c = 0 then .nan else .inf (s != t)) else FP.Core.roundRatio FP.Core.b64 (s != t) c d (q - r))
      rw [if_neg hd]
      exact fd_rnd _ _ _ _
  exact fd_n64 (fd_enc k).1 (fd_enc k).2
theorem fd_i2d (a : Int32) : vf_n64 (FP.i2d a) := by
  have k : fd_ok (FP.Core.round FP.Core.b64 (FP.Core.ofInt a.toInt)) := fd_rnd _ _ _ _
  exact fd_n64 (fd_enc k).1 (fd_enc k).2
def fd_chk (n : Nat) : Bool := Nat.beq n 0 || (match FP.Core.decode FP.Core.b64 (UInt64.ofNat (FP.Core.fromInt FP.Core.b64 (n : Int))).toNat with
  | .fin _ d _ => !(Nat.beq d 0)
  | _ => false)
theorem fd_chk_all : (List.range 2001).all fd_chk = true := by decide +kernel
theorem fd_int {a : Int32} (h1 : 1 ≤ a.toInt) (h2 : a.toInt ≤ 2000) : ∃ t d r, FP.Core.decode FP.Core.b64 (FP.i2d a).toNat = .fin t d r ∧ d ≠ 0 := by
  have hm : a.toInt.toNat ∈ List.range 2001 := List.mem_range.2 (by omega)
  have h := List.all_eq_true.1 fd_chk_all _ hm
  unfold fd_chk at h
  rw [Bool.or_eq_true] at h
  rcases h with h | h
  · have := Nat.eq_of_beq_eq_true h
    omega
  · rw [show ((a.toInt.toNat : Nat) : Int) = a.toInt from Int.toNat_of_nonneg (by omega)] at h
    have h : (match FP.Core.decode FP.Core.b64 (FP.i2d a).toNat with
      | .fin _ d _ => !(Nat.beq d 0)
      | _ => false) = true := h
    cases e : FP.Core.decode FP.Core.b64 (FP.i2d a).toNat with
    | nan =>
      rw [e] at h
      exact absurd h (by decide)
    | inf s =>
      rw [e] at h
      exact absurd h (by simp)
    | fin s d r =>
      rw [e] at h
      refine ⟨s, d, r, rfl, fun z => ?_⟩
      subst z
      have h : (false : Bool) = true := h
      exact absurd h (by decide)
end
section
-- doubles in the machine over numbers
section XD1
variable {CALL : Nat → List Value → g_H → Nat → Nat → (Option Value → g_H → Prop) → Prop} {cc : ByteArray} {o nL : Nat} {ini : Bool} {bc bs : Nat} {P : g_S → Prop}
variable {I : xa_I} {A : Nat → Nat} {h0 : g_H}
/-- a number above 0 -/
def fd_pos (m : UInt64) : Prop := ∃ t d r, FP.Core.decode FP.Core.b64 m.toNat = .fin t d r ∧ d ≠ 0
abbrev xd_v (m : UInt64) : xa_V := (5, 0, 0, 0, (m.toNat : Int))
/-- what else may be used of a state's predicate where there are doubles -/
def xd_go (o nL : Nat) (full : List s_I) (Q : xa_Q) : Prop :=
  (∀ (pc kd a b : Nat) (v : Int) (t : List s_I) (L : xa_L) (rest : List xa_V) (M : xa_M) (p : Nat) (lo hi n : Int), s_jump full pc = some ((pc, 1, 60, kd, a, b, v, .i2d) :: t) → (∀ m : UInt64, vf_n64 m → (1 ≤ n → n ≤ 2000 → fd_pos m) → Q (pc + 1) L (xd_v m :: rest) M) → Q pc L ((0, p, lo, hi, n) :: rest) M) ∧
  (∀ (pc kd a b : Nat) (v : Int) (t : List s_I) (L : xa_L) (rest : List xa_V) (M : xa_M) (x y : UInt64), s_jump full pc = some ((pc, 1, 60, kd, a, b, v, .ddiv) :: t) → vf_n64 x → fd_pos y → (∀ m : UInt64, vf_n64 m → Q (pc + 1) L (xd_v m :: rest) M) → Q pc L (xd_v y :: xd_v x :: rest) M) ∧
  (∀ (pc kd a b : Nat) (v : Int) (t : List s_I) (L : xa_L) (rest : List xa_V) (M : xa_M) (x y : UInt64), s_jump full pc = some ((pc, 1, 60, kd, a, b, v, .dmul) :: t) → vf_n64 x → fd_pos y → (∀ m : UInt64, vf_n64 m → Q (pc + 1) L (xd_v m :: rest) M) → Q pc L (xd_v y :: xd_v x :: rest) M) ∧
  (∀ (pc kd a b : Nat) (v : Int) (t : List s_I) (L : xa_L) (rest : List xa_V) (M : xa_M) (x y : UInt64) (op : ClassFile.CmpOp), s_jump full pc = some ((pc, 1, 60, kd, a, b, v, .dcmp op) :: t) → (∀ n : Int, Q (pc + 1) L ((0, 0, -2147483648, 2147483647, n) :: rest) M) → Q pc L (xd_v y :: xd_v x :: rest) M) ∧
  (∀ (pc kd a b : Nat) (v : Int) (t : List s_I) (L : xa_L) (rest : List xa_V) (M : xa_M) (x : UInt64) (k : Fin 4), s_jump full pc = some ((pc, 1, 60, kd, a, b, v, .dstore_n k) :: t) → k + 1 < nL → Q (pc + 1) ((k, xd_v x) :: xa_fil2 k L) rest M → Q pc L (xd_v x :: rest) M) ∧
  (∀ (pc kd a b : Nat) (v : Int) (t : List s_I) (L : xa_L) (rest : List xa_V) (M : xa_M) (x : UInt64) (k : Fin 4), s_jump full pc = some ((pc, 1, 60, kd, a, b, v, .dload_n k) :: t) → xa_find L k = some (xd_v x) → Q (pc + 1) L (xd_v x :: rest) M → Q pc L rest M) ∧
  (∀ (pc kd a b : Nat) (v : Int) (t : List s_I) (L : xa_L) (rest : List xa_V) (M : xa_M) (i a0 b0 : Nat) (w : Int) (ps : List Nat), s_jump full pc = some ((pc, 3, 60, kd, a, b, v, .ldc2_w i) :: t) → (o, i, 12, a0, b0, w, ps) ∈ g_lk → (∀ m : UInt64, Q (pc + 3) L (xd_v m :: rest) M) → Q pc L rest M)
theorem xd_dec {full t : List s_I} {pc len kd a b : Nat} {v : Int} {ins : Instr} (hfull : ∀ r ∈ full, s_okI cc o r = true) (hj : s_jump full pc = some ((pc, len, 60, kd, a, b, v, ins) :: t)) : decode cc pc = .ok (ins, len) := by
  have hI := hfull _ (s_jump_in hj _ List.mem_cons_self)
  unfold s_okI at hI
  rw [Bool.and_eq_true] at hI
  obtain ⟨h1, -⟩ := hI
  split at h1
  next i n e =>
    simp only [Bool.and_eq_true, decide_eq_true_eq, Nat.beq_eq] at h1
    obtain ⟨rfl, rfl, -⟩ := h1
    exact e
  next => cases h1
theorem xd_val {m : UInt64} {x : Value} (h : xa_g A (xd_v m) x) : x = .double m := by
  obtain ⟨z, e, hz⟩ := h
  have : z = m := UInt64.toNat_inj.mp (by omega)
  rw [e, this]
theorem xd_valI {m : UInt64} : xa_g A (xd_v m) (.double m) := ⟨m, rfl, rfl⟩
theorem xd_go_ok (hcl : ∀ S, g_pre CALL o nL ini bc bs cc P S → P S) {full : List s_I} (hfull : ∀ r ∈ full, s_okI cc o r = true) : xd_go o nL full (xa_P P I A h0) := by
  refine ⟨?_, ?_, ?_, ?_, ?_, ?_, ?_⟩
  · intro pc kd a b v t L rest M p lo hi n hj k h Ls sts hH hL hS
    obtain ⟨x, xs, rfl, hg, hS'⟩ := xa_gS_cons hS
    obtain ⟨z, rfl, z1, z2, z3⟩ := hg
    exact hcl _ ⟨_, _, xd_dec hfull hj, Or.inr (Or.inl (Or.inr (Or.inr (Or.inr (Or.inr (Or.inr (Or.inr (Or.inr (Or.inr (Or.inr (Or.inl ⟨_, _, rfl, rfl, rfl, k (FP.i2d z) (fd_i2d z) (fun a1 a2 => fd_int (by omega) (by omega)) h Ls _ hH hL ⟨xd_valI, hS'⟩⟩)))))))))))⟩
  · intro pc kd a b v t L rest M x y hj hx hy k h Ls sts hH hL hS
    obtain ⟨y', ys, rfl, hg, hS'⟩ := xa_gS_cons hS
    obtain ⟨x', xs, rfl, hg2, hS2⟩ := xa_gS_cons hS'
    rw [xd_val hg, xd_val hg2]
    obtain ⟨t1, d1, r1, e1, e2⟩ := hy
    have hv := fd_div hx e1 e2
    exact hcl _ ⟨_, _, xd_dec hfull hj, Or.inr (Or.inl (Or.inr (Or.inr (Or.inr (Or.inr (Or.inr (Or.inr (Or.inr (Or.inr (Or.inr (Or.inr (Or.inl ⟨_, _, _, rfl, rfl, hv, rfl, k _ hv h Ls _ hH hL ⟨xd_valI, hS2⟩⟩))))))))))))⟩
  · intro pc kd a b v t L rest M x y hj hx hy k h Ls sts hH hL hS
    obtain ⟨y', ys, rfl, hg, hS'⟩ := xa_gS_cons hS
    obtain ⟨x', xs, rfl, hg2, hS2⟩ := xa_gS_cons hS'
    rw [xd_val hg, xd_val hg2]
    obtain ⟨t1, d1, r1, e1, e2⟩ := hy
    have hv := fd_mul hx e1 e2
    exact hcl _ ⟨_, _, xd_dec hfull hj, Or.inr (Or.inl (Or.inr (Or.inr (Or.inr (Or.inr (Or.inr (Or.inr (Or.inr (Or.inr (Or.inr (Or.inr (Or.inr (Or.inl ⟨_, _, _, rfl, rfl, hv, rfl, k _ hv h Ls _ hH hL ⟨xd_valI, hS2⟩⟩)))))))))))))⟩
  · intro pc kd a b v t L rest M x y op hj k h Ls sts hH hL hS
    obtain ⟨y', ys, rfl, hg, hS'⟩ := xa_gS_cons hS
    obtain ⟨x', xs, rfl, hg2, hS2⟩ := xa_gS_cons hS'
    rw [xd_val hg, xd_val hg2]
    refine hcl _ ⟨_, _, xd_dec hfull hj, Or.inr (Or.inl (Or.inr (Or.inr (Or.inr (Or.inr (Or.inr (Or.inr (Or.inr (Or.inr (Or.inr (Or.inr (Or.inr (Or.inr ⟨_, _, _, _, rfl, rfl, rfl, k _ h Ls _ hH hL ⟨⟨_, rfl, rfl, Int32.le_toInt _, ?_⟩, hS2⟩⟩)))))))))))))⟩
    have := Int32.toInt_lt (Op.cmpValue (FP.dcmp x y) op)
    omega
  · intro pc kd a b v t L rest M x k hj hk kk h Ls sts hH hL hS
    obtain ⟨x', xs, rfl, hg2, hS2⟩ := xa_gS_cons hS
    rw [xd_val hg2]
    exact hcl _ ⟨_, _, xd_dec hfull hj, Or.inl (Or.inr (Or.inr (Or.inr (Or.inl ⟨k, _, _, _, rfl, rfl, rfl, hk, kk h _ _ hH (xa_gL_st2 hL xd_valI) hS2⟩))))⟩
  · intro pc kd a b v t L rest M x k hj hf kk h Ls sts hH hL hS
    obtain ⟨z, hz, hg⟩ := hL _ (xa_find_in hf)
    have e := xd_val hg
    subst e
    exact hcl _ ⟨_, _, xd_dec hfull hj, Or.inl (Or.inr (Or.inl ⟨k, _, _, rfl, hz, rfl, kk h _ _ hH hL ⟨xd_valI, hS⟩⟩))⟩
  · intro pc kd a b v t L rest M i a0 b0 w ps hj hl kk h Ls sts hH hL hS
    exact hcl _ ⟨_, _, xd_dec hfull hj, Or.inl (Or.inr (Or.inr (Or.inr (Or.inr (Or.inr (Or.inr (Or.inr (Or.inr (Or.inr (Or.inr (Or.inr ⟨i, 12, a0, b0, w, ps, rfl, rfl, Or.inr rfl, hl, kk (UInt64.ofNat w.toNat) h _ _ hH hL ⟨xd_valI, hS⟩⟩)))))))))))⟩
end XD1
theorem xd_meth {I : xa_I} {A : Nat → Nat} {h0 : g_H} {d j : Nat} {Q0 : s_MI} (hq : s_mi[j]? = some Q0) (hz : Q0.2.2.2.1 = 0 ∧ Q0.2.2.2.2.1 = 0) {full : List s_I} (hfu : s_codes.getD j [] = full) {vs : List xa_V} {M : xa_M} {post : Option xa_V → xa_M → Prop} (hlen : Nat.ble (xa_sum vs) Q0.1 = true)
    (body : xa_Mok I M → (∀ v ∈ vs, xa_vok v) → ∀ Q : xa_Q, xa_go I (xa_C I A h0 d) post full Q0.1 Q0.2.1 Q → xd_go Q0.2.2.2.2.2 Q0.1 full Q → Q 0 (xa_args 0 vs) [] M) : xa_C I A h0 (d + 1) j vs M post := by
  intro h xs hH hA post' hpost
  obtain ⟨m1, m2, m3, m4, m5⟩ := s_mi_ok j Q0 hq
  obtain ⟨c1, c2⟩ := s_codes_ok j Q0 hq
  rw [hfu] at c1 c2
  refine ⟨m1, by rw [m2, xa_slA hA]; exact Nat.le_of_ble_eq_true hlen, ?_⟩
  rw [m5, m2, m4]
  intro P hend hcl
  have hvs : ∀ {vs : List xa_V} {xs : List Value}, xa_gS A vs xs → ∀ v ∈ vs, xa_vok v := by
    intro vs
    induction vs with
    | nil => intro xs _ v hv; cases hv
    | cons w ws ih =>
      intro xs hS v hv
      obtain ⟨x, ys, rfl, hg, hS'⟩ := xa_gS_cons hS
      rcases List.mem_cons.mp hv with rfl | hv
      · exact fun hk => xa_num hk hg
      · exact ih hS' v hv
  have hgo : xa_go I (xa_C I A h0 d) post full Q0.1 Q0.2.1 (xa_P P I A h0) := by
    refine ⟨fun n cuts pc L st M e => ?_, fun pc L L' st M e hQ h Ls sts hH hL hS => hQ h Ls sts hH (xa_sub_ok e hL) hS, fun pc L st M hQ h Ls sts hH hL hS => hQ (xa_H_Mok hH) (fun p hp hk => ?_) h Ls sts hH hL hS⟩
    · exact xa_jp_ok c2 e (xa_wp_ok hcl s_ft_ok (fun j q hq => s_mi_ok j q hq) (fun j vs M post hc h xs hH hA post' hp => hc h xs hH hA post' hp) c2 m3 hend hpost n)
    · obtain ⟨x, -, hg⟩ := hL p hp
      exact xa_num hk hg
  exact body (xa_H_Mok hH) (hvs hA) _ hgo (xd_go_ok hcl c2) h (lv_args 0 xs) [] hH (xa_args_ok hA) trivial
end
section
-- isFitting of the model is safe
set_option maxRecDepth 20000
theorem xd_subD {L L' : xa_L} {i : Nat} {v : xa_V} (e : xa_find L i = some v) (hv : v.1 = 5) (t : xa_sub L' L) : xa_sub ((i, v) :: L') L := by
  refine ⟨?_, t⟩
  rw [e]
  obtain ⟨k, r⟩ := v
  have hk : k = 5 := hv
  subst hk
  exact rfl
theorem xd_lk1 : ∃ ps, (12, 245, 12, 0, 0, 4607182409792818153, ps) ∈ g_lk := by
  have h : g_lk.any (fun r => Nat.beq r.1 12 && (Nat.beq r.2.1 245 && (Nat.beq r.2.2.1 12 && (Nat.beq r.2.2.2.1 0 && (Nat.beq r.2.2.2.2.1 0 && decide (r.2.2.2.2.2.1 = 4607182409792818153)))))) = true := by decide +kernel
  obtain ⟨q, hm, e⟩ := List.any_eq_true.mp h
  obtain ⟨w1, w2, w3, w4, w5, w6, w7⟩ := q
  simp only [Bool.and_eq_true, Nat.beq_eq, decide_eq_true_eq] at e
  obtain ⟨rfl, rfl, rfl, rfl, rfl, rfl⟩ := e
  exact ⟨w7, hm⟩
theorem xd_lk2 : ∃ ps, (12, 247, 12, 0, 0, 4607182423303617035, ps) ∈ g_lk := by
  have h : g_lk.any (fun r => Nat.beq r.1 12 && (Nat.beq r.2.1 247 && (Nat.beq r.2.2.1 12 && (Nat.beq r.2.2.2.1 0 && (Nat.beq r.2.2.2.2.1 0 && decide (r.2.2.2.2.2.1 = 4607182423303617035)))))) = true := by decide +kernel
  obtain ⟨q, hm, e⟩ := List.any_eq_true.mp h
  obtain ⟨w1, w2, w3, w4, w5, w6, w7⟩ := q
  simp only [Bool.and_eq_true, Nat.beq_eq, decide_eq_true_eq] at e
  obtain ⟨rfl, rfl, rfl, rfl, rfl, rfl⟩ := e
  exact ⟨w7, hm⟩
theorem xm_fd_ok : xm_fd := by
  intro A h0 d M post l u p hI hW hF p0 p1 k
  refine xa_C_asm (fun hM _ => ?_)
  have b11 := xm_f11 hM
  have b32 := xm_f32 hM
  have hpp := hI.2.2.1 p p0 p1
  have hsp : ∀ i, 0 ≤ i → i < M 60 32 → 10 ≤ M 84 i ∧ M 84 i ≤ 400 := fun i i0 i1 => by
    have h1 := xm_way_sp hM hI hW i i0 i1
    have h2 := hF i i0 i1
    have h3 := xm_t84 hM i i0 (by omega)
    omega
  refine xa_C_arg [(2, 60, 0, 0, 0), (0, 0, 0, 7, p)] (xa_svR (xa_svI (fun _ _ _ _ => by omega) xa_sv0)) ?_
  refine xa_C_wk (xd_meth (post := xa_wk post) (Q0 := (10, 2, false, 0, 0, 12)) (by decide +kernel) ⟨rfl, rfl⟩ (full := s_c_242) rfl rfl ?_)
  intro _ _ Q hgo hx
  obtain ⟨hi2d, hdiv, hmul, hcmp, hst, hld, hldc⟩ := hx
  obtain ⟨ps1, hk1⟩ := xd_lk1
  obtain ⟨ps2, hk2⟩ := xd_lk2
  have q97 : Q 97 [(1, (0, 0, 0, 7, p)), (0, (2, 60, 0, 0, 0))] [] M := xm_if97 hM hI (fun i i0 i1 => (hsp i i0 i1).1) p0 p1 k hgo
  have q79 : ∀ x : UInt64, Q 79 [(2, xd_v x), (1, (0, 0, 0, 7, p)), (0, (2, 60, 0, 0, 0))] [] M := by
    intro x
    refine hld 79 _ _ _ _ _ _ _ _ x 2 rfl rfl ?_
    refine hldc 80 _ _ _ _ _ _ _ _ 245 0 0 4607182409792818153 ps1 rfl hk1 (fun m => ?_)
    refine hcmp 83 _ _ _ _ _ _ _ _ x m _ rfl (fun n => ?_)
    refine hgo.1 6 [87] 84 _ _ _ ?_
    refine And.intro ?_ ?_
    · intro _
      show xa_wk post (some (0, 0, 0, 0, 0)) M
      exact xa_wkI 0 rfl (fun _ _ => by omega) (k 0 _ (by omega) (fun _ _ _ _ => rfl))
    · intro _
      show Q 87 [(2, xd_v x), (1, (0, 0, 0, 7, p)), (0, (2, 60, 0, 0, 0))] [] M
      refine hld 87 _ _ _ _ _ _ _ _ x 2 rfl rfl ?_
      refine hldc 88 _ _ _ _ _ _ _ _ 247 0 0 4607182423303617035 ps2 rfl hk2 (fun m => ?_)
      refine hcmp 91 _ _ _ _ _ _ _ _ x m _ rfl (fun n => ?_)
      refine hgo.1 6 [97] 92 _ _ _ ?_
      refine And.intro ?_ ?_
      · intro _
        show Q 97 [(2, xd_v x), (1, (0, 0, 0, 7, p)), (0, (2, 60, 0, 0, 0))] [] M
        exact hgo.2.1 97 _ _ _ _ (xa_subI rfl rfl (fun _ _ _ _ => by omega) (xa_subR rfl xa_sub0)) q97
      · intro _
        show xa_wk post (some (0, 0, 0, 0, 0)) M
        exact xa_wkI 0 rfl (fun _ _ => by omega) (k 0 _ (by omega) (fun _ _ _ _ => rfl))
  have loop : ∀ (n : Nat) (x4 : Int) (x : UInt64), 0 ≤ x4 ∧ x4 ≤ 14 → vf_n64 x → 14 - x4 < (n : Int) → Q 19 [(4, (0, 0, 0, 14, x4)), (2, xd_v x), (1, (0, 0, 0, 7, p)), (0, (2, 60, 0, 0, 0))] [] M := by
    intro n
    induction n with
    | zero => intro x4 x b4 _ hms; omega
    | succ n ih =>
      intro x4 x b4 hx hms
      have h10 := fun h : x4 < M 60 32 => hsp x4 (by omega) h
      refine hgo.1 20 [19, 38, 62, 79] 19 _ _ _ ?_
      refine And.intro ?_ ?_
      · intro _
        show Q 79 [(4, (0, 0, 0, 14, x4)), (2, xd_v x), (1, (0, 0, 0, 7, p)), (0, (2, 60, 0, 0, 0))] [] M
        exact hgo.2.1 79 _ _ _ _ (xd_subD rfl rfl (xa_subI rfl rfl (fun _ _ _ _ => by omega) (xa_subR rfl xa_sub0))) (q79 x)
      · intro (c1 : x4 < M 60 32)
        have h10 := h10 c1
        refine And.intro (show 0 ≤ x4 ∧ x4 < 14 by omega) ?_
        refine And.intro ?_ ?_
        · intro _
          refine And.intro (show 0 ≤ x4 ∧ x4 < 14 by omega) ?_
          refine And.intro ?_ ?_
          · intro _
            show Q 19 [(4, (0, 0, 1, 15, x4 + 1)), (2, xd_v x), (1, (0, 0, 0, 7, p)), (0, (2, 60, 0, 0, 0))] [] M
            refine hgo.2.1 19 _ _ _ _ (xa_subI rfl rfl (fun _ _ _ _ => by omega) (xd_subD rfl rfl (xa_subI rfl rfl (fun _ _ _ _ => by omega) (xa_subR rfl xa_sub0)))) (ih (x4 + 1) x (by omega) hx (by omega))
          · intro _
            show Q 62 [(4, (0, 0, 0, 14, x4)), (2, xd_v x), (1, (0, 0, 0, 7, p)), (0, (2, 60, 0, 0, 0))] [] M
            refine hld 62 _ _ _ _ _ _ _ _ x 2 rfl rfl ?_
            refine hgo.1 8 [70] 63 _ _ _ ?_
            refine And.intro (show 0 ≤ x4 ∧ x4 < 14 by omega) ?_
            show Q 70 [(4, (0, 0, 0, 14, x4)), (2, xd_v x), (1, (0, 0, 0, 7, p)), (0, (2, 60, 0, 0, 0))] [(0, 0, 0, 400, M 84 x4), xd_v x] M
            refine hi2d 70 _ _ _ _ _ _ _ _ _ _ _ _ rfl (fun m hm hm2 => ?_)
            refine hdiv 71 _ _ _ _ _ _ _ _ x m rfl hx (hm2 (by omega) (by omega)) (fun y hy => ?_)
            refine hst 72 _ _ _ _ _ _ _ _ y 2 rfl (show 2 + 1 < 10 by decide) ?_
            refine hgo.1 6 [19] 73 _ _ _ ?_
            show Q 19 [(4, (0, 0, 1, 15, x4 + 1)), (2, xd_v y), (1, (0, 0, 0, 7, p)), (0, (2, 60, 0, 0, 0))] [] M
            refine hgo.2.1 19 _ _ _ _ (xa_subI rfl rfl (fun _ _ _ _ => by omega) (xd_subD rfl rfl (xa_subI rfl rfl (fun _ _ _ _ => by omega) (xa_subR rfl xa_sub0)))) (ih (x4 + 1) y (by omega) hy (by omega))
        · intro _
          show Q 38 [(4, (0, 0, 0, 14, x4)), (2, xd_v x), (1, (0, 0, 0, 7, p)), (0, (2, 60, 0, 0, 0))] [] M
          refine hld 38 _ _ _ _ _ _ _ _ x 2 rfl rfl ?_
          refine hgo.1 8 [46] 39 _ _ _ ?_
          refine And.intro (show 0 ≤ x4 ∧ x4 < 14 by omega) ?_
          show Q 46 [(4, (0, 0, 0, 14, x4)), (2, xd_v x), (1, (0, 0, 0, 7, p)), (0, (2, 60, 0, 0, 0))] [(0, 0, 0, 400, M 84 x4), xd_v x] M
          refine hi2d 46 _ _ _ _ _ _ _ _ _ _ _ _ rfl (fun m hm hm2 => ?_)
          refine hmul 47 _ _ _ _ _ _ _ _ x m rfl hx (hm2 (by omega) (by omega)) (fun y hy => ?_)
          refine hst 48 _ _ _ _ _ _ _ _ y 2 rfl (show 2 + 1 < 10 by decide) ?_
          refine hgo.1 6 [19] 49 _ _ _ ?_
          show Q 19 [(4, (0, 0, 1, 15, x4 + 1)), (2, xd_v y), (1, (0, 0, 0, 7, p)), (0, (2, 60, 0, 0, 0))] [] M
          refine hgo.2.1 19 _ _ _ _ (xa_subI rfl rfl (fun _ _ _ _ => by omega) (xd_subD rfl rfl (xa_subI rfl rfl (fun _ _ _ _ => by omega) (xa_subR rfl xa_sub0)))) (ih (x4 + 1) y (by omega) hy (by omega))
  refine hgo.1 8 [6] 0 _ _ _ ?_
  show Q 6 [(0, (2, 60, 0, 0, 0)), (1, (0, 0, 0, 7, p))] [(0, 0, 0, 2000, M 71 p)] M
  have t70 := xm_t70 hM p p0 (by omega)
  have t71 := xm_t71 hM p p0 (by omega)
  refine hi2d 6 _ _ _ _ _ _ _ _ _ _ _ _ rfl (fun m1 v1 w1 => ?_)
  refine hgo.1 8 [13] 7 _ _ _ ?_
  show Q 13 [(0, (2, 60, 0, 0, 0)), (1, (0, 0, 0, 7, p))] [(0, 0, 0, 2000, M 70 p), xd_v m1] M
  refine hi2d 13 _ _ _ _ _ _ _ _ _ _ _ _ rfl (fun m2 v2 w2 => ?_)
  refine hdiv 14 _ _ _ _ _ _ _ _ m1 m2 rfl v1 (w2 (by omega) (by omega)) (fun y hy => ?_)
  refine hst 15 _ _ _ _ _ _ _ _ y 2 rfl (show 2 + 1 < 10 by decide) ?_
  refine hgo.1 6 [19] 16 _ _ _ ?_
  show Q 19 [(4, (0, 0, 0, 0, 0)), (2, xd_v y), (0, (2, 60, 0, 0, 0)), (1, (0, 0, 0, 7, p))] [] M
  exact hgo.2.1 19 _ _ _ _ (xa_subI rfl rfl (fun _ _ _ _ => by omega) (xd_subD rfl rfl (xa_subI rfl rfl (fun _ _ _ _ => by omega) (xa_subR rfl xa_sub0)))) (loop 15 0 y (by omega) hy (by omega))
end
section
-- who stands in whose way: the model's answers
set_option maxRecDepth 20000
def xm_near (M : xa_M) (a b : Int) : Prop := ¬ M 64 a = M 64 b ∧ (M 68 (M 64 a) - M 68 (M 64 b)) * (M 68 (M 64 a) - M 68 (M 64 b)) + (M 69 (M 64 a) - M 69 (M 64 b)) * (M 69 (M 64 a) - M 69 (M 64 b)) < (M 63 a + M 63 b) * (M 63 a + M 63 b)
def xm_inw (M : xa_M) (a b : Int) : Prop := M 64 a = M 64 b ∨ (xm_near M a b ∧ ¬ xm_meshed M a b)
theorem xm_meshed_s {M : xa_M} {a b : Int} (h : xm_meshed M a b) : xm_meshed M b a := by
  obtain ⟨m, m0, m1, h⟩ := h
  exact ⟨m, m0, m1, h.symm⟩
theorem xm_near_s {M : xa_M} {a b : Int} (h : xm_near M a b) : xm_near M b a := by
  obtain ⟨h1, h2⟩ := h
  refine ⟨fun e => h1 e.symm, ?_⟩
  have sq : ∀ x y : Int, (x - y) * (x - y) = (y - x) * (y - x) := fun x y => by
    rw [← Int.neg_sub y x, Int.neg_mul_neg]
  rw [sq (M 68 (M 64 b)), sq (M 69 (M 64 b)), Int.add_comm (M 63 b)]
  exact h2
theorem xm_inw_s {M : xa_M} {a b : Int} (h : xm_inw M a b) : xm_inw M b a := by
  rcases h with h | ⟨h1, h2⟩
  · exact Or.inl h.symm
  · exact Or.inr ⟨xm_near_s h1, fun e => h2 (xm_meshed_s e)⟩
theorem xm_inw_c {M M1 : xa_M} {a b : Int} (h : xm_cor M M1) : xm_inw M1 a b ↔ xm_inw M a b := by
  have e6 := xm_corf h 6 (by omega)
  have e63 := xm_corq h 63 rfl
  have e64 := xm_corq h 64 rfl
  have e66 := xm_corq h 66 rfl
  have e67 := xm_corq h 67 rfl
  have e68 := xm_corq h 68 rfl
  have e69 := xm_corq h 69 rfl
  unfold xm_inw xm_near xm_meshed
  simp only [e6, e63, e64, e66, e67, e68, e69]
theorem ct_areNearF {A : Nat → Nat} {h0 : g_H} {d : Nat} {M : xa_M} {post : Option xa_V → xa_M → Prop} {l1 u1 l2 u2 : Int} {a b : Int} (ha0 : 0 ≤ a) (ha1 : a ≤ 13) (hb0 : 0 ≤ b) (hb1 : b ≤ 13) (k : ∀ r : Int, (r = 0 ∨ r = 1) → (r = 1 ↔ xm_near M a b) → post (some (0, 0, 0, 1, r)) M) : xa_C xm_I A h0 (d + 2) 264 [(2, 60, 0, 0, 0), (0, 0, l1, u1, a), (0, 0, l2, u2, b)] M post := by
  refine xa_C_arg [(2, 60, 0, 0, 0), (0, 0, 0, 13, a), (0, 0, 0, 13, b)] (xa_svR (xa_svI (fun _ _ _ _ => by omega) (xa_svI (fun _ _ _ _ => by omega) xa_sv0))) (xa_C_wk ?_)
  refine xa_meth (Q0 := (4, 2, false, 0, 0, 12)) (by decide +kernel) ⟨rfl, rfl⟩ (full := s_c_264) rfl rfl ?_
  intro hM hv Q hgo
  have x1 := xm_t64 hM a (by omega) (by omega)
  have x2 := xm_t64 hM b (by omega) (by omega)
  refine hgo.1 40 [] 0 _ _ _ ?_
  refine And.intro ?_ ?_
  · intro (c1 : (M 64 a) = (M 64 b))
    show xa_wk post (some (0, 0, 0, 0, 0)) M
    exact xa_wkI 0 rfl (fun _ _ => by omega) (k 0 (by omega) ⟨fun e => by omega, fun e => absurd c1 e.1⟩)
  · intro (c1 : ¬ (M 64 a) = (M 64 b))
    show xa_C xm_I A h0 _ 265 [(2, 60, 0, 0, 0), (0, 0, 0, 9, M 64 a), (0, 0, 0, 9, M 64 b)] M _
    refine ct_apart (by omega) (by omega) (by omega) (by omega) (fun r2 br2 => ?_)
    refine And.intro ?_ ?_
    · intro (c3 : (((M 63 a) + (M 63 b)) * ((M 63 a) + (M 63 b))) ≤ r2)
      show xa_wk post (some (0, 0, 0, 0, 0)) M
      refine xa_wkI 0 rfl (fun _ _ => by omega) (k 0 (by omega) ⟨fun e => by omega, fun e => ?_⟩)
      have e2 := e.2
      rw [← br2] at e2
      exact absurd e2 (Int.not_lt.mpr c3)
    · intro (c3 : r2 < (((M 63 a) + (M 63 b)) * ((M 63 a) + (M 63 b))))
      show xa_wk post (some (0, 0, 1, 1, 1)) M
      exact xa_wkI 1 rfl (fun _ _ => by omega) (k 1 (by omega) ⟨fun _ => ⟨c1, by rw [← br2]; exact c3⟩, fun _ => rfl⟩)
theorem ct_areInWay {A : Nat → Nat} {h0 : g_H} {d : Nat} {M : xa_M} {post : Option xa_V → xa_M → Prop} {l1 u1 l2 u2 : Int} {a b : Int} (ha0 : 0 ≤ a) (ha1 : a ≤ 13) (hb0 : 0 ≤ b) (hb1 : b ≤ 13) (k : ∀ r : Int, (r = 0 ∨ r = 1) → (r = 1 ↔ xm_inw M a b) → post (some (0, 0, 0, 1, r)) M) : xa_C xm_I A h0 (d + 3) 268 [(2, 60, 0, 0, 0), (0, 0, l1, u1, a), (0, 0, l2, u2, b)] M post := by
  refine xa_C_arg [(2, 60, 0, 0, 0), (0, 0, 0, 13, a), (0, 0, 0, 13, b)] (xa_svR (xa_svI (fun _ _ _ _ => by omega) (xa_svI (fun _ _ _ _ => by omega) xa_sv0))) (xa_C_wk ?_)
  refine xa_meth (Q0 := (3, 2, false, 0, 0, 12)) (by decide +kernel) ⟨rfl, rfl⟩ (full := s_c_268) rfl rfl ?_
  intro hM hv Q hgo
  refine hgo.1 40 [] 0 _ _ _ ?_
  refine And.intro ?_ ?_
  · intro (c1 : (M 64 a) = (M 64 b))
    show xa_wk post (some (0, 0, 1, 1, 1)) M
    exact xa_wkI 1 rfl (fun _ _ => by omega) (k 1 (by omega) ⟨fun _ => Or.inl c1, fun _ => rfl⟩)
  · intro (c1 : ¬ (M 64 a) = (M 64 b))
    show xa_C xm_I A h0 _ 264 [(2, 60, 0, 0, 0), (0, 0, 0, 13, a), (0, 0, 0, 13, b)] M _
    refine ct_areNearF ha0 ha1 hb0 hb1 (fun r2 br2 hr2 => ?_)
    refine And.intro ?_ ?_
    · intro (c3 : r2 = 0)
      show xa_wk post (some (0, 0, 0, 0, 0)) M
      refine xa_wkI 0 rfl (fun _ _ => by omega) (k 0 (by omega) ⟨fun e => by omega, fun e => ?_⟩)
      rcases e with e | e
      · exact absurd e c1
      · have := hr2.2 e.1
        omega
    · intro (c3 : ¬ r2 = 0)
      show xa_C xm_I A h0 _ 221 [(2, 60, 0, 0, 0), (0, 0, 0, 13, a), (0, 0, 0, 13, b)] M _
      refine ct_areMeshed (fun r4 br4 hr4 => ?_)
      refine And.intro ?_ ?_
      · intro (c5 : ¬ r4 = 0)
        show xa_wk post (some (0, 0, 0, 0, 0)) M
        refine xa_wkI 0 rfl (fun _ _ => by omega) (k 0 (by omega) ⟨fun e => by omega, fun e => ?_⟩)
        rcases e with e | e
        · exact absurd e c1
        · exact absurd (hr4.1 (by omega)) e.2
      · intro (c5 : r4 = 0)
        show xa_wk post (some (0, 0, 1, 1, 1)) M
        refine xa_wkI 1 rfl (fun _ _ => by omega) (k 1 (by omega) ⟨fun _ => Or.inr ⟨hr2.1 (by omega), fun e => ?_⟩, fun _ => rfl⟩)
        have := hr4.2 e
        omega
/-- who leads: at most as great, and led by none but itself -/
def xm_ff (M : xa_M) : Prop := ∀ w, 0 ≤ w → w < M 60 0 → 0 ≤ M 93 w ∧ M 93 w ≤ w ∧ M 93 (M 93 w) = M 93 w
/-- none of one lot stands in another's way -/
def xm_fw (M : xa_M) : Prop := ∀ v u, 0 ≤ v → v < u → u < M 60 0 → M 93 v = M 93 u → ¬ xm_inw M v u
/-- those ahead of w are put, each lot on its own -/
def xm_pg (M : xa_M) (w used : Int) : Prop := (∀ v, 0 ≤ v → v < w → 0 ≤ M 94 v ∧ M 94 v < used) ∧ (∀ v u, 0 ≤ v → v < w → 0 ≤ u → u < w → M 94 v = M 94 u → M 93 v = M 93 u) ∧ (∀ v, 0 ≤ v → v < w → M 94 (M 93 v) = M 94 v) ∧ used ≤ w
/-- the place at which a lot of its own is -/
def xm_tg (M : xa_M) (w used t : Int) : Prop := (M 93 w < w → t = M 94 (M 93 w)) ∧ (¬ M 93 w < w → t = used)
theorem xm_tg_ex (M : xa_M) (w used : Int) : ∃ t, xm_tg M w used t := by
  by_cases h : M 93 w < w
  · exact ⟨M 94 (M 93 w), fun _ => rfl, fun e => absurd h e⟩
  · exact ⟨used, fun e => absurd e h, fun _ => rfl⟩
/-- only what is put from w on differs -/
def xm_94 (w : Int) (M M1 : xa_M) : Prop := ∀ q j, ¬ (q = 94 ∧ w ≤ j) → M1 q j = M q j
theorem xm_94_r {w : Int} {M : xa_M} : xm_94 w M M := fun _ _ _ => rfl
theorem xm_94_t {w w2 : Int} {M M1 M2 : xa_M} (hw : w ≤ w2) (h : xm_94 w M M1) (h2 : xm_94 w2 M1 M2) : xm_94 w M M2 := fun q j hn => (h2 q j (fun e => hn ⟨e.1, by omega⟩)).trans (h q j hn)
theorem xm_94_u {w : Int} {M M1 : xa_M} {i v : Int} (hi : w ≤ i) (h : xm_94 w M M1) : xm_94 w M (xa_up M1 94 i v) := by
  intro q j hn
  rw [xa_up_ne (fun e => hn ⟨e.1, by omega⟩)]
  exact h q j hn
theorem xm_94_c {w : Int} {M M1 : xa_M} (h : xm_94 w M M1) : xm_cor M M1 := fun q j hn => h q j (fun e => hn (by obtain ⟨e, -⟩ := e; subst e; exact Or.inl (by decide)))
theorem xm_94_ff {w : Int} {M M1 : xa_M} (h : xm_94 w M M1) (hf : xm_ff M) : xm_ff M1 := by
  intro v v0 v1
  rw [h 60 0 (by omega)] at v1
  rw [h 93 v (by omega), h 93 (M 93 v) (by omega)]
  exact hf v v0 v1
theorem xm_94_fw {w : Int} {M M1 : xa_M} (h : xm_94 w M M1) (hf : xm_fw M) : xm_fw M1 := by
  intro v u v0 vu u1 e
  rw [h 60 0 (by omega)] at u1
  rw [h 93 v (by omega), h 93 u (by omega)] at e
  rw [xm_inw_c (xm_94_c h)]
  exact hf v u v0 vu u1 e
theorem xm_pg_s {M M1 : xa_M} {w used t z : Int} (h : xm_94 w M M1) (hf : xm_ff M) (hp : xm_pg M w used) (ht : xm_tg M w used t) (w0 : 0 ≤ w) (w1 : w < M 60 0) (hu : 0 ≤ used) (hz1 : used ≤ z) (hz2 : t + 1 ≤ z) (hz3 : z = used ∨ z = t + 1) : xm_pg (xa_up M1 94 w t) (w + 1) z := by
  obtain ⟨p1, p2, p3, p4⟩ := hp
  have e94 : ∀ v, v < w → xa_up M1 94 w t 94 v = M 94 v := fun v hv => by
    rw [xa_up_ne (by omega)]
    exact h 94 v (by omega)
  have e94w : xa_up M1 94 w t 94 w = t := by simp [xa_up]
  have e93 : ∀ v, xa_up M1 94 w t 93 v = M 93 v := fun v => by
    rw [xa_up_ne (by omega)]
    exact h 93 v (by omega)
  have fw := hf w w0 w1
  have ht0 : 0 ≤ t ∧ t ≤ used ∧ (∀ v, 0 ≤ v → v < w → M 94 v = t → M 93 v = M 93 w) := by
    by_cases c : M 93 w < w
    · have e := ht.1 c
      have b := p1 (M 93 w) fw.1 c
      refine ⟨by omega, by omega, fun v v0 v1 ev => ?_⟩
      rw [p2 v (M 93 w) v0 v1 fw.1 c (by omega)]
      exact fw.2.2
    · have e := ht.2 c
      refine ⟨by omega, by omega, fun v v0 v1 ev => ?_⟩
      have := p1 v v0 v1
      omega
  refine ⟨fun v v0 v1 => ?_, fun v u v0 v1 u0 u1 e => ?_, fun v v0 v1 => ?_, by omega⟩
  · rcases Int.lt_or_eq_of_le (show v ≤ w by omega) with c | c
    · rw [e94 v c]
      have := p1 v v0 c
      omega
    · rw [c, e94w]
      omega
  · rw [e93, e93]
    rcases Int.lt_or_eq_of_le (show v ≤ w by omega) with c | c <;> rcases Int.lt_or_eq_of_le (show u ≤ w by omega) with c2 | c2
    · rw [e94 v c, e94 u c2] at e
      exact p2 v u v0 c u0 c2 e
    · rw [e94 v c, c2, e94w] at e
      rw [c2]
      exact ht0.2.2 v v0 c e
    · rw [e94 u c2, c, e94w] at e
      rw [c]
      exact (ht0.2.2 u u0 c2 e.symm).symm
    · rw [c, c2]
  · rw [e93]
    rcases Int.lt_or_eq_of_le (show v ≤ w by omega) with c | c
    · have f := hf v v0 (by omega)
      rw [e94 v c, e94 _ (by omega)]
      exact p3 v v0 c
    · rw [c]
      by_cases c2 : M 93 w < w
      · rw [e94w, e94 _ c2]
        exact (ht.1 c2).symm
      · rw [show M 93 w = w by omega]
end
section
-- puts of the model: it ends, keeps what is ahead, and finds a way where there are depths enough
set_option maxRecDepth 20000
theorem xm_tg_b {M : xa_M} {w used t : Int} (hf : xm_ff M) (hp : xm_pg M w used) (ht : xm_tg M w used t) (w0 : 0 ≤ w) (w1 : w < M 60 0) : t ≤ used ∧ ∀ v, 0 ≤ v → v < w → M 94 v = t → M 93 v = M 93 w := by
  obtain ⟨p1, p2, p3, p4⟩ := hp
  have fw := hf w w0 w1
  by_cases c : M 93 w < w
  · have e := ht.1 c
    have b := p1 (M 93 w) fw.1 c
    refine ⟨by omega, fun v v0 v1 ev => ?_⟩
    rw [p2 v (M 93 w) v0 v1 fw.1 c (by omega)]
    exact fw.2.2
  · have e := ht.2 c
    refine ⟨by omega, fun v v0 v1 ev => ?_⟩
    have := p1 v v0 v1
    omega
theorem ct_puts : ∀ (k : Nat) {A : Nat → Nat} {h0 : g_H} {d : Nat} {M : xa_M} {post : Option xa_V → xa_M → Prop} {l1 u1 l2 u2 l3 u3 : Int} {w u m : Int}, M 60 0 - w = (k : Int) → 0 ≤ w → 0 ≤ u → u ≤ 14 → 0 ≤ m → m ≤ 14 → xm_ff M → xm_fw M → (∀ (r : Int) (M1 : xa_M), (r = 0 ∨ r = 1) → xm_94 w M M1 → (M 60 0 ≤ m → xm_pg M w u → r = 1) → post (some (0, 0, 0, 1, r)) M1) → xa_C xm_I A h0 (d + k + 4) 269 [(2, 60, 0, 0, 0), (0, 0, l1, u1, w), (0, 0, l2, u2, u), (0, 0, l3, u3, m)] M post := by
  intro k
  induction k with
  | zero =>
    intro A h0 d M post l1 u1 l2 u2 l3 u3 w u m hw w0 u0 u14 m0 m14 hff hfw kk
    refine xa_C_asm (fun hM _ => ?_)
    have b0 := xm_f0 hM
    refine xa_C_arg [(2, 60, 0, 0, 0), (0, 0, 0, 14, w), (0, 0, 0, 14, u), (0, 0, 0, 14, m)] (xa_svR (xa_svI (fun _ _ _ _ => by omega) (xa_svI (fun _ _ _ _ => by omega) (xa_svI (fun _ _ _ _ => by omega) xa_sv0)))) (xa_C_wk ?_)
    refine xa_meth (Q0 := (7, 2, false, 0, 0, 12)) (by decide +kernel) ⟨rfl, rfl⟩ (full := s_c_269) rfl rfl ?_
    intro _ _ Q hgo
    refine hgo.1 11 [13, 60] 0 _ _ _ ?_
    refine And.intro ?_ ?_
    · intro (c1 : ¬ w = (M 60 0))
      exfalso
      omega
    · intro (c1 : w = (M 60 0))
      show xa_wk post (some (0, 0, 1, 1, 1)) M
      exact xa_wkI 1 rfl (fun _ _ => by omega) (kk 1 _ (by omega) xm_94_r (fun _ _ => rfl))
  | succ k ih =>
    intro A h0 d M post l1 u1 l2 u2 l3 u3 w u m hw w0 u0 u14 m0 m14 hff hfw kk
    refine xa_C_asm (fun hM _ => ?_)
    have b0 := xm_f0 hM
    have hw1 : w < M 60 0 := by omega
    refine xa_C_arg [(2, 60, 0, 0, 0), (0, 0, 0, 13, w), (0, 0, 0, 14, u), (0, 0, 0, 14, m)] (xa_svR (xa_svI (fun _ _ _ _ => by omega) (xa_svI (fun _ _ _ _ => by omega) (xa_svI (fun _ _ _ _ => by omega) xa_sv0)))) (xa_C_wk ?_)
    refine xa_meth (d := d + k + 4) (Q0 := (7, 2, false, 0, 0, 12)) (by decide +kernel) ⟨rfl, rfl⟩ (full := s_c_269) rfl rfl ?_
    intro _ _ Q hgo
    obtain ⟨t, ht⟩ := xm_tg_ex M w u
    have htb := fun hp => xm_tg_b hff hp ht w0 hw1
    have hfz := hff w w0 hw1
    have loop1 : ∀ (n : Nat) (x4 : Int) (M1 : xa_M), 0 ≤ x4 ∧ x4 ≤ 14 → xm_94 w M M1 → (M 60 0 ≤ m → xm_pg M w u → x4 ≤ t) → 14 - x4 < (n : Int) → Q 13 [(4, (0, 0, 0, 14, x4)), (1, (0, 0, 0, 13, w)), (2, (0, 0, 0, 14, u)), (3, (0, 0, 0, 14, m)), (0, (2, 60, 0, 0, 0))] [] M1 := by
      intro n
      induction n with
      | zero => intro x4 M1 b4 h94 hle hms; omega
      | succ n ih1 =>
        intro x4 M1 b4 h94 hle hms
        have e93 : M1 93 w = M 93 w := h94 93 w (by omega)
        have e0 : M1 60 0 = M 60 0 := h94 60 0 (by omega)
        have loop2 : ∀ (n2 : Nat) (x6 x5 : Int), 0 ≤ x6 ∧ x6 ≤ 14 → 0 ≤ x5 ∧ x5 ≤ 1 → x6 ≤ w → x4 < m → x4 ≤ u → (M 60 0 ≤ m → xm_pg M w u → x4 = t → x5 = 1) → 14 - x6 < (n2 : Int) → Q 60 [(6, (0, 0, 0, 14, x6)), (5, (0, 0, 0, 1, x5)), (4, (0, 0, 0, 13, x4)), (1, (0, 0, 0, 13, w)), (2, (0, 0, 0, 14, u)), (3, (0, 0, 0, 14, m)), (0, (2, 60, 0, 0, 0))] [] M1 := by
          intro n2
          induction n2 with
          | zero => intro x6 x5 b6 b5 h6 h4m h4u hcan hms2; omega
          | succ n2 ih2 =>
            intro x6 x5 b6 b5 h6 h4m h4u hcan hms2
            refine hgo.1 29 [13, 60] 60 _ _ _ ?_
            refine And.intro ?_ ?_
            · intro (c1 : w ≤ x6)
              refine And.intro ?_ ?_
              · intro (c2 : x5 = 0)
                show Q 13 [(4, (0, 0, 1, 14, x4 + 1)), (6, (0, 0, 0, 14, x6)), (5, (0, 0, 0, 1, x5)), (1, (0, 0, 0, 13, w)), (2, (0, 0, 0, 14, u)), (3, (0, 0, 0, 14, m)), (0, (2, 60, 0, 0, 0))] [] (xa_up M1 94 w x4)
                refine hgo.2.1 13 _ _ _ _ (xa_subI rfl rfl (fun _ _ _ _ => by omega) (xa_subI rfl rfl (fun _ _ _ _ => by omega) (xa_subI rfl rfl (fun _ _ _ _ => by omega) (xa_subI rfl rfl (fun _ _ _ _ => by omega) (xa_subR rfl xa_sub0))))) (ih1 (x4 + 1) (xa_up M1 94 w x4) (by omega) (xm_94_u (by omega) h94) (fun hm hp => ?_) (by omega))
                have a := hle hm hp
                have b := hcan hm hp
                omega
              · intro (c2 : ¬ x5 = 0)
                show xa_C xm_I A h0 _ 35 [(0, 0, 0, 14, u), (0, 0, 1, 14, x4 + 1)] (xa_up M1 94 w x4) _
                refine ct_max 1 14 (by decide) (by decide) (by decide) (fun r3 br3 er3 => ?_)
                show xa_C xm_I A h0 (d + k + 4) 269 [(2, 60, 0, 0, 0), (0, 0, 1, 14, w + 1), (0, 0, 1, 14, r3), (0, 0, 0, 14, m)] (xa_up M1 94 w x4) _
                have h94u : xm_94 w M (xa_up M1 94 w x4) := xm_94_u (by omega) h94
                have e0u : xa_up M1 94 w x4 60 0 = M 60 0 := h94u 60 0 (by omega)
                refine ih (d := d) (by omega) (by omega) (by omega) (by omega) (by omega) (by omega) (xm_94_ff h94u hff) (xm_94_fw h94u hfw) (fun r4 M4 br4 h4 hr4 => ?_)
                have h94v : xm_94 w M M4 := xm_94_t (by omega) h94u h4
                refine And.intro ?_ ?_
                · intro (c5 : r4 = 0)
                  show Q 13 [(4, (0, 0, 1, 14, x4 + 1)), (6, (0, 0, 0, 14, x6)), (5, (0, 0, 0, 1, x5)), (1, (0, 0, 0, 13, w)), (2, (0, 0, 0, 14, u)), (3, (0, 0, 0, 14, m)), (0, (2, 60, 0, 0, 0))] [] M4
                  refine hgo.2.1 13 _ _ _ _ (xa_subI rfl rfl (fun _ _ _ _ => by omega) (xa_subI rfl rfl (fun _ _ _ _ => by omega) (xa_subI rfl rfl (fun _ _ _ _ => by omega) (xa_subI rfl rfl (fun _ _ _ _ => by omega) (xa_subR rfl xa_sub0))))) (ih1 (x4 + 1) M4 (by omega) h94v (fun hm hp => ?_) (by omega))
                  have a := hle hm hp
                  rcases Int.lt_or_eq_of_le a with c | c
                  · omega
                  · exfalso
                    have hp2 := xm_pg_s (z := r3) h94 hff hp ht w0 hw1 u0 (by omega) (by omega) (by omega)
                    rw [← c] at hp2
                    have := hr4 (by omega) hp2
                    omega
                · intro (c5 : ¬ r4 = 0)
                  show xa_wk post (some (0, 0, 1, 1, 1)) M4
                  exact xa_wkI 1 rfl (fun _ _ => by omega) (kk 1 _ (by omega) h94v (fun _ _ => rfl))
            · intro (c1 : x6 < w)
              refine And.intro ?_ ?_
              · intro (c6 : x5 = 0)
                show Q 60 [(6, (0, 0, 1, 15, x6 + 1)), (5, (0, 0, 0, 0, 0)), (4, (0, 0, 0, 13, x4)), (1, (0, 0, 0, 13, w)), (2, (0, 0, 0, 14, u)), (3, (0, 0, 0, 14, m)), (0, (2, 60, 0, 0, 0))] [] M1
                refine hgo.2.1 60 _ _ _ _ (xa_subI rfl rfl (fun _ _ _ _ => by omega) (xa_subI rfl rfl (fun _ _ _ _ => by omega) (xa_subI rfl rfl (fun _ _ _ _ => by omega) (xa_subI rfl rfl (fun _ _ _ _ => by omega) (xa_subI rfl rfl (fun _ _ _ _ => by omega) (xa_subI rfl rfl (fun _ _ _ _ => by omega) (xa_subR rfl xa_sub0))))))) (ih2 (x6 + 1) 0 (by omega) (by omega) (by omega) h4m h4u (fun hm hp e => ?_) (by omega))
                have := hcan hm hp e
                omega
              · intro (c6 : ¬ x5 = 0)
                have e94 : M1 94 x6 = M 94 x6 := h94 94 x6 (by omega)
                refine And.intro (show 0 ≤ x6 ∧ x6 < 14 by omega) ?_
                refine And.intro ?_ ?_
                · intro (c7 : ¬ (M1 94 x6) = x4)
                  show Q 60 [(6, (0, 0, 1, 15, x6 + 1)), (5, (0, 0, 1, 1, 1)), (4, (0, 0, 0, 13, x4)), (1, (0, 0, 0, 13, w)), (2, (0, 0, 0, 14, u)), (3, (0, 0, 0, 14, m)), (0, (2, 60, 0, 0, 0))] [] M1
                  exact hgo.2.1 60 _ _ _ _ (xa_subI rfl rfl (fun _ _ _ _ => by omega) (xa_subI rfl rfl (fun _ _ _ _ => by omega) (xa_subI rfl rfl (fun _ _ _ _ => by omega) (xa_subI rfl rfl (fun _ _ _ _ => by omega) (xa_subI rfl rfl (fun _ _ _ _ => by omega) (xa_subI rfl rfl (fun _ _ _ _ => by omega) (xa_subR rfl xa_sub0))))))) (ih2 (x6 + 1) 1 (by omega) (by omega) (by omega) h4m h4u (fun _ _ _ => rfl) (by omega))
                · intro (c7 : (M1 94 x6) = x4)
                  show xa_C xm_I A h0 _ 268 [(2, 60, 0, 0, 0), (0, 0, 0, 14, x6), (0, 0, 0, 13, w)] M1 _
                  refine ct_areInWay (by omega) (by omega) (by omega) (by omega) (fun r8 br8 hr8 => ?_)
                  refine And.intro ?_ ?_
                  · intro (c9 : ¬ r8 = 0)
                    show Q 60 [(6, (0, 0, 1, 15, x6 + 1)), (5, (0, 0, 0, 0, 0)), (4, (0, 0, 0, 13, x4)), (1, (0, 0, 0, 13, w)), (2, (0, 0, 0, 14, u)), (3, (0, 0, 0, 14, m)), (0, (2, 60, 0, 0, 0))] [] M1
                    refine hgo.2.1 60 _ _ _ _ (xa_subI rfl rfl (fun _ _ _ _ => by omega) (xa_subI rfl rfl (fun _ _ _ _ => by omega) (xa_subI rfl rfl (fun _ _ _ _ => by omega) (xa_subI rfl rfl (fun _ _ _ _ => by omega) (xa_subI rfl rfl (fun _ _ _ _ => by omega) (xa_subI rfl rfl (fun _ _ _ _ => by omega) (xa_subR rfl xa_sub0))))))) (ih2 (x6 + 1) 0 (by omega) (by omega) (by omega) h4m h4u (fun hm hp e => ?_) (by omega))
                    exfalso
                    have e2 := (htb hp).2 x6 b6.1 c1 (by omega)
                    have hi := hr8.1 (by omega)
                    rw [xm_inw_c (xm_94_c h94)] at hi
                    exact hfw x6 w b6.1 c1 hw1 e2 hi
                  · intro (c9 : r8 = 0)
                    show Q 60 [(6, (0, 0, 1, 15, x6 + 1)), (5, (0, 0, 1, 1, 1)), (4, (0, 0, 0, 13, x4)), (1, (0, 0, 0, 13, w)), (2, (0, 0, 0, 14, u)), (3, (0, 0, 0, 14, m)), (0, (2, 60, 0, 0, 0))] [] M1
                    exact hgo.2.1 60 _ _ _ _ (xa_subI rfl rfl (fun _ _ _ _ => by omega) (xa_subI rfl rfl (fun _ _ _ _ => by omega) (xa_subI rfl rfl (fun _ _ _ _ => by omega) (xa_subI rfl rfl (fun _ _ _ _ => by omega) (xa_subI rfl rfl (fun _ _ _ _ => by omega) (xa_subI rfl rfl (fun _ _ _ _ => by omega) (xa_subR rfl xa_sub0))))))) (ih2 (x6 + 1) 1 (by omega) (by omega) (by omega) h4m h4u (fun _ _ _ => rfl) (by omega))
        refine hgo.1 30 [13, 60] 13 _ _ _ ?_
        refine And.intro ?_ ?_
        · intro (c1 : u < x4)
          show xa_wk post (some (0, 0, 0, 0, 0)) M1
          refine xa_wkI 0 rfl (fun _ _ => by omega) (kk 0 _ (by omega) h94 (fun hm hp => ?_))
          have a := hle hm hp
          have b := (htb hp).1
          omega
        · intro (c1 : x4 ≤ u)
          refine And.intro ?_ ?_
          · intro (c2 : m ≤ x4)
            show xa_wk post (some (0, 0, 0, 0, 0)) M1
            refine xa_wkI 0 rfl (fun _ _ => by omega) (kk 0 _ (by omega) h94 (fun hm hp => ?_))
            have a := hle hm hp
            have b := (htb hp).1
            have c := hp.2.2.2
            omega
          · intro (c2 : x4 < m)
            have go60 : Q 60 [(6, (0, 0, 0, 0, 0)), (5, (0, 0, 1, 1, 1)), (4, (0, 0, 0, 14, x4)), (1, (0, 0, 0, 13, w)), (2, (0, 0, 0, 14, u)), (3, (0, 0, 0, 14, m)), (0, (2, 60, 0, 0, 0))] [] M1 := hgo.2.1 60 _ _ _ _ (xa_subI rfl rfl (fun _ _ _ _ => by omega) (xa_subI rfl rfl (fun _ _ _ _ => by omega) (xa_subI rfl rfl (fun _ _ _ _ => by omega) (xa_subI rfl rfl (fun _ _ _ _ => by omega) (xa_subI rfl rfl (fun _ _ _ _ => by omega) (xa_subI rfl rfl (fun _ _ _ _ => by omega) (xa_subR rfl xa_sub0))))))) (loop2 15 0 1 (by omega) (by omega) (by omega) c2 c1 (fun _ _ _ => rfl) (by omega))
            refine And.intro ?_ ?_
            · intro (c3 : w ≤ (M1 93 w))
              exact go60
            · intro (c3 : (M1 93 w) < w)
              refine And.intro ?_ ?_
              · intro (c4 : (M1 94 (M1 93 w)) = x4)
                exact go60
              · intro (c4 : ¬ (M1 94 (M1 93 w)) = x4)
                show Q 13 [(4, (0, 0, 1, 15, x4 + 1)), (1, (0, 0, 0, 13, w)), (2, (0, 0, 0, 14, u)), (3, (0, 0, 0, 14, m)), (0, (2, 60, 0, 0, 0))] [] M1
                rw [e93] at c3 c4
                rw [h94 94 (M 93 w) (by omega)] at c4
                refine hgo.2.1 13 _ _ _ _ (xa_subI rfl rfl (fun _ _ _ _ => by omega) (xa_subI rfl rfl (fun _ _ _ _ => by omega) (xa_subI rfl rfl (fun _ _ _ _ => by omega) (xa_subI rfl rfl (fun _ _ _ _ => by omega) (xa_subR rfl xa_sub0))))) (ih1 (x4 + 1) M1 (by omega) h94 (fun hm hp => ?_) (by omega))
                have a := hle hm hp
                have b := ht.1 c3
                omega
    refine hgo.1 11 [13, 60] 0 _ _ _ ?_
    refine And.intro ?_ ?_
    · intro (c1 : ¬ w = (M 60 0))
      show Q 13 [(4, (0, 0, 0, 0, 0)), (0, (2, 60, 0, 0, 0)), (1, (0, 0, 0, 13, w)), (2, (0, 0, 0, 14, u)), (3, (0, 0, 0, 14, m))] [] M
      refine hgo.2.1 13 _ _ _ _ (xa_subI rfl rfl (fun _ _ _ _ => by omega) (xa_subI rfl rfl (fun _ _ _ _ => by omega) (xa_subI rfl rfl (fun _ _ _ _ => by omega) (xa_subI rfl rfl (fun _ _ _ _ => by omega) (xa_subR rfl xa_sub0))))) (loop1 15 0 M (by omega) xm_94_r (fun hm hp => ?_) (by omega))
      by_cases c : M 93 w < w
      · have a := ht.1 c
        have b := hp.1 (M 93 w) hfz.1 c
        omega
      · have a := ht.2 c
        omega
    · intro (c1 : w = (M 60 0))
      exfalso
      omega
end

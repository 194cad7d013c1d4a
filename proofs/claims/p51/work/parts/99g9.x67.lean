set_option maxRecDepth 20000
/-- the class tells a way: what stands when the periods up to p are seen for sign s (g: one is found) -/
def rz_w (T C : Int → Int) (N S s u p g z : Int) : Prop := (g = 0 ∧ xa_bc u = s ∧ nm_s T C s u (nm_f T C N S.toNat (N - s - 1).toNat) p.toNat = 0 ∧ z = s) ∨ (g = 1 ∧ xa_bc u = s + 1 ∧ z = s + 1)
theorem rz_w0 {T C : Int → Int} {N S s u p g z : Int} (h : rz_w T C N S s u p g z) (hg : g = 0) : xa_bc u = s ∧ nm_s T C s u (nm_f T C N S.toNat (N - s - 1).toNat) p.toNat = 0 ∧ z = s := by
  rcases h with ⟨-, a⟩ | ⟨a, -⟩
  · exact a
  · omega
theorem rz_w1 {T C : Int → Int} {N S s u p g z : Int} (h : rz_w T C N S s u p g z) (hg : ¬ g = 0) : xa_bc u = s + 1 ∧ z = s + 1 := by
  rcases h with ⟨a, -⟩ | ⟨-, a⟩
  · exact absurd a hg
  · exact a
theorem rz_wS {T C : Int → Int} {N S s u p g z : Int} (hs : s < N) (hp : p = S) (hg : 0 < nm_g T C N S.toNat u) (h : rz_w T C N S s u p g z) : xa_bc u = s + 1 ∧ z = s + 1 := by
  rcases h with ⟨-, a, b, -⟩ | ⟨-, a⟩
  · exfalso
    have e := nm_gL (T := T) (C := C) (N := N) (u := u) (S := S.toNat) (show xa_bc u < N by omega)
    rw [hp] at b
    rw [a, b] at e
    omega
  · exact a
/-- the reference tells a way: the first that it counts -/
def rz_g (m s0 c s : Int) : Prop := (c ≤ 0 ∧ s = s0) ∨ (0 < c ∧ s = m)
theorem rz_g1 {m s0 c s c' s' : Int} (h : rz_g m s0 c s) (hc : ¬ c = 0) (h0 : 0 ≤ c) (ec : c' = c + 1) (es : s' = s) : rz_g m s0 c' s' := by
  unfold rz_g at h ⊢
  omega
theorem rz_gc {m s0 c s e : Int} (h : rz_g m s0 c s) (he : m = e) : rz_c (0 < c) s0 s e := by
  unfold rz_g at h
  unfold rz_c
  omega
theorem rz_178_50 {b : Bool} {A : Nat → Nat} {h0 : g_H} {d : Nat} {M : xa_M} {post : Option xa_V → xa_M → Prop} {T C : Int → Int} (hN : 0 ≤ M 30 1 ∧ M 30 1 ≤ 8) (hS : 0 ≤ M 50 4 ∧ M 50 4 ≤ 8) (hT : ∀ i, 0 ≤ i → i < 80 → M 31 i = T i) (hC : ∀ i, 0 ≤ i → i < M 50 4 → M 53 i = bk_n (C i)) (hL : ∀ i, 0 ≤ i → i < M 30 1 → nm_l (T i)) (hW : ∀ v, 0 ≤ v → v < xa_ib 6 1 (M 50 4) → M 54 v = nm_g T C (M 30 1) (M 50 4).toNat v) (hW0 : 0 < M 54 0) (k : ∀ M1 : xa_M, (∀ q j, ¬ q = 48 → ¬ q = 49 → M1 q j = M q j) → M1 48 1 = M 30 1 → post none M1) : xa_C (xl_I b) A h0 (d + 5) 178 [(2, 50, 0, 0, 0), (2, 30, 0, 0, 0), (2, 48, 0, 0, 0)] M post := by
  refine xa_meth (Q0 := (7, 0, false, 0, 0, 0)) (by decide +kernel) ⟨rfl, rfl⟩ (full := s_c_178) rfl rfl ?_
  intro hM hv Q hgo
  have loop : ∀ (f : Nat) (s u : Int) (M1 : xa_M), 0 ≤ s ∧ s ≤ 8 → 0 ≤ u ∧ u ≤ 255 → (∀ q j, ¬ q = 48 → ¬ q = 49 → M1 q j = M q j) → (s ≤ M 30 1 ∧ u < xa_ib 6 1 (M 50 4) ∧ xa_bc u = s ∧ 0 < nm_g T C (M 30 1) (M 50 4).toNat u ∧ M1 48 1 = s) → 8 - s < (f : Int) → Q 9 [(4, (0, 0, 0, 8, s)), (3, (0, 0, 0, 255, u)), (0, (2, 50, 0, 0, 0)), (1, (2, 30, 0, 0, 0)), (2, (2, 48, 0, 0, 0))] [] M1 := by
    intro f
    induction f with
    | zero => intro s u M1 s1 u1 hk h48 hms; omega
    | succ f ih =>
      intro s u M1 s1 u1 hk h48 hms
      have inner : s < M 30 1 → ∀ (f2 : Nat) (M1 : xa_M) (u p g : Int), 0 ≤ u ∧ u ≤ 255 → 0 ≤ p ∧ p ≤ 8 → 0 ≤ g ∧ g ≤ 1 → (∀ q j, ¬ q = 48 → ¬ q = 49 → M1 q j = M q j) → (p ≤ M 50 4 ∧ u < xa_ib 6 1 (M 50 4) ∧ 0 < nm_g T C (M 30 1) (M 50 4).toNat u ∧ rz_w T C (M 30 1) (M 50 4) s u p g (M1 48 1)) → 8 - p < (f2 : Int) → Q 24 [(6, (0, 0, 0, 8, p)), (5, (0, 0, 0, 1, g)), (4, (0, 0, 0, 8, s)), (3, (0, 0, 0, 255, u)), (0, (2, 50, 0, 0, 0)), (1, (2, 30, 0, 0, 0)), (2, (2, 48, 0, 0, 0))] [] M1 := by
        intro sN f2
        induction f2 with
        | zero => intro M1 u p g u1 p1 g1 hk h48 hms2; omega
        | succ f2 ihf =>
          intro M1 u p g u1 p1 g1 hk h48 hms2
          have e30 : M1 30 1 = M 30 1 := hk 30 1 (by decide) (by decide)
          have e4 : M1 50 4 = M 50 4 := hk 50 4 (by decide) (by decide)
          refine hgo.1 44 [9, 24] 24 _ _ _ ?_
          refine And.intro ?_ ?_
          · intro (c1 : (M1 50 4) ≤ p)
            show Q 9 [(4, (0, 0, 1, 9, s + 1)), (6, (0, 0, 0, 8, p)), (5, (0, 0, 0, 1, g)), (3, (0, 0, 0, 255, u)), (0, (2, 50, 0, 0, 0)), (1, (2, 30, 0, 0, 0)), (2, (2, 48, 0, 0, 0))] [] M1
            refine hgo.2.1 9 _ [(4, (0, 0, 0, 8, s + 1)), (3, (0, 0, 0, 255, u)), (0, (2, 50, 0, 0, 0)), (1, (2, 30, 0, 0, 0)), (2, (2, 48, 0, 0, 0))] _ _ (xa_subI rfl rfl (fun _ _ _ _ => by omega) (xa_subI rfl rfl (fun _ _ _ _ => by omega) (xa_subR rfl (xa_subR rfl (xa_subR rfl (xa_sub0)))))) ?_
            have w9 := rz_wS sN (show p = M 50 4 by omega) h48.2.2.1 h48.2.2.2
            exact ih (s + 1) u M1 (by omega) (by omega) hk ⟨by omega, h48.2.1, w9.1, h48.2.2.1, w9.2⟩ (by omega)
          · intro (c1 : p < (M1 50 4))
            refine And.intro ?_ ?_
            · intro (c2 : ¬ g = 0)
              show Q 9 [(4, (0, 0, 1, 9, s + 1)), (6, (0, 0, 0, 8, p)), (5, (0, 0, 0, 1, g)), (3, (0, 0, 0, 255, u)), (0, (2, 50, 0, 0, 0)), (1, (2, 30, 0, 0, 0)), (2, (2, 48, 0, 0, 0))] [] M1
              refine hgo.2.1 9 _ [(4, (0, 0, 0, 8, s + 1)), (3, (0, 0, 0, 255, u)), (0, (2, 50, 0, 0, 0)), (1, (2, 30, 0, 0, 0)), (2, (2, 48, 0, 0, 0))] _ _ (xa_subI rfl rfl (fun _ _ _ _ => by omega) (xa_subI rfl rfl (fun _ _ _ _ => by omega) (xa_subR rfl (xa_subR rfl (xa_subR rfl (xa_sub0)))))) ?_
              have w9 := rz_w1 h48.2.2.2 c2
              exact ih (s + 1) u M1 (by omega) (by omega) hk ⟨by omega, h48.2.1, w9.1, h48.2.2.1, w9.2⟩ (by omega)
            · intro (c2 : g = 0)
              have w9 := rz_w0 h48.2.2.2 c2
              have ei : ((p.toNat : Nat) : Int) = p := Int.toNat_of_nonneg (by omega)
              have t9 : M1 31 s = T s := (hk 31 s (by decide) (by decide)).trans (hT s (by omega) (by omega))
              have l9 := hL s (by omega) (by omega)
              unfold nm_l at l9
              have q9 : M1 53 p = bk_n (C p) := (hk 53 p (by decide) (by decide)).trans (hC p (by omega) (by omega))
              have g9 := nm_bn (C p)
              show xa_C (xl_I b) A h0 _ 177 [(2, 50, 0, 0, 0), (2, 30, 0, 0, 0), (0, 0, 0, 8, s), (0, 0, 0, 255, u), (0, 0, 0, 8, p)] M1 _
              refine cg_177_50 (show 0 ≤ (M1 30 1) ∧ (M1 30 1) ≤ 80 by omega) (show 0 ≤ p ∧ p < 8 by omega) (show 0 ≤ s ∧ s < (M1 30 1) by omega) ?_ ?_
              · intro (i3 : (M1 31 s = 63 ∨ M1 31 s = M1 53 p) ∧ xa_ib 3 (xa_ib 7 u p) 1 = 0)
                have dF := nm_F8 (u := u) (p := p) (by omega) (by omega) (by omega) (by omega) i3.2
                have dG := nm_F (S := M 50 4) (u := u) (p := p) u1.1 p1.1 (by omega) hS.2 h48.2.1 i3.2
                have f9 : nm_o T C s u ((p.toNat : Nat) : Int) = true := by
                  rw [ei, nm_oi]
                  exact ⟨by omega, i3.2⟩
                have es := nm_s1 (F := nm_f T C (M 30 1) (M 50 4).toNat (M 30 1 - s - 1).toNat) f9
                rw [ei] at es
                have eg : M1 54 (xa_ib 4 u (xa_ib 6 1 p)) = nm_g T C (M 30 1) (M 50 4).toNat (xa_ib 4 u (xa_ib 6 1 p)) := (hk 54 (xa_ib 4 u (xa_ib 6 1 p)) (by decide) (by decide)).trans (hW (xa_ib 4 u (xa_ib 6 1 p)) (by omega) dG.2.1)
                have gs := nm_gs (T := T) (C := C) (N := M 30 1) (u := u) (v := (xa_ib 4 u (xa_ib 6 1 p))) (S := (M 50 4).toNat) (by omega) dG.2.2
                rw [w9.1, ← eg] at gs
                have b2 := (nm_fb (T := T) (C := C) (N := M 30 1) (S := (M 50 4).toNat) (f := (M 30 1 - s - 1).toNat) (by omega) (by omega) (xa_ib 4 u (xa_ib 6 1 p))).1
                rw [← gs] at es b2
                show xa_C (xl_I b) A h0 _ 23 [(2, 54, 0, 0, 0), (0, 0, (-2147483648), 2147483647, xa_ib 4 u (xa_ib 6 1 p))] M1 _
                refine cx_23_54 (show 0 ≤ (xa_ib 4 u (xa_ib 6 1 p)) ∧ (xa_ib 4 u (xa_ib 6 1 p)) < 256 by omega) ?_
                refine And.intro ?_ ?_
                · intro (c4 : (M1 54 (xa_ib 4 u (xa_ib 6 1 p))) ≤ 0)
                  show Q 24 [(6, (0, 0, 1, 9, p + 1)), (5, (0, 0, 0, 0, 0)), (4, (0, 0, 0, 8, s)), (3, (0, 0, 0, 255, u)), (0, (2, 50, 0, 0, 0)), (1, (2, 30, 0, 0, 0)), (2, (2, 48, 0, 0, 0))] [] M1
                  refine hgo.2.1 24 _ [(6, (0, 0, 0, 8, p + 1)), (5, (0, 0, 0, 1, 0)), (4, (0, 0, 0, 8, s)), (3, (0, 0, 0, 255, u)), (0, (2, 50, 0, 0, 0)), (1, (2, 30, 0, 0, 0)), (2, (2, 48, 0, 0, 0))] _ _ (xa_subI rfl rfl (fun _ _ _ _ => by omega) (xa_subI rfl rfl (fun _ _ _ _ => by omega) (xa_subI rfl rfl (fun _ _ _ _ => by omega) (xa_subI rfl rfl (fun _ _ _ _ => by omega) (xa_subR rfl (xa_subR rfl (xa_subR rfl (xa_sub0)))))))) ?_
                  exact ihf M1 u (p + 1) 0 (by omega) (by omega) (by omega) (fun q j h1 h2 => hk q j h1 h2) ⟨by omega, h48.2.1, h48.2.2.1, Or.inl ⟨rfl, w9.1, by rw [show (p + 1).toNat = p.toNat + 1 by omega, es]; omega, w9.2.2⟩⟩ (by omega)
                · intro (c4 : 0 < (M1 54 (xa_ib 4 u (xa_ib 6 1 p))))
                  show xa_C (xl_I b) A h0 _ 60 [(2, 48, 0, 0, 0), (1, 0, 0, 8, p)] M1 _
                  refine cx_60_48 (show (0 : Int) ≤ (M1 48 1) by omega) ?_ ?_
                  · intro (i5 : 16 ≤ (M1 48 1))
                    show Q 24 [(6, (0, 0, 1, 9, p + 1)), (3, (0, 0, (-2147483648), 2147483647, xa_ib 4 u (xa_ib 6 1 p))), (5, (0, 0, 1, 1, 1)), (4, (0, 0, 0, 8, s)), (0, (2, 50, 0, 0, 0)), (1, (2, 30, 0, 0, 0)), (2, (2, 48, 0, 0, 0))] [] M1
                    refine hgo.2.1 24 _ [(6, (0, 0, 0, 8, p + 1)), (5, (0, 0, 0, 1, 1)), (4, (0, 0, 0, 8, s)), (3, (0, 0, 0, 255, xa_ib 4 u (xa_ib 6 1 p))), (0, (2, 50, 0, 0, 0)), (1, (2, 30, 0, 0, 0)), (2, (2, 48, 0, 0, 0))] _ _ (xa_subI rfl rfl (fun _ _ _ _ => by omega) (xa_subI rfl rfl (fun _ _ _ _ => by omega) (xa_subI rfl rfl (fun _ _ _ _ => by omega) (xa_subI rfl rfl (fun _ _ _ _ => by omega) (xa_subR rfl (xa_subR rfl (xa_subR rfl (xa_sub0)))))))) ?_
                    exact ihf M1 (xa_ib 4 u (xa_ib 6 1 p)) (p + 1) 1 (by omega) (by omega) (by omega) (fun q j h1 h2 => hk q j h1 h2) (by exfalso; omega) (by omega)
                  · intro (i6 : (M1 48 1) < 16)
                    show Q 24 [(6, (0, 0, 1, 9, p + 1)), (3, (0, 0, (-2147483648), 2147483647, xa_ib 4 u (xa_ib 6 1 p))), (5, (0, 0, 1, 1, 1)), (4, (0, 0, 0, 8, s)), (0, (2, 50, 0, 0, 0)), (1, (2, 30, 0, 0, 0)), (2, (2, 48, 0, 0, 0))] [] (xa_up (xa_up M1 49 (M1 48 1) p) 48 1 (xa_w32 ((M1 48 1) + 1)))
                    have e9 := xa_w32_id (n := M1 48 1 + 1) (by omega) (by omega)
                    refine hgo.2.1 24 _ [(6, (0, 0, 0, 8, p + 1)), (5, (0, 0, 0, 1, 1)), (4, (0, 0, 0, 8, s)), (3, (0, 0, 0, 255, xa_ib 4 u (xa_ib 6 1 p))), (0, (2, 50, 0, 0, 0)), (1, (2, 30, 0, 0, 0)), (2, (2, 48, 0, 0, 0))] _ _ (xa_subI rfl rfl (fun _ _ _ _ => by omega) (xa_subI rfl rfl (fun _ _ _ _ => by omega) (xa_subI rfl rfl (fun _ _ _ _ => by omega) (xa_subI rfl rfl (fun _ _ _ _ => by omega) (xa_subR rfl (xa_subR rfl (xa_subR rfl (xa_sub0)))))))) ?_
                    exact ihf (xa_up (xa_up M1 49 (M1 48 1) p) 48 1 (xa_w32 ((M1 48 1) + 1))) (xa_ib 4 u (xa_ib 6 1 p)) (p + 1) 1 (by omega) (by omega) (by omega) (fun q j h1 h2 => (xa_up_ne (by omega)).trans ((xa_up_ne (by omega)).trans (hk q j h1 h2))) ⟨by omega, dG.2.1, by rw [← eg]; exact c4, Or.inr ⟨rfl, by omega, by show xa_w32 ((M1 48 1) + 1) = s + 1; omega⟩⟩ (by omega)
              · intro (i7 : ¬ ((M1 31 s = 63 ∨ M1 31 s = M1 53 p) ∧ xa_ib 3 (xa_ib 7 u p) 1 = 0))
                have f9 : ¬ nm_o T C s u ((p.toNat : Nat) : Int) = true := fun h => by
                  rw [ei, nm_oi] at h
                  omega
                have es := nm_s0 (F := nm_f T C (M 30 1) (M 50 4).toNat (M 30 1 - s - 1).toNat) f9
                show Q 24 [(6, (0, 0, 1, 9, p + 1)), (5, (0, 0, 0, 0, 0)), (4, (0, 0, 0, 8, s)), (3, (0, 0, 0, 255, u)), (0, (2, 50, 0, 0, 0)), (1, (2, 30, 0, 0, 0)), (2, (2, 48, 0, 0, 0))] [] M1
                refine hgo.2.1 24 _ [(6, (0, 0, 0, 8, p + 1)), (5, (0, 0, 0, 1, 0)), (4, (0, 0, 0, 8, s)), (3, (0, 0, 0, 255, u)), (0, (2, 50, 0, 0, 0)), (1, (2, 30, 0, 0, 0)), (2, (2, 48, 0, 0, 0))] _ _ (xa_subI rfl rfl (fun _ _ _ _ => by omega) (xa_subI rfl rfl (fun _ _ _ _ => by omega) (xa_subI rfl rfl (fun _ _ _ _ => by omega) (xa_subI rfl rfl (fun _ _ _ _ => by omega) (xa_subR rfl (xa_subR rfl (xa_subR rfl (xa_sub0)))))))) ?_
                exact ihf M1 u (p + 1) 0 (by omega) (by omega) (by omega) (fun q j h1 h2 => hk q j h1 h2) ⟨by omega, h48.2.1, h48.2.2.1, Or.inl ⟨rfl, w9.1, by rw [show (p + 1).toNat = p.toNat + 1 by omega, es]; exact w9.2.1, w9.2.2⟩⟩ (by omega)
      have e30 : M1 30 1 = M 30 1 := hk 30 1 (by decide) (by decide)
      have e4 : M1 50 4 = M 50 4 := hk 50 4 (by decide) (by decide)
      refine hgo.1 13 [9, 24] 9 _ _ _ ?_
      refine And.intro ?_ ?_
      · intro (c1 : (M1 30 1) ≤ s)
        show post none M1
        exact k M1 hk (by omega)
      · intro (c1 : s < (M1 30 1))
        show Q 24 [(6, (0, 0, 0, 0, 0)), (5, (0, 0, 0, 0, 0)), (4, (0, 0, 0, 8, s)), (3, (0, 0, 0, 255, u)), (0, (2, 50, 0, 0, 0)), (1, (2, 30, 0, 0, 0)), (2, (2, 48, 0, 0, 0))] [] M1
        refine hgo.2.1 24 _ [(6, (0, 0, 0, 8, 0)), (5, (0, 0, 0, 1, 0)), (4, (0, 0, 0, 8, s)), (3, (0, 0, 0, 255, u)), (0, (2, 50, 0, 0, 0)), (1, (2, 30, 0, 0, 0)), (2, (2, 48, 0, 0, 0))] _ _ (xa_subI rfl rfl (fun _ _ _ _ => by omega) (xa_subI rfl rfl (fun _ _ _ _ => by omega) (xa_subI rfl rfl (fun _ _ _ _ => by omega) (xa_subI rfl rfl (fun _ _ _ _ => by omega) (xa_subR rfl (xa_subR rfl (xa_subR rfl (xa_sub0)))))))) ?_
        exact inner (by omega) 9 M1 u 0 0 (by omega) (by omega) (by omega) hk ⟨by omega, h48.2.1, h48.2.2.2.1, Or.inl ⟨rfl, h48.2.2.1, rfl, h48.2.2.2.2⟩⟩ (by omega)
  refine hgo.1 11 [9, 24] 0 _ _ _ ?_
  show xa_C (xl_I b) A h0 _ 59 [(2, 48, 0, 0, 0)] M _
  refine cx_59_48 ?_
  show Q 9 [(4, (0, 0, 0, 0, 0)), (3, (0, 0, 0, 0, 0)), (0, (2, 50, 0, 0, 0)), (1, (2, 30, 0, 0, 0)), (2, (2, 48, 0, 0, 0))] [] (xa_up M 48 1 0)
  refine hgo.2.1 9 _ [(4, (0, 0, 0, 8, 0)), (3, (0, 0, 0, 255, 0)), (0, (2, 50, 0, 0, 0)), (1, (2, 30, 0, 0, 0)), (2, (2, 48, 0, 0, 0))] _ _ (xa_subI rfl rfl (fun _ _ _ _ => by omega) (xa_subI rfl rfl (fun _ _ _ _ => by omega) (xa_subR rfl (xa_subR rfl (xa_subR rfl (xa_sub0)))))) ?_
  exact loop 9 0 0 _ (by omega) (by omega) (fun q j h1 h2 => xa_up_ne (by omega)) ⟨by omega, by have q9 := (nm_P hS.1 hS.2).2.1; omega, by decide +kernel, by rw [← hW 0 (by omega) (by have q9 := (nm_P hS.1 hS.2).2.1; omega)]; exact hW0, xa_up_eq⟩ (by omega)
theorem rz_175_50 {b : Bool} {A : Nat → Nat} {h0 : g_H} {d : Nat} {M : xa_M} {post : Option xa_V → xa_M → Prop} {T C : Int → Int} (hT : (∀ i, 0 ≤ i → i < 80 → M 31 i = T i)) (hC : ∀ i, 0 ≤ i → i < M 50 4 → M 53 i = bk_n (C i)) (hz : 0 ≤ M 30 1 ∧ M 30 1 ≤ 80) (hS : 0 ≤ M 50 4 ∧ M 50 4 ≤ 8) (k : ∀ (r : Int) (M1 : xa_M), nm_R T C (M 30 1) (M 50 4).toNat r → (∀ q j, ¬ q = 48 → ¬ q = 49 → ¬ q = 54 → M1 q j = M q j) → rz_c (0 < r) (M 48 1) (M1 48 1) (M 30 1) → post (some (0, 0, (-2147483648), 2147483647, r)) M1) : xa_C (xl_I b) A h0 (d + 6) 175 [(2, 50, 0, 0, 0), (2, 30, 0, 0, 0), (2, 48, 0, 0, 0)] M post := by
  refine xa_C_wk ?_
  refine xa_meth (Q0 := (4, 1, false, 0, 0, 0)) (by decide +kernel) ⟨rfl, rfl⟩ (full := s_c_175) rfl rfl ?_
  intro hM hv Q hgo
  have loop : ∀ (f : Nat) (i : Int), 0 ≤ i ∧ i ≤ 8 → i ≤ M 30 1 → (∀ j, 0 ≤ j → j < i → nm_l (T j)) → 8 - i < (f : Int) → Q 2 [(3, (0, 0, 0, 8, i)), (0, (2, 50, 0, 0, 0)), (1, (2, 30, 0, 0, 0)), (2, (2, 48, 0, 0, 0))] [] M := by
    intro f
    induction f with
    | zero => intro i i1 i2 hg hms; omega
    | succ f ih =>
      intro i i1 i2 hg hms
      refine hgo.1 27 [2] 2 _ _ _ ?_
      refine And.intro ?_ ?_
      · intro (c1 : (M 30 1) ≤ i)
        refine And.intro ?_ ?_
        · intro (c2 : ¬ (M 30 1) = 0)
          have hN1 : 1 ≤ M 30 1 ∧ M 30 1 ≤ 8 := by omega
          have hL1 : ∀ j, 0 ≤ j → j < M 30 1 → nm_l (T j) := (fun j j0 j1 => hg j j0 (by omega))
          have hP := nm_P hS.1 hS.2
          show xa_C (xl_I b) A h0 _ 176 [(2, 50, 0, 0, 0), (2, 30, 0, 0, 0)] M _
          refine cx_176_50 hT hC hN1 hS hL1 ?_
          intro M150 (i3 : ∀ q j, ¬ q = 54 → M150 q j = M q j) (i4 : ∀ v, 0 ≤ v → v < xa_ib 6 1 (M 50 4) → M150 54 v = nm_g T C (M 30 1) (M 50 4).toNat v)
          have x30 : M150 30 1 = M 30 1 := i3 30 1 (by decide)
          have x4 : M150 50 4 = M 50 4 := i3 50 4 (by decide)
          show xa_C (xl_I b) A h0 _ 23 [(2, 54, 0, 0, 0), (0, 0, 0, 0, 0)] M150 _
          refine cx_23_54 (show 0 ≤ 0 ∧ 0 < 256 by omega) ?_
          refine And.intro ?_ ?_
          · intro (c5 : (M150 54 0) ≤ 0)
            show xa_wk post (some (0, 0, (-2147483648), 2147483647, M150 54 0)) M150
            exact xa_wkI _ rfl (fun _ _ => by omega) (k _ _ (Or.inr ⟨(fun j j0 j1 => hg j j0 (by omega)), by omega, Or.inr ⟨by omega, (i4 0 (by omega) (by omega)).trans (nm_g0 (by omega))⟩⟩) (fun q j h1 h2 h3 => i3 q j h3) (by have z := i3 48 1 (by decide); unfold rz_c; omega))
          · intro (c5 : 0 < (M150 54 0))
            show xa_C (xl_I b) A h0 _ 178 [(2, 50, 0, 0, 0), (2, 30, 0, 0, 0), (2, 48, 0, 0, 0)] M150 _
            refine rz_178_50 (T := T) (C := C) (by rw [x30]; omega) (by rw [x4]; omega) (fun i i0 i1 => (i3 31 i (by decide)).trans (hT i i0 i1)) (fun i i0 i1 => (i3 53 i (by decide)).trans (hC i i0 (by omega))) (fun i i0 i1 => hL1 i i0 (by omega)) (by rw [x30, x4]; exact i4) c5 ?_
            intro M151 (i6 : ∀ q j, ¬ q = 48 → ¬ q = 49 → M151 q j = M150 q j) (z9 : M151 48 1 = M150 30 1)
            show xa_wk post (some (0, 0, (-2147483648), 2147483647, M150 54 0)) M151
            exact xa_wkI _ rfl (fun _ _ => by omega) (k _ _ (Or.inr ⟨(fun j j0 j1 => hg j j0 (by omega)), by omega, Or.inr ⟨by omega, (i4 0 (by omega) (by omega)).trans (nm_g0 (by omega))⟩⟩) (fun q j h1 h2 h3 => (i6 q j h1 h2).trans (i3 q j h3)) (Or.inl ⟨by omega, z9.trans x30⟩))
        · intro (c2 : (M 30 1) = 0)
          show xa_wk post (some (0, 0, (-100), (-100), (-100))) M
          exact xa_wkI (-100) rfl (fun _ _ => by omega) (k _ _ (Or.inr ⟨(fun j j0 j1 => hg j j0 (by omega)), by omega, Or.inl ⟨by omega, rfl⟩⟩) (fun _ _ _ _ _ => rfl) (by unfold rz_c; omega))
      · intro (c1 : i < (M 30 1))
        refine And.intro ?_ ?_
        · intro (c7 : 8 ≤ i)
          show xa_wk post (some (0, 0, (-108), (-100), (-100) - i)) M
          have t9 := hT i (by omega) (by omega)
          exact xa_wkI _ rfl (fun _ _ => by omega) (k _ _ (Or.inl ⟨i, by omega, by omega, by omega, by unfold nm_l; omega, hg, by omega⟩) (fun _ _ _ _ _ => rfl) (by unfold rz_c; omega))
        · intro (c7 : i < 8)
          show xa_C (xl_I b) A h0 _ 120 [(2, 30, 0, 0, 0), (0, 0, 0, 8, i)] M _
          refine cg_120 (show 0 ≤ (M 30 1) ∧ (M 30 1) ≤ 80 by omega) ?_ ?_
          · intro (i8 : (0 ≤ i ∧ i < (M 30 1)) ∧ 97 ≤ M 31 i ∧ M 31 i ≤ 122)
            show Q 2 [(3, (0, 0, 1, 9, i + 1)), (0, (2, 50, 0, 0, 0)), (1, (2, 30, 0, 0, 0)), (2, (2, 48, 0, 0, 0))] [] M
            have t9 := hT i (by omega) (by omega)
            refine hgo.2.1 2 _ [(3, (0, 0, 0, 8, i + 1)), (0, (2, 50, 0, 0, 0)), (1, (2, 30, 0, 0, 0)), (2, (2, 48, 0, 0, 0))] _ _ (xa_subI rfl rfl (fun _ _ _ _ => by omega) (xa_subR rfl (xa_subR rfl (xa_subR rfl (xa_sub0))))) ?_
            exact ih (i + 1) (by omega) (by omega) (fun j j0 j1 => by
              by_cases e : j = i
              · rw [e]
                unfold nm_l
                omega
              · exact hg j j0 (by omega)) (by omega)
          · intro (i9 : ¬ ((0 ≤ i ∧ i < (M 30 1)) ∧ 97 ≤ M 31 i ∧ M 31 i ≤ 122))
            show xa_C (xl_I b) A h0 _ 172 [(2, 30, 0, 0, 0), (0, 0, 0, 8, i)] M _
            refine cg_172 (show 0 ≤ (M 30 1) ∧ (M 30 1) ≤ 80 by omega) ?_ ?_
            · intro (i10 : (0 ≤ i ∧ i < (M 30 1)) ∧ M 31 i = 63)
              show Q 2 [(3, (0, 0, 1, 9, i + 1)), (0, (2, 50, 0, 0, 0)), (1, (2, 30, 0, 0, 0)), (2, (2, 48, 0, 0, 0))] [] M
              have t9 := hT i (by omega) (by omega)
              refine hgo.2.1 2 _ [(3, (0, 0, 0, 8, i + 1)), (0, (2, 50, 0, 0, 0)), (1, (2, 30, 0, 0, 0)), (2, (2, 48, 0, 0, 0))] _ _ (xa_subI rfl rfl (fun _ _ _ _ => by omega) (xa_subR rfl (xa_subR rfl (xa_subR rfl (xa_sub0))))) ?_
              exact ih (i + 1) (by omega) (by omega) (fun j j0 j1 => by
                by_cases e : j = i
                · rw [e]
                  unfold nm_l
                  omega
                · exact hg j j0 (by omega)) (by omega)
            · intro (i11 : ¬ ((0 ≤ i ∧ i < (M 30 1)) ∧ M 31 i = 63))
              show xa_wk post (some (0, 0, (-108), (-100), (-100) - i)) M
              have t9 := hT i (by omega) (by omega)
              exact xa_wkI _ rfl (fun _ _ => by omega) (k _ _ (Or.inl ⟨i, by omega, by omega, by omega, by unfold nm_l; omega, hg, by omega⟩) (fun _ _ _ _ _ => rfl) (by unfold rz_c; omega))
  refine hgo.1 7 [2] 0 _ _ _ ?_
  show Q 2 [(3, (0, 0, 0, 0, 0)), (0, (2, 50, 0, 0, 0)), (1, (2, 30, 0, 0, 0)), (2, (2, 48, 0, 0, 0))] [] M
  refine hgo.2.1 2 _ [(3, (0, 0, 0, 8, 0)), (0, (2, 50, 0, 0, 0)), (1, (2, 30, 0, 0, 0)), (2, (2, 48, 0, 0, 0))] _ _ (xa_subI rfl rfl (fun _ _ _ _ => by omega) (xa_subR rfl (xa_subR rfl (xa_subR rfl (xa_sub0))))) ?_
  exact loop 9 0 (by omega) (by omega) (fun j j0 j1 => by omega) (by omega)
theorem rx_174_50 {A : Nat → Nat} {h0 : g_H} {d : Nat} {M : xa_M} {post : Option xa_V → xa_M → Prop} {T C : Int → Int} (hT : (∀ i, 0 ≤ i → i < 80 → M 31 i = T i)) (hC : ∀ i, 0 ≤ i → i < M 50 4 → M 53 i = bk_n (C i)) (hz : 0 ≤ M 30 1 ∧ M 30 1 ≤ 80) (hS : 0 ≤ M 50 4 ∧ M 50 4 ≤ 8) (k : ∀ (r : Int) (M1 : xa_M), nm_R T C (M 30 1) (M 50 4).toNat r → M1 30 1 = 0 → (∀ q j, ¬ q = 48 → ¬ q = 49 → ¬ q = 54 → ¬ q = 59 → ¬ (q = 30 ∧ j = 1) → ¬ (q = 60 ∧ j = 21) → M1 q j = M q j) → rz_c (0 < r) (M 48 1) (M1 48 1) (M 30 1) → post (some (0, 0, (-2147483648), 2147483647, r)) M1) : xa_C (xl_I false) A h0 (d + 7) 174 [(2, 0, 0, 0, 0)] M post := by
  refine xa_C_wk ?_
  refine xa_meth (Q0 := (2, 1, false, 0, 0, 11)) (by decide +kernel) ⟨rfl, rfl⟩ (full := s_c_174) rfl rfl ?_
  intro hM hv Q hgo
  refine hgo.1 19 [] 0 _ _ _ ?_
  show xa_C (xl_I false) A h0 _ 175 [(2, 50, 0, 0, 0), (2, 30, 0, 0, 0), (2, 48, 0, 0, 0)] M _
  refine rz_175_50 hT hC hz hS ?_
  intro r152 M153 (i1 : nm_R T C (M 30 1) (M 50 4).toNat r152) (i2 : ∀ q j, ¬ q = 48 → ¬ q = 49 → ¬ q = 54 → M153 q j = M q j) (z9 : rz_c (0 < r152) (M 48 1) (M153 48 1) (M 30 1))
  show xa_C (xl_I false) A h0 _ 113 [(2, 30, 0, 0, 0), (0, 0, 0, 0, 0)] M153 _
  refine cx_113f ?_
  intro n154 M155 (i3 : lt_E M153 30 1 (M153 30 1) 0 n154 M155)
  show xa_wk post (some (0, 0, (-2147483648), 2147483647, r152)) M155
  have z30 : 0 ≤ M153 30 1 := by rw [i2 30 1 (by decide) (by decide) (by decide)]; exact hz.1
  obtain ⟨h4, h5⟩ := le_cut z30 i3
  exact xa_wkI _ rfl (fun _ _ => by omega) (k _ _ i1 h4 (fun q j h1 h2 h3 h6 h7 h8 => (h5 q j h7 h8).trans (i2 q j h1 h2 h3)) (by rw [h5 48 1 (by omega) (by omega)]; exact z9))
theorem rz_178_55 {b : Bool} {A : Nat → Nat} {h0 : g_H} {d : Nat} {M : xa_M} {post : Option xa_V → xa_M → Prop} {T C : Int → Int} (hN : 0 ≤ M 30 1 ∧ M 30 1 ≤ 8) (hS : 0 ≤ M 55 4 ∧ M 55 4 ≤ 8) (hT : ∀ i, 0 ≤ i → i < 80 → M 31 i = T i) (hC : ∀ i, 0 ≤ i → i < M 55 4 → M 58 i = bk_n (C i)) (hL : ∀ i, 0 ≤ i → i < M 30 1 → nm_l (T i)) (hW : ∀ v, 0 ≤ v → v < xa_ib 6 1 (M 55 4) → M 59 v = nm_g T C (M 30 1) (M 55 4).toNat v) (hW0 : 0 < M 59 0) (k : ∀ M1 : xa_M, (∀ q j, ¬ q = 48 → ¬ q = 49 → M1 q j = M q j) → M1 48 1 = M 30 1 → post none M1) : xa_C (xl_I b) A h0 (d + 5) 178 [(2, 55, 0, 0, 0), (2, 30, 0, 0, 0), (2, 48, 0, 0, 0)] M post := by
  refine xa_meth (Q0 := (7, 0, false, 0, 0, 0)) (by decide +kernel) ⟨rfl, rfl⟩ (full := s_c_178) rfl rfl ?_
  intro hM hv Q hgo
  have loop : ∀ (f : Nat) (s u : Int) (M1 : xa_M), 0 ≤ s ∧ s ≤ 8 → 0 ≤ u ∧ u ≤ 255 → (∀ q j, ¬ q = 48 → ¬ q = 49 → M1 q j = M q j) → (s ≤ M 30 1 ∧ u < xa_ib 6 1 (M 55 4) ∧ xa_bc u = s ∧ 0 < nm_g T C (M 30 1) (M 55 4).toNat u ∧ M1 48 1 = s) → 8 - s < (f : Int) → Q 9 [(4, (0, 0, 0, 8, s)), (3, (0, 0, 0, 255, u)), (0, (2, 55, 0, 0, 0)), (1, (2, 30, 0, 0, 0)), (2, (2, 48, 0, 0, 0))] [] M1 := by
    intro f
    induction f with
    | zero => intro s u M1 s1 u1 hk h48 hms; omega
    | succ f ih =>
      intro s u M1 s1 u1 hk h48 hms
      have inner : s < M 30 1 → ∀ (f2 : Nat) (M1 : xa_M) (u p g : Int), 0 ≤ u ∧ u ≤ 255 → 0 ≤ p ∧ p ≤ 8 → 0 ≤ g ∧ g ≤ 1 → (∀ q j, ¬ q = 48 → ¬ q = 49 → M1 q j = M q j) → (p ≤ M 55 4 ∧ u < xa_ib 6 1 (M 55 4) ∧ 0 < nm_g T C (M 30 1) (M 55 4).toNat u ∧ rz_w T C (M 30 1) (M 55 4) s u p g (M1 48 1)) → 8 - p < (f2 : Int) → Q 24 [(6, (0, 0, 0, 8, p)), (5, (0, 0, 0, 1, g)), (4, (0, 0, 0, 8, s)), (3, (0, 0, 0, 255, u)), (0, (2, 55, 0, 0, 0)), (1, (2, 30, 0, 0, 0)), (2, (2, 48, 0, 0, 0))] [] M1 := by
        intro sN f2
        induction f2 with
        | zero => intro M1 u p g u1 p1 g1 hk h48 hms2; omega
        | succ f2 ihf =>
          intro M1 u p g u1 p1 g1 hk h48 hms2
          have e30 : M1 30 1 = M 30 1 := hk 30 1 (by decide) (by decide)
          have e4 : M1 55 4 = M 55 4 := hk 55 4 (by decide) (by decide)
          refine hgo.1 44 [9, 24] 24 _ _ _ ?_
          refine And.intro ?_ ?_
          · intro (c1 : (M1 55 4) ≤ p)
            show Q 9 [(4, (0, 0, 1, 9, s + 1)), (6, (0, 0, 0, 8, p)), (5, (0, 0, 0, 1, g)), (3, (0, 0, 0, 255, u)), (0, (2, 55, 0, 0, 0)), (1, (2, 30, 0, 0, 0)), (2, (2, 48, 0, 0, 0))] [] M1
            refine hgo.2.1 9 _ [(4, (0, 0, 0, 8, s + 1)), (3, (0, 0, 0, 255, u)), (0, (2, 55, 0, 0, 0)), (1, (2, 30, 0, 0, 0)), (2, (2, 48, 0, 0, 0))] _ _ (xa_subI rfl rfl (fun _ _ _ _ => by omega) (xa_subI rfl rfl (fun _ _ _ _ => by omega) (xa_subR rfl (xa_subR rfl (xa_subR rfl (xa_sub0)))))) ?_
            have w9 := rz_wS sN (show p = M 55 4 by omega) h48.2.2.1 h48.2.2.2
            exact ih (s + 1) u M1 (by omega) (by omega) hk ⟨by omega, h48.2.1, w9.1, h48.2.2.1, w9.2⟩ (by omega)
          · intro (c1 : p < (M1 55 4))
            refine And.intro ?_ ?_
            · intro (c2 : ¬ g = 0)
              show Q 9 [(4, (0, 0, 1, 9, s + 1)), (6, (0, 0, 0, 8, p)), (5, (0, 0, 0, 1, g)), (3, (0, 0, 0, 255, u)), (0, (2, 55, 0, 0, 0)), (1, (2, 30, 0, 0, 0)), (2, (2, 48, 0, 0, 0))] [] M1
              refine hgo.2.1 9 _ [(4, (0, 0, 0, 8, s + 1)), (3, (0, 0, 0, 255, u)), (0, (2, 55, 0, 0, 0)), (1, (2, 30, 0, 0, 0)), (2, (2, 48, 0, 0, 0))] _ _ (xa_subI rfl rfl (fun _ _ _ _ => by omega) (xa_subI rfl rfl (fun _ _ _ _ => by omega) (xa_subR rfl (xa_subR rfl (xa_subR rfl (xa_sub0)))))) ?_
              have w9 := rz_w1 h48.2.2.2 c2
              exact ih (s + 1) u M1 (by omega) (by omega) hk ⟨by omega, h48.2.1, w9.1, h48.2.2.1, w9.2⟩ (by omega)
            · intro (c2 : g = 0)
              have w9 := rz_w0 h48.2.2.2 c2
              have ei : ((p.toNat : Nat) : Int) = p := Int.toNat_of_nonneg (by omega)
              have t9 : M1 31 s = T s := (hk 31 s (by decide) (by decide)).trans (hT s (by omega) (by omega))
              have l9 := hL s (by omega) (by omega)
              unfold nm_l at l9
              have q9 : M1 58 p = bk_n (C p) := (hk 58 p (by decide) (by decide)).trans (hC p (by omega) (by omega))
              have g9 := nm_bn (C p)
              show xa_C (xl_I b) A h0 _ 177 [(2, 55, 0, 0, 0), (2, 30, 0, 0, 0), (0, 0, 0, 8, s), (0, 0, 0, 255, u), (0, 0, 0, 8, p)] M1 _
              refine cg_177_55 (show 0 ≤ (M1 30 1) ∧ (M1 30 1) ≤ 80 by omega) (show 0 ≤ p ∧ p < 8 by omega) (show 0 ≤ s ∧ s < (M1 30 1) by omega) ?_ ?_
              · intro (i3 : (M1 31 s = 63 ∨ M1 31 s = M1 58 p) ∧ xa_ib 3 (xa_ib 7 u p) 1 = 0)
                have dF := nm_F8 (u := u) (p := p) (by omega) (by omega) (by omega) (by omega) i3.2
                have dG := nm_F (S := M 55 4) (u := u) (p := p) u1.1 p1.1 (by omega) hS.2 h48.2.1 i3.2
                have f9 : nm_o T C s u ((p.toNat : Nat) : Int) = true := by
                  rw [ei, nm_oi]
                  exact ⟨by omega, i3.2⟩
                have es := nm_s1 (F := nm_f T C (M 30 1) (M 55 4).toNat (M 30 1 - s - 1).toNat) f9
                rw [ei] at es
                have eg : M1 59 (xa_ib 4 u (xa_ib 6 1 p)) = nm_g T C (M 30 1) (M 55 4).toNat (xa_ib 4 u (xa_ib 6 1 p)) := (hk 59 (xa_ib 4 u (xa_ib 6 1 p)) (by decide) (by decide)).trans (hW (xa_ib 4 u (xa_ib 6 1 p)) (by omega) dG.2.1)
                have gs := nm_gs (T := T) (C := C) (N := M 30 1) (u := u) (v := (xa_ib 4 u (xa_ib 6 1 p))) (S := (M 55 4).toNat) (by omega) dG.2.2
                rw [w9.1, ← eg] at gs
                have b2 := (nm_fb (T := T) (C := C) (N := M 30 1) (S := (M 55 4).toNat) (f := (M 30 1 - s - 1).toNat) (by omega) (by omega) (xa_ib 4 u (xa_ib 6 1 p))).1
                rw [← gs] at es b2
                show xa_C (xl_I b) A h0 _ 23 [(2, 59, 0, 0, 0), (0, 0, (-2147483648), 2147483647, xa_ib 4 u (xa_ib 6 1 p))] M1 _
                refine cx_23_59 (show 0 ≤ (xa_ib 4 u (xa_ib 6 1 p)) ∧ (xa_ib 4 u (xa_ib 6 1 p)) < 256 by omega) ?_
                refine And.intro ?_ ?_
                · intro (c4 : (M1 59 (xa_ib 4 u (xa_ib 6 1 p))) ≤ 0)
                  show Q 24 [(6, (0, 0, 1, 9, p + 1)), (5, (0, 0, 0, 0, 0)), (4, (0, 0, 0, 8, s)), (3, (0, 0, 0, 255, u)), (0, (2, 55, 0, 0, 0)), (1, (2, 30, 0, 0, 0)), (2, (2, 48, 0, 0, 0))] [] M1
                  refine hgo.2.1 24 _ [(6, (0, 0, 0, 8, p + 1)), (5, (0, 0, 0, 1, 0)), (4, (0, 0, 0, 8, s)), (3, (0, 0, 0, 255, u)), (0, (2, 55, 0, 0, 0)), (1, (2, 30, 0, 0, 0)), (2, (2, 48, 0, 0, 0))] _ _ (xa_subI rfl rfl (fun _ _ _ _ => by omega) (xa_subI rfl rfl (fun _ _ _ _ => by omega) (xa_subI rfl rfl (fun _ _ _ _ => by omega) (xa_subI rfl rfl (fun _ _ _ _ => by omega) (xa_subR rfl (xa_subR rfl (xa_subR rfl (xa_sub0)))))))) ?_
                  exact ihf M1 u (p + 1) 0 (by omega) (by omega) (by omega) (fun q j h1 h2 => hk q j h1 h2) ⟨by omega, h48.2.1, h48.2.2.1, Or.inl ⟨rfl, w9.1, by rw [show (p + 1).toNat = p.toNat + 1 by omega, es]; omega, w9.2.2⟩⟩ (by omega)
                · intro (c4 : 0 < (M1 59 (xa_ib 4 u (xa_ib 6 1 p))))
                  show xa_C (xl_I b) A h0 _ 60 [(2, 48, 0, 0, 0), (1, 0, 0, 8, p)] M1 _
                  refine cx_60_48 (show (0 : Int) ≤ (M1 48 1) by omega) ?_ ?_
                  · intro (i5 : 16 ≤ (M1 48 1))
                    show Q 24 [(6, (0, 0, 1, 9, p + 1)), (3, (0, 0, (-2147483648), 2147483647, xa_ib 4 u (xa_ib 6 1 p))), (5, (0, 0, 1, 1, 1)), (4, (0, 0, 0, 8, s)), (0, (2, 55, 0, 0, 0)), (1, (2, 30, 0, 0, 0)), (2, (2, 48, 0, 0, 0))] [] M1
                    refine hgo.2.1 24 _ [(6, (0, 0, 0, 8, p + 1)), (5, (0, 0, 0, 1, 1)), (4, (0, 0, 0, 8, s)), (3, (0, 0, 0, 255, xa_ib 4 u (xa_ib 6 1 p))), (0, (2, 55, 0, 0, 0)), (1, (2, 30, 0, 0, 0)), (2, (2, 48, 0, 0, 0))] _ _ (xa_subI rfl rfl (fun _ _ _ _ => by omega) (xa_subI rfl rfl (fun _ _ _ _ => by omega) (xa_subI rfl rfl (fun _ _ _ _ => by omega) (xa_subI rfl rfl (fun _ _ _ _ => by omega) (xa_subR rfl (xa_subR rfl (xa_subR rfl (xa_sub0)))))))) ?_
                    exact ihf M1 (xa_ib 4 u (xa_ib 6 1 p)) (p + 1) 1 (by omega) (by omega) (by omega) (fun q j h1 h2 => hk q j h1 h2) (by exfalso; omega) (by omega)
                  · intro (i6 : (M1 48 1) < 16)
                    show Q 24 [(6, (0, 0, 1, 9, p + 1)), (3, (0, 0, (-2147483648), 2147483647, xa_ib 4 u (xa_ib 6 1 p))), (5, (0, 0, 1, 1, 1)), (4, (0, 0, 0, 8, s)), (0, (2, 55, 0, 0, 0)), (1, (2, 30, 0, 0, 0)), (2, (2, 48, 0, 0, 0))] [] (xa_up (xa_up M1 49 (M1 48 1) p) 48 1 (xa_w32 ((M1 48 1) + 1)))
                    have e9 := xa_w32_id (n := M1 48 1 + 1) (by omega) (by omega)
                    refine hgo.2.1 24 _ [(6, (0, 0, 0, 8, p + 1)), (5, (0, 0, 0, 1, 1)), (4, (0, 0, 0, 8, s)), (3, (0, 0, 0, 255, xa_ib 4 u (xa_ib 6 1 p))), (0, (2, 55, 0, 0, 0)), (1, (2, 30, 0, 0, 0)), (2, (2, 48, 0, 0, 0))] _ _ (xa_subI rfl rfl (fun _ _ _ _ => by omega) (xa_subI rfl rfl (fun _ _ _ _ => by omega) (xa_subI rfl rfl (fun _ _ _ _ => by omega) (xa_subI rfl rfl (fun _ _ _ _ => by omega) (xa_subR rfl (xa_subR rfl (xa_subR rfl (xa_sub0)))))))) ?_
                    exact ihf (xa_up (xa_up M1 49 (M1 48 1) p) 48 1 (xa_w32 ((M1 48 1) + 1))) (xa_ib 4 u (xa_ib 6 1 p)) (p + 1) 1 (by omega) (by omega) (by omega) (fun q j h1 h2 => (xa_up_ne (by omega)).trans ((xa_up_ne (by omega)).trans (hk q j h1 h2))) ⟨by omega, dG.2.1, by rw [← eg]; exact c4, Or.inr ⟨rfl, by omega, by show xa_w32 ((M1 48 1) + 1) = s + 1; omega⟩⟩ (by omega)
              · intro (i7 : ¬ ((M1 31 s = 63 ∨ M1 31 s = M1 58 p) ∧ xa_ib 3 (xa_ib 7 u p) 1 = 0))
                have f9 : ¬ nm_o T C s u ((p.toNat : Nat) : Int) = true := fun h => by
                  rw [ei, nm_oi] at h
                  omega
                have es := nm_s0 (F := nm_f T C (M 30 1) (M 55 4).toNat (M 30 1 - s - 1).toNat) f9
                show Q 24 [(6, (0, 0, 1, 9, p + 1)), (5, (0, 0, 0, 0, 0)), (4, (0, 0, 0, 8, s)), (3, (0, 0, 0, 255, u)), (0, (2, 55, 0, 0, 0)), (1, (2, 30, 0, 0, 0)), (2, (2, 48, 0, 0, 0))] [] M1
                refine hgo.2.1 24 _ [(6, (0, 0, 0, 8, p + 1)), (5, (0, 0, 0, 1, 0)), (4, (0, 0, 0, 8, s)), (3, (0, 0, 0, 255, u)), (0, (2, 55, 0, 0, 0)), (1, (2, 30, 0, 0, 0)), (2, (2, 48, 0, 0, 0))] _ _ (xa_subI rfl rfl (fun _ _ _ _ => by omega) (xa_subI rfl rfl (fun _ _ _ _ => by omega) (xa_subI rfl rfl (fun _ _ _ _ => by omega) (xa_subI rfl rfl (fun _ _ _ _ => by omega) (xa_subR rfl (xa_subR rfl (xa_subR rfl (xa_sub0)))))))) ?_
                exact ihf M1 u (p + 1) 0 (by omega) (by omega) (by omega) (fun q j h1 h2 => hk q j h1 h2) ⟨by omega, h48.2.1, h48.2.2.1, Or.inl ⟨rfl, w9.1, by rw [show (p + 1).toNat = p.toNat + 1 by omega, es]; exact w9.2.1, w9.2.2⟩⟩ (by omega)
      have e30 : M1 30 1 = M 30 1 := hk 30 1 (by decide) (by decide)
      have e4 : M1 55 4 = M 55 4 := hk 55 4 (by decide) (by decide)
      refine hgo.1 13 [9, 24] 9 _ _ _ ?_
      refine And.intro ?_ ?_
      · intro (c1 : (M1 30 1) ≤ s)
        show post none M1
        exact k M1 hk (by omega)
      · intro (c1 : s < (M1 30 1))
        show Q 24 [(6, (0, 0, 0, 0, 0)), (5, (0, 0, 0, 0, 0)), (4, (0, 0, 0, 8, s)), (3, (0, 0, 0, 255, u)), (0, (2, 55, 0, 0, 0)), (1, (2, 30, 0, 0, 0)), (2, (2, 48, 0, 0, 0))] [] M1
        refine hgo.2.1 24 _ [(6, (0, 0, 0, 8, 0)), (5, (0, 0, 0, 1, 0)), (4, (0, 0, 0, 8, s)), (3, (0, 0, 0, 255, u)), (0, (2, 55, 0, 0, 0)), (1, (2, 30, 0, 0, 0)), (2, (2, 48, 0, 0, 0))] _ _ (xa_subI rfl rfl (fun _ _ _ _ => by omega) (xa_subI rfl rfl (fun _ _ _ _ => by omega) (xa_subI rfl rfl (fun _ _ _ _ => by omega) (xa_subI rfl rfl (fun _ _ _ _ => by omega) (xa_subR rfl (xa_subR rfl (xa_subR rfl (xa_sub0)))))))) ?_
        exact inner (by omega) 9 M1 u 0 0 (by omega) (by omega) (by omega) hk ⟨by omega, h48.2.1, h48.2.2.2.1, Or.inl ⟨rfl, h48.2.2.1, rfl, h48.2.2.2.2⟩⟩ (by omega)
  refine hgo.1 11 [9, 24] 0 _ _ _ ?_
  show xa_C (xl_I b) A h0 _ 59 [(2, 48, 0, 0, 0)] M _
  refine cx_59_48 ?_
  show Q 9 [(4, (0, 0, 0, 0, 0)), (3, (0, 0, 0, 0, 0)), (0, (2, 55, 0, 0, 0)), (1, (2, 30, 0, 0, 0)), (2, (2, 48, 0, 0, 0))] [] (xa_up M 48 1 0)
  refine hgo.2.1 9 _ [(4, (0, 0, 0, 8, 0)), (3, (0, 0, 0, 255, 0)), (0, (2, 55, 0, 0, 0)), (1, (2, 30, 0, 0, 0)), (2, (2, 48, 0, 0, 0))] _ _ (xa_subI rfl rfl (fun _ _ _ _ => by omega) (xa_subI rfl rfl (fun _ _ _ _ => by omega) (xa_subR rfl (xa_subR rfl (xa_subR rfl (xa_sub0)))))) ?_
  exact loop 9 0 0 _ (by omega) (by omega) (fun q j h1 h2 => xa_up_ne (by omega)) ⟨by omega, by have q9 := (nm_P hS.1 hS.2).2.1; omega, by decide +kernel, by rw [← hW 0 (by omega) (by have q9 := (nm_P hS.1 hS.2).2.1; omega)]; exact hW0, xa_up_eq⟩ (by omega)
theorem rz_175_55 {b : Bool} {A : Nat → Nat} {h0 : g_H} {d : Nat} {M : xa_M} {post : Option xa_V → xa_M → Prop} {T C : Int → Int} (hT : (∀ i, 0 ≤ i → i < 80 → M 31 i = T i)) (hC : ∀ i, 0 ≤ i → i < M 55 4 → M 58 i = bk_n (C i)) (hz : 0 ≤ M 30 1 ∧ M 30 1 ≤ 80) (hS : 0 ≤ M 55 4 ∧ M 55 4 ≤ 8) (k : ∀ (r : Int) (M1 : xa_M), nm_R T C (M 30 1) (M 55 4).toNat r → (∀ q j, ¬ q = 48 → ¬ q = 49 → ¬ q = 59 → M1 q j = M q j) → rz_c (0 < r) (M 48 1) (M1 48 1) (M 30 1) → post (some (0, 0, (-2147483648), 2147483647, r)) M1) : xa_C (xl_I b) A h0 (d + 6) 175 [(2, 55, 0, 0, 0), (2, 30, 0, 0, 0), (2, 48, 0, 0, 0)] M post := by
  refine xa_C_wk ?_
  refine xa_meth (Q0 := (4, 1, false, 0, 0, 0)) (by decide +kernel) ⟨rfl, rfl⟩ (full := s_c_175) rfl rfl ?_
  intro hM hv Q hgo
  have loop : ∀ (f : Nat) (i : Int), 0 ≤ i ∧ i ≤ 8 → i ≤ M 30 1 → (∀ j, 0 ≤ j → j < i → nm_l (T j)) → 8 - i < (f : Int) → Q 2 [(3, (0, 0, 0, 8, i)), (0, (2, 55, 0, 0, 0)), (1, (2, 30, 0, 0, 0)), (2, (2, 48, 0, 0, 0))] [] M := by
    intro f
    induction f with
    | zero => intro i i1 i2 hg hms; omega
    | succ f ih =>
      intro i i1 i2 hg hms
      refine hgo.1 27 [2] 2 _ _ _ ?_
      refine And.intro ?_ ?_
      · intro (c1 : (M 30 1) ≤ i)
        refine And.intro ?_ ?_
        · intro (c2 : ¬ (M 30 1) = 0)
          have hN1 : 1 ≤ M 30 1 ∧ M 30 1 ≤ 8 := by omega
          have hL1 : ∀ j, 0 ≤ j → j < M 30 1 → nm_l (T j) := (fun j j0 j1 => hg j j0 (by omega))
          have hP := nm_P hS.1 hS.2
          show xa_C (xl_I b) A h0 _ 176 [(2, 55, 0, 0, 0), (2, 30, 0, 0, 0)] M _
          refine cx_176_55 hT hC hN1 hS hL1 ?_
          intro M156 (i3 : ∀ q j, ¬ q = 59 → M156 q j = M q j) (i4 : ∀ v, 0 ≤ v → v < xa_ib 6 1 (M 55 4) → M156 59 v = nm_g T C (M 30 1) (M 55 4).toNat v)
          have x30 : M156 30 1 = M 30 1 := i3 30 1 (by decide)
          have x4 : M156 55 4 = M 55 4 := i3 55 4 (by decide)
          show xa_C (xl_I b) A h0 _ 23 [(2, 59, 0, 0, 0), (0, 0, 0, 0, 0)] M156 _
          refine cx_23_59 (show 0 ≤ 0 ∧ 0 < 256 by omega) ?_
          refine And.intro ?_ ?_
          · intro (c5 : (M156 59 0) ≤ 0)
            show xa_wk post (some (0, 0, (-2147483648), 2147483647, M156 59 0)) M156
            exact xa_wkI _ rfl (fun _ _ => by omega) (k _ _ (Or.inr ⟨(fun j j0 j1 => hg j j0 (by omega)), by omega, Or.inr ⟨by omega, (i4 0 (by omega) (by omega)).trans (nm_g0 (by omega))⟩⟩) (fun q j h1 h2 h3 => i3 q j h3) (by have z := i3 48 1 (by decide); unfold rz_c; omega))
          · intro (c5 : 0 < (M156 59 0))
            show xa_C (xl_I b) A h0 _ 178 [(2, 55, 0, 0, 0), (2, 30, 0, 0, 0), (2, 48, 0, 0, 0)] M156 _
            refine rz_178_55 (T := T) (C := C) (by rw [x30]; omega) (by rw [x4]; omega) (fun i i0 i1 => (i3 31 i (by decide)).trans (hT i i0 i1)) (fun i i0 i1 => (i3 58 i (by decide)).trans (hC i i0 (by omega))) (fun i i0 i1 => hL1 i i0 (by omega)) (by rw [x30, x4]; exact i4) c5 ?_
            intro M157 (i6 : ∀ q j, ¬ q = 48 → ¬ q = 49 → M157 q j = M156 q j) (z9 : M157 48 1 = M156 30 1)
            show xa_wk post (some (0, 0, (-2147483648), 2147483647, M156 59 0)) M157
            exact xa_wkI _ rfl (fun _ _ => by omega) (k _ _ (Or.inr ⟨(fun j j0 j1 => hg j j0 (by omega)), by omega, Or.inr ⟨by omega, (i4 0 (by omega) (by omega)).trans (nm_g0 (by omega))⟩⟩) (fun q j h1 h2 h3 => (i6 q j h1 h2).trans (i3 q j h3)) (Or.inl ⟨by omega, z9.trans x30⟩))
        · intro (c2 : (M 30 1) = 0)
          show xa_wk post (some (0, 0, (-100), (-100), (-100))) M
          exact xa_wkI (-100) rfl (fun _ _ => by omega) (k _ _ (Or.inr ⟨(fun j j0 j1 => hg j j0 (by omega)), by omega, Or.inl ⟨by omega, rfl⟩⟩) (fun _ _ _ _ _ => rfl) (by unfold rz_c; omega))
      · intro (c1 : i < (M 30 1))
        refine And.intro ?_ ?_
        · intro (c7 : 8 ≤ i)
          show xa_wk post (some (0, 0, (-108), (-100), (-100) - i)) M
          have t9 := hT i (by omega) (by omega)
          exact xa_wkI _ rfl (fun _ _ => by omega) (k _ _ (Or.inl ⟨i, by omega, by omega, by omega, by unfold nm_l; omega, hg, by omega⟩) (fun _ _ _ _ _ => rfl) (by unfold rz_c; omega))
        · intro (c7 : i < 8)
          show xa_C (xl_I b) A h0 _ 120 [(2, 30, 0, 0, 0), (0, 0, 0, 8, i)] M _
          refine cg_120 (show 0 ≤ (M 30 1) ∧ (M 30 1) ≤ 80 by omega) ?_ ?_
          · intro (i8 : (0 ≤ i ∧ i < (M 30 1)) ∧ 97 ≤ M 31 i ∧ M 31 i ≤ 122)
            show Q 2 [(3, (0, 0, 1, 9, i + 1)), (0, (2, 55, 0, 0, 0)), (1, (2, 30, 0, 0, 0)), (2, (2, 48, 0, 0, 0))] [] M
            have t9 := hT i (by omega) (by omega)
            refine hgo.2.1 2 _ [(3, (0, 0, 0, 8, i + 1)), (0, (2, 55, 0, 0, 0)), (1, (2, 30, 0, 0, 0)), (2, (2, 48, 0, 0, 0))] _ _ (xa_subI rfl rfl (fun _ _ _ _ => by omega) (xa_subR rfl (xa_subR rfl (xa_subR rfl (xa_sub0))))) ?_
            exact ih (i + 1) (by omega) (by omega) (fun j j0 j1 => by
              by_cases e : j = i
              · rw [e]
                unfold nm_l
                omega
              · exact hg j j0 (by omega)) (by omega)
          · intro (i9 : ¬ ((0 ≤ i ∧ i < (M 30 1)) ∧ 97 ≤ M 31 i ∧ M 31 i ≤ 122))
            show xa_C (xl_I b) A h0 _ 172 [(2, 30, 0, 0, 0), (0, 0, 0, 8, i)] M _
            refine cg_172 (show 0 ≤ (M 30 1) ∧ (M 30 1) ≤ 80 by omega) ?_ ?_
            · intro (i10 : (0 ≤ i ∧ i < (M 30 1)) ∧ M 31 i = 63)
              show Q 2 [(3, (0, 0, 1, 9, i + 1)), (0, (2, 55, 0, 0, 0)), (1, (2, 30, 0, 0, 0)), (2, (2, 48, 0, 0, 0))] [] M
              have t9 := hT i (by omega) (by omega)
              refine hgo.2.1 2 _ [(3, (0, 0, 0, 8, i + 1)), (0, (2, 55, 0, 0, 0)), (1, (2, 30, 0, 0, 0)), (2, (2, 48, 0, 0, 0))] _ _ (xa_subI rfl rfl (fun _ _ _ _ => by omega) (xa_subR rfl (xa_subR rfl (xa_subR rfl (xa_sub0))))) ?_
              exact ih (i + 1) (by omega) (by omega) (fun j j0 j1 => by
                by_cases e : j = i
                · rw [e]
                  unfold nm_l
                  omega
                · exact hg j j0 (by omega)) (by omega)
            · intro (i11 : ¬ ((0 ≤ i ∧ i < (M 30 1)) ∧ M 31 i = 63))
              show xa_wk post (some (0, 0, (-108), (-100), (-100) - i)) M
              have t9 := hT i (by omega) (by omega)
              exact xa_wkI _ rfl (fun _ _ => by omega) (k _ _ (Or.inl ⟨i, by omega, by omega, by omega, by unfold nm_l; omega, hg, by omega⟩) (fun _ _ _ _ _ => rfl) (by unfold rz_c; omega))
  refine hgo.1 7 [2] 0 _ _ _ ?_
  show Q 2 [(3, (0, 0, 0, 0, 0)), (0, (2, 55, 0, 0, 0)), (1, (2, 30, 0, 0, 0)), (2, (2, 48, 0, 0, 0))] [] M
  refine hgo.2.1 2 _ [(3, (0, 0, 0, 8, 0)), (0, (2, 55, 0, 0, 0)), (1, (2, 30, 0, 0, 0)), (2, (2, 48, 0, 0, 0))] _ _ (xa_subI rfl rfl (fun _ _ _ _ => by omega) (xa_subR rfl (xa_subR rfl (xa_subR rfl (xa_sub0))))) ?_
  exact loop 9 0 (by omega) (by omega) (fun j j0 j1 => by omega) (by omega)
theorem rx_174_55 {A : Nat → Nat} {h0 : g_H} {d : Nat} {M : xa_M} {post : Option xa_V → xa_M → Prop} {T C : Int → Int} (hT : (∀ i, 0 ≤ i → i < 80 → M 31 i = T i)) (hC : ∀ i, 0 ≤ i → i < M 55 4 → M 58 i = bk_n (C i)) (hz : 0 ≤ M 30 1 ∧ M 30 1 ≤ 80) (hS : 0 ≤ M 55 4 ∧ M 55 4 ≤ 8) (k : ∀ (r : Int) (M1 : xa_M), nm_R T C (M 30 1) (M 55 4).toNat r → M1 30 1 = 0 → (∀ q j, ¬ q = 48 → ¬ q = 49 → ¬ q = 54 → ¬ q = 59 → ¬ (q = 30 ∧ j = 1) → ¬ (q = 60 ∧ j = 21) → M1 q j = M q j) → rz_c (0 < r) (M 48 1) (M1 48 1) (M 30 1) → post (some (0, 0, (-2147483648), 2147483647, r)) M1) : xa_C (xl_I true) A h0 (d + 7) 174 [(2, 0, 0, 0, 0)] M post := by
  refine xa_C_wk ?_
  refine xa_meth (Q0 := (2, 1, false, 0, 0, 11)) (by decide +kernel) ⟨rfl, rfl⟩ (full := s_c_174) rfl rfl ?_
  intro hM hv Q hgo
  refine hgo.1 19 [] 0 _ _ _ ?_
  show xa_C (xl_I true) A h0 _ 175 [(2, 55, 0, 0, 0), (2, 30, 0, 0, 0), (2, 48, 0, 0, 0)] M _
  refine rz_175_55 hT hC hz hS ?_
  intro r158 M159 (i1 : nm_R T C (M 30 1) (M 55 4).toNat r158) (i2 : ∀ q j, ¬ q = 48 → ¬ q = 49 → ¬ q = 59 → M159 q j = M q j) (z9 : rz_c (0 < r158) (M 48 1) (M159 48 1) (M 30 1))
  show xa_C (xl_I true) A h0 _ 113 [(2, 30, 0, 0, 0), (0, 0, 0, 0, 0)] M159 _
  refine cx_113f ?_
  intro n160 M161 (i3 : lt_E M159 30 1 (M159 30 1) 0 n160 M161)
  show xa_wk post (some (0, 0, (-2147483648), 2147483647, r158)) M161
  have z30 : 0 ≤ M159 30 1 := by rw [i2 30 1 (by decide) (by decide) (by decide)]; exact hz.1
  obtain ⟨h4, h5⟩ := le_cut z30 i3
  exact xa_wkI _ rfl (fun _ _ => by omega) (k _ _ i1 h4 (fun q j h1 h2 h3 h6 h7 h8 => (h5 q j h7 h8).trans (i2 q j h1 h2 h6)) (by rw [h5 48 1 (by omega) (by omega)]; exact z9))
theorem rx_174 {b : Bool} {A : Nat → Nat} {h0 : g_H} {d : Nat} {M : xa_M} {post : Option xa_V → xa_M → Prop} {T C : Int → Int} (hT : (∀ i, 0 ≤ i → i < 80 → M 31 i = T i)) (hC : ∀ i, 0 ≤ i → i < M (bk_p b) 4 → M (bk_p b + 3) i = bk_n (C i)) (hz : 0 ≤ M 30 1 ∧ M 30 1 ≤ 80) (hS : 0 ≤ M (bk_p b) 4 ∧ M (bk_p b) 4 ≤ 8) (k : ∀ (r : Int) (M1 : xa_M), nm_R T C (M 30 1) (M (bk_p b) 4).toNat r → M1 30 1 = 0 → (∀ q j, ¬ q = 48 → ¬ q = 49 → ¬ q = 54 → ¬ q = 59 → ¬ (q = 30 ∧ j = 1) → ¬ (q = 60 ∧ j = 21) → M1 q j = M q j) → rz_c (0 < r) (M 48 1) (M1 48 1) (M 30 1) → post (some (0, 0, (-2147483648), 2147483647, r)) M1) : xa_C (xl_I b) A h0 (d + 7) 174 [(2, 0, 0, 0, 0)] M post := by
  cases b
  · exact rx_174_50 hT hC hz hS k
  · exact rx_174_55 hT hC hz hS k
theorem rz_namesFrom {T : Int → Int} {s0 : Int} : ∀ (n : Nat) {A : Nat → Nat} {h0 : g_H} {d : Nat} {M : xa_M} {post : Option xa_V → xa_M → Prop} {l1 u1 l2 u2 l3 u3 : Int} {a m u : Int}, m - a = (n : Int) → 0 ≤ a → m ≤ 8 → (∀ i, 0 ≤ i → i < m → T i = M 73 i) → 0 ≤ M 60 53 → M 60 53 + nm_f T (M 72) m (M 60 11).toNat n u ≤ 2147483647 → rz_g m s0 (M 60 53) (M 60 20) → (∀ M1 : xa_M, xm_cor M M1 → M1 60 53 = M 60 53 + nm_f T (M 72) m (M 60 11).toNat n u → rz_g m s0 (M1 60 53) (M1 60 20) → post none M1) → xa_C xm_I A h0 (d + n + 2) 282 [(2, 60, 0, 0, 0), (0, 0, l1, u1, a), (0, 0, l2, u2, m), (0, 0, l3, u3, u)] M post := by
  intro n
  induction n with
  | zero =>
    intro A h0 d M post l1 u1 l2 u2 l3 u3 a m u hn a0 m8 hT h53 hb hg kk
    refine xa_C_arg [(2, 60, 0, 0, 0), (0, 0, 0, 8, a), (0, 0, 0, 8, m), (0, 0, (-2147483648), 2147483647, u)] (xa_svR (xa_svI (fun _ _ _ _ => by omega) (xa_svI (fun _ _ _ _ => by omega) (xa_svI (fun _ _ _ _ => by omega) xa_sv0)))) ?_
    refine xa_meth (Q0 := (5, 0, false, 0, 0, 12)) (by decide +kernel) ⟨rfl, rfl⟩ (full := s_c_282) rfl rfl ?_
    intro hM _ Q hgo
    have f0 : nm_f T (M 72) m (M 60 11).toNat 0 u = 1 := rfl
    have loop1 : ∀ (n : Nat) (x4 : Int) (M1 : xa_M), 0 ≤ x4 ∧ x4 ≤ 8 → xm_cor M M1 → (M1 60 20 = x4 ∧ x4 ≤ m) → M1 60 53 = M 60 53 → 8 - x4 < (n : Int) → Q 20 [(4, (0, 0, 0, 8, x4)), (2, (0, 0, 0, 8, m)), (0, (2, 60, 0, 0, 0))] [] M1 := by
      intro n
      induction n with
      | zero => intro x4 M1 b4 hc h20 h539 hms; omega
      | succ n ih1 =>
        intro x4 M1 b4 hc h20 h539 hms
        have w9 : xa_w32 ((M1 60 53) + 1) = M1 60 53 + 1 := xa_w32_id (by omega) (by omega)
        refine hgo.2.2 _ _ _ _ (fun hM1 _ => ?_)
        have b20 := xm_f20 hM1
        refine hgo.1 17 [20, 58] 20 _ _ _ ?_
        refine And.intro ?_ ?_
        · intro (c1 : m ≤ x4)
          show post none (xa_up M1 60 53 (xa_w32 ((M1 60 53) + 1)))
          exact kk _ (xm_cor_f (by omega) hc) (by rw [xa_up_eq, w9]; omega) (Or.inr ⟨by rw [xa_up_eq, w9]; omega, (xa_up_ne (by omega)).trans (by omega)⟩)
        · intro (c1 : x4 < m)
          refine And.intro (show 0 ≤ x4 ∧ x4 < 8 by omega) ?_
          show xa_C xm_I A h0 _ 231 [(2, 60, 0, 0, 0), (1, 0, 0, 7, M1 95 x4)] M1 _
          refine ct_tell (n := (M1 60 20)) (by first | rfl | (simp [xa_up]; done) | omega) (by omega) (by omega) ?_
          show Q 20 [(4, (0, 0, 1, 9, x4 + 1)), (2, (0, 0, 0, 8, m)), (0, (2, 60, 0, 0, 0))] [] (xa_up (xa_up M1 74 (M1 60 20) (M1 95 x4)) 60 20 ((M1 60 20) + 1))
          refine hgo.2.1 20 _ [(4, (0, 0, 0, 8, x4 + 1)), (2, (0, 0, 0, 8, m)), (0, (2, 60, 0, 0, 0))] _ _ (xa_subI rfl rfl (fun _ _ _ _ => by omega) (xa_subI rfl rfl (fun _ _ _ _ => by omega) (xa_subR rfl xa_sub0))) ?_
          exact ih1 (x4 + 1) (xa_up (xa_up M1 74 (M1 60 20) (M1 95 x4)) 60 20 ((M1 60 20) + 1)) (by omega) (xm_cor_f (by omega) (xm_cor_a rfl hc)) ⟨by rw [xa_up_eq]; omega, by omega⟩ ((xa_up_ne (by omega)).trans ((xa_up_ne (by omega)).trans h539)) (by omega)
    refine hgo.1 17 [20, 58] 0 _ _ _ ?_
    refine And.intro ?_ ?_
    · intro (c1 : ¬ a = m)
      show Q 58 [(4, (0, 0, 0, 0, 0)), (0, (2, 60, 0, 0, 0)), (1, (0, 0, 0, 8, a)), (2, (0, 0, 0, 8, m)), (3, (0, 0, (-2147483648), 2147483647, u))] [] M
      exfalso
      omega
    · intro (c1 : a = m)
      refine And.intro ?_ ?_
      · intro (c2 : ¬ (M 60 53) = 0)
        show post none (xa_up M 60 53 (xa_w32 ((M 60 53) + 1)))
        exact kk _ (xm_cor_f (by omega) xm_cor_r) (by rw [xa_up_eq, xa_w32_id (by omega) (by omega)]; omega) (rz_g1 hg c2 h53 (by rw [xa_up_eq, xa_w32_id (by omega) (by omega)]) (xa_up_ne (by omega)))
      · intro (c2 : (M 60 53) = 0)
        show Q 20 [(4, (0, 0, 0, 0, 0)), (0, (2, 60, 0, 0, 0)), (1, (0, 0, 0, 8, a)), (2, (0, 0, 0, 8, m)), (3, (0, 0, (-2147483648), 2147483647, u))] [] (xa_up M 60 20 0)
        refine hgo.2.1 20 _ [(4, (0, 0, 0, 8, 0)), (2, (0, 0, 0, 8, m)), (0, (2, 60, 0, 0, 0))] _ _ (xa_subI rfl rfl (fun _ _ _ _ => by omega) (xa_subI rfl rfl (fun _ _ _ _ => by omega) (xa_subR rfl xa_sub0))) ?_
        exact loop1 9 0 (xa_up M 60 20 0) (by omega) (xm_cor_f (by omega) xm_cor_r) ⟨xa_up_eq, by omega⟩ (xa_up_ne (by omega)) (by omega)
  | succ n ih =>
    intro A h0 d M post l1 u1 l2 u2 l3 u3 a m u hn a0 m8 hT h53 hb hg kk
    refine xa_C_arg [(2, 60, 0, 0, 0), (0, 0, 0, 7, a), (0, 0, 0, 8, m), (0, 0, (-2147483648), 2147483647, u)] (xa_svR (xa_svI (fun _ _ _ _ => by omega) (xa_svI (fun _ _ _ _ => by omega) (xa_svI (fun _ _ _ _ => by omega) xa_sv0)))) ?_
    refine xa_meth (d := d + n + 2) (Q0 := (5, 0, false, 0, 0, 12)) (by decide +kernel) ⟨rfl, rfl⟩ (full := s_c_282) rfl rfl ?_
    intro hM _ Q hgo
    have b11 := xm_f11 hM
    have ef : nm_f T (M 72) m (M 60 11).toNat (n + 1) u = nm_s T (M 72) a u (nm_f T (M 72) m (M 60 11).toNat n) (M 60 11).toNat := by
      rw [nm_f1, show m - ((n + 1 : Nat) : Int) = a by omega]
    rw [ef] at hb kk
    have hf0 := fun x => (nm_f_b (T := T) (C := M 72) (N := m) (S := (M 60 11).toNat) (by omega) n x).1
    have loop2 : ∀ (n3 : Nat) (x4 : Int) (M1 : xa_M), 0 ≤ x4 ∧ x4 ≤ 8 → xm_cor M M1 → rz_g m s0 (M1 60 53) (M1 60 20) → x4 ≤ M 60 11 → M1 60 53 = M 60 53 + nm_s T (M 72) a u (nm_f T (M 72) m (M 60 11).toNat n) x4.toNat → 8 - x4 < (n3 : Int) → Q 58 [(4, (0, 0, 0, 8, x4)), (1, (0, 0, 0, 7, a)), (2, (0, 0, 0, 8, m)), (3, (0, 0, (-2147483648), 2147483647, u)), (0, (2, 60, 0, 0, 0))] [] M1 := by
      intro n2
      induction n2 with
      | zero => intro x4 M1 b4 hc hg1 h11 hs hms; omega
      | succ n2 ih2 =>
        intro x4 M1 b4 hc hg1 h11 hs hms
        have ei : ((x4.toNat : Nat) : Int) = x4 := Int.toNat_of_nonneg (by omega)
        have e73 : M1 73 a = M 73 a := hc 73 a (by unfold xm_scr; omega)
        have e72 : M1 72 x4 = M 72 x4 := hc 72 x4 (by unfold xm_scr; omega)
        have tA := hT a (by omega) (by omega)
        have e11 := xm_corf hc 11 (by omega)
        refine hgo.1 46 [20, 58] 58 _ _ _ ?_
        refine And.intro ?_ ?_
        · intro (c1 : (M1 60 11) ≤ x4)
          show post none M1
          exact kk _ hc (by rw [hs, show x4 = M 60 11 by omega]) hg1
        · intro (c1 : x4 < (M1 60 11))
          show xa_C xm_I A h0 _ 248 [(0, 0, (-2147483648), 2147483647, u), (0, 0, 0, 8, x4)] M1 _
          refine ct_has (fun r2 zr2 er2 => ?_)
          refine And.intro ?_ ?_
          · intro (c3 : ¬ r2 = 0)
            show Q 58 [(4, (0, 0, 1, 9, x4 + 1)), (1, (0, 0, 0, 7, a)), (2, (0, 0, 0, 8, m)), (3, (0, 0, (-2147483648), 2147483647, u)), (0, (2, 60, 0, 0, 0))] [] M1
            refine hgo.2.1 58 _ [(4, (0, 0, 0, 8, x4 + 1)), (1, (0, 0, 0, 7, a)), (2, (0, 0, 0, 8, m)), (3, (0, 0, (-2147483648), 2147483647, u)), (0, (2, 60, 0, 0, 0))] _ _ (xa_subI rfl rfl (fun _ _ _ _ => by omega) (xa_subI rfl rfl (fun _ _ _ _ => by omega) (xa_subI rfl rfl (fun _ _ _ _ => by omega) (xa_subI rfl rfl (fun _ _ _ _ => by omega) (xa_subR rfl xa_sub0))))) ?_
            have f9 : ¬ nm_o T (M 72) a u ((x4.toNat : Nat) : Int) = true := fun h => by
              rw [ei, nm_oi] at h
              have e9 := nm_bit (u := u) (p := x4) (by omega) (by omega)
              omega
            exact ih2 (x4 + 1) M1 (by omega) hc hg1 (by omega) (by rw [hs, show (x4 + 1).toNat = x4.toNat + 1 by omega, nm_s0 f9]) (by omega)
          · intro (c3 : r2 = 0)
            refine And.intro ?_ ?_
            · intro (c4 : (M1 73 a) = 63)
              refine And.intro (show 0 ≤ x4 ∧ x4 ≤ 7 by omega) ?_
              show xa_C xm_I A h0 _ 282 [(2, 60, 0, 0, 0), (0, 0, 1, 8, a + 1), (0, 0, 0, 8, m), (0, 0, (-2147483648), 2147483647, xa_ib 4 u (xa_ib 6 1 x4))] (xa_up M1 95 a x4) _
              have e9 := nm_bit (u := u) (p := x4) (by omega) (by omega)
              have f9 : nm_o T (M 72) a u ((x4.toNat : Nat) : Int) = true := by
                rw [ei, nm_oi]
                omega
              have s9 := nm_s1 (F := nm_f T (M 72) m (M 60 11).toNat n) f9
              rw [ei] at s9
              have m9 := nm_s_m (T := T) (C := M 72) (s := a) (u := u) hf0 (x4.toNat + 1) ((M 60 11).toNat - (x4.toNat + 1))
              rw [show x4.toNat + 1 + ((M 60 11).toNat - (x4.toNat + 1)) = (M 60 11).toNat by omega, s9] at m9
              have z9 := (nm_s_b (T := T) (C := M 72) (s := a) (u := u) (nm_f_b (T := T) (C := M 72) (N := m) (S := (M 60 11).toNat) (by omega) n) x4.toNat).1
              have g72 : (xa_up M1 95 a x4) 72 = M 72 := funext (fun j => (xa_up_ne (by omega)).trans (hc 72 j (by unfold xm_scr; omega)))
              have g11 : (xa_up M1 95 a x4) 60 11 = M 60 11 := (xa_up_ne (by omega)).trans e11
              have g53 : (xa_up M1 95 a x4) 60 53 = M1 60 53 := xa_up_ne (by omega)
              have g20 : (xa_up M1 95 a x4) 60 20 = M1 60 20 := xa_up_ne (by omega)
              refine ih (d := d) (by omega) (by omega) (by omega) (fun i i0 i1 => (hT i i0 i1).trans (((xa_up_ne (by omega)).trans (hc 73 i (by unfold xm_scr; omega))).symm)) (by rw [g53]; omega) (by rw [g72, g11, g53]; omega) (by rw [g53, g20]; exact hg1) (fun M5 hc5 hv9 hg5 => ?_)
              rw [g72, g11, g53] at hv9
              show Q 58 [(4, (0, 0, 1, 9, x4 + 1)), (1, (0, 0, 0, 7, a)), (2, (0, 0, 0, 8, m)), (3, (0, 0, (-2147483648), 2147483647, u)), (0, (2, 60, 0, 0, 0))] [] M5
              refine hgo.2.1 58 _ [(4, (0, 0, 0, 8, x4 + 1)), (1, (0, 0, 0, 7, a)), (2, (0, 0, 0, 8, m)), (3, (0, 0, (-2147483648), 2147483647, u)), (0, (2, 60, 0, 0, 0))] _ _ (xa_subI rfl rfl (fun _ _ _ _ => by omega) (xa_subI rfl rfl (fun _ _ _ _ => by omega) (xa_subI rfl rfl (fun _ _ _ _ => by omega) (xa_subI rfl rfl (fun _ _ _ _ => by omega) (xa_subR rfl xa_sub0))))) ?_
              exact ih2 (x4 + 1) M5 (by omega) (xm_cor_t (xm_cor_a rfl hc) hc5) hg5 (by omega) (by rw [show (x4 + 1).toNat = x4.toNat + 1 by omega, s9, hv9, hs]; omega) (by omega)
            · intro (c4 : ¬ (M1 73 a) = 63)
              refine And.intro (show 0 ≤ x4 ∧ x4 < 8 by omega) ?_
              refine And.intro ?_ ?_
              · intro (c6 : (M1 73 a) = (M1 72 x4))
                refine And.intro (show 0 ≤ x4 ∧ x4 ≤ 7 by omega) ?_
                show xa_C xm_I A h0 _ 282 [(2, 60, 0, 0, 0), (0, 0, 1, 8, a + 1), (0, 0, 0, 8, m), (0, 0, (-2147483648), 2147483647, xa_ib 4 u (xa_ib 6 1 x4))] (xa_up M1 95 a x4) _
                have e9 := nm_bit (u := u) (p := x4) (by omega) (by omega)
                have f9 : nm_o T (M 72) a u ((x4.toNat : Nat) : Int) = true := by
                  rw [ei, nm_oi]
                  omega
                have s9 := nm_s1 (F := nm_f T (M 72) m (M 60 11).toNat n) f9
                rw [ei] at s9
                have m9 := nm_s_m (T := T) (C := M 72) (s := a) (u := u) hf0 (x4.toNat + 1) ((M 60 11).toNat - (x4.toNat + 1))
                rw [show x4.toNat + 1 + ((M 60 11).toNat - (x4.toNat + 1)) = (M 60 11).toNat by omega, s9] at m9
                have z9 := (nm_s_b (T := T) (C := M 72) (s := a) (u := u) (nm_f_b (T := T) (C := M 72) (N := m) (S := (M 60 11).toNat) (by omega) n) x4.toNat).1
                have g72 : (xa_up M1 95 a x4) 72 = M 72 := funext (fun j => (xa_up_ne (by omega)).trans (hc 72 j (by unfold xm_scr; omega)))
                have g11 : (xa_up M1 95 a x4) 60 11 = M 60 11 := (xa_up_ne (by omega)).trans e11
                have g53 : (xa_up M1 95 a x4) 60 53 = M1 60 53 := xa_up_ne (by omega)
                have g20 : (xa_up M1 95 a x4) 60 20 = M1 60 20 := xa_up_ne (by omega)
                refine ih (d := d) (by omega) (by omega) (by omega) (fun i i0 i1 => (hT i i0 i1).trans (((xa_up_ne (by omega)).trans (hc 73 i (by unfold xm_scr; omega))).symm)) (by rw [g53]; omega) (by rw [g72, g11, g53]; omega) (by rw [g53, g20]; exact hg1) (fun M7 hc7 hv9 hg7 => ?_)
                rw [g72, g11, g53] at hv9
                show Q 58 [(4, (0, 0, 1, 9, x4 + 1)), (1, (0, 0, 0, 7, a)), (2, (0, 0, 0, 8, m)), (3, (0, 0, (-2147483648), 2147483647, u)), (0, (2, 60, 0, 0, 0))] [] M7
                refine hgo.2.1 58 _ [(4, (0, 0, 0, 8, x4 + 1)), (1, (0, 0, 0, 7, a)), (2, (0, 0, 0, 8, m)), (3, (0, 0, (-2147483648), 2147483647, u)), (0, (2, 60, 0, 0, 0))] _ _ (xa_subI rfl rfl (fun _ _ _ _ => by omega) (xa_subI rfl rfl (fun _ _ _ _ => by omega) (xa_subI rfl rfl (fun _ _ _ _ => by omega) (xa_subI rfl rfl (fun _ _ _ _ => by omega) (xa_subR rfl xa_sub0))))) ?_
                exact ih2 (x4 + 1) M7 (by omega) (xm_cor_t (xm_cor_a rfl hc) hc7) hg7 (by omega) (by rw [show (x4 + 1).toNat = x4.toNat + 1 by omega, s9, hv9, hs]; omega) (by omega)
              · intro (c6 : ¬ (M1 73 a) = (M1 72 x4))
                show Q 58 [(4, (0, 0, 1, 9, x4 + 1)), (1, (0, 0, 0, 7, a)), (2, (0, 0, 0, 8, m)), (3, (0, 0, (-2147483648), 2147483647, u)), (0, (2, 60, 0, 0, 0))] [] M1
                refine hgo.2.1 58 _ [(4, (0, 0, 0, 8, x4 + 1)), (1, (0, 0, 0, 7, a)), (2, (0, 0, 0, 8, m)), (3, (0, 0, (-2147483648), 2147483647, u)), (0, (2, 60, 0, 0, 0))] _ _ (xa_subI rfl rfl (fun _ _ _ _ => by omega) (xa_subI rfl rfl (fun _ _ _ _ => by omega) (xa_subI rfl rfl (fun _ _ _ _ => by omega) (xa_subI rfl rfl (fun _ _ _ _ => by omega) (xa_subR rfl xa_sub0))))) ?_
                have f9 : ¬ nm_o T (M 72) a u ((x4.toNat : Nat) : Int) = true := fun h => by
                  rw [ei, nm_oi] at h
                  have e9 := nm_bit (u := u) (p := x4) (by omega) (by omega)
                  omega
                exact ih2 (x4 + 1) M1 (by omega) hc hg1 (by omega) (by rw [hs, show (x4 + 1).toNat = x4.toNat + 1 by omega, nm_s0 f9]) (by omega)
    refine hgo.1 17 [20, 58] 0 _ _ _ ?_
    refine And.intro ?_ ?_
    · intro (c1 : ¬ a = m)
      show Q 58 [(4, (0, 0, 0, 0, 0)), (0, (2, 60, 0, 0, 0)), (1, (0, 0, 0, 7, a)), (2, (0, 0, 0, 8, m)), (3, (0, 0, (-2147483648), 2147483647, u))] [] M
      refine hgo.2.1 58 _ [(4, (0, 0, 0, 8, 0)), (1, (0, 0, 0, 7, a)), (2, (0, 0, 0, 8, m)), (3, (0, 0, (-2147483648), 2147483647, u)), (0, (2, 60, 0, 0, 0))] _ _ (xa_subI rfl rfl (fun _ _ _ _ => by omega) (xa_subI rfl rfl (fun _ _ _ _ => by omega) (xa_subI rfl rfl (fun _ _ _ _ => by omega) (xa_subI rfl rfl (fun _ _ _ _ => by omega) (xa_subR rfl xa_sub0))))) ?_
      exact loop2 9 0 M (by omega) xm_cor_r hg (by omega) (by show M 60 53 = M 60 53 + 0; omega) (by omega)
    · intro (c1 : a = m)
      refine And.intro ?_ ?_
      · intro (c2 : ¬ (M 60 53) = 0)
        show post none (xa_up M 60 53 (xa_w32 ((M 60 53) + 1)))
        exfalso
        omega
      · intro (c2 : (M 60 53) = 0)
        show Q 20 [(4, (0, 0, 0, 0, 0)), (0, (2, 60, 0, 0, 0)), (1, (0, 0, 0, 7, a)), (2, (0, 0, 0, 8, m)), (3, (0, 0, (-2147483648), 2147483647, u))] [] (xa_up M 60 20 0)
        exfalso
        omega
theorem rz_namesFrom8 {T : Int → Int} {s0 : Int} {A : Nat → Nat} {h0 : g_H} {d : Nat} {M : xa_M} {post : Option xa_V → xa_M → Prop} {l1 u1 l2 u2 l3 u3 a m u : Int} (a0 : 0 ≤ a) (a1 : a ≤ m) (m8 : m ≤ 8) (hT : ∀ i, 0 ≤ i → i < m → T i = M 73 i) (h53 : 0 ≤ M 60 53) (hb : M 60 53 + nm_f T (M 72) m (M 60 11).toNat (m - a).toNat u ≤ 2147483647) (hg : rz_g m s0 (M 60 53) (M 60 20)) (k : ∀ M1 : xa_M, xm_cor M M1 → M1 60 53 = M 60 53 + nm_f T (M 72) m (M 60 11).toNat (m - a).toNat u → rz_g m s0 (M1 60 53) (M1 60 20) → post none M1) : xa_C xm_I A h0 (d + 10) 282 [(2, 60, 0, 0, 0), (0, 0, l1, u1, a), (0, 0, l2, u2, m), (0, 0, l3, u3, u)] M post := by
  obtain ⟨n, hn⟩ : ∃ n : Nat, m - a = (n : Int) := ⟨(m - a).toNat, by omega⟩
  have hd : d + 10 = (d + (8 - n)) + n + 2 := by omega
  rw [show (m - a).toNat = n by omega] at hb k
  rw [hd]
  exact rz_namesFrom n hn a0 m8 hT h53 hb hg k
theorem rm_names {A : Nat → Nat} {h0 : g_H} {d : Nat} {M : xa_M} {post : Option xa_V → xa_M → Prop} {T : Int → Int} (hT : ∀ i, 0 ≤ i → i < 80 → T i = M 73 i % 256) (k : ∀ (lo hi r : Int) (M1 : xa_M), nm_R T (M 72) (M 60 18) (M 60 11).toNat r → xm_cor (xa_up (xa_up M 60 21 0) 60 18 0) M1 → rz_c (0 < r) (M 60 20) (M1 60 20) (M 60 18) → post (some (0, 0, lo, hi, r)) M1) : xa_C xm_I A h0 (d + 11) 281 [(2, 60, 0, 0, 0)] M post := by
  refine xa_meth (Q0 := (3, 1, false, 0, 0, 12)) (by decide +kernel) ⟨rfl, rfl⟩ (full := s_c_281) rfl rfl ?_
  intro hM hv Q hgo
  have b18 := xm_f18 hM
  have b11 := xm_f11 hM
  obtain ⟨x1, hx1⟩ : ∃ x1, x1 = M 60 18 := ⟨_, rfl⟩
  have loop0 : ∀ (n : Nat) (x2 : Int) (M1 : xa_M), 0 ≤ x2 ∧ x2 ≤ 8 → xm_cor (xa_up (xa_up M 60 21 0) 60 18 0) M1 → M1 60 20 = M 60 20 → x2 ≤ x1 → (∀ j, 0 ≤ j → j < x2 → nm_l (T j)) → 8 - x2 < (n : Int) → Q 17 [(2, (0, 0, 0, 8, x2)), (1, (0, 0, 0, 80, x1)), (0, (2, 60, 0, 0, 0))] [] M1 := by
    intro n
    induction n with
    | zero => intro x2 M1 b2 hc h20 h2 hg hms; omega
    | succ n ih0 =>
      intro x2 M1 b2 hc h20 h2 hg hms0
      have e73 : ∀ i, M1 73 i = M 73 i := fun i => (hc 73 i (by unfold xm_scr; omega)).trans ((xa_up_ne (by omega)).trans (xa_up_ne (by omega)))
      have e72 : ∀ i, M1 72 i = M 72 i := fun i => (hc 72 i (by unfold xm_scr; omega)).trans ((xa_up_ne (by omega)).trans (xa_up_ne (by omega)))
      have e11 : M1 60 11 = M 60 11 := (hc 60 11 (by unfold xm_scr; omega)).trans ((xa_up_ne (by omega)).trans (xa_up_ne (by omega)))
      have t9 := hT x2
      have q9 := e73 x2
      have m9 := xm_t73 hM x2
      refine hgo.1 28 [17] 17 _ _ _ ?_
      refine And.intro ?_ ?_
      · intro (c1 : x1 ≤ x2)
        refine And.intro ?_ ?_
        · intro (c2 : ¬ x1 = 0)
          refine And.intro ?_ ?_
          · intro (c3 : x1 ≤ 8)
            show xa_C xm_I A h0 _ 282 [(2, 60, 0, 0, 0), (0, 0, 0, 0, 0), (0, 0, 0, 80, x1), (0, 0, 0, 0, 0)] (xa_up M1 60 53 0) _
            have g72 : (xa_up M1 60 53 0) 72 = M 72 := funext (fun j => (xa_up_ne (by omega)).trans (e72 j))
            have g11 : (xa_up M1 60 53 0) 60 11 = M 60 11 := (xa_up_ne (by omega)).trans e11
            have g53 : (xa_up M1 60 53 0) 60 53 = 0 := xa_up_eq
            have n9 := nm_fb (T := T) (C := M 72) (N := x1) (S := (M 60 11).toNat) (f := x1.toNat) (by omega) (by omega) 0
            have z9 : (x1 - 0).toNat = x1.toNat := by rw [Int.sub_zero]
            refine rz_namesFrom8 (T := T) (s0 := M 60 20) (by omega) (by omega) (by omega) (fun i i0 i1 => ?_) (by rw [g53]; exact Int.le_refl 0) (by rw [g72, g11, g53, z9]; omega) (Or.inl ⟨by rw [g53]; exact Int.le_refl 0, (xa_up_ne (by omega)).trans h20⟩) (fun M4 hc4 hv9 hg4 => ?_)
            · have l9 := hg i i0 (by omega)
              unfold nm_l at l9
              have t8 := hT i i0 (by omega)
              have m8 := xm_t73 hM i i0 (by omega)
              exact (show T i = M 73 i by omega).trans (((xa_up_ne (by omega)).trans (e73 i)).symm)
            rw [g72, g11, g53, z9] at hv9
            show post (some (0, 0, (-2147483648), 2147483647, M4 60 53)) M4
            exact k _ _ _ _ (Or.inr ⟨fun j j0 j1 => hg j j0 (by omega), by omega, Or.inr ⟨by omega, by rw [← hx1, hv9]; omega⟩⟩) (xm_cor_t (xm_cor_u (by unfold xm_scr; omega) hc) hc4) (rz_gc hg4 hx1)
          · intro (c3 : 8 < x1)
            show post (some (0, 0, (-108), (-108), (-108))) M1
            exact k _ _ _ _ (Or.inl ⟨8, by omega, by omega, by omega, Or.inl rfl, fun j j0 j1 => hg j j0 (by omega), by omega⟩) hc (by show rz_c (0 < ((-108) : Int)) (M 60 20) (M1 60 20) (M 60 18); unfold rz_c; omega)
        · intro (c2 : x1 = 0)
          show post (some (0, 0, (-100), (-100), (-100))) M1
          exact k _ _ _ _ (Or.inr ⟨fun j j0 j1 => by omega, by omega, Or.inl ⟨by omega, rfl⟩⟩) hc (by show rz_c (0 < ((-100) : Int)) (M 60 20) (M1 60 20) (M 60 18); unfold rz_c; omega)
      · intro (c1 : x2 < x1)
        refine And.intro ?_ ?_
        · intro (c5 : 8 ≤ x2)
          refine And.intro ?_ ?_
          · intro (c6 : ¬ x1 = 0)
            refine And.intro ?_ ?_
            · intro (c7 : x1 ≤ 8)
              show xa_C xm_I A h0 _ 282 [(2, 60, 0, 0, 0), (0, 0, 0, 0, 0), (0, 0, 0, 80, x1), (0, 0, 0, 0, 0)] (xa_up M1 60 53 0) _
              have g72 : (xa_up M1 60 53 0) 72 = M 72 := funext (fun j => (xa_up_ne (by omega)).trans (e72 j))
              have g11 : (xa_up M1 60 53 0) 60 11 = M 60 11 := (xa_up_ne (by omega)).trans e11
              have g53 : (xa_up M1 60 53 0) 60 53 = 0 := xa_up_eq
              have n9 := nm_fb (T := T) (C := M 72) (N := x1) (S := (M 60 11).toNat) (f := x1.toNat) (by omega) (by omega) 0
              have z9 : (x1 - 0).toNat = x1.toNat := by rw [Int.sub_zero]
              refine rz_namesFrom8 (T := T) (s0 := M 60 20) (by omega) (by omega) (by omega) (fun i i0 i1 => ?_) (by rw [g53]; exact Int.le_refl 0) (by rw [g72, g11, g53, z9]; omega) (Or.inl ⟨by rw [g53]; exact Int.le_refl 0, (xa_up_ne (by omega)).trans h20⟩) (fun M8 hc8 hv9 hg8 => ?_)
              · have l9 := hg i i0 (by omega)
                unfold nm_l at l9
                have t8 := hT i i0 (by omega)
                have m8 := xm_t73 hM i i0 (by omega)
                exact (show T i = M 73 i by omega).trans (((xa_up_ne (by omega)).trans (e73 i)).symm)
              rw [g72, g11, g53, z9] at hv9
              show post (some (0, 0, (-2147483648), 2147483647, M8 60 53)) M8
              exact k _ _ _ _ (Or.inr ⟨fun j j0 j1 => hg j j0 (by omega), by omega, Or.inr ⟨by omega, by rw [← hx1, hv9]; omega⟩⟩) (xm_cor_t (xm_cor_u (by unfold xm_scr; omega) hc) hc8) (rz_gc hg8 hx1)
            · intro (c7 : 8 < x1)
              show post (some (0, 0, (-108), (-108), (-108))) M1
              exact k _ _ _ _ (Or.inl ⟨8, by omega, by omega, by omega, Or.inl rfl, fun j j0 j1 => hg j j0 (by omega), by omega⟩) hc (by show rz_c (0 < ((-108) : Int)) (M 60 20) (M1 60 20) (M 60 18); unfold rz_c; omega)
          · intro (c6 : x1 = 0)
            show post (some (0, 0, (-100), (-100), (-100))) M1
            exact k _ _ _ _ (Or.inr ⟨fun j j0 j1 => by omega, by omega, Or.inl ⟨by omega, rfl⟩⟩) hc (by show rz_c (0 < ((-100) : Int)) (M 60 20) (M1 60 20) (M 60 18); unfold rz_c; omega)
        · intro (c5 : x2 < 8)
          refine And.intro ?_ ?_
          · intro (c9 : (M1 73 x2) = 63)
            show Q 17 [(2, (0, 0, 1, 9, x2 + 1)), (1, (0, 0, 0, 80, x1)), (0, (2, 60, 0, 0, 0))] [] M1
            refine hgo.2.1 17 _ [(2, (0, 0, 0, 8, x2 + 1)), (1, (0, 0, 0, 80, x1)), (0, (2, 60, 0, 0, 0))] _ _ (xa_subI rfl rfl (fun _ _ _ _ => by omega) (xa_subI rfl rfl (fun _ _ _ _ => by omega) (xa_subR rfl xa_sub0))) ?_
            exact ih0 (x2 + 1) M1 (by omega) hc h20 (by omega) (fun j j0 j1 => by
              by_cases e : j = x2
              · rw [e]
                unfold nm_l
                omega
              · exact hg j j0 (by omega)) (by omega)
          · intro (c9 : ¬ (M1 73 x2) = 63)
            show xa_C xm_I A h0 _ 214 [(0, 0, (-128), 127, M1 73 x2), (0, 0, 97, 97, 97), (0, 0, 122, 122, 122)] M1 _
            refine ct_in ?_ ?_
            · intro (i10 : 97 ≤ (M1 73 x2) ∧ (M1 73 x2) ≤ 122)
              show Q 17 [(2, (0, 0, 1, 9, x2 + 1)), (1, (0, 0, 0, 80, x1)), (0, (2, 60, 0, 0, 0))] [] M1
              refine hgo.2.1 17 _ [(2, (0, 0, 0, 8, x2 + 1)), (1, (0, 0, 0, 80, x1)), (0, (2, 60, 0, 0, 0))] _ _ (xa_subI rfl rfl (fun _ _ _ _ => by omega) (xa_subI rfl rfl (fun _ _ _ _ => by omega) (xa_subR rfl xa_sub0))) ?_
              exact ih0 (x2 + 1) M1 (by omega) hc h20 (by omega) (fun j j0 j1 => by
                by_cases e : j = x2
                · rw [e]
                  unfold nm_l
                  omega
                · exact hg j j0 (by omega)) (by omega)
            · intro (i10 : ¬ (97 ≤ (M1 73 x2) ∧ (M1 73 x2) ≤ 122))
              show post (some (0, 0, (-108), (-100), (-100) - x2)) M1
              exact k _ _ _ _ (Or.inl ⟨x2, by omega, by omega, by omega, Or.inr (by unfold nm_l; omega), hg, by omega⟩) hc (by show rz_c (0 < ((-100) - x2 : Int)) (M 60 20) (M1 60 20) (M 60 18); unfold rz_c; omega)
  refine hgo.1 16 [17] 0 _ _ _ ?_
  show Q 17 [(2, (0, 0, 0, 0, 0)), (1, (0, 0, 0, 80, M 60 18)), (0, (2, 60, 0, 0, 0))] [] (xa_up (xa_up M 60 21 0) 60 18 0)
  rw [← hx1]
  refine hgo.2.1 17 _ [(2, (0, 0, 0, 8, 0)), (1, (0, 0, 0, 80, x1)), (0, (2, 60, 0, 0, 0))] _ _ (xa_subI rfl rfl (fun _ _ _ _ => by omega) (xa_subI rfl rfl (fun _ _ _ _ => by omega) (xa_subR rfl xa_sub0))) ?_
  exact loop0 9 0 (xa_up (xa_up M 60 21 0) 60 18 0) (by omega) xm_cor_r ((xa_up_ne (by omega)).trans (xa_up_ne (by omega))) (by omega) (fun j j0 j1 => by omega) (by omega)
theorem rz_p174 (A : Nat → Nat) (cmp : Bool) : iv_pair (rz_J A) A 174 281 [] cmp false := rz_armV (fun W b h as M hJ hM hInv hs hR hz => by
  obtain rfl := iv_sp0 hs
  obtain ⟨s1, s2, s3, s4⟩ := lm_Sx.mp hR.2.1
  have hMk := xa_H_Mok hM
  have b18 := xm_f18 hMk
  have b11 := xm_f11 hMk
  have hC : ∀ i, 0 ≤ i → i < iv_num h (bk_p b) 4 → iv_num h (bk_p b + 3) i = bk_n (M 72 i) := fun i i0 i1 => by
    rw [s3] at i1
    exact (s4 i i0 (by omega) i1).2.2
  have hc := rx_174 (b := b) (A := A) (h0 := h) (d := 53) (M := iv_num h) (T := fun i => M 73 i % 256) (C := M 72) (post := fun o M1 => ∃ lo hi n, o = some (0, 0, lo, hi, n) ∧ ((nm_R (fun i => M 73 i % 256) (M 72) (iv_num h 30 1) (iv_num h (bk_p b) 4).toNat n ∧ M1 30 1 = 0 ∧ ∀ q j, ¬ q = 48 → ¬ q = 49 → ¬ q = 54 → ¬ q = 59 → ¬ (q = 30 ∧ j = 1) → ¬ (q = 60 ∧ j = 21) → M1 q j = iv_num h q j) ∧ rz_c (0 < n) (iv_num h 48 1) (M1 48 1) (iv_num h 30 1))) s2 hC (by omega) (by omega) (fun n M1 x1 x2 x3 x4 => ⟨_, _, n, rfl, ⟨x1, x2, x3⟩, x4⟩)
  have hm := fun (h1 : g_H) => rm_names (A := A) (h0 := h1) (d := 49) (M := M) (T := fun i => M 73 i % 256) (post := fun o M2 => (∃ lo hi n, o = some (0, 0, lo, hi, n) ∧ ((nm_R (fun i => M 73 i % 256) (M 72) (M 60 18) (M 60 11).toNat n ∧ xm_cor (xa_up (xa_up M 60 21 0) 60 18 0) M2) ∧ rz_c (0 < n) (M 60 20) (M2 60 20) (M 60 18))) ∧ xm_Inv M2) (fun i _ _ => rfl) (fun lo hi n M2 x1 x2 x3 => ⟨⟨_, _, n, rfl, ⟨x1, x2⟩, x3⟩, cor_Inv hInv x2⟩)
  refine ⟨[(2, 0, 0, 0, 0)], [(2, 60, 0, 0, 0)], _, _, ⟨rfl, trivial⟩, ⟨rfl, trivial⟩, fun n n' M1 M2 h1 h2 => ?_, hc, hm⟩
  obtain ⟨⟨a1, a2, a3⟩, z1⟩ := h1
  obtain ⟨⟨c1, c2⟩, z2⟩ := h2
  obtain ⟨d1, d2⟩ := cor_k c2
  rw [s1, s3] at a1
  rw [s1] at z1
  have en : n = n' := nm_one a1 c1
  refine ⟨fun _ => en, fun x => cor_kk c2 (by omega) x, fun x => cor_kk c2 (by omega) x, lm_Rt hR (by omega) (fun i i0 i1 => ?_) (fun q j hC hq e1 e2 => a3 q j (by first | (have t9 := lm_Cq hC; omega) | (unfold lm_C at hC; omega)) (by first | (have t9 := lm_Cq hC; omega) | (unfold lm_C at hC; omega)) (by first | (have t9 := lm_Cq hC; omega) | (unfold lm_C at hC; omega)) (by first | (have t9 := lm_Cq hC; omega) | (unfold lm_C at hC; omega)) e1 (by omega)) (fun q j hC hq e1 e2 => d2 q j hC hq e1), rz_c1 z1 z2 (by rw [en]) hz⟩
  rw [a3 31 i (by omega) (by omega) (by omega) (by omega) (by omega) (by omega), d2 73 i (by unfold lm_C; first | (simp; done) | (simp; omega) | omega) (by omega) (by omega)]
  exact s2 i i0 i1)

-- turns of the class, told to the end
set_option maxRecDepth 20000
theorem tu_C_G {C N0 C1 : xa_M} (h : tu_C C N0) (g : tu_G C C1) : tu_C C1 N0 := ⟨(g 1 10 (by omega)).trans h.1, fun m m0 m1 => ⟨(g 7 m (by omega)).trans (h.2.1 m m0 m1).1, (g 8 m (by omega)).trans (h.2.1 m m0 m1).2⟩, fun w w0 w1 => ⟨(g 5 w (by omega)).trans (h.2.2 w w0 w1).1, (g 4 w (by omega)).trans (h.2.2 w w0 w1).2⟩⟩
theorem tu_G_r {C : xa_M} : tu_G C C := fun _ _ _ => rfl
theorem tu_fB0 {but : Int} {n : Nat} {N : xa_M} (h : 1 ≤ n) : xm_fB but n 0 N = some N := by
  obtain ⟨k, rfl⟩ : ∃ k, n = k + 1 := ⟨n - 1, by omega⟩
  rw [xm_fB, if_pos rfl]
theorem tu_fB1 {but : Int} {n : Nat} {N : xa_M} : xm_fB but (n + 1) 1 N = xm_bd but n (xm_fC but 17 0 0 N) := by
  rw [xm_fB, if_neg (by decide)]
  unfold xm_bd
  rfl
theorem cx_57t {b : Bool} {A : Nat → Nat} {h0 : g_H} {d : Nat} {M : xa_M} {post : Option xa_V → xa_M → Prop} {l1 u1 but : Int} {N N0 : xa_M} (hM0 : tu_M N0) (hC0 : tu_C M N0) (hF0 : tu_F N0 N) (hR0 : tu_R M N) (hfx0 : ∀ m, 0 ≤ m → m < N0 60 6 → ¬ m = but → N 77 (N0 64 (N0 66 m)) = N 77 (N0 64 (N0 67 m))) (k : ∀ r : Int, (r = 0 ∧ (xm_fD but 17 0 0 N).1 = 0) ∨ (r = 1 ∧ ¬ (xm_fD but 17 0 0 N).1 = 0) → post (some (0, 0, 0, 1, r)) M) : xa_C (xl_I b) A h0 (d + 5) 57 [(2, 12, 0, 0, 0), (2, 1, 0, 0, 0), (0, 0, l1, u1, but)] M post := by
  refine xa_C_wk ?_
  refine xa_C_arg [(2, 12, 0, 0, 0), (2, 1, 0, 0, 0), (0, 0, (-2147483648), 2147483647, but)] (xa_svR (xa_svR (xa_svI (fun _ _ _ _ => by omega) xa_sv0))) ?_
  refine xa_meth (Q0 := (4, 2, false, 0, 0, 9)) (by decide +kernel) ⟨rfl, rfl⟩ (full := s_c_57) rfl rfl ?_
  intro hM hv Q hgo
  have e10 : M 1 10 = N0 60 6 := hC0.1
  have hn6 := hM0.1
  have loop : ∀ (f : Nat) (m : Int) (N1 : xa_M), 0 ≤ m ∧ m ≤ 16 → tu_F N0 N1 → tu_R M N1 → (∀ m, 0 ≤ m → m < N0 60 6 → ¬ m = but → N1 77 (N0 64 (N0 66 m)) = N1 77 (N0 64 (N0 67 m))) → (xm_fD but f m 0 N1).1 = (xm_fD but 17 0 0 N).1 → 16 - m < (f : Int) → Q 2 [(3, (0, 0, 0, 16, m)), (0, (2, 12, 0, 0, 0)), (1, (2, 1, 0, 0, 0)), (2, (0, 0, (-2147483648), 2147483647, but))] [] M := by
    intro f
    induction f with
    | zero => intro m N1 m1 hF hR hfx heq hms; clear heq hfx; omega
    | succ f ih =>
      intro m N1 m1 hF hR hfx heq hms
      have e6 : N1 60 6 = N0 60 6 := hF 60 6 (by omega) (by omega)
      have kk := fun h : m < N0 60 6 => tu_m hM0 hC0 tu_G_r hF m1.1 h
      refine hgo.1 24 [2] 2 _ _ _ ?_
      refine And.intro ?_ ?_
      · intro (c1 : (M 1 10) ≤ m)
        show xa_wk post (some (0, 0, 0, 0, 0)) M
        rw [xm_fD_end (by omega)] at heq
        exact xa_wkI 0 rfl (fun _ _ => by omega) (k 0 (Or.inl ⟨rfl, heq.symm⟩))
      · intro (c1 : m < (M 1 10))
        have kk := kk (by omega)
        refine And.intro ?_ ?_
        · intro (c2 : m = but)
          show Q 2 [(3, (0, 0, 1, 17, m + 1)), (0, (2, 12, 0, 0, 0)), (1, (2, 1, 0, 0, 0)), (2, (0, 0, (-2147483648), 2147483647, but))] [] M
          obtain ⟨s1, -⟩ := tu_fDg (n := f) hM0 hC0 tu_G_r hF hR m1.1 (by omega) (hfx m m1.1 (by omega)) rfl rfl rfl
          rw [s1 (by omega)] at heq
          refine hgo.2.1 2 _ [(3, (0, 0, 0, 16, m + 1)), (0, (2, 12, 0, 0, 0)), (1, (2, 1, 0, 0, 0)), (2, (0, 0, (-2147483648), 2147483647, but))] _ _ (xa_subI rfl rfl (fun _ _ _ _ => by omega) (xa_subR rfl (xa_subR rfl (xa_subI rfl rfl (fun _ _ _ _ => by omega) (xa_sub0))))) ?_
          exact ih (m + 1) N1 (by omega) hF hR hfx heq (by omega)
        · intro (c2 : ¬ m = but)
          show xa_C (xl_I b) A h0 _ 40 [(2, 1, 0, 0, 0), (0, 0, 0, 16, m)] M _
          refine cx_40_1 (show 0 ≤ m ∧ m < 16 by omega) ?_
          show xa_C (xl_I b) A h0 _ 41 [(2, 1, 0, 0, 0), (0, 0, 0, 16, m)] M _
          refine cx_41_1 (show 0 ≤ m ∧ m < 16 by omega) ?_
          show xa_C (xl_I b) A h0 _ 58 [(2, 12, 0, 0, 0), (2, 1, 0, 0, 0), (0, 0, (-2147483648), 2147483647, M 7 m), (0, 0, (-2147483648), 2147483647, M 8 m)] M _
          refine cx_58c kk.2.2.2.1 kk.2.2.2.2.1 kk.2.2.2.2.2.1 kk.2.2.2.2.2.2.1 (fun h => tu_pq hR kk.2.2.2.2.2.1 h) kk.2.2.2.2.2.2.2.1 kk.2.2.2.2.2.2.2.2 ?_ ?_
          · intro (i3 : M 14 (M 5 (M 7 m)) = 0)
            refine And.intro ?_ ?_
            · intro (c4 : ¬ 1 = 0)
              show Q 2 [(3, (0, 0, 1, 17, m + 1)), (0, (2, 12, 0, 0, 0)), (1, (2, 1, 0, 0, 0)), (2, (0, 0, (-2147483648), 2147483647, but))] [] M
              obtain ⟨s1, -⟩ := tu_fDg (n := f) hM0 hC0 tu_G_r hF hR m1.1 (by omega) (hfx m m1.1 (by omega)) rfl rfl rfl
              rw [s1 (by omega)] at heq
              refine hgo.2.1 2 _ [(3, (0, 0, 0, 16, m + 1)), (0, (2, 12, 0, 0, 0)), (1, (2, 1, 0, 0, 0)), (2, (0, 0, (-2147483648), 2147483647, but))] _ _ (xa_subI rfl rfl (fun _ _ _ _ => by omega) (xa_subR rfl (xa_subR rfl (xa_subI rfl rfl (fun _ _ _ _ => by omega) (xa_sub0))))) ?_
              exact ih (m + 1) N1 (by omega) hF hR hfx heq (by omega)
            · intro (c4 : 1 = 0)
              exfalso
              omega
          · intro g101 r102 (i5 : ¬ M 14 (M 5 (M 7 m)) = 0) (i6 : g101 = (Int.gcd (-(M 13 (M 5 (M 7 m))) * (M 4 (M 7 m))) ((M 14 (M 5 (M 7 m))) * (M 4 (M 8 m))) : Int)) (i7 : r102 = 0 ∨ r102 = 1) (i8 : r102 = 1 ↔ ((-(M 13 (M 5 (M 7 m))) * (M 4 (M 7 m))).tdiv g101 = M 13 (M 5 (M 8 m)) ∧ ((M 14 (M 5 (M 7 m))) * (M 4 (M 8 m))) / g101 = M 14 (M 5 (M 8 m))))
            refine And.intro ?_ ?_
            · intro (c9 : ¬ r102 = 0)
              show Q 2 [(3, (0, 0, 1, 17, m + 1)), (0, (2, 12, 0, 0, 0)), (1, (2, 1, 0, 0, 0)), (2, (0, 0, (-2147483648), 2147483647, but))] [] M
              obtain ⟨-, s2⟩ := tu_fDg (n := f) hM0 hC0 tu_G_r hF hR m1.1 (by omega) (hfx m m1.1 (by omega)) i6 rfl rfl
              have e := s2 (by omega)
              rw [if_pos (i8.mp (by omega))] at e
              rw [e] at heq
              refine hgo.2.1 2 _ [(3, (0, 0, 0, 16, m + 1)), (0, (2, 12, 0, 0, 0)), (1, (2, 1, 0, 0, 0)), (2, (0, 0, (-2147483648), 2147483647, but))] _ _ (xa_subI rfl rfl (fun _ _ _ _ => by omega) (xa_subR rfl (xa_subR rfl (xa_subI rfl rfl (fun _ _ _ _ => by omega) (xa_sub0))))) ?_
              exact ih (m + 1) _ (by omega) (fun q j h1 h2 => (xa_up_ne (by omega)).trans ((xa_up_ne (by omega)).trans (hF q j h1 h2))) (tu_Rq hR (fun q j h1 h2 => (xa_up_ne (by omega)).trans (xa_up_ne (by omega)))) (fun a a0 a1 a2 => ((xa_up_ne (by omega)).trans (xa_up_ne (by omega))).trans ((hfx a a0 a1 a2).trans ((xa_up_ne (by omega)).trans (xa_up_ne (by omega))).symm)) heq (by omega)
            · intro (c9 : r102 = 0)
              show xa_wk post (some (0, 0, 1, 1, 1)) M
              obtain ⟨-, s2⟩ := tu_fDg (n := f) hM0 hC0 tu_G_r hF hR m1.1 (by omega) (hfx m m1.1 (by omega)) i6 rfl rfl
              have e := s2 (by omega)
              rw [if_neg (fun h => by have := i8.mpr h; omega)] at e
              rw [e] at heq
              exact xa_wkI 1 rfl (fun _ _ => by omega) (k 1 (Or.inr ⟨rfl, by rw [← heq]; exact tu_fD1 f (m + 1) 1 _ (by decide)⟩))
  refine hgo.1 7 [2] 0 _ _ _ ?_
  show Q 2 [(3, (0, 0, 0, 0, 0)), (0, (2, 12, 0, 0, 0)), (1, (2, 1, 0, 0, 0)), (2, (0, 0, (-2147483648), 2147483647, but))] [] M
  refine hgo.2.1 2 _ [(3, (0, 0, 0, 16, 0)), (0, (2, 12, 0, 0, 0)), (1, (2, 1, 0, 0, 0)), (2, (0, 0, (-2147483648), 2147483647, but))] _ _ (xa_subI rfl rfl (fun _ _ _ _ => by omega) (xa_subR rfl (xa_subR rfl (xa_subI rfl rfl (fun _ _ _ _ => by omega) (xa_sub0))))) ?_
  exact loop 17 0 N (by omega) hF0 hR0 hfx0 rfl (by omega)
theorem cx_47t {b : Bool} {A : Nat → Nat} {h0 : g_H} {d : Nat} {M : xa_M} {post : Option xa_V → xa_M → Prop} {l1 u1 but : Int} {N0 : xa_M} (hM0 : tu_M N0) (hC0 : tu_C M N0) (k : ∀ (v : Int) (M1 : xa_M), (v = 0 ∨ v = -3 ∨ v = -5) → tu_V but N0 v M1 → tu_G M M1 → post (some (0, 0, (-5), 0, v)) M1) : xa_C (xl_I b) A h0 (d + 6) 47 [(2, 12, 0, 0, 0), (2, 1, 0, 0, 0), (0, 0, l1, u1, but)] M post := by
  refine xa_C_wk ?_
  refine xa_C_arg [(2, 12, 0, 0, 0), (2, 1, 0, 0, 0), (0, 0, (-2147483648), 2147483647, but)] (xa_svR (xa_svR (xa_svI (fun _ _ _ _ => by omega) xa_sv0))) ?_
  refine xa_meth (Q0 := (5, 1, false, 0, 0, 9)) (by decide +kernel) ⟨rfl, rfl⟩ (full := s_c_47) rfl rfl ?_
  intro hM hv Q hgo
  have loop2 : ∀ (f : Nat) (p z : Int) (M1 N1 : xa_M), 0 ≤ p ∧ p ≤ 10 → tu_G M M1 → tu_F N0 N1 → ((M1 12 2 = 0 ∧ (z = 0 ∨ z = 1) ∧ tu_R M1 N1 ∧ (z = 0 ∨ 1 + p ≤ xm_R N1) ∧ (z = 0 → ∀ m, 0 ≤ m → m < N0 60 6 → ¬ m = but → N1 77 (N0 64 (N0 66 m)) = N1 77 (N0 64 (N0 67 m))) ∧ ∃ n : Nat, (n : Int) = 23 - p ∧ xm_fB but n z N1 = xm_fB but 23 1 (xm_ini N0)) ∨ (M1 12 2 = 1 ∧ xm_fB but 23 1 (xm_ini N0) = none)) → 10 - p < (f : Int) → Q 51 [(4, (0, 0, 0, 10, p)), (3, (0, 0, 0, 1, z)), (0, (2, 12, 0, 0, 0)), (1, (2, 1, 0, 0, 0)), (2, (0, 0, (-2147483648), 2147483647, but))] [] M1 := by
    intro f
    induction f with
    | zero => intro p z M1 N1 p1 hG hF hS hms; clear hS; omega
    | succ f ih =>
      intro p z M1 N1 p1 hG hF hS hms
      rcases hS with ⟨h12, zb, hR, hRz, hfx, nn, hn, hB⟩ | ⟨h12, hB⟩
      · refine hgo.1 20 [51] 51 _ _ _ ?_
        refine And.intro ?_ ?_
        · intro (c1 : 10 ≤ p)
          refine And.intro ?_ ?_
          · intro (c2 : (M1 12 2) = 0)
            show xa_C (xl_I b) A h0 _ 57 [(2, 12, 0, 0, 0), (2, 1, 0, 0, 0), (0, 0, (-2147483648), 2147483647, but)] M1 _
            refine cx_57t hM0 (tu_C_G hC0 hG) hF hR (hfx (by have := tu_R10 hR; omega)) ?_
            intro r101 (i3 : (r101 = 0 ∧ (xm_fD but 17 0 0 N1).1 = 0) ∨ (r101 = 1 ∧ ¬ (xm_fD but 17 0 0 N1).1 = 0))
            refine And.intro ?_ ?_
            · intro (c4 : r101 = 0)
              show xa_wk post (some (0, 0, 0, 0, 0)) M1
              have z0 : z = 0 := by have := tu_R10 hR; omega
              rw [z0, tu_fB0 (by omega)] at hB
              rcases i3 with ⟨e, h⟩ | ⟨e, h⟩
              · exact xa_wkI 0 rfl (fun _ _ => by omega) (k 0 M1 (by omega) (tu_Vv hB.symm hR (by rw [if_pos h])) hG)
              · exfalso
                omega
            · intro (c4 : ¬ r101 = 0)
              show xa_wk post (some (0, 0, (-3), (-3), (-3))) M1
              have z0 : z = 0 := by have := tu_R10 hR; omega
              rw [z0, tu_fB0 (by omega)] at hB
              rcases i3 with ⟨e, h⟩ | ⟨e, h⟩
              · exfalso
                omega
              · exact xa_wkI (-3) rfl (fun _ _ => by omega) (k (-3) M1 (by omega) (tu_Vv hB.symm hR (by rw [if_neg h])) hG)
          · intro (c2 : ¬ (M1 12 2) = 0)
            exfalso
            omega
        · intro (c1 : p < 10)
          refine And.intro ?_ ?_
          · intro (c5 : z = 0)
            refine And.intro ?_ ?_
            · intro (c6 : (M1 12 2) = 0)
              show xa_C (xl_I b) A h0 _ 57 [(2, 12, 0, 0, 0), (2, 1, 0, 0, 0), (0, 0, (-2147483648), 2147483647, but)] M1 _
              refine cx_57t hM0 (tu_C_G hC0 hG) hF hR (hfx (by have := tu_R10 hR; omega)) ?_
              intro r102 (i7 : (r102 = 0 ∧ (xm_fD but 17 0 0 N1).1 = 0) ∨ (r102 = 1 ∧ ¬ (xm_fD but 17 0 0 N1).1 = 0))
              refine And.intro ?_ ?_
              · intro (c8 : r102 = 0)
                show xa_wk post (some (0, 0, 0, 0, 0)) M1
                have z0 : z = 0 := by have := tu_R10 hR; omega
                rw [z0, tu_fB0 (by omega)] at hB
                rcases i7 with ⟨e, h⟩ | ⟨e, h⟩
                · exact xa_wkI 0 rfl (fun _ _ => by omega) (k 0 M1 (by omega) (tu_Vv hB.symm hR (by rw [if_pos h])) hG)
                · exfalso
                  omega
              · intro (c8 : ¬ r102 = 0)
                show xa_wk post (some (0, 0, (-3), (-3), (-3))) M1
                have z0 : z = 0 := by have := tu_R10 hR; omega
                rw [z0, tu_fB0 (by omega)] at hB
                rcases i7 with ⟨e, h⟩ | ⟨e, h⟩
                · exfalso
                  omega
                · exact xa_wkI (-3) rfl (fun _ _ => by omega) (k (-3) M1 (by omega) (tu_Vv hB.symm hR (by rw [if_neg h])) hG)
            · intro (c6 : ¬ (M1 12 2) = 0)
              exfalso
              omega
          · intro (c5 : ¬ z = 0)
            refine And.intro ?_ ?_
            · intro (c9 : ¬ (M1 12 2) = 0)
              exfalso
              omega
            · intro (c9 : (M1 12 2) = 0)
              show xa_C (xl_I b) A h0 _ 49 [(2, 12, 0, 0, 0), (2, 1, 0, 0, 0), (0, 0, (-2147483648), 2147483647, but)] M1 _
              refine cx_49t hM0 (tu_C_G hC0 hG) hF hR h12 ?_
              intro r103 M104 (i10 : tu_O N0 N1 but (xm_fC but 17 0 0 N1) r103 M104) (i11 : tu_G M1 M104)
              show Q 51 [(4, (0, 0, 1, 11, p + 1)), (3, (0, 0, 0, 1, r103)), (0, (2, 12, 0, 0, 0)), (1, (2, 1, 0, 0, 0)), (2, (0, 0, (-2147483648), 2147483647, but))] [] M104
              refine hgo.2.1 51 _ [(4, (0, 0, 0, 10, p + 1)), (3, (0, 0, 0, 1, r103)), (0, (2, 12, 0, 0, 0)), (1, (2, 1, 0, 0, 0)), (2, (0, 0, (-2147483648), 2147483647, but))] _ _ (xa_subI rfl rfl (fun _ _ _ _ => by omega) (xa_subI rfl rfl (fun _ _ _ _ => by omega) (xa_subR rfl (xa_subR rfl (xa_subI rfl rfl (fun _ _ _ _ => by omega) (xa_sub0)))))) ?_
              have z1 : z = 1 := by omega
              have hG2 : tu_G M M104 := fun q j h => (i11 q j h).trans (hG q j h)
              obtain ⟨n', rfl⟩ : ∃ k, nn = k + 1 := ⟨nn - 1, by omega⟩
              rw [z1, tu_fB1] at hB
              generalize xm_fC but 17 0 0 N1 = oo at hB i10
              cases oo with
              | none => exact ih (p + 1) r103 M104 N1 (by omega) hG2 hF (Or.inr ⟨i10, hB.symm⟩) (by omega)
              | some q =>
                obtain ⟨o1, ⟨o2, o3⟩, o4, o5, o6, o7⟩ := i10
                exact ih (p + 1) r103 M104 q.2 (by omega) hG2 o5 (Or.inl ⟨o1, o3, o4, by omega, o7, n', by omega, by rw [o2]; exact hB⟩) (by omega)
      · refine hgo.1 17 [51] 51 _ _ _ ?_
        refine And.intro ?_ ?_
        · intro (c1 : 10 ≤ p)
          refine And.intro ?_ ?_
          · intro (c2 : (M1 12 2) = 0)
            exfalso
            omega
          · intro (c2 : ¬ (M1 12 2) = 0)
            show xa_wk post (some (0, 0, (-5), (-5), (-5))) M1
            exact xa_wkI (-5) rfl (fun _ _ => by omega) (k (-5) M1 (by omega) (tu_V5 hB) hG)
        · intro (c1 : p < 10)
          refine And.intro ?_ ?_
          · intro (c3 : z = 0)
            refine And.intro ?_ ?_
            · intro (c4 : (M1 12 2) = 0)
              exfalso
              omega
            · intro (c4 : ¬ (M1 12 2) = 0)
              show xa_wk post (some (0, 0, (-5), (-5), (-5))) M1
              exact xa_wkI (-5) rfl (fun _ _ => by omega) (k (-5) M1 (by omega) (tu_V5 hB) hG)
          · intro (c3 : ¬ z = 0)
            refine And.intro ?_ ?_
            · intro (c5 : ¬ (M1 12 2) = 0)
              refine And.intro ?_ ?_
              · intro (c6 : (M1 12 2) = 0)
                exfalso
                omega
              · intro (c6 : ¬ (M1 12 2) = 0)
                show xa_wk post (some (0, 0, (-5), (-5), (-5))) M1
                exact xa_wkI (-5) rfl (fun _ _ => by omega) (k (-5) M1 (by omega) (tu_V5 hB) hG)
            · intro (c5 : (M1 12 2) = 0)
              exfalso
              omega
  have loop1 : ∀ (f : Nat) (a : Int) (M1 : xa_M), 0 ≤ a ∧ a ≤ 10 → (∀ (q : Nat) (j : Int), ¬ q = 14 → M1 q j = M q j) → (∀ j, 0 ≤ j → j < a → M1 14 j = 0) → 10 - a < (f : Int) → Q 2 [(3, (0, 0, 0, 10, a)), (0, (2, 12, 0, 0, 0)), (1, (2, 1, 0, 0, 0)), (2, (0, 0, (-2147483648), 2147483647, but))] [] M1 := by
    intro f
    induction f with
    | zero => intro a M1 a1 hk hz hms; omega
    | succ f ih =>
      intro a M1 a1 hk hz hms
      refine hgo.1 25 [2, 51] 2 _ _ _ ?_
      refine And.intro ?_ ?_
      · intro (c1 : 10 ≤ a)
        show xa_C (xl_I b) A h0 _ 48 [(2, 13, 0, 0, 0), (0, 0, 0, 0, 0), (1, 0, 1, 1, 1)] M1 _
        refine cx_48_13 (show 0 ≤ 0 ∧ 0 < 10 by omega) ?_
        show xa_C (xl_I b) A h0 _ 48 [(2, 14, 0, 0, 0), (0, 0, 0, 0, 0), (1, 0, 1, 1, 1)] (xa_up M1 13 0 1) _
        refine cx_48_14 (show 0 ≤ 0 ∧ 0 < 10 by omega) ?_
        show Q 51 [(4, (0, 0, 0, 0, 0)), (3, (0, 0, 1, 1, 1)), (0, (2, 12, 0, 0, 0)), (1, (2, 1, 0, 0, 0)), (2, (0, 0, (-2147483648), 2147483647, but))] [] (xa_up (xa_up (xa_up M1 13 0 1) 14 0 1) 12 2 0)
        refine hgo.2.1 51 _ [(4, (0, 0, 0, 10, 0)), (3, (0, 0, 0, 1, 1)), (0, (2, 12, 0, 0, 0)), (1, (2, 1, 0, 0, 0)), (2, (0, 0, (-2147483648), 2147483647, but))] _ _ (xa_subI rfl rfl (fun _ _ _ _ => by omega) (xa_subI rfl rfl (fun _ _ _ _ => by omega) (xa_subR rfl (xa_subR rfl (xa_subI rfl rfl (fun _ _ _ _ => by omega) (xa_sub0)))))) ?_
        exact loop2 11 0 1 (xa_up (xa_up (xa_up M1 13 0 1) 14 0 1) 12 2 0) (xm_ini N0) (by omega) (fun q j h => (xa_up_ne (by omega)).trans ((xa_up_ne (by omega)).trans ((xa_up_ne (by omega)).trans (hk q j (by omega))))) tu_ini.2.2.2.1 (Or.inl ⟨xa_up_eq, Or.inr rfl, tu_iniR ((xa_up_ne (by omega)).trans ((xa_up_ne (by omega)).trans xa_up_eq)) ((xa_up_ne (by omega)).trans xa_up_eq) (fun a' a0 a1 => (xa_up_ne (by omega)).trans ((xa_up_ne (by omega)).trans ((xa_up_ne (by omega)).trans (hz a' (by omega) (by omega))))), by rw [tu_ini.2.2.2.2]; omega, fun e => absurd e (by decide), 23, by omega, rfl⟩) (by omega)
      · intro (c1 : a < 10)
        show xa_C (xl_I b) A h0 _ 48 [(2, 14, 0, 0, 0), (0, 0, 0, 10, a), (1, 0, 0, 0, 0)] M1 _
        refine cx_48_14 (show 0 ≤ a ∧ a < 10 by omega) ?_
        show Q 2 [(3, (0, 0, 1, 11, a + 1)), (0, (2, 12, 0, 0, 0)), (1, (2, 1, 0, 0, 0)), (2, (0, 0, (-2147483648), 2147483647, but))] [] (xa_up M1 14 a 0)
        refine hgo.2.1 2 _ [(3, (0, 0, 0, 10, a + 1)), (0, (2, 12, 0, 0, 0)), (1, (2, 1, 0, 0, 0)), (2, (0, 0, (-2147483648), 2147483647, but))] _ _ (xa_subI rfl rfl (fun _ _ _ _ => by omega) (xa_subR rfl (xa_subR rfl (xa_subI rfl rfl (fun _ _ _ _ => by omega) (xa_sub0))))) ?_
        exact ih (a + 1) (xa_up M1 14 a 0) (by omega) (fun q j h => (xa_up_ne (by omega)).trans (hk q j h)) (fun j j0 j1 => by
          by_cases e : j = a
          · rw [e]
            exact xa_up_eq
          · exact (xa_up_ne (by omega)).trans (hz j j0 (by omega))) (by omega)
  refine hgo.1 7 [2] 0 _ _ _ ?_
  show Q 2 [(3, (0, 0, 0, 0, 0)), (0, (2, 12, 0, 0, 0)), (1, (2, 1, 0, 0, 0)), (2, (0, 0, (-2147483648), 2147483647, but))] [] M
  refine hgo.2.1 2 _ [(3, (0, 0, 0, 10, 0)), (0, (2, 12, 0, 0, 0)), (1, (2, 1, 0, 0, 0)), (2, (0, 0, (-2147483648), 2147483647, but))] _ _ (xa_subI rfl rfl (fun _ _ _ _ => by omega) (xa_subR rfl (xa_subR rfl (xa_subI rfl rfl (fun _ _ _ _ => by omega) (xa_sub0))))) ?_
  exact loop1 11 0 M (by omega) (fun _ _ _ => rfl) (fun j j0 j1 => by omega) (by omega)
/-- what the reference's search finds -/
def tw_F (N0 : xa_M) (but w : Int) (N : xa_M) : Prop := ∃ M', xm_cor N0 M' ∧ xm_FT but M' w N
theorem tw_F_det {N0 N N' : xa_M} {but w w' : Int} (hr : xm_rng N0) (h : tw_F N0 but w N) (h' : tw_F N0 but w' N') : w' = w ∧ (¬ w = -5 → xm_ag N N') := by
  obtain ⟨M1, c1, f1⟩ := h
  obtain ⟨M2, c2, f2⟩ := h'
  exact xm_FT_det (fun q j hn => (c2 q j hn).trans (c1 q j hn).symm) (xm_rng_c c1 hr) f1 f2

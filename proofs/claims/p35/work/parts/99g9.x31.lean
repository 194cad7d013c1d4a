-- turns of the class, told to the end
set_option maxRecDepth 20000
theorem tu_C_G {C N0 C1 : xa_M} (h : tu_C C N0) (g : tu_G C C1) : tu_C C1 N0 := ⟨(g 1 10 (by omega)).trans h.1, fun m m0 m1 => ⟨(g 7 m (by omega)).trans (h.2.1 m m0 m1).1, (g 8 m (by omega)).trans (h.2.1 m m0 m1).2⟩, fun w w0 w1 => ⟨(g 5 w (by omega)).trans (h.2.2 w w0 w1).1, (g 4 w (by omega)).trans (h.2.2 w w0 w1).2⟩⟩
theorem tu_G_r {C : xa_M} : tu_G C C := fun _ _ _ => rfl
theorem tu_fB0 {but : Int} {n : Nat} {N : xa_M} (h : 1 ≤ n) : xm_fB but n 0 N = some N := by
  obtain ⟨k, rfl⟩ : ∃ k, n = k + 1 := ⟨n - 1, by omega⟩
  rw [xm_fB, if_pos rfl]
theorem tu_fB1 {but : Int} {n : Nat} {N : xa_M} : xm_fB but (n + 1) 1 N = xm_bd but n (xm_fC but 17 0 0 N) := by
  rw [xm_fB, if_neg (by decide)]
  unfold xm_bd
  rfl
theorem cx_57t {b : Bool} {A : Nat → Nat} {h0 : g_H} {d : Nat} {M : xa_M} {post : Option xa_V → xa_M → Prop} {l1 u1 but : Int} {N N0 : xa_M} (hM0 : tu_M N0) (hC0 : tu_C M N0) (hF0 : tu_F N0 N) (hR0 : tu_R M N) (hfx0 : ∀ m, 0 ≤ m → m < N0 60 6 → ¬ m = but → N 77 (N0 64 (N0 66 m)) = N 77 (N0 64 (N0 67 m))) (k : ∀ r : Int, (r = 0 ∧ (xm_fD but 17 0 0 N).1 = 0) ∨ (r = 1 ∧ ¬ (xm_fD but 17 0 0 N).1 = 0) → post (some (0, 0, 0, 1, r)) M) : xa_C (xl_I b) A h0 (d + 5) 57 [(2, 12, 0, 0, 0), (2, 1, 0, 0, 0), (0, 0, l1, u1, but)] M post := by
  refine xa_C_wk ?_
  refine xa_C_arg [(2, 12, 0, 0, 0), (2, 1, 0, 0, 0), (0, 0, (-2147483648), 2147483647, but)] (xa_svR (xa_svR (xa_svI (fun _ _ _ _ => by omega) xa_sv0))) ?_
  refine xa_meth (Q0 := (4, 2, false, 0, 0, 9)) (by decide +kernel) ⟨rfl, rfl⟩ (full := s_c_57) rfl rfl ?_
  intro hM hv Q hgo
  have e10 : M 1 10 = N0 60 6 := hC0.1
  have hn6 := hM0.1
  have loop : ∀ (f : Nat) (m : Int) (N1 : xa_M), 0 ≤ m ∧ m ≤ 16 → tu_F N0 N1 → tu_R M N1 → (∀ m, 0 ≤ m → m < N0 60 6 → ¬ m = but → N1 77 (N0 64 (N0 66 m)) = N1 77 (N0 64 (N0 67 m))) → (xm_fD but f m 0 N1).1 = (xm_fD but 17 0 0 N).1 → 16 - m < (f : Int) → Q 2 [(3, (0, 0, 0, 16, m)), (0, (2, 12, 0, 0, 0)), (1, (2, 1, 0, 0, 0)), (2, (0, 0, (-2147483648), 2147483647, but))] [] M := by
    intro f
    induction f with
    | zero => intro m N1 m1 hF hR hfx heq hms; clear heq hfx; omega
    | succ f ih =>
      intro m N1 m1 hF hR hfx heq hms
      have e6 : N1 60 6 = N0 60 6 := hF 60 6 (by omega) (by omega)
      have kk := fun h : m < N0 60 6 => tu_m hM0 hC0 tu_G_r hF m1.1 h
      refine hgo.1 24 [2] 2 _ _ _ ?_
      refine And.intro ?_ ?_
      · intro (c1 : (M 1 10) ≤ m)
        show xa_wk post (some (0, 0, 0, 0, 0)) M
        rw [xm_fD_end (by omega)] at heq
        exact xa_wkI 0 rfl (fun _ _ => by omega) (k 0 (Or.inl ⟨rfl, heq.symm⟩))
      · intro (c1 : m < (M 1 10))
        have kk := kk (by omega)
        refine And.intro ?_ ?_
        · intro (c2 : m = but)
          show Q 2 [(3, (0, 0, 1, 17, m + 1)), (0, (2, 12, 0, 0, 0)), (1, (2, 1, 0, 0, 0)), (2, (0, 0, (-2147483648), 2147483647, but))] [] M
          obtain ⟨s1, -⟩ := tu_fDg (n := f) hM0 hC0 tu_G_r hF hR m1.1 (by omega) (hfx m m1.1 (by omega)) rfl rfl rfl
          rw [s1 (by omega)] at heq
          refine hgo.2.1 2 _ [(3, (0, 0, 0, 16, m + 1)), (0, (2, 12, 0, 0, 0)), (1, (2, 1, 0, 0, 0)), (2, (0, 0, (-2147483648), 2147483647, but))] _ _ (xa_subI rfl rfl (fun _ _ _ _ => by omega) (xa_subR rfl (xa_subR rfl (xa_subI rfl rfl (fun _ _ _ _ => by omega) (xa_sub0))))) ?_
          exact ih (m + 1) N1 (by omega) hF hR hfx heq (by omega)
        · intro (c2 : ¬ m = but)
          show xa_C (xl_I b) A h0 _ 40 [(2, 1, 0, 0, 0), (0, 0, 0, 16, m)] M _
          refine cx_40_1 (show 0 ≤ m ∧ m < 16 by omega) ?_
          show xa_C (xl_I b) A h0 _ 41 [(2, 1, 0, 0, 0), (0, 0, 0, 16, m)] M _
          refine cx_41_1 (show 0 ≤ m ∧ m < 16 by omega) ?_
          show xa_C (xl_I b) A h0 _ 58 [(2, 12, 0, 0, 0), (2, 1, 0, 0, 0), (0, 0, (-2147483648), 2147483647, M 7 m), (0, 0, (-2147483648), 2147483647, M 8 m)] M _
          refine cx_58c kk.2.2.2.1 kk.2.2.2.2.1 kk.2.2.2.2.2.1 kk.2.2.2.2.2.2.1 (fun h => tu_pq hR kk.2.2.2.2.2.1 h) kk.2.2.2.2.2.2.2.1 kk.2.2.2.2.2.2.2.2 ?_ ?_
          · intro (i3 : M 14 (M 5 (M 7 m)) = 0)
            refine And.intro ?_ ?_
            · intro (c4 : ¬ 1 = 0)
              show Q 2 [(3, (0, 0, 1, 17, m + 1)), (0, (2, 12, 0, 0, 0)), (1, (2, 1, 0, 0, 0)), (2, (0, 0, (-2147483648), 2147483647, but))] [] M
              obtain ⟨s1, -⟩ := tu_fDg (n := f) hM0 hC0 tu_G_r hF hR m1.1 (by omega) (hfx m m1.1 (by omega)) rfl rfl rfl
              rw [s1 (by omega)] at heq
              refine hgo.2.1 2 _ [(3, (0, 0, 0, 16, m + 1)), (0, (2, 12, 0, 0, 0)), (1, (2, 1, 0, 0, 0)), (2, (0, 0, (-2147483648), 2147483647, but))] _ _ (xa_subI rfl rfl (fun _ _ _ _ => by omega) (xa_subR rfl (xa_subR rfl (xa_subI rfl rfl (fun _ _ _ _ => by omega) (xa_sub0))))) ?_
              exact ih (m + 1) N1 (by omega) hF hR hfx heq (by omega)
            · intro (c4 : 1 = 0)
              exfalso
              omega
          · intro g101 r102 (i5 : ¬ M 14 (M 5 (M 7 m)) = 0) (i6 : g101 = (Int.gcd (-(M 13 (M 5 (M 7 m))) * (M 4 (M 7 m))) ((M 14 (M 5 (M 7 m))) * (M 4 (M 8 m))) : Int)) (i7 : r102 = 0 ∨ r102 = 1) (i8 : r102 = 1 ↔ ((-(M 13 (M 5 (M 7 m))) * (M 4 (M 7 m))).tdiv g101 = M 13 (M 5 (M 8 m)) ∧ ((M 14 (M 5 (M 7 m))) * (M 4 (M 8 m))) / g101 = M 14 (M 5 (M 8 m))))
            refine And.intro ?_ ?_
            · intro (c9 : ¬ r102 = 0)
              show Q 2 [(3, (0, 0, 1, 17, m + 1)), (0, (2, 12, 0, 0, 0)), (1, (2, 1, 0, 0, 0)), (2, (0, 0, (-2147483648), 2147483647, but))] [] M
              obtain ⟨-, s2⟩ := tu_fDg (n := f) hM0 hC0 tu_G_r hF hR m1.1 (by omega) (hfx m m1.1 (by omega)) i6 rfl rfl
              have e := s2 (by omega)
              rw [if_pos (i8.mp (by omega))] at e
              rw [e] at heq
              refine hgo.2.1 2 _ [(3, (0, 0, 0, 16, m + 1)), (0, (2, 12, 0, 0, 0)), (1, (2, 1, 0, 0, 0)), (2, (0, 0, (-2147483648), 2147483647, but))] _ _ (xa_subI rfl rfl (fun _ _ _ _ => by omega) (xa_subR rfl (xa_subR rfl (xa_subI rfl rfl (fun _ _ _ _ => by omega) (xa_sub0))))) ?_
              exact ih (m + 1) _ (by omega) (fun q j h1 h2 => (xa_up_ne (by omega)).trans ((xa_up_ne (by omega)).trans (hF q j h1 h2))) (tu_Rq hR (fun q j h1 h2 => (xa_up_ne (by omega)).trans (xa_up_ne (by omega)))) (fun a a0 a1 a2 => ((xa_up_ne (by omega)).trans (xa_up_ne (by omega))).trans ((hfx a a0 a1 a2).trans ((xa_up_ne (by omega)).trans (xa_up_ne (by omega))).symm)) heq (by omega)
            · intro (c9 : r102 = 0)
              show xa_wk post (some (0, 0, 1, 1, 1)) M
              obtain ⟨-, s2⟩ := tu_fDg (n := f) hM0 hC0 tu_G_r hF hR m1.1 (by omega) (hfx m m1.1 (by omega)) i6 rfl rfl
              have e := s2 (by omega)
              rw [if_neg (fun h => by have := i8.mpr h; omega)] at e
              rw [e] at heq
              exact xa_wkI 1 rfl (fun _ _ => by omega) (k 1 (Or.inr ⟨rfl, by rw [← heq]; exact tu_fD1 f (m + 1) 1 _ (by decide)⟩))
  refine hgo.1 7 [2] 0 _ _ _ ?_
  show Q 2 [(3, (0, 0, 0, 0, 0)), (0, (2, 12, 0, 0, 0)), (1, (2, 1, 0, 0, 0)), (2, (0, 0, (-2147483648), 2147483647, but))] [] M
  refine hgo.2.1 2 _ [(3, (0, 0, 0, 16, 0)), (0, (2, 12, 0, 0, 0)), (1, (2, 1, 0, 0, 0)), (2, (0, 0, (-2147483648), 2147483647, but))] _ _ (xa_subI rfl rfl (fun _ _ _ _ => by omega) (xa_subR rfl (xa_subR rfl (xa_subI rfl rfl (fun _ _ _ _ => by omega) (xa_sub0))))) ?_
  exact loop 17 0 N (by omega) hF0 hR0 hfx0 rfl (by omega)
theorem cx_47t {b : Bool} {A : Nat → Nat} {h0 : g_H} {d : Nat} {M : xa_M} {post : Option xa_V → xa_M → Prop} {l1 u1 but : Int} {N0 : xa_M} (hM0 : tu_M N0) (hC0 : tu_C M N0) (k : ∀ (v : Int) (M1 : xa_M), (v = 0 ∨ v = -3 ∨ v = -5) → tu_V but N0 v M1 → tu_G M M1 → post (some (0, 0, (-5), 0, v)) M1) : xa_C (xl_I b) A h0 (d + 6) 47 [(2, 12, 0, 0, 0), (2, 1, 0, 0, 0), (0, 0, l1, u1, but)] M post := by
  refine xa_C_wk ?_
  refine xa_C_arg [(2, 12, 0, 0, 0), (2, 1, 0, 0, 0), (0, 0, (-2147483648), 2147483647, but)] (xa_svR (xa_svR (xa_svI (fun _ _ _ _ => by omega) xa_sv0))) ?_
  refine xa_meth (Q0 := (5, 1, false, 0, 0, 9)) (by decide +kernel) ⟨rfl, rfl⟩ (full := s_c_47) rfl rfl ?_
  intro hM hv Q hgo
  have loop2 : ∀ (f : Nat) (p z : Int) (M1 N1 : xa_M), 0 ≤ p ∧ p ≤ 10 → tu_G M M1 → tu_F N0 N1 → ((M1 12 2 = 0 ∧ (z = 0 ∨ z = 1) ∧ tu_R M1 N1 ∧ (z = 0 ∨ 1 + p ≤ xm_R N1) ∧ (z = 0 → ∀ m, 0 ≤ m → m < N0 60 6 → ¬ m = but → N1 77 (N0 64 (N0 66 m)) = N1 77 (N0 64 (N0 67 m))) ∧ ∃ n : Nat, (n : Int) = 23 - p ∧ xm_fB but n z N1 = xm_fB but 23 1 (xm_ini N0)) ∨ (M1 12 2 = 1 ∧ xm_fB but 23 1 (xm_ini N0) = none)) → 10 - p < (f : Int) → Q 51 [(4, (0, 0, 0, 10, p)), (3, (0, 0, 0, 1, z)), (0, (2, 12, 0, 0, 0)), (1, (2, 1, 0, 0, 0)), (2, (0, 0, (-2147483648), 2147483647, but))] [] M1 := by
    intro f
    induction f with
    | zero => intro p z M1 N1 p1 hG hF hS hms; clear hS; omega
    | succ f ih =>
      intro p z M1 N1 p1 hG hF hS hms
      rcases hS with ⟨h12, zb, hR, hRz, hfx, nn, hn, hB⟩ | ⟨h12, hB⟩
      · refine hgo.1 20 [51] 51 _ _ _ ?_
        refine And.intro ?_ ?_
        · intro (c1 : 10 ≤ p)
          refine And.intro ?_ ?_
          · intro (c2 : (M1 12 2) = 0)
            show xa_C (xl_I b) A h0 _ 57 [(2, 12, 0, 0, 0), (2, 1, 0, 0, 0), (0, 0, (-2147483648), 2147483647, but)] M1 _
            refine cx_57t hM0 (tu_C_G hC0 hG) hF hR (hfx (by have := tu_R10 hR; omega)) ?_
            intro r101 (i3 : (r101 = 0 ∧ (xm_fD but 17 0 0 N1).1 = 0) ∨ (r101 = 1 ∧ ¬ (xm_fD but 17 0 0 N1).1 = 0))
            refine And.intro ?_ ?_
            · intro (c4 : r101 = 0)
              show xa_wk post (some (0, 0, 0, 0, 0)) M1
              have z0 : z = 0 := by have := tu_R10 hR; omega
              rw [z0, tu_fB0 (by omega)] at hB
              rcases i3 with ⟨e, h⟩ | ⟨e, h⟩
              · exact xa_wkI 0 rfl (fun _ _ => by omega) (k 0 M1 (by omega) (tu_Vv hB.symm hR (by rw [if_pos h])) hG)
              · exfalso
                omega
            · intro (c4 : ¬ r101 = 0)
              show xa_wk post (some (0, 0, (-3), (-3), (-3))) M1
              have z0 : z = 0 := by have := tu_R10 hR; omega
              rw [z0, tu_fB0 (by omega)] at hB
              rcases i3 with ⟨e, h⟩ | ⟨e, h⟩
              · exfalso
                omega
              · exact xa_wkI (-3) rfl (fun _ _ => by omega) (k (-3) M1 (by omega) (tu_Vv hB.symm hR (by rw [if_neg h])) hG)
          · intro (c2 : ¬ (M1 12 2) = 0)
            exfalso
            omega
        · intro (c1 : p < 10)
          refine And.intro ?_ ?_
          · intro (c5 : z = 0)
            refine And.intro ?_ ?_
            · intro (c6 : (M1 12 2) = 0)
              show xa_C (xl_I b) A h0 _ 57 [(2, 12, 0, 0, 0), (2, 1, 0, 0, 0), (0, 0, (-2147483648), 2147483647, but)] M1 _
              refine cx_57t hM0 (tu_C_G hC0 hG) hF hR (hfx (by have := tu_R10 hR; omega)) ?_
              intro r102 (i7 : (r102 = 0 ∧ (xm_fD but 17 0 0 N1).1 = 0) ∨ (r102 = 1 ∧ ¬ (xm_fD but 17 0 0 N1).1 = 0))
              refine And.intro ?_ ?_
              · intro (c8 : r102 = 0)
                show xa_wk post (some (0, 0, 0, 0, 0)) M1
                have z0 : z = 0 := by have := tu_R10 hR; omega
                rw [z0, tu_fB0 (by omega)] at hB
                rcases i7 with ⟨e, h⟩ | ⟨e, h⟩
                · exact xa_wkI 0 rfl (fun _ _ => by omega) (k 0 M1 (by omega) (tu_Vv hB.symm hR (by rw [if_pos h])) hG)
                · exfalso
                  omega
              · intro (c8 : ¬ r102 = 0)
                show xa_wk post (some (0, 0, (-3), (-3), (-3))) M1
                have z0 : z = 0 := by have := tu_R10 hR; omega
                rw [z0, tu_fB0 (by omega)] at hB
                rcases i7 with ⟨e, h⟩ | ⟨e, h⟩
                · exfalso
                  omega
                · exact xa_wkI (-3) rfl (fun _ _ => by omega) (k (-3) M1 (by omega) (tu_Vv hB.symm hR (by rw [if_neg h])) hG)
            · intro (c6 : ¬ (M1 12 2) = 0)
              exfalso
              omega
          · intro (c5 : ¬ z = 0)
            refine And.intro ?_ ?_
            · intro (c9 : ¬ (M1 12 2) = 0)
              exfalso
              omega
            · intro (c9 : (M1 12 2) = 0)
              show xa_C (xl_I b) A h0 _ 49 [(2, 12, 0, 0, 0), (2, 1, 0, 0, 0), (0, 0, (-2147483648), 2147483647, but)] M1 _
              refine cx_49t hM0 (tu_C_G hC0 hG) hF hR h12 ?_
              intro r103 M104 (i10 : tu_O N0 N1 but (xm_fC but 17 0 0 N1) r103 M104) (i11 : tu_G M1 M104)
              show Q 51 [(4, (0, 0, 1, 11, p + 1)), (3, (0, 0, 0, 1, r103)), (0, (2, 12, 0, 0, 0)), (1, (2, 1, 0, 0, 0)), (2, (0, 0, (-2147483648), 2147483647, but))] [] M104
              refine hgo.2.1 51 _ [(4, (0, 0, 0, 10, p + 1)), (3, (0, 0, 0, 1, r103)), (0, (2, 12, 0, 0, 0)), (1, (2, 1, 0, 0, 0)), (2, (0, 0, (-2147483648), 2147483647, but))] _ _ (xa_subI rfl rfl (fun _ _ _ _ => by omega) (xa_subI rfl rfl (fun _ _ _ _ => by omega) (xa_subR rfl (xa_subR rfl (xa_subI rfl rfl (fun _ _ _ _ => by omega) (xa_sub0)))))) ?_
              have z1 : z = 1 := by omega
              have hG2 : tu_G M M104 := fun q j h => (i11 q j h).trans (hG q j h)
              obtain ⟨n', rfl⟩ : ∃ k, nn = k + 1 := ⟨nn - 1, by omega⟩
              rw [z1, tu_fB1] at hB
              generalize xm_fC but 17 0 0 N1 = oo at hB i10
              cases oo with
              | none => exact ih (p + 1) r103 M104 N1 (by omega) hG2 hF (Or.inr ⟨i10, hB.symm⟩) (by omega)
              | some q =>
                obtain ⟨o1, ⟨o2, o3⟩, o4, o5, o6, o7⟩ := i10
                exact ih (p + 1) r103 M104 q.2 (by omega) hG2 o5 (Or.inl ⟨o1, o3, o4, by omega, o7, n', by omega, by rw [o2]; exact hB⟩) (by omega)
      · refine hgo.1 17 [51] 51 _ _ _ ?_
        refine And.intro ?_ ?_
        · intro (c1 : 10 ≤ p)
          refine And.intro ?_ ?_
          · intro (c2 : (M1 12 2) = 0)
            exfalso
            omega
          · intro (c2 : ¬ (M1 12 2) = 0)
            show xa_wk post (some (0, 0, (-5), (-5), (-5))) M1
            exact xa_wkI (-5) rfl (fun _ _ => by omega) (k (-5) M1 (by omega) (tu_V5 hB) hG)
        · intro (c1 : p < 10)
          refine And.intro ?_ ?_
          · intro (c3 : z = 0)
            refine And.intro ?_ ?_
            · intro (c4 : (M1 12 2) = 0)
              exfalso
              omega
            · intro (c4 : ¬ (M1 12 2) = 0)
              show xa_wk post (some (0, 0, (-5), (-5), (-5))) M1
              exact xa_wkI (-5) rfl (fun _ _ => by omega) (k (-5) M1 (by omega) (tu_V5 hB) hG)
          · intro (c3 : ¬ z = 0)
            refine And.intro ?_ ?_
            · intro (c5 : ¬ (M1 12 2) = 0)
              refine And.intro ?_ ?_
              · intro (c6 : (M1 12 2) = 0)
                exfalso
                omega
              · intro (c6 : ¬ (M1 12 2) = 0)
                show xa_wk post (some (0, 0, (-5), (-5), (-5))) M1
                exact xa_wkI (-5) rfl (fun _ _ => by omega) (k (-5) M1 (by omega) (tu_V5 hB) hG)
            · intro (c5 : (M1 12 2) = 0)
              exfalso
              omega
  have loop1 : ∀ (f : Nat) (a : Int) (M1 : xa_M), 0 ≤ a ∧ a ≤ 10 → (∀ (q : Nat) (j : Int), ¬ q = 14 → M1 q j = M q j) → (∀ j, 0 ≤ j → j < a → M1 14 j = 0) → 10 - a < (f : Int) → Q 2 [(3, (0, 0, 0, 10, a)), (0, (2, 12, 0, 0, 0)), (1, (2, 1, 0, 0, 0)), (2, (0, 0, (-2147483648), 2147483647, but))] [] M1 := by
    intro f
    induction f with
    | zero => intro a M1 a1 hk hz hms; omega
    | succ f ih =>
      intro a M1 a1 hk hz hms
      refine hgo.1 25 [2, 51] 2 _ _ _ ?_
      refine And.intro ?_ ?_
      · intro (c1 : 10 ≤ a)
        show xa_C (xl_I b) A h0 _ 48 [(2, 13, 0, 0, 0), (0, 0, 0, 0, 0), (1, 0, 1, 1, 1)] M1 _
        refine cx_48_13 (show 0 ≤ 0 ∧ 0 < 10 by omega) ?_
        show xa_C (xl_I b) A h0 _ 48 [(2, 14, 0, 0, 0), (0, 0, 0, 0, 0), (1, 0, 1, 1, 1)] (xa_up M1 13 0 1) _
        refine cx_48_14 (show 0 ≤ 0 ∧ 0 < 10 by omega) ?_
        show Q 51 [(4, (0, 0, 0, 0, 0)), (3, (0, 0, 1, 1, 1)), (0, (2, 12, 0, 0, 0)), (1, (2, 1, 0, 0, 0)), (2, (0, 0, (-2147483648), 2147483647, but))] [] (xa_up (xa_up (xa_up M1 13 0 1) 14 0 1) 12 2 0)
        refine hgo.2.1 51 _ [(4, (0, 0, 0, 10, 0)), (3, (0, 0, 0, 1, 1)), (0, (2, 12, 0, 0, 0)), (1, (2, 1, 0, 0, 0)), (2, (0, 0, (-2147483648), 2147483647, but))] _ _ (xa_subI rfl rfl (fun _ _ _ _ => by omega) (xa_subI rfl rfl (fun _ _ _ _ => by omega) (xa_subR rfl (xa_subR rfl (xa_subI rfl rfl (fun _ _ _ _ => by omega) (xa_sub0)))))) ?_
        exact loop2 11 0 1 (xa_up (xa_up (xa_up M1 13 0 1) 14 0 1) 12 2 0) (xm_ini N0) (by omega) (fun q j h => (xa_up_ne (by omega)).trans ((xa_up_ne (by omega)).trans ((xa_up_ne (by omega)).trans (hk q j (by omega))))) tu_ini.2.2.2.1 (Or.inl ⟨xa_up_eq, Or.inr rfl, tu_iniR ((xa_up_ne (by omega)).trans ((xa_up_ne (by omega)).trans xa_up_eq)) ((xa_up_ne (by omega)).trans xa_up_eq) (fun a' a0 a1 => (xa_up_ne (by omega)).trans ((xa_up_ne (by omega)).trans ((xa_up_ne (by omega)).trans (hz a' (by omega) (by omega))))), by rw [tu_ini.2.2.2.2]; omega, fun e => absurd e (by decide), 23, by omega, rfl⟩) (by omega)
      · intro (c1 : a < 10)
        show xa_C (xl_I b) A h0 _ 48 [(2, 14, 0, 0, 0), (0, 0, 0, 10, a), (1, 0, 0, 0, 0)] M1 _
        refine cx_48_14 (show 0 ≤ a ∧ a < 10 by omega) ?_
        show Q 2 [(3, (0, 0, 1, 11, a + 1)), (0, (2, 12, 0, 0, 0)), (1, (2, 1, 0, 0, 0)), (2, (0, 0, (-2147483648), 2147483647, but))] [] (xa_up M1 14 a 0)
        refine hgo.2.1 2 _ [(3, (0, 0, 0, 10, a + 1)), (0, (2, 12, 0, 0, 0)), (1, (2, 1, 0, 0, 0)), (2, (0, 0, (-2147483648), 2147483647, but))] _ _ (xa_subI rfl rfl (fun _ _ _ _ => by omega) (xa_subR rfl (xa_subR rfl (xa_subI rfl rfl (fun _ _ _ _ => by omega) (xa_sub0))))) ?_
        exact ih (a + 1) (xa_up M1 14 a 0) (by omega) (fun q j h => (xa_up_ne (by omega)).trans (hk q j h)) (fun j j0 j1 => by
          by_cases e : j = a
          · rw [e]
            exact xa_up_eq
          · exact (xa_up_ne (by omega)).trans (hz j j0 (by omega))) (by omega)
  refine hgo.1 7 [2] 0 _ _ _ ?_
  show Q 2 [(3, (0, 0, 0, 0, 0)), (0, (2, 12, 0, 0, 0)), (1, (2, 1, 0, 0, 0)), (2, (0, 0, (-2147483648), 2147483647, but))] [] M
  refine hgo.2.1 2 _ [(3, (0, 0, 0, 10, 0)), (0, (2, 12, 0, 0, 0)), (1, (2, 1, 0, 0, 0)), (2, (0, 0, (-2147483648), 2147483647, but))] _ _ (xa_subI rfl rfl (fun _ _ _ _ => by omega) (xa_subR rfl (xa_subR rfl (xa_subI rfl rfl (fun _ _ _ _ => by omega) (xa_sub0))))) ?_
  exact loop1 11 0 M (by omega) (fun _ _ _ => rfl) (fun j j0 j1 => by omega) (by omega)
/-- what turned answers -/
def tu_S (N0 : xa_M) (a v : Int) (C1 : xa_M) : Prop := (¬ (0 ≤ a ∧ a ≤ 9) ∧ v = -1) ∨ ((0 ≤ a ∧ a ≤ 9) ∧ ∃ w : Int, (w = 0 ∨ w = -3 ∨ w = -5) ∧ tu_V (-1) N0 w C1 ∧ ((¬ w = 0 ∧ v = w) ∨ (w = 0 ∧ C1 14 a = 0 ∧ v = -2) ∨ (w = 0 ∧ ¬ C1 14 a = 0 ∧ v = 0)))
/-- of an axle that turns -/
theorem tu_S0 {N0 C1 : xa_M} {a : Int} (h : tu_S N0 a 0 C1) : (0 ≤ a ∧ a ≤ 9) ∧ ∃ N, xm_FT (-1) N0 0 N ∧ tu_R C1 N ∧ N 77 a = 1 ∧ (C1 13 a = N 75 a ∧ C1 14 a = N 76 a) ∧ (-1000000000000000 ≤ C1 13 a ∧ C1 13 a ≤ 1000000000000000) ∧ (1 ≤ C1 14 a ∧ C1 14 a ≤ 1000000000000000) ∧ Int.gcd (N 75 a) (N 76 a) = 1 := by
  rcases h with ⟨-, e⟩ | ⟨ha, w, -, ⟨N, h1, h2⟩, h3⟩
  · omega
  · have hw : w = 0 ∧ ¬ C1 14 a = 0 := by omega
    obtain ⟨rfl, h4⟩ := hw
    have hR := h2 (by decide)
    refine ⟨ha, N, h1, hR, ?_⟩
    rcases hR a ha.1 (by omega) with ⟨-, e⟩ | ⟨e1, ⟨e2, e3⟩, e4, e5, e6⟩
    · exact absurd e h4
    · exact ⟨e1, ⟨e2, e3⟩, by rw [e2]; exact e4, by rw [e3]; exact e5, e6⟩
/-- its numbers are too long to show -/
def tu_L (C : xa_M) (a : Int) : Prop := 1000000000 < ((C 13 a).natAbs : Int) ∨ 1000000000 < C 14 a
/-- what the reference's search finds -/
def tw_F (N0 : xa_M) (but w : Int) (N : xa_M) : Prop := ∃ M', xm_cor N0 M' ∧ xm_FT but M' w N
theorem tw_F_det {N0 N N' : xa_M} {but w w' : Int} (hr : xm_rng N0) (h : tw_F N0 but w N) (h' : tw_F N0 but w' N') : w' = w ∧ (¬ w = -5 → xm_ag N N') := by
  obtain ⟨M1, c1, f1⟩ := h
  obtain ⟨M2, c2, f2⟩ := h'
  exact xm_FT_det (fun q j hn => (c2 q j hn).trans (c1 q j hn).symm) (xm_rng_c c1 hr) f1 f2
/-- what an axle is asked, what comes out (T: of an axle that turns, by the search's numbers) -/
def tw_A (N0 : xa_M) (a v : Int) (T : xa_M → Int → Prop) : Prop := (¬ (0 ≤ a ∧ a ≤ 9) ∧ v = -1) ∨ ((0 ≤ a ∧ a ≤ 9) ∧ ∃ (w : Int) (N : xa_M), tw_F N0 (-1) w N ∧ ((¬ w = 0 ∧ v = w) ∨ (w = 0 ∧ N 77 a = 0 ∧ v = -2) ∨ (w = 0 ∧ N 77 a = 1 ∧ T N v)))
theorem tw_A_of {N0 C1 : xa_M} {a v : Int} {T : xa_M → Int → Prop} (h : tu_S N0 a v C1) (hT : v = 0 → ∀ N, xm_FT (-1) N0 0 N → tu_R C1 N → T N v) : tw_A N0 a v T := by
  rcases h with h | ⟨ha, w, hw, ⟨N, h1, h2⟩, h3⟩
  · exact Or.inl h
  · refine Or.inr ⟨ha, w, N, ⟨N0, xm_cor_r, h1⟩, ?_⟩
    rcases h3 with h3 | ⟨rfl, h4, h5⟩ | ⟨rfl, h4, h5⟩
    · exact Or.inl h3
    · have hz := tu_z (h2 (by decide)) ha.1 (by omega)
      exact Or.inr (Or.inl ⟨rfl, by omega, h5⟩)
    · have hz := tu_z (h2 (by decide)) ha.1 (by omega)
      exact Or.inr (Or.inr ⟨rfl, by omega, hT h5 N h1 (h2 (by decide))⟩)
/-- another answer than turned's -/
theorem tw_A_to {N0 C1 : xa_M} {a v : Int} {T : xa_M → Int → Prop} (h : tu_S N0 a 0 C1) (hT : ∀ N, xm_FT (-1) N0 0 N → tu_R C1 N → N 77 a = 1 → (C1 13 a = N 75 a ∧ C1 14 a = N 76 a) → Int.gcd (N 75 a) (N 76 a) = 1 → T N v) : tw_A N0 a v T := by
  obtain ⟨ha, N, h1, hR, h7, h8, -, -, hg⟩ := tu_S0 h
  exact Or.inr ⟨ha, 0, N, ⟨N0, xm_cor_r, h1⟩, Or.inr (Or.inr ⟨rfl, h7, hT N h1 hR h7 h8 hg⟩)⟩
theorem tw_A_one {N0 : xa_M} {a v v' : Int} {T T' : xa_M → Int → Prop} (hr : xm_rng N0) (h : tw_A N0 a v T) (h' : tw_A N0 a v' T') (hT : ∀ N N', xm_cor N N' → (∀ c, 0 ≤ c → c < 10 → N' 77 c = N 77 c ∧ (N 77 c = 1 → N' 75 c = N 75 c ∧ N' 76 c = N 76 c)) → N 77 a = 1 → N' 75 a = N 75 a → N' 76 a = N 76 a → T N v → T' N' v' → v = v') : v = v' := by
  rcases h with ⟨h1, h2⟩ | ⟨h1, w, N, hF, h2⟩
  · rcases h' with ⟨-, h3⟩ | ⟨h3, -⟩
    · omega
    · exact absurd h3 h1
  · rcases h' with ⟨h3, -⟩ | ⟨-, w', N', hF', h3⟩
    · exact absurd h1 h3
    · obtain ⟨rfl, hag⟩ := tw_F_det hr hF hF'
      rcases h2 with ⟨e1, e2⟩ | ⟨rfl, e1, e2⟩ | ⟨rfl, e1, e2⟩
      · rcases h3 with ⟨-, e3⟩ | ⟨e3, -, -⟩ | ⟨e3, -, -⟩
        · omega
        · exact absurd e3 e1
        · exact absurd e3 e1
      · obtain ⟨-, h7⟩ := hag (by decide)
        obtain ⟨-, k2, -⟩ := h7 a h1.1 (by omega)
        rcases h3 with ⟨e3, -⟩ | ⟨-, -, e3⟩ | ⟨-, e3, -⟩
        · exact absurd rfl e3
        · omega
        · omega
      · obtain ⟨hc, h7⟩ := hag (by decide)
        obtain ⟨-, k2, k3⟩ := h7 a h1.1 (by omega)
        rcases h3 with ⟨e3, -⟩ | ⟨-, e3, -⟩ | ⟨-, e3, e4⟩
        · exact absurd rfl e3
        · omega
        · exact hT N N' hc (fun c c0 c1 => ⟨(h7 c c0 c1).2.1, (h7 c c0 c1).2.2⟩) e1 (k3 e1).1 (k3 e1).2 e2 e4
theorem cx_46t {b : Bool} {A : Nat → Nat} {h0 : g_H} {d : Nat} {M : xa_M} {post : Option xa_V → xa_M → Prop} {l1 u1 x1 : Int} {N0 : xa_M} (hM0 : tu_M N0) (hC0 : tu_C M N0) (k : ∀ (v : Int) (M1 : xa_M), tu_S N0 x1 v M1 → tu_G M M1 → post (some (0, 0, (-5), 0, v)) M1) : xa_C (xl_I b) A h0 (d + 7) 46 [(2, 0, 0, 0, 0), (0, 0, l1, u1, x1)] M post := by
  refine xa_C_wk ?_
  refine xa_C_arg [(2, 0, 0, 0, 0), (0, 0, (-2147483648), 2147483647, x1)] (xa_svR (xa_svI (fun _ _ _ _ => by omega) xa_sv0)) ?_
  refine xa_meth (Q0 := (3, 1, false, 0, 0, 11)) (by decide +kernel) ⟨rfl, rfl⟩ (full := s_c_46) rfl rfl ?_
  intro hM hv Q hgo
  refine hgo.1 24 [] 0 _ _ _ ?_
  show xa_C (xl_I b) A h0 _ 14 [(0, 0, (-2147483648), 2147483647, x1)] M _
  refine cx_14 ?_ ?_ ?_
  · intro (i1 : x1 < 0)
    show xa_wk post (some (0, 0, (-1), (-1), (-1))) M
    exact xa_wkI (-1) rfl (fun _ _ => by omega) (k (-1) M (Or.inl ⟨by omega, rfl⟩) tu_G_r)
  · intro (i2 : 0 ≤ x1) (i3 : 10 ≤ x1)
    show xa_wk post (some (0, 0, (-1), (-1), (-1))) M
    exact xa_wkI (-1) rfl (fun _ _ => by omega) (k (-1) M (Or.inl ⟨by omega, rfl⟩) tu_G_r)
  · intro (i4 : 0 ≤ x1) (i5 : x1 < 10)
    show xa_C (xl_I b) A h0 _ 47 [(2, 12, 0, 0, 0), (2, 1, 0, 0, 0), (0, 0, (-1), (-1), (-1))] M _
    refine cx_47t hM0 hC0 ?_
    intro v101 M102 (i6 : v101 = 0 ∨ v101 = -3 ∨ v101 = -5) (i7 : tu_V (-1) N0 v101 M102) (i8 : tu_G M M102)
    refine And.intro ?_ ?_
    · intro (c9 : v101 = 0)
      show xa_C (xl_I b) A h0 _ 50 [(2, 12, 0, 0, 0), (0, 0, (-2147483648), 2147483647, x1)] M102 _
      refine cx_50_12 (show 0 ≤ x1 ∧ x1 < 10 by omega) ?_ ?_
      · intro (i10 : (M102 14 x1) = 0)
        show xa_wk post (some (0, 0, (-2), (-2), (-2))) M102
        exact xa_wkI (-2) rfl (fun _ _ => by omega) (k (-2) M102 (Or.inr ⟨by omega, v101, i6, i7, by omega⟩) i8)
      · intro (i11 : ¬ (M102 14 x1) = 0)
        show xa_wk post (some (0, 0, 0, 0, 0)) M102
        exact xa_wkI 0 rfl (fun _ _ => by omega) (k 0 M102 (Or.inr ⟨by omega, v101, i6, i7, by omega⟩) i8)
    · intro (c9 : ¬ v101 = 0)
      show xa_wk post (some (0, 0, (-5), 0, v101)) M102
      exact xa_wkI v101 rfl (fun _ _ => by omega) (k v101 M102 (Or.inr ⟨by omega, v101, i6, i7, by omega⟩) i8)
theorem cx_69t {b : Bool} {A : Nat → Nat} {h0 : g_H} {d : Nat} {M : xa_M} {post : Option xa_V → xa_M → Prop} {l1 u1 x1 : Int} (ha : 0 ≤ x1 ∧ x1 < 10) (hb : -1000000000000000 ≤ M 13 x1 ∧ M 13 x1 ≤ 1000000000000000) (k : ∀ r : Int, (r = 1 ∧ tu_L M x1) ∨ (r = 0 ∧ ¬ tu_L M x1) → post (some (0, 0, 0, 1, r)) M) : xa_C (xl_I b) A h0 (d + 3) 69 [(2, 12, 0, 0, 0), (0, 0, l1, u1, x1)] M post := by
  refine xa_C_wk ?_
  refine xa_C_arg [(2, 12, 0, 0, 0), (0, 0, (-2147483648), 2147483647, x1)] (xa_svR (xa_svI (fun _ _ _ _ => by omega) xa_sv0)) ?_
  refine xa_meth (Q0 := (2, 2, false, 0, 0, 9)) (by decide +kernel) ⟨rfl, rfl⟩ (full := s_c_69) rfl rfl ?_
  intro hM hv Q hgo
  refine hgo.1 18 [] 0 _ _ _ ?_
  show xa_C (xl_I b) A h0 _ 54 [(2, 12, 0, 0, 0), (0, 0, (-2147483648), 2147483647, x1)] M _
  refine cx_54_12 (show 0 ≤ x1 ∧ x1 < 10 by omega) ?_
  show xa_C (xl_I b) A h0 _ 56 [(1, 0, (-9223372036854775808), 9223372036854775807, M 13 x1)] M _
  refine ct_abs (lo := 0) (hi := 1000000000000000) (show -9223372036854775808 < M 13 x1 by omega) (fun a101 h102 => ⟨by omega, ?_⟩)
  refine And.intro ?_ ?_
  · intro (c1 : 1000000000 < a101)
    show xa_wk post (some (0, 0, 1, 1, 1)) M
    exact xa_wkI 1 rfl (fun _ _ => by omega) (k 1 (by unfold tu_L; omega))
  · intro (c1 : a101 ≤ 1000000000)
    show xa_C (xl_I b) A h0 _ 51 [(2, 12, 0, 0, 0), (0, 0, (-2147483648), 2147483647, x1)] M _
    refine cx_51_12 (show 0 ≤ x1 ∧ x1 < 10 by omega) ?_
    refine And.intro ?_ ?_
    · intro (c2 : (M 14 x1) ≤ 1000000000)
      show xa_wk post (some (0, 0, 0, 0, 0)) M
      exact xa_wkI 0 rfl (fun _ _ => by omega) (k 0 (by unfold tu_L; omega))
    · intro (c2 : 1000000000 < (M 14 x1))
      show xa_wk post (some (0, 0, 1, 1, 1)) M
      exact xa_wkI 1 rfl (fun _ _ => by omega) (k 1 (by unfold tu_L; omega))
/-- what shown answers -/
def tu_H (N0 : xa_M) (a v : Int) (C1 : xa_M) : Prop := (¬ v = 0 ∧ tu_S N0 a v C1) ∨ (tu_S N0 a 0 C1 ∧ ((tu_L C1 a ∧ v = -5) ∨ (¬ tu_L C1 a ∧ v = 0)))
theorem cx_68t {b : Bool} {A : Nat → Nat} {h0 : g_H} {d : Nat} {M : xa_M} {post : Option xa_V → xa_M → Prop} {l1 u1 x1 : Int} {N0 : xa_M} (hM0 : tu_M N0) (hC0 : tu_C M N0) (k : ∀ (v : Int) (M1 : xa_M), tu_H N0 x1 v M1 → tu_G M M1 → post (some (0, 0, (-5), 0, v)) M1) : xa_C (xl_I b) A h0 (d + 8) 68 [(2, 0, 0, 0, 0), (0, 0, l1, u1, x1)] M post := by
  refine xa_C_wk ?_
  refine xa_C_arg [(2, 0, 0, 0, 0), (0, 0, (-2147483648), 2147483647, x1)] (xa_svR (xa_svI (fun _ _ _ _ => by omega) xa_sv0)) ?_
  refine xa_meth (Q0 := (3, 1, false, 0, 0, 11)) (by decide +kernel) ⟨rfl, rfl⟩ (full := s_c_68) rfl rfl ?_
  intro hM hv Q hgo
  refine hgo.1 18 [] 0 _ _ _ ?_
  show xa_C (xl_I b) A h0 _ 46 [(2, 0, 0, 0, 0), (0, 0, (-2147483648), 2147483647, x1)] M _
  refine cx_46t hM0 hC0 ?_
  intro v101 M102 (i1 : tu_S N0 x1 v101 M102) (i2 : tu_G M M102)
  refine And.intro ?_ ?_
  · intro (c3 : v101 = 0)
    have i1 := i1
    rw [c3] at i1
    obtain ⟨ax, n9, t1, t2, t3, t4, t5, t6, t7⟩ := tu_S0 i1
    show xa_C (xl_I b) A h0 _ 69 [(2, 12, 0, 0, 0), (0, 0, (-2147483648), 2147483647, x1)] M102 _
    refine cx_69t (show 0 ≤ x1 ∧ x1 < 10 by omega) t5 ?_
    intro r103 (i4 : (r103 = 1 ∧ tu_L M102 x1) ∨ (r103 = 0 ∧ ¬ tu_L M102 x1))
    refine And.intro ?_ ?_
    · intro (c5 : r103 = 0)
      show xa_wk post (some (0, 0, 0, 0, 0)) M102
      rcases i4 with ⟨e, h⟩ | ⟨e, h⟩
      · exfalso
        omega
      · exact xa_wkI 0 rfl (fun _ _ => by omega) (k 0 M102 (Or.inr ⟨i1, Or.inr ⟨h, rfl⟩⟩) i2)
    · intro (c5 : ¬ r103 = 0)
      show xa_wk post (some (0, 0, (-5), (-5), (-5))) M102
      rcases i4 with ⟨e, h⟩ | ⟨e, h⟩
      · exact xa_wkI (-5) rfl (fun _ _ => by omega) (k (-5) M102 (Or.inr ⟨i1, Or.inl ⟨h, rfl⟩⟩) i2)
      · exfalso
        omega
  · intro (c3 : ¬ v101 = 0)
    show xa_wk post (some (0, 0, (-5), 0, v101)) M102
    exact xa_wkI v101 rfl (fun _ _ => by omega) (k v101 M102 (Or.inl ⟨by omega, i1⟩) i2)

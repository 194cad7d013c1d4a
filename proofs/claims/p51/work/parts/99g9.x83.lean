set_option maxRecDepth 20000
/-- the first way of names for the last f signs -/
def rw_nw (T C : Int → Int) (N : Int) (S : Nat) : Nat → Int → (Int → Int) → Prop
  | 0 => fun _ _ => True
  | f + 1 => fun u V => ∃ p : Int, (0 ≤ p ∧ p < (S : Int)) ∧ nm_o T C (N - ((f + 1 : Nat) : Int)) u p = true ∧ 0 < nm_f T C N S f (xa_ib 4 u (xa_ib 6 1 p)) ∧ (∀ q : Int, 0 ≤ q → q < p → ¬ (nm_o T C (N - ((f + 1 : Nat) : Int)) u q = true ∧ 0 < nm_f T C N S f (xa_ib 4 u (xa_ib 6 1 q)))) ∧ V (N - ((f + 1 : Nat) : Int)) = p ∧ rw_nw T C N S f (xa_ib 4 u (xa_ib 6 1 p)) V
theorem rw_nw1 {T C : Int → Int} {N : Int} {S f : Nat} {u : Int} {V : Int → Int} : rw_nw T C N S (f + 1) u V = (∃ p : Int, (0 ≤ p ∧ p < (S : Int)) ∧ nm_o T C (N - ((f + 1 : Nat) : Int)) u p = true ∧ 0 < nm_f T C N S f (xa_ib 4 u (xa_ib 6 1 p)) ∧ (∀ q : Int, 0 ≤ q → q < p → ¬ (nm_o T C (N - ((f + 1 : Nat) : Int)) u q = true ∧ 0 < nm_f T C N S f (xa_ib 4 u (xa_ib 6 1 q)))) ∧ V (N - ((f + 1 : Nat) : Int)) = p ∧ rw_nw T C N S f (xa_ib 4 u (xa_ib 6 1 p)) V) := rfl
theorem rw_nw_pos {T C : Int → Int} {N : Int} {S : Nat} (hS : S ≤ 8) : ∀ (f : Nat) {u : Int} {V : Int → Int}, rw_nw T C N S f u V → 0 < nm_f T C N S f u
  | 0, _, _, _ => show (0 : Int) < 1 by decide
  | f + 1, u, V, h => by
    rw [rw_nw1] at h
    obtain ⟨p, hp, ho, hF, -⟩ := h
    rw [nm_f1]
    have e : ((p.toNat : Nat) : Int) = p := Int.toNat_of_nonneg hp.1
    have hb := nm_f_b (T := T) (C := C) (N := N) hS f
    have m := nm_s_m (T := T) (C := C) (s := N - ((f + 1 : Nat) : Int)) (u := u) (fun x => (hb x).1) (p.toNat + 1) (S - (p.toNat + 1))
    have q := (nm_s_b (T := T) (C := C) (s := N - ((f + 1 : Nat) : Int)) (u := u) hb p.toNat).1
    rw [show p.toNat + 1 + (S - (p.toNat + 1)) = S by omega, nm_s1 (by rw [e]; exact ho), e] at m
    omega
theorem rw_nw_one {T C : Int → Int} {N : Int} {S : Nat} : ∀ (f : Nat) {u : Int} {V V' : Int → Int}, rw_nw T C N S f u V → rw_nw T C N S f u V' → ∀ i, N - (f : Int) ≤ i → i < N → V i = V' i
  | 0, _, _, _, _, _ => fun i i0 i1 => by
    exfalso
    omega
  | f + 1, u, V, V', h, h' => by
    rw [rw_nw1] at h h'
    obtain ⟨p, hp, ho, hF, hq, hV, hW⟩ := h
    obtain ⟨p', hp', ho', hF', hq', hV', hW'⟩ := h'
    have e : p = p' := by
      rcases (show p < p' ∨ p = p' ∨ p' < p by omega) with c | c | c
      · exact absurd ⟨ho, hF⟩ (hq' p hp.1 c)
      · exact c
      · exact absurd ⟨ho', hF'⟩ (hq p' hp'.1 c)
    subst e
    intro i i0 i1
    by_cases c : i = N - ((f + 1 : Nat) : Int)
    · rw [c, hV, hV']
    · exact rw_nw_one f hW hW' i (by omega) i1
/-- what is told so far goes on to be the first way -/
def rw_nc (T C : Int → Int) (N : Int) (S : Nat) (P : (Int → Int) → Prop) (s u : Int) (R : Int → Int) : Prop := ∀ V : Int → Int, (∀ i, 0 ≤ i → i < s → V i = R i) → rw_nw T C N S (N - s).toNat u V → P V
theorem rw_nc_s {T C : Int → Int} {N s u p : Int} {S f : Nat} {P : (Int → Int) → Prop} {R R' : Int → Int} (hf : N - s = (f : Int) + 1) (hS : S ≤ 8) (s0 : 0 ≤ s) (hp : 0 ≤ p ∧ p < (S : Int)) (ho : nm_o T C s u p = true) (hq : ∀ q, 0 ≤ q → q < p → ¬ (nm_o T C s u q = true ∧ 0 < nm_f T C N S f (xa_ib 4 u (xa_ib 6 1 q)))) (hR : ∀ i, 0 ≤ i → i < s → R' i = R i) (hRp : R' s = p) (h : rw_nc T C N S P s u R) : rw_nc T C N S P (s + 1) (xa_ib 4 u (xa_ib 6 1 p)) R' := fun V hV hW => h V (fun i i0 i1 => (hV i i0 (by omega)).trans (hR i i0 i1)) (by
  rw [show (N - (s + 1)).toNat = f by omega] at hW
  have hF := rw_nw_pos hS f hW
  have es : N - ((f + 1 : Nat) : Int) = s := by omega
  rw [show (N - s).toNat = f + 1 by omega, rw_nw1, es]
  exact ⟨p, hp, ho, hF, hq, (hV s s0 (by omega)).trans hRp, hW⟩)
/-- the class: periods up to p seen for sign s (g: one is found) -/
def rw_ni (T C : Int → Int) (N : Int) (S : Nat) (P : (Int → Int) → Prop) (s u p g : Int) (R : Int → Int) : Prop := (g = 0 ∧ rw_nc T C N S P s u R ∧ ∀ q, 0 ≤ q → q < p → ¬ (nm_o T C s u q = true ∧ 0 < nm_f T C N S (N - s - 1).toNat (xa_ib 4 u (xa_ib 6 1 q)))) ∨ (g = 1 ∧ rw_nc T C N S P (s + 1) u R)
theorem rw_ni1 {T C : Int → Int} {N s u p g : Int} {S : Nat} {P : (Int → Int) → Prop} {R : Int → Int} (hg : ¬ g = 0) (h : rw_ni T C N S P s u p g R) : rw_nc T C N S P (s + 1) u R := by
  rcases h with ⟨a, -⟩ | ⟨-, a⟩
  · exact absurd a hg
  · exact a
theorem rw_niS {T C : Int → Int} {N S s u p g z : Int} {P : (Int → Int) → Prop} {R : Int → Int} (hs : s < N) (hp : p = S) (hg : 0 < nm_g T C N S.toNat u) (hz : rz_w T C N S s u p g z) (h : rw_ni T C N S.toNat P s u p g R) : rw_nc T C N S.toNat P (s + 1) u R := by
  by_cases c : g = 0
  · exfalso
    obtain ⟨a, b, -⟩ := rz_w0 hz c
    have e := nm_gL (T := T) (C := C) (N := N) (u := u) (S := S.toNat) (show xa_bc u < N by omega)
    rw [hp] at b
    rw [a, b] at e
    omega
  · exact rw_ni1 c h
theorem rw_ni0 {T C : Int → Int} {N s u p g : Int} {S : Nat} {P : (Int → Int) → Prop} {R : Int → Int} (hg : g = 0) (h : rw_ni T C N S P s u p g R) (hq : ¬ (nm_o T C s u p = true ∧ 0 < nm_f T C N S (N - s - 1).toNat (xa_ib 4 u (xa_ib 6 1 p)))) : rw_ni T C N S P s u (p + 1) 0 R := by
  rcases h with ⟨-, a, b⟩ | ⟨a, -⟩
  · refine Or.inl ⟨rfl, a, fun q q0 q1 => ?_⟩
    by_cases c : q = p
    · rw [c]
      exact hq
    · exact b q q0 (by omega)
  · exfalso
    omega
theorem rw_niT {T C : Int → Int} {N s u p g : Int} {S : Nat} {P : (Int → Int) → Prop} {R R' : Int → Int} (hg : g = 0) (h : rw_ni T C N S P s u p g R) (hS : S ≤ 8) (hs : 0 ≤ s ∧ s < N) (hp : 0 ≤ p ∧ p < (S : Int)) (ho : nm_o T C s u p = true) (hR : ∀ i, 0 ≤ i → i < s → R' i = R i) (hRp : R' s = p) : rw_ni T C N S P s (xa_ib 4 u (xa_ib 6 1 p)) (p + 1) 1 R' := by
  rcases h with ⟨-, a, b⟩ | ⟨a, -⟩
  · exact Or.inr ⟨rfl, rw_nc_s (f := (N - s - 1).toNat) (by omega) hS hs.1 hp ho b hR hRp a⟩
  · exfalso
    omega
theorem rw_ns0 {T C : Int → Int} {s u : Int} {F : Int → Int} (hF : ∀ x, 0 ≤ F x) (hs0 : ∀ k : Nat, 0 ≤ nm_s T C s u F k) {k : Nat} (h : nm_s T C s u F k = 0) : ∀ q : Int, 0 ≤ q → q < (k : Int) → ¬ (nm_o T C s u q = true ∧ 0 < F (xa_ib 4 u (xa_ib 6 1 q))) := fun q q0 q1 hq => by
  have e : ((q.toNat : Nat) : Int) = q := Int.toNat_of_nonneg q0
  have m := nm_s_m (T := T) (C := C) (s := s) (u := u) hF (q.toNat + 1) (k - (q.toNat + 1))
  rw [show q.toNat + 1 + (k - (q.toNat + 1)) = k by omega, nm_s1 (by rw [e]; exact hq.1), e, h] at m
  have := hs0 q.toNat
  have := hq.2
  omega
/-- the reference: the first that it counts is told -/
def rw_g (m s0 : Int) (R0 : Int → Int) (P : (Int → Int) → Prop) (c s : Int) (R : Int → Int) : Prop := (c ≤ 0 ∧ s = s0 ∧ ∀ i, 0 ≤ i → i < s0 → R i = R0 i) ∨ (0 < c ∧ s = m ∧ P R)
theorem rw_g1 {m s0 c s c' s' : Int} {R0 R R' : Int → Int} {P : (Int → Int) → Prop} (h : rw_g m s0 R0 P c s R) (hc : ¬ c = 0) (h0 : 0 ≤ c) (ec : c' = c + 1) (es : s' = s) (eR : R' = R) : rw_g m s0 R0 P c' s' R' := by
  rw [eR, es]
  rcases h with ⟨a, -⟩ | ⟨a, b⟩
  · exfalso
    omega
  · exact Or.inr ⟨by omega, b⟩
theorem rw_gc {m s0 c s e : Int} {R0 R : Int → Int} {P : (Int → Int) → Prop} (h : rw_g m s0 R0 P c s R) (he : m = e) : rw_k (0 < c) s0 R0 s R e P := by
  rcases h with ⟨a, b, d⟩ | ⟨a, b, d⟩
  · exact rw_no (by omega) b d
  · exact rw_yes (V := R) a (b.trans he) (fun _ _ _ => rfl) d
theorem rw_k_e {p : Prop} {s s' s'' e : Int} {R R' R'' : Int → Int} {S : (Int → Int) → Prop} (es : s'' = s') (eR : R'' = R') (h : rw_k p s R s' R' e S) : rw_k p s R s'' R'' e S := by
  rw [es, eR]
  exact h
theorem rw_178_50 {b : Bool} {A : Nat → Nat} {h0 : g_H} {d : Nat} {M : xa_M} {post : Option xa_V → xa_M → Prop} {T C : Int → Int} (hN : 0 ≤ M 30 1 ∧ M 30 1 ≤ 8) (hS : 0 ≤ M 50 4 ∧ M 50 4 ≤ 8) (hT : ∀ i, 0 ≤ i → i < 80 → M 31 i = T i) (hC : ∀ i, 0 ≤ i → i < M 50 4 → M 53 i = bk_n (C i)) (hL : ∀ i, 0 ≤ i → i < M 30 1 → nm_l (T i)) (hW : ∀ v, 0 ≤ v → v < xa_ib 6 1 (M 50 4) → M 54 v = nm_g T C (M 30 1) (M 50 4).toNat v) (hW0 : 0 < M 54 0) (k : ∀ M1 : xa_M, (∀ q j, ¬ q = 48 → ¬ q = 49 → M1 q j = M q j) → M1 48 1 = M 30 1 → rw_nw T C (M 30 1) (M 50 4).toNat (M 30 1).toNat 0 (M1 49) → post none M1) : xa_C (xl_I b) A h0 (d + 5) 178 [(2, 50, 0, 0, 0), (2, 30, 0, 0, 0), (2, 48, 0, 0, 0)] M post := by
  refine xa_meth (Q0 := (7, 0, false, 0, 0, 0)) (by decide +kernel) ⟨rfl, rfl⟩ (full := s_c_178) rfl rfl ?_
  intro hM hv Q hgo
  have loop : ∀ (f : Nat) (s u : Int) (M1 : xa_M), 0 ≤ s ∧ s ≤ 8 → 0 ≤ u ∧ u ≤ 255 → (∀ q j, ¬ q = 48 → ¬ q = 49 → M1 q j = M q j) → (s ≤ M 30 1 ∧ u < xa_ib 6 1 (M 50 4) ∧ xa_bc u = s ∧ 0 < nm_g T C (M 30 1) (M 50 4).toNat u ∧ M1 48 1 = s) → rw_nc T C (M 30 1) (M 50 4).toNat (rw_nw T C (M 30 1) (M 50 4).toNat (M 30 1).toNat 0) s u (M1 49) → 8 - s < (f : Int) → Q 9 [(4, (0, 0, 0, 8, s)), (3, (0, 0, 0, 255, u)), (0, (2, 50, 0, 0, 0)), (1, (2, 30, 0, 0, 0)), (2, (2, 48, 0, 0, 0))] [] M1 := by
    intro f
    induction f with
    | zero => intro s u M1 s1 u1 hk h48 hn hms; omega
    | succ f ih =>
      intro s u M1 s1 u1 hk h48 hn hms
      have inner : s < M 30 1 → ∀ (f2 : Nat) (M1 : xa_M) (u p g : Int), 0 ≤ u ∧ u ≤ 255 → 0 ≤ p ∧ p ≤ 8 → 0 ≤ g ∧ g ≤ 1 → (∀ q j, ¬ q = 48 → ¬ q = 49 → M1 q j = M q j) → (p ≤ M 50 4 ∧ u < xa_ib 6 1 (M 50 4) ∧ 0 < nm_g T C (M 30 1) (M 50 4).toNat u ∧ rz_w T C (M 30 1) (M 50 4) s u p g (M1 48 1)) → rw_ni T C (M 30 1) (M 50 4).toNat (rw_nw T C (M 30 1) (M 50 4).toNat (M 30 1).toNat 0) s u p g (M1 49) → 8 - p < (f2 : Int) → Q 24 [(6, (0, 0, 0, 8, p)), (5, (0, 0, 0, 1, g)), (4, (0, 0, 0, 8, s)), (3, (0, 0, 0, 255, u)), (0, (2, 50, 0, 0, 0)), (1, (2, 30, 0, 0, 0)), (2, (2, 48, 0, 0, 0))] [] M1 := by
        intro sN f2
        induction f2 with
        | zero => intro M1 u p g u1 p1 g1 hk h48 hn hms2; omega
        | succ f2 ihf =>
          intro M1 u p g u1 p1 g1 hk h48 hn hms2
          have e30 : M1 30 1 = M 30 1 := hk 30 1 (by decide) (by decide)
          have e4 : M1 50 4 = M 50 4 := hk 50 4 (by decide) (by decide)
          refine hgo.1 44 [9, 24] 24 _ _ _ ?_
          refine And.intro ?_ ?_
          · intro (c1 : (M1 50 4) ≤ p)
            show Q 9 [(4, (0, 0, 1, 9, s + 1)), (6, (0, 0, 0, 8, p)), (5, (0, 0, 0, 1, g)), (3, (0, 0, 0, 255, u)), (0, (2, 50, 0, 0, 0)), (1, (2, 30, 0, 0, 0)), (2, (2, 48, 0, 0, 0))] [] M1
            refine hgo.2.1 9 _ [(4, (0, 0, 0, 8, s + 1)), (3, (0, 0, 0, 255, u)), (0, (2, 50, 0, 0, 0)), (1, (2, 30, 0, 0, 0)), (2, (2, 48, 0, 0, 0))] _ _ (xa_subI rfl rfl (fun _ _ _ _ => by omega) (xa_subI rfl rfl (fun _ _ _ _ => by omega) (xa_subR rfl (xa_subR rfl (xa_subR rfl (xa_sub0)))))) ?_
            have w9 := rz_wS sN (show p = M 50 4 by omega) h48.2.2.1 h48.2.2.2
            exact ih (s + 1) u M1 (by omega) (by omega) hk ⟨by omega, h48.2.1, w9.1, h48.2.2.1, w9.2⟩ (rw_niS sN (show p = M 50 4 by omega) h48.2.2.1 h48.2.2.2 hn) (by omega)
          · intro (c1 : p < (M1 50 4))
            refine And.intro ?_ ?_
            · intro (c2 : ¬ g = 0)
              show Q 9 [(4, (0, 0, 1, 9, s + 1)), (6, (0, 0, 0, 8, p)), (5, (0, 0, 0, 1, g)), (3, (0, 0, 0, 255, u)), (0, (2, 50, 0, 0, 0)), (1, (2, 30, 0, 0, 0)), (2, (2, 48, 0, 0, 0))] [] M1
              refine hgo.2.1 9 _ [(4, (0, 0, 0, 8, s + 1)), (3, (0, 0, 0, 255, u)), (0, (2, 50, 0, 0, 0)), (1, (2, 30, 0, 0, 0)), (2, (2, 48, 0, 0, 0))] _ _ (xa_subI rfl rfl (fun _ _ _ _ => by omega) (xa_subI rfl rfl (fun _ _ _ _ => by omega) (xa_subR rfl (xa_subR rfl (xa_subR rfl (xa_sub0)))))) ?_
              have w9 := rz_w1 h48.2.2.2 c2
              exact ih (s + 1) u M1 (by omega) (by omega) hk ⟨by omega, h48.2.1, w9.1, h48.2.2.1, w9.2⟩ (rw_ni1 c2 hn) (by omega)
            · intro (c2 : g = 0)
              have w9 := rz_w0 h48.2.2.2 c2
              have ei : ((p.toNat : Nat) : Int) = p := Int.toNat_of_nonneg (by omega)
              have t9 : M1 31 s = T s := (hk 31 s (by decide) (by decide)).trans (hT s (by omega) (by omega))
              have l9 := hL s (by omega) (by omega)
              unfold nm_l at l9
              have q9 : M1 53 p = bk_n (C p) := (hk 53 p (by decide) (by decide)).trans (hC p (by omega) (by omega))
              have g9 := nm_bn (C p)
              show xa_C (xl_I b) A h0 _ 177 [(2, 50, 0, 0, 0), (2, 30, 0, 0, 0), (0, 0, 0, 8, s), (0, 0, 0, 255, u), (0, 0, 0, 8, p)] M1 _
              refine cg_177_50 (show 0 ≤ (M1 30 1) ∧ (M1 30 1) ≤ 80 by omega) (show 0 ≤ p ∧ p < 8 by omega) (show 0 ≤ s ∧ s < (M1 30 1) by omega) ?_ ?_
              · intro (i3 : (M1 31 s = 63 ∨ M1 31 s = M1 53 p) ∧ xa_ib 3 (xa_ib 7 u p) 1 = 0)
                have dF := nm_F8 (u := u) (p := p) (by omega) (by omega) (by omega) (by omega) i3.2
                have dG := nm_F (S := M 50 4) (u := u) (p := p) u1.1 p1.1 (by omega) hS.2 h48.2.1 i3.2
                have f9 : nm_o T C s u ((p.toNat : Nat) : Int) = true := by
                  rw [ei, nm_oi]
                  exact ⟨by omega, i3.2⟩
                have es := nm_s1 (F := nm_f T C (M 30 1) (M 50 4).toNat (M 30 1 - s - 1).toNat) f9
                rw [ei] at es
                have eg : M1 54 (xa_ib 4 u (xa_ib 6 1 p)) = nm_g T C (M 30 1) (M 50 4).toNat (xa_ib 4 u (xa_ib 6 1 p)) := (hk 54 (xa_ib 4 u (xa_ib 6 1 p)) (by decide) (by decide)).trans (hW (xa_ib 4 u (xa_ib 6 1 p)) (by omega) dG.2.1)
                have gs := nm_gs (T := T) (C := C) (N := M 30 1) (u := u) (v := (xa_ib 4 u (xa_ib 6 1 p))) (S := (M 50 4).toNat) (by omega) dG.2.2
                rw [w9.1, ← eg] at gs
                have b2 := (nm_fb (T := T) (C := C) (N := M 30 1) (S := (M 50 4).toNat) (f := (M 30 1 - s - 1).toNat) (by omega) (by omega) (xa_ib 4 u (xa_ib 6 1 p))).1
                rw [← gs] at es b2
                show xa_C (xl_I b) A h0 _ 23 [(2, 54, 0, 0, 0), (0, 0, (-2147483648), 2147483647, xa_ib 4 u (xa_ib 6 1 p))] M1 _
                refine cx_23_54 (show 0 ≤ (xa_ib 4 u (xa_ib 6 1 p)) ∧ (xa_ib 4 u (xa_ib 6 1 p)) < 256 by omega) ?_
                refine And.intro ?_ ?_
                · intro (c4 : (M1 54 (xa_ib 4 u (xa_ib 6 1 p))) ≤ 0)
                  show Q 24 [(6, (0, 0, 1, 9, p + 1)), (5, (0, 0, 0, 0, 0)), (4, (0, 0, 0, 8, s)), (3, (0, 0, 0, 255, u)), (0, (2, 50, 0, 0, 0)), (1, (2, 30, 0, 0, 0)), (2, (2, 48, 0, 0, 0))] [] M1
                  refine hgo.2.1 24 _ [(6, (0, 0, 0, 8, p + 1)), (5, (0, 0, 0, 1, 0)), (4, (0, 0, 0, 8, s)), (3, (0, 0, 0, 255, u)), (0, (2, 50, 0, 0, 0)), (1, (2, 30, 0, 0, 0)), (2, (2, 48, 0, 0, 0))] _ _ (xa_subI rfl rfl (fun _ _ _ _ => by omega) (xa_subI rfl rfl (fun _ _ _ _ => by omega) (xa_subI rfl rfl (fun _ _ _ _ => by omega) (xa_subI rfl rfl (fun _ _ _ _ => by omega) (xa_subR rfl (xa_subR rfl (xa_subR rfl (xa_sub0)))))))) ?_
                  exact ihf M1 u (p + 1) 0 (by omega) (by omega) (by omega) (fun q j h1 h2 => hk q j h1 h2) ⟨by omega, h48.2.1, h48.2.2.1, Or.inl ⟨rfl, w9.1, by rw [show (p + 1).toNat = p.toNat + 1 by omega, es]; omega, w9.2.2⟩⟩ (rw_ni0 c2 hn (fun h => by have q := h.2; rw [← gs] at q; omega)) (by omega)
                · intro (c4 : 0 < (M1 54 (xa_ib 4 u (xa_ib 6 1 p))))
                  show xa_C (xl_I b) A h0 _ 60 [(2, 48, 0, 0, 0), (1, 0, 0, 8, p)] M1 _
                  refine cx_60_48 (show (0 : Int) ≤ (M1 48 1) by omega) ?_ ?_
                  · intro (i5 : 16 ≤ (M1 48 1))
                    show Q 24 [(6, (0, 0, 1, 9, p + 1)), (3, (0, 0, (-2147483648), 2147483647, xa_ib 4 u (xa_ib 6 1 p))), (5, (0, 0, 1, 1, 1)), (4, (0, 0, 0, 8, s)), (0, (2, 50, 0, 0, 0)), (1, (2, 30, 0, 0, 0)), (2, (2, 48, 0, 0, 0))] [] M1
                    refine hgo.2.1 24 _ [(6, (0, 0, 0, 8, p + 1)), (5, (0, 0, 0, 1, 1)), (4, (0, 0, 0, 8, s)), (3, (0, 0, 0, 255, xa_ib 4 u (xa_ib 6 1 p))), (0, (2, 50, 0, 0, 0)), (1, (2, 30, 0, 0, 0)), (2, (2, 48, 0, 0, 0))] _ _ (xa_subI rfl rfl (fun _ _ _ _ => by omega) (xa_subI rfl rfl (fun _ _ _ _ => by omega) (xa_subI rfl rfl (fun _ _ _ _ => by omega) (xa_subI rfl rfl (fun _ _ _ _ => by omega) (xa_subR rfl (xa_subR rfl (xa_subR rfl (xa_sub0)))))))) ?_
                    exact ihf M1 (xa_ib 4 u (xa_ib 6 1 p)) (p + 1) 1 (by omega) (by omega) (by omega) (fun q j h1 h2 => hk q j h1 h2) (by exfalso; omega) (by exfalso; omega) (by omega)
                  · intro (i6 : (M1 48 1) < 16)
                    show Q 24 [(6, (0, 0, 1, 9, p + 1)), (3, (0, 0, (-2147483648), 2147483647, xa_ib 4 u (xa_ib 6 1 p))), (5, (0, 0, 1, 1, 1)), (4, (0, 0, 0, 8, s)), (0, (2, 50, 0, 0, 0)), (1, (2, 30, 0, 0, 0)), (2, (2, 48, 0, 0, 0))] [] (xa_up (xa_up M1 49 (M1 48 1) p) 48 1 (xa_w32 ((M1 48 1) + 1)))
                    have e9 := xa_w32_id (n := M1 48 1 + 1) (by omega) (by omega)
                    refine hgo.2.1 24 _ [(6, (0, 0, 0, 8, p + 1)), (5, (0, 0, 0, 1, 1)), (4, (0, 0, 0, 8, s)), (3, (0, 0, 0, 255, xa_ib 4 u (xa_ib 6 1 p))), (0, (2, 50, 0, 0, 0)), (1, (2, 30, 0, 0, 0)), (2, (2, 48, 0, 0, 0))] _ _ (xa_subI rfl rfl (fun _ _ _ _ => by omega) (xa_subI rfl rfl (fun _ _ _ _ => by omega) (xa_subI rfl rfl (fun _ _ _ _ => by omega) (xa_subI rfl rfl (fun _ _ _ _ => by omega) (xa_subR rfl (xa_subR rfl (xa_subR rfl (xa_sub0)))))))) ?_
                    exact ihf (xa_up (xa_up M1 49 (M1 48 1) p) 48 1 (xa_w32 ((M1 48 1) + 1))) (xa_ib 4 u (xa_ib 6 1 p)) (p + 1) 1 (by omega) (by omega) (by omega) (fun q j h1 h2 => (xa_up_ne (by omega)).trans ((xa_up_ne (by omega)).trans (hk q j h1 h2))) ⟨by omega, dG.2.1, by rw [← eg]; exact c4, Or.inr ⟨rfl, by omega, by show xa_w32 ((M1 48 1) + 1) = s + 1; omega⟩⟩ (rw_niT c2 hn (by omega) (by omega) (by omega) (by have q := f9; rw [ei] at q; exact q) (fun i i0 i1 => (xa_up_ne (by omega)).trans (xa_up_ne (by omega))) ((xa_up_ne (by omega)).trans (by rw [w9.2.2]; exact xa_up_eq))) (by omega)
              · intro (i7 : ¬ ((M1 31 s = 63 ∨ M1 31 s = M1 53 p) ∧ xa_ib 3 (xa_ib 7 u p) 1 = 0))
                have f9 : ¬ nm_o T C s u ((p.toNat : Nat) : Int) = true := fun h => by
                  rw [ei, nm_oi] at h
                  omega
                have es := nm_s0 (F := nm_f T C (M 30 1) (M 50 4).toNat (M 30 1 - s - 1).toNat) f9
                show Q 24 [(6, (0, 0, 1, 9, p + 1)), (5, (0, 0, 0, 0, 0)), (4, (0, 0, 0, 8, s)), (3, (0, 0, 0, 255, u)), (0, (2, 50, 0, 0, 0)), (1, (2, 30, 0, 0, 0)), (2, (2, 48, 0, 0, 0))] [] M1
                refine hgo.2.1 24 _ [(6, (0, 0, 0, 8, p + 1)), (5, (0, 0, 0, 1, 0)), (4, (0, 0, 0, 8, s)), (3, (0, 0, 0, 255, u)), (0, (2, 50, 0, 0, 0)), (1, (2, 30, 0, 0, 0)), (2, (2, 48, 0, 0, 0))] _ _ (xa_subI rfl rfl (fun _ _ _ _ => by omega) (xa_subI rfl rfl (fun _ _ _ _ => by omega) (xa_subI rfl rfl (fun _ _ _ _ => by omega) (xa_subI rfl rfl (fun _ _ _ _ => by omega) (xa_subR rfl (xa_subR rfl (xa_subR rfl (xa_sub0)))))))) ?_
                exact ihf M1 u (p + 1) 0 (by omega) (by omega) (by omega) (fun q j h1 h2 => hk q j h1 h2) ⟨by omega, h48.2.1, h48.2.2.1, Or.inl ⟨rfl, w9.1, by rw [show (p + 1).toNat = p.toNat + 1 by omega, es]; exact w9.2.1, w9.2.2⟩⟩ (rw_ni0 c2 hn (fun h => f9 (by rw [ei]; exact h.1))) (by omega)
      have e30 : M1 30 1 = M 30 1 := hk 30 1 (by decide) (by decide)
      have e4 : M1 50 4 = M 50 4 := hk 50 4 (by decide) (by decide)
      refine hgo.1 13 [9, 24] 9 _ _ _ ?_
      refine And.intro ?_ ?_
      · intro (c1 : (M1 30 1) ≤ s)
        show post none M1
        exact k M1 hk (by omega) (hn (M1 49) (fun _ _ _ => rfl) (by rw [show (M 30 1 - s).toNat = 0 by omega]; exact trivial))
      · intro (c1 : s < (M1 30 1))
        show Q 24 [(6, (0, 0, 0, 0, 0)), (5, (0, 0, 0, 0, 0)), (4, (0, 0, 0, 8, s)), (3, (0, 0, 0, 255, u)), (0, (2, 50, 0, 0, 0)), (1, (2, 30, 0, 0, 0)), (2, (2, 48, 0, 0, 0))] [] M1
        refine hgo.2.1 24 _ [(6, (0, 0, 0, 8, 0)), (5, (0, 0, 0, 1, 0)), (4, (0, 0, 0, 8, s)), (3, (0, 0, 0, 255, u)), (0, (2, 50, 0, 0, 0)), (1, (2, 30, 0, 0, 0)), (2, (2, 48, 0, 0, 0))] _ _ (xa_subI rfl rfl (fun _ _ _ _ => by omega) (xa_subI rfl rfl (fun _ _ _ _ => by omega) (xa_subI rfl rfl (fun _ _ _ _ => by omega) (xa_subI rfl rfl (fun _ _ _ _ => by omega) (xa_subR rfl (xa_subR rfl (xa_subR rfl (xa_sub0)))))))) ?_
        exact inner (by omega) 9 M1 u 0 0 (by omega) (by omega) (by omega) hk ⟨by omega, h48.2.1, h48.2.2.2.1, Or.inl ⟨rfl, h48.2.2.1, rfl, h48.2.2.2.2⟩⟩ (Or.inl ⟨rfl, hn, fun q q0 q1 => absurd q1 (by omega)⟩) (by omega)
  refine hgo.1 11 [9, 24] 0 _ _ _ ?_
  show xa_C (xl_I b) A h0 _ 59 [(2, 48, 0, 0, 0)] M _
  refine cx_59_48 ?_
  show Q 9 [(4, (0, 0, 0, 0, 0)), (3, (0, 0, 0, 0, 0)), (0, (2, 50, 0, 0, 0)), (1, (2, 30, 0, 0, 0)), (2, (2, 48, 0, 0, 0))] [] (xa_up M 48 1 0)
  refine hgo.2.1 9 _ [(4, (0, 0, 0, 8, 0)), (3, (0, 0, 0, 255, 0)), (0, (2, 50, 0, 0, 0)), (1, (2, 30, 0, 0, 0)), (2, (2, 48, 0, 0, 0))] _ _ (xa_subI rfl rfl (fun _ _ _ _ => by omega) (xa_subI rfl rfl (fun _ _ _ _ => by omega) (xa_subR rfl (xa_subR rfl (xa_subR rfl (xa_sub0)))))) ?_
  exact loop 9 0 0 _ (by omega) (by omega) (fun q j h1 h2 => xa_up_ne (by omega)) ⟨by omega, by have q9 := (nm_P hS.1 hS.2).2.1; omega, by decide +kernel, by rw [← hW 0 (by omega) (by have q9 := (nm_P hS.1 hS.2).2.1; omega)]; exact hW0, xa_up_eq⟩ (fun V _ h => by rw [Int.sub_zero] at h; exact h) (by omega)
theorem rw_175_50 {b : Bool} {A : Nat → Nat} {h0 : g_H} {d : Nat} {M : xa_M} {post : Option xa_V → xa_M → Prop} {T C : Int → Int} (hT : (∀ i, 0 ≤ i → i < 80 → M 31 i = T i)) (hC : ∀ i, 0 ≤ i → i < M 50 4 → M 53 i = bk_n (C i)) (hz : 0 ≤ M 30 1 ∧ M 30 1 ≤ 80) (hS : 0 ≤ M 50 4 ∧ M 50 4 ≤ 8) (k : ∀ (r : Int) (M1 : xa_M), nm_R T C (M 30 1) (M 50 4).toNat r → (∀ q j, ¬ q = 48 → ¬ q = 49 → ¬ q = 54 → M1 q j = M q j) → rw_k (0 < r) (M 48 1) (M 49) (M1 48 1) (M1 49) (M 30 1) (rw_nw T C (M 30 1) (M 50 4).toNat (M 30 1).toNat 0) → post (some (0, 0, (-2147483648), 2147483647, r)) M1) : xa_C (xl_I b) A h0 (d + 6) 175 [(2, 50, 0, 0, 0), (2, 30, 0, 0, 0), (2, 48, 0, 0, 0)] M post := by
  refine xa_C_wk ?_
  refine xa_meth (Q0 := (4, 1, false, 0, 0, 0)) (by decide +kernel) ⟨rfl, rfl⟩ (full := s_c_175) rfl rfl ?_
  intro hM hv Q hgo
  have loop : ∀ (f : Nat) (i : Int), 0 ≤ i ∧ i ≤ 8 → i ≤ M 30 1 → (∀ j, 0 ≤ j → j < i → nm_l (T j)) → 8 - i < (f : Int) → Q 2 [(3, (0, 0, 0, 8, i)), (0, (2, 50, 0, 0, 0)), (1, (2, 30, 0, 0, 0)), (2, (2, 48, 0, 0, 0))] [] M := by
    intro f
    induction f with
    | zero => intro i i1 i2 hg hms; omega
    | succ f ih =>
      intro i i1 i2 hg hms
      refine hgo.1 27 [2] 2 _ _ _ ?_
      refine And.intro ?_ ?_
      · intro (c1 : (M 30 1) ≤ i)
        refine And.intro ?_ ?_
        · intro (c2 : ¬ (M 30 1) = 0)
          have hN1 : 1 ≤ M 30 1 ∧ M 30 1 ≤ 8 := by omega
          have hL1 : ∀ j, 0 ≤ j → j < M 30 1 → nm_l (T j) := (fun j j0 j1 => hg j j0 (by omega))
          have hP := nm_P hS.1 hS.2
          show xa_C (xl_I b) A h0 _ 176 [(2, 50, 0, 0, 0), (2, 30, 0, 0, 0)] M _
          refine cx_176_50 hT hC hN1 hS hL1 ?_
          intro M150 (i3 : ∀ q j, ¬ q = 54 → M150 q j = M q j) (i4 : ∀ v, 0 ≤ v → v < xa_ib 6 1 (M 50 4) → M150 54 v = nm_g T C (M 30 1) (M 50 4).toNat v)
          have x30 : M150 30 1 = M 30 1 := i3 30 1 (by decide)
          have x4 : M150 50 4 = M 50 4 := i3 50 4 (by decide)
          show xa_C (xl_I b) A h0 _ 23 [(2, 54, 0, 0, 0), (0, 0, 0, 0, 0)] M150 _
          refine cx_23_54 (show 0 ≤ 0 ∧ 0 < 256 by omega) ?_
          refine And.intro ?_ ?_
          · intro (c5 : (M150 54 0) ≤ 0)
            show xa_wk post (some (0, 0, (-2147483648), 2147483647, M150 54 0)) M150
            exact xa_wkI _ rfl (fun _ _ => by omega) (k _ _ (Or.inr ⟨(fun j j0 j1 => hg j j0 (by omega)), by omega, Or.inr ⟨by omega, (i4 0 (by omega) (by omega)).trans (nm_g0 (by omega))⟩⟩) (fun q j h1 h2 h3 => i3 q j h3) (rw_no (by omega) (i3 48 1 (by decide)) (fun i _ _ => i3 49 i (by decide))))
          · intro (c5 : 0 < (M150 54 0))
            show xa_C (xl_I b) A h0 _ 178 [(2, 50, 0, 0, 0), (2, 30, 0, 0, 0), (2, 48, 0, 0, 0)] M150 _
            refine rw_178_50 (T := T) (C := C) (by rw [x30]; omega) (by rw [x4]; omega) (fun i i0 i1 => (i3 31 i (by decide)).trans (hT i i0 i1)) (fun i i0 i1 => (i3 53 i (by decide)).trans (hC i i0 (by omega))) (fun i i0 i1 => hL1 i i0 (by omega)) (by rw [x30, x4]; exact i4) c5 ?_
            intro M151 (i6 : ∀ q j, ¬ q = 48 → ¬ q = 49 → M151 q j = M150 q j) (z9 : M151 48 1 = M150 30 1) (v9 : rw_nw T C (M150 30 1) (M150 50 4).toNat (M150 30 1).toNat 0 (M151 49))
            show xa_wk post (some (0, 0, (-2147483648), 2147483647, M150 54 0)) M151
            exact xa_wkI _ rfl (fun _ _ => by omega) (k _ _ (Or.inr ⟨(fun j j0 j1 => hg j j0 (by omega)), by omega, Or.inr ⟨by omega, (i4 0 (by omega) (by omega)).trans (nm_g0 (by omega))⟩⟩) (fun q j h1 h2 h3 => (i6 q j h1 h2).trans (i3 q j h3)) (rw_yes (V := M151 49) (by omega) (z9.trans x30) (fun _ _ _ => rfl) (by rw [x30, x4] at v9; exact v9)))
        · intro (c2 : (M 30 1) = 0)
          show xa_wk post (some (0, 0, (-100), (-100), (-100))) M
          exact xa_wkI (-100) rfl (fun _ _ => by omega) (k _ _ (Or.inr ⟨(fun j j0 j1 => hg j j0 (by omega)), by omega, Or.inl ⟨by omega, rfl⟩⟩) (fun _ _ _ _ _ => rfl) (rw_no (by omega) rfl (fun _ _ _ => rfl)))
      · intro (c1 : i < (M 30 1))
        refine And.intro ?_ ?_
        · intro (c7 : 8 ≤ i)
          show xa_wk post (some (0, 0, (-108), (-100), (-100) - i)) M
          have t9 := hT i (by omega) (by omega)
          exact xa_wkI _ rfl (fun _ _ => by omega) (k _ _ (Or.inl ⟨i, by omega, by omega, by omega, by unfold nm_l; omega, hg, by omega⟩) (fun _ _ _ _ _ => rfl) (rw_no (by omega) rfl (fun _ _ _ => rfl)))
        · intro (c7 : i < 8)
          show xa_C (xl_I b) A h0 _ 120 [(2, 30, 0, 0, 0), (0, 0, 0, 8, i)] M _
          refine cg_120 (show 0 ≤ (M 30 1) ∧ (M 30 1) ≤ 80 by omega) ?_ ?_
          · intro (i8 : (0 ≤ i ∧ i < (M 30 1)) ∧ 97 ≤ M 31 i ∧ M 31 i ≤ 122)
            show Q 2 [(3, (0, 0, 1, 9, i + 1)), (0, (2, 50, 0, 0, 0)), (1, (2, 30, 0, 0, 0)), (2, (2, 48, 0, 0, 0))] [] M
            have t9 := hT i (by omega) (by omega)
            refine hgo.2.1 2 _ [(3, (0, 0, 0, 8, i + 1)), (0, (2, 50, 0, 0, 0)), (1, (2, 30, 0, 0, 0)), (2, (2, 48, 0, 0, 0))] _ _ (xa_subI rfl rfl (fun _ _ _ _ => by omega) (xa_subR rfl (xa_subR rfl (xa_subR rfl (xa_sub0))))) ?_
            exact ih (i + 1) (by omega) (by omega) (fun j j0 j1 => by
              by_cases e : j = i
              · rw [e]
                unfold nm_l
                omega
              · exact hg j j0 (by omega)) (by omega)
          · intro (i9 : ¬ ((0 ≤ i ∧ i < (M 30 1)) ∧ 97 ≤ M 31 i ∧ M 31 i ≤ 122))
            show xa_C (xl_I b) A h0 _ 172 [(2, 30, 0, 0, 0), (0, 0, 0, 8, i)] M _
            refine cg_172 (show 0 ≤ (M 30 1) ∧ (M 30 1) ≤ 80 by omega) ?_ ?_
            · intro (i10 : (0 ≤ i ∧ i < (M 30 1)) ∧ M 31 i = 63)
              show Q 2 [(3, (0, 0, 1, 9, i + 1)), (0, (2, 50, 0, 0, 0)), (1, (2, 30, 0, 0, 0)), (2, (2, 48, 0, 0, 0))] [] M
              have t9 := hT i (by omega) (by omega)
              refine hgo.2.1 2 _ [(3, (0, 0, 0, 8, i + 1)), (0, (2, 50, 0, 0, 0)), (1, (2, 30, 0, 0, 0)), (2, (2, 48, 0, 0, 0))] _ _ (xa_subI rfl rfl (fun _ _ _ _ => by omega) (xa_subR rfl (xa_subR rfl (xa_subR rfl (xa_sub0))))) ?_
              exact ih (i + 1) (by omega) (by omega) (fun j j0 j1 => by
                by_cases e : j = i
                · rw [e]
                  unfold nm_l
                  omega
                · exact hg j j0 (by omega)) (by omega)
            · intro (i11 : ¬ ((0 ≤ i ∧ i < (M 30 1)) ∧ M 31 i = 63))
              show xa_wk post (some (0, 0, (-108), (-100), (-100) - i)) M
              have t9 := hT i (by omega) (by omega)
              exact xa_wkI _ rfl (fun _ _ => by omega) (k _ _ (Or.inl ⟨i, by omega, by omega, by omega, by unfold nm_l; omega, hg, by omega⟩) (fun _ _ _ _ _ => rfl) (rw_no (by omega) rfl (fun _ _ _ => rfl)))
  refine hgo.1 7 [2] 0 _ _ _ ?_
  show Q 2 [(3, (0, 0, 0, 0, 0)), (0, (2, 50, 0, 0, 0)), (1, (2, 30, 0, 0, 0)), (2, (2, 48, 0, 0, 0))] [] M
  refine hgo.2.1 2 _ [(3, (0, 0, 0, 8, 0)), (0, (2, 50, 0, 0, 0)), (1, (2, 30, 0, 0, 0)), (2, (2, 48, 0, 0, 0))] _ _ (xa_subI rfl rfl (fun _ _ _ _ => by omega) (xa_subR rfl (xa_subR rfl (xa_subR rfl (xa_sub0))))) ?_
  exact loop 9 0 (by omega) (by omega) (fun j j0 j1 => by omega) (by omega)
theorem rw_174_50 {A : Nat → Nat} {h0 : g_H} {d : Nat} {M : xa_M} {post : Option xa_V → xa_M → Prop} {T C : Int → Int} (hT : (∀ i, 0 ≤ i → i < 80 → M 31 i = T i)) (hC : ∀ i, 0 ≤ i → i < M 50 4 → M 53 i = bk_n (C i)) (hz : 0 ≤ M 30 1 ∧ M 30 1 ≤ 80) (hS : 0 ≤ M 50 4 ∧ M 50 4 ≤ 8) (k : ∀ (r : Int) (M1 : xa_M), nm_R T C (M 30 1) (M 50 4).toNat r → M1 30 1 = 0 → (∀ q j, ¬ q = 48 → ¬ q = 49 → ¬ q = 54 → ¬ q = 59 → ¬ (q = 30 ∧ j = 1) → ¬ (q = 60 ∧ j = 21) → M1 q j = M q j) → rw_k (0 < r) (M 48 1) (M 49) (M1 48 1) (M1 49) (M 30 1) (rw_nw T C (M 30 1) (M 50 4).toNat (M 30 1).toNat 0) → post (some (0, 0, (-2147483648), 2147483647, r)) M1) : xa_C (xl_I false) A h0 (d + 7) 174 [(2, 0, 0, 0, 0)] M post := by
  refine xa_C_wk ?_
  refine xa_meth (Q0 := (2, 1, false, 0, 0, 11)) (by decide +kernel) ⟨rfl, rfl⟩ (full := s_c_174) rfl rfl ?_
  intro hM hv Q hgo
  refine hgo.1 19 [] 0 _ _ _ ?_
  show xa_C (xl_I false) A h0 _ 175 [(2, 50, 0, 0, 0), (2, 30, 0, 0, 0), (2, 48, 0, 0, 0)] M _
  refine rw_175_50 hT hC hz hS ?_
  intro r152 M153 (i1 : nm_R T C (M 30 1) (M 50 4).toNat r152) (i2 : ∀ q j, ¬ q = 48 → ¬ q = 49 → ¬ q = 54 → M153 q j = M q j) (z9 : rw_k (0 < r152) (M 48 1) (M 49) (M153 48 1) (M153 49) (M 30 1) (rw_nw T C (M 30 1) (M 50 4).toNat (M 30 1).toNat 0))
  show xa_C (xl_I false) A h0 _ 113 [(2, 30, 0, 0, 0), (0, 0, 0, 0, 0)] M153 _
  refine cx_113f ?_
  intro n154 M155 (i3 : lt_E M153 30 1 (M153 30 1) 0 n154 M155)
  show xa_wk post (some (0, 0, (-2147483648), 2147483647, r152)) M155
  have z30 : 0 ≤ M153 30 1 := by rw [i2 30 1 (by decide) (by decide) (by decide)]; exact hz.1
  obtain ⟨h4, h5⟩ := le_cut z30 i3
  exact xa_wkI _ rfl (fun _ _ => by omega) (k _ _ i1 h4 (fun q j h1 h2 h3 h6 h7 h8 => (h5 q j h7 h8).trans (i2 q j h1 h2 h3)) (rw_k_e (h5 48 1 (by omega) (by omega)) (funext (fun i => h5 49 i (by omega) (by omega))) z9))
theorem rw_178_55 {b : Bool} {A : Nat → Nat} {h0 : g_H} {d : Nat} {M : xa_M} {post : Option xa_V → xa_M → Prop} {T C : Int → Int} (hN : 0 ≤ M 30 1 ∧ M 30 1 ≤ 8) (hS : 0 ≤ M 55 4 ∧ M 55 4 ≤ 8) (hT : ∀ i, 0 ≤ i → i < 80 → M 31 i = T i) (hC : ∀ i, 0 ≤ i → i < M 55 4 → M 58 i = bk_n (C i)) (hL : ∀ i, 0 ≤ i → i < M 30 1 → nm_l (T i)) (hW : ∀ v, 0 ≤ v → v < xa_ib 6 1 (M 55 4) → M 59 v = nm_g T C (M 30 1) (M 55 4).toNat v) (hW0 : 0 < M 59 0) (k : ∀ M1 : xa_M, (∀ q j, ¬ q = 48 → ¬ q = 49 → M1 q j = M q j) → M1 48 1 = M 30 1 → rw_nw T C (M 30 1) (M 55 4).toNat (M 30 1).toNat 0 (M1 49) → post none M1) : xa_C (xl_I b) A h0 (d + 5) 178 [(2, 55, 0, 0, 0), (2, 30, 0, 0, 0), (2, 48, 0, 0, 0)] M post := by
  refine xa_meth (Q0 := (7, 0, false, 0, 0, 0)) (by decide +kernel) ⟨rfl, rfl⟩ (full := s_c_178) rfl rfl ?_
  intro hM hv Q hgo
  have loop : ∀ (f : Nat) (s u : Int) (M1 : xa_M), 0 ≤ s ∧ s ≤ 8 → 0 ≤ u ∧ u ≤ 255 → (∀ q j, ¬ q = 48 → ¬ q = 49 → M1 q j = M q j) → (s ≤ M 30 1 ∧ u < xa_ib 6 1 (M 55 4) ∧ xa_bc u = s ∧ 0 < nm_g T C (M 30 1) (M 55 4).toNat u ∧ M1 48 1 = s) → rw_nc T C (M 30 1) (M 55 4).toNat (rw_nw T C (M 30 1) (M 55 4).toNat (M 30 1).toNat 0) s u (M1 49) → 8 - s < (f : Int) → Q 9 [(4, (0, 0, 0, 8, s)), (3, (0, 0, 0, 255, u)), (0, (2, 55, 0, 0, 0)), (1, (2, 30, 0, 0, 0)), (2, (2, 48, 0, 0, 0))] [] M1 := by
    intro f
    induction f with
    | zero => intro s u M1 s1 u1 hk h48 hn hms; omega
    | succ f ih =>
      intro s u M1 s1 u1 hk h48 hn hms
      have inner : s < M 30 1 → ∀ (f2 : Nat) (M1 : xa_M) (u p g : Int), 0 ≤ u ∧ u ≤ 255 → 0 ≤ p ∧ p ≤ 8 → 0 ≤ g ∧ g ≤ 1 → (∀ q j, ¬ q = 48 → ¬ q = 49 → M1 q j = M q j) → (p ≤ M 55 4 ∧ u < xa_ib 6 1 (M 55 4) ∧ 0 < nm_g T C (M 30 1) (M 55 4).toNat u ∧ rz_w T C (M 30 1) (M 55 4) s u p g (M1 48 1)) → rw_ni T C (M 30 1) (M 55 4).toNat (rw_nw T C (M 30 1) (M 55 4).toNat (M 30 1).toNat 0) s u p g (M1 49) → 8 - p < (f2 : Int) → Q 24 [(6, (0, 0, 0, 8, p)), (5, (0, 0, 0, 1, g)), (4, (0, 0, 0, 8, s)), (3, (0, 0, 0, 255, u)), (0, (2, 55, 0, 0, 0)), (1, (2, 30, 0, 0, 0)), (2, (2, 48, 0, 0, 0))] [] M1 := by
        intro sN f2
        induction f2 with
        | zero => intro M1 u p g u1 p1 g1 hk h48 hn hms2; omega
        | succ f2 ihf =>
          intro M1 u p g u1 p1 g1 hk h48 hn hms2
          have e30 : M1 30 1 = M 30 1 := hk 30 1 (by decide) (by decide)
          have e4 : M1 55 4 = M 55 4 := hk 55 4 (by decide) (by decide)
          refine hgo.1 44 [9, 24] 24 _ _ _ ?_
          refine And.intro ?_ ?_
          · intro (c1 : (M1 55 4) ≤ p)
            show Q 9 [(4, (0, 0, 1, 9, s + 1)), (6, (0, 0, 0, 8, p)), (5, (0, 0, 0, 1, g)), (3, (0, 0, 0, 255, u)), (0, (2, 55, 0, 0, 0)), (1, (2, 30, 0, 0, 0)), (2, (2, 48, 0, 0, 0))] [] M1
            refine hgo.2.1 9 _ [(4, (0, 0, 0, 8, s + 1)), (3, (0, 0, 0, 255, u)), (0, (2, 55, 0, 0, 0)), (1, (2, 30, 0, 0, 0)), (2, (2, 48, 0, 0, 0))] _ _ (xa_subI rfl rfl (fun _ _ _ _ => by omega) (xa_subI rfl rfl (fun _ _ _ _ => by omega) (xa_subR rfl (xa_subR rfl (xa_subR rfl (xa_sub0)))))) ?_
            have w9 := rz_wS sN (show p = M 55 4 by omega) h48.2.2.1 h48.2.2.2
            exact ih (s + 1) u M1 (by omega) (by omega) hk ⟨by omega, h48.2.1, w9.1, h48.2.2.1, w9.2⟩ (rw_niS sN (show p = M 55 4 by omega) h48.2.2.1 h48.2.2.2 hn) (by omega)
          · intro (c1 : p < (M1 55 4))
            refine And.intro ?_ ?_
            · intro (c2 : ¬ g = 0)
              show Q 9 [(4, (0, 0, 1, 9, s + 1)), (6, (0, 0, 0, 8, p)), (5, (0, 0, 0, 1, g)), (3, (0, 0, 0, 255, u)), (0, (2, 55, 0, 0, 0)), (1, (2, 30, 0, 0, 0)), (2, (2, 48, 0, 0, 0))] [] M1
              refine hgo.2.1 9 _ [(4, (0, 0, 0, 8, s + 1)), (3, (0, 0, 0, 255, u)), (0, (2, 55, 0, 0, 0)), (1, (2, 30, 0, 0, 0)), (2, (2, 48, 0, 0, 0))] _ _ (xa_subI rfl rfl (fun _ _ _ _ => by omega) (xa_subI rfl rfl (fun _ _ _ _ => by omega) (xa_subR rfl (xa_subR rfl (xa_subR rfl (xa_sub0)))))) ?_
              have w9 := rz_w1 h48.2.2.2 c2
              exact ih (s + 1) u M1 (by omega) (by omega) hk ⟨by omega, h48.2.1, w9.1, h48.2.2.1, w9.2⟩ (rw_ni1 c2 hn) (by omega)
            · intro (c2 : g = 0)
              have w9 := rz_w0 h48.2.2.2 c2
              have ei : ((p.toNat : Nat) : Int) = p := Int.toNat_of_nonneg (by omega)
              have t9 : M1 31 s = T s := (hk 31 s (by decide) (by decide)).trans (hT s (by omega) (by omega))
              have l9 := hL s (by omega) (by omega)
              unfold nm_l at l9
              have q9 : M1 58 p = bk_n (C p) := (hk 58 p (by decide) (by decide)).trans (hC p (by omega) (by omega))
              have g9 := nm_bn (C p)
              show xa_C (xl_I b) A h0 _ 177 [(2, 55, 0, 0, 0), (2, 30, 0, 0, 0), (0, 0, 0, 8, s), (0, 0, 0, 255, u), (0, 0, 0, 8, p)] M1 _
              refine cg_177_55 (show 0 ≤ (M1 30 1) ∧ (M1 30 1) ≤ 80 by omega) (show 0 ≤ p ∧ p < 8 by omega) (show 0 ≤ s ∧ s < (M1 30 1) by omega) ?_ ?_
              · intro (i3 : (M1 31 s = 63 ∨ M1 31 s = M1 58 p) ∧ xa_ib 3 (xa_ib 7 u p) 1 = 0)
                have dF := nm_F8 (u := u) (p := p) (by omega) (by omega) (by omega) (by omega) i3.2
                have dG := nm_F (S := M 55 4) (u := u) (p := p) u1.1 p1.1 (by omega) hS.2 h48.2.1 i3.2
                have f9 : nm_o T C s u ((p.toNat : Nat) : Int) = true := by
                  rw [ei, nm_oi]
                  exact ⟨by omega, i3.2⟩
                have es := nm_s1 (F := nm_f T C (M 30 1) (M 55 4).toNat (M 30 1 - s - 1).toNat) f9
                rw [ei] at es
                have eg : M1 59 (xa_ib 4 u (xa_ib 6 1 p)) = nm_g T C (M 30 1) (M 55 4).toNat (xa_ib 4 u (xa_ib 6 1 p)) := (hk 59 (xa_ib 4 u (xa_ib 6 1 p)) (by decide) (by decide)).trans (hW (xa_ib 4 u (xa_ib 6 1 p)) (by omega) dG.2.1)
                have gs := nm_gs (T := T) (C := C) (N := M 30 1) (u := u) (v := (xa_ib 4 u (xa_ib 6 1 p))) (S := (M 55 4).toNat) (by omega) dG.2.2
                rw [w9.1, ← eg] at gs
                have b2 := (nm_fb (T := T) (C := C) (N := M 30 1) (S := (M 55 4).toNat) (f := (M 30 1 - s - 1).toNat) (by omega) (by omega) (xa_ib 4 u (xa_ib 6 1 p))).1
                rw [← gs] at es b2
                show xa_C (xl_I b) A h0 _ 23 [(2, 59, 0, 0, 0), (0, 0, (-2147483648), 2147483647, xa_ib 4 u (xa_ib 6 1 p))] M1 _
                refine cx_23_59 (show 0 ≤ (xa_ib 4 u (xa_ib 6 1 p)) ∧ (xa_ib 4 u (xa_ib 6 1 p)) < 256 by omega) ?_
                refine And.intro ?_ ?_
                · intro (c4 : (M1 59 (xa_ib 4 u (xa_ib 6 1 p))) ≤ 0)
                  show Q 24 [(6, (0, 0, 1, 9, p + 1)), (5, (0, 0, 0, 0, 0)), (4, (0, 0, 0, 8, s)), (3, (0, 0, 0, 255, u)), (0, (2, 55, 0, 0, 0)), (1, (2, 30, 0, 0, 0)), (2, (2, 48, 0, 0, 0))] [] M1
                  refine hgo.2.1 24 _ [(6, (0, 0, 0, 8, p + 1)), (5, (0, 0, 0, 1, 0)), (4, (0, 0, 0, 8, s)), (3, (0, 0, 0, 255, u)), (0, (2, 55, 0, 0, 0)), (1, (2, 30, 0, 0, 0)), (2, (2, 48, 0, 0, 0))] _ _ (xa_subI rfl rfl (fun _ _ _ _ => by omega) (xa_subI rfl rfl (fun _ _ _ _ => by omega) (xa_subI rfl rfl (fun _ _ _ _ => by omega) (xa_subI rfl rfl (fun _ _ _ _ => by omega) (xa_subR rfl (xa_subR rfl (xa_subR rfl (xa_sub0)))))))) ?_
                  exact ihf M1 u (p + 1) 0 (by omega) (by omega) (by omega) (fun q j h1 h2 => hk q j h1 h2) ⟨by omega, h48.2.1, h48.2.2.1, Or.inl ⟨rfl, w9.1, by rw [show (p + 1).toNat = p.toNat + 1 by omega, es]; omega, w9.2.2⟩⟩ (rw_ni0 c2 hn (fun h => by have q := h.2; rw [← gs] at q; omega)) (by omega)
                · intro (c4 : 0 < (M1 59 (xa_ib 4 u (xa_ib 6 1 p))))
                  show xa_C (xl_I b) A h0 _ 60 [(2, 48, 0, 0, 0), (1, 0, 0, 8, p)] M1 _
                  refine cx_60_48 (show (0 : Int) ≤ (M1 48 1) by omega) ?_ ?_
                  · intro (i5 : 16 ≤ (M1 48 1))
                    show Q 24 [(6, (0, 0, 1, 9, p + 1)), (3, (0, 0, (-2147483648), 2147483647, xa_ib 4 u (xa_ib 6 1 p))), (5, (0, 0, 1, 1, 1)), (4, (0, 0, 0, 8, s)), (0, (2, 55, 0, 0, 0)), (1, (2, 30, 0, 0, 0)), (2, (2, 48, 0, 0, 0))] [] M1
                    refine hgo.2.1 24 _ [(6, (0, 0, 0, 8, p + 1)), (5, (0, 0, 0, 1, 1)), (4, (0, 0, 0, 8, s)), (3, (0, 0, 0, 255, xa_ib 4 u (xa_ib 6 1 p))), (0, (2, 55, 0, 0, 0)), (1, (2, 30, 0, 0, 0)), (2, (2, 48, 0, 0, 0))] _ _ (xa_subI rfl rfl (fun _ _ _ _ => by omega) (xa_subI rfl rfl (fun _ _ _ _ => by omega) (xa_subI rfl rfl (fun _ _ _ _ => by omega) (xa_subI rfl rfl (fun _ _ _ _ => by omega) (xa_subR rfl (xa_subR rfl (xa_subR rfl (xa_sub0)))))))) ?_
                    exact ihf M1 (xa_ib 4 u (xa_ib 6 1 p)) (p + 1) 1 (by omega) (by omega) (by omega) (fun q j h1 h2 => hk q j h1 h2) (by exfalso; omega) (by exfalso; omega) (by omega)
                  · intro (i6 : (M1 48 1) < 16)
                    show Q 24 [(6, (0, 0, 1, 9, p + 1)), (3, (0, 0, (-2147483648), 2147483647, xa_ib 4 u (xa_ib 6 1 p))), (5, (0, 0, 1, 1, 1)), (4, (0, 0, 0, 8, s)), (0, (2, 55, 0, 0, 0)), (1, (2, 30, 0, 0, 0)), (2, (2, 48, 0, 0, 0))] [] (xa_up (xa_up M1 49 (M1 48 1) p) 48 1 (xa_w32 ((M1 48 1) + 1)))
                    have e9 := xa_w32_id (n := M1 48 1 + 1) (by omega) (by omega)
                    refine hgo.2.1 24 _ [(6, (0, 0, 0, 8, p + 1)), (5, (0, 0, 0, 1, 1)), (4, (0, 0, 0, 8, s)), (3, (0, 0, 0, 255, xa_ib 4 u (xa_ib 6 1 p))), (0, (2, 55, 0, 0, 0)), (1, (2, 30, 0, 0, 0)), (2, (2, 48, 0, 0, 0))] _ _ (xa_subI rfl rfl (fun _ _ _ _ => by omega) (xa_subI rfl rfl (fun _ _ _ _ => by omega) (xa_subI rfl rfl (fun _ _ _ _ => by omega) (xa_subI rfl rfl (fun _ _ _ _ => by omega) (xa_subR rfl (xa_subR rfl (xa_subR rfl (xa_sub0)))))))) ?_
                    exact ihf (xa_up (xa_up M1 49 (M1 48 1) p) 48 1 (xa_w32 ((M1 48 1) + 1))) (xa_ib 4 u (xa_ib 6 1 p)) (p + 1) 1 (by omega) (by omega) (by omega) (fun q j h1 h2 => (xa_up_ne (by omega)).trans ((xa_up_ne (by omega)).trans (hk q j h1 h2))) ⟨by omega, dG.2.1, by rw [← eg]; exact c4, Or.inr ⟨rfl, by omega, by show xa_w32 ((M1 48 1) + 1) = s + 1; omega⟩⟩ (rw_niT c2 hn (by omega) (by omega) (by omega) (by have q := f9; rw [ei] at q; exact q) (fun i i0 i1 => (xa_up_ne (by omega)).trans (xa_up_ne (by omega))) ((xa_up_ne (by omega)).trans (by rw [w9.2.2]; exact xa_up_eq))) (by omega)
              · intro (i7 : ¬ ((M1 31 s = 63 ∨ M1 31 s = M1 58 p) ∧ xa_ib 3 (xa_ib 7 u p) 1 = 0))
                have f9 : ¬ nm_o T C s u ((p.toNat : Nat) : Int) = true := fun h => by
                  rw [ei, nm_oi] at h
                  omega
                have es := nm_s0 (F := nm_f T C (M 30 1) (M 55 4).toNat (M 30 1 - s - 1).toNat) f9
                show Q 24 [(6, (0, 0, 1, 9, p + 1)), (5, (0, 0, 0, 0, 0)), (4, (0, 0, 0, 8, s)), (3, (0, 0, 0, 255, u)), (0, (2, 55, 0, 0, 0)), (1, (2, 30, 0, 0, 0)), (2, (2, 48, 0, 0, 0))] [] M1
                refine hgo.2.1 24 _ [(6, (0, 0, 0, 8, p + 1)), (5, (0, 0, 0, 1, 0)), (4, (0, 0, 0, 8, s)), (3, (0, 0, 0, 255, u)), (0, (2, 55, 0, 0, 0)), (1, (2, 30, 0, 0, 0)), (2, (2, 48, 0, 0, 0))] _ _ (xa_subI rfl rfl (fun _ _ _ _ => by omega) (xa_subI rfl rfl (fun _ _ _ _ => by omega) (xa_subI rfl rfl (fun _ _ _ _ => by omega) (xa_subI rfl rfl (fun _ _ _ _ => by omega) (xa_subR rfl (xa_subR rfl (xa_subR rfl (xa_sub0)))))))) ?_
                exact ihf M1 u (p + 1) 0 (by omega) (by omega) (by omega) (fun q j h1 h2 => hk q j h1 h2) ⟨by omega, h48.2.1, h48.2.2.1, Or.inl ⟨rfl, w9.1, by rw [show (p + 1).toNat = p.toNat + 1 by omega, es]; exact w9.2.1, w9.2.2⟩⟩ (rw_ni0 c2 hn (fun h => f9 (by rw [ei]; exact h.1))) (by omega)
      have e30 : M1 30 1 = M 30 1 := hk 30 1 (by decide) (by decide)
      have e4 : M1 55 4 = M 55 4 := hk 55 4 (by decide) (by decide)
      refine hgo.1 13 [9, 24] 9 _ _ _ ?_
      refine And.intro ?_ ?_
      · intro (c1 : (M1 30 1) ≤ s)
        show post none M1
        exact k M1 hk (by omega) (hn (M1 49) (fun _ _ _ => rfl) (by rw [show (M 30 1 - s).toNat = 0 by omega]; exact trivial))
      · intro (c1 : s < (M1 30 1))
        show Q 24 [(6, (0, 0, 0, 0, 0)), (5, (0, 0, 0, 0, 0)), (4, (0, 0, 0, 8, s)), (3, (0, 0, 0, 255, u)), (0, (2, 55, 0, 0, 0)), (1, (2, 30, 0, 0, 0)), (2, (2, 48, 0, 0, 0))] [] M1
        refine hgo.2.1 24 _ [(6, (0, 0, 0, 8, 0)), (5, (0, 0, 0, 1, 0)), (4, (0, 0, 0, 8, s)), (3, (0, 0, 0, 255, u)), (0, (2, 55, 0, 0, 0)), (1, (2, 30, 0, 0, 0)), (2, (2, 48, 0, 0, 0))] _ _ (xa_subI rfl rfl (fun _ _ _ _ => by omega) (xa_subI rfl rfl (fun _ _ _ _ => by omega) (xa_subI rfl rfl (fun _ _ _ _ => by omega) (xa_subI rfl rfl (fun _ _ _ _ => by omega) (xa_subR rfl (xa_subR rfl (xa_subR rfl (xa_sub0)))))))) ?_
        exact inner (by omega) 9 M1 u 0 0 (by omega) (by omega) (by omega) hk ⟨by omega, h48.2.1, h48.2.2.2.1, Or.inl ⟨rfl, h48.2.2.1, rfl, h48.2.2.2.2⟩⟩ (Or.inl ⟨rfl, hn, fun q q0 q1 => absurd q1 (by omega)⟩) (by omega)
  refine hgo.1 11 [9, 24] 0 _ _ _ ?_
  show xa_C (xl_I b) A h0 _ 59 [(2, 48, 0, 0, 0)] M _
  refine cx_59_48 ?_
  show Q 9 [(4, (0, 0, 0, 0, 0)), (3, (0, 0, 0, 0, 0)), (0, (2, 55, 0, 0, 0)), (1, (2, 30, 0, 0, 0)), (2, (2, 48, 0, 0, 0))] [] (xa_up M 48 1 0)
  refine hgo.2.1 9 _ [(4, (0, 0, 0, 8, 0)), (3, (0, 0, 0, 255, 0)), (0, (2, 55, 0, 0, 0)), (1, (2, 30, 0, 0, 0)), (2, (2, 48, 0, 0, 0))] _ _ (xa_subI rfl rfl (fun _ _ _ _ => by omega) (xa_subI rfl rfl (fun _ _ _ _ => by omega) (xa_subR rfl (xa_subR rfl (xa_subR rfl (xa_sub0)))))) ?_
  exact loop 9 0 0 _ (by omega) (by omega) (fun q j h1 h2 => xa_up_ne (by omega)) ⟨by omega, by have q9 := (nm_P hS.1 hS.2).2.1; omega, by decide +kernel, by rw [← hW 0 (by omega) (by have q9 := (nm_P hS.1 hS.2).2.1; omega)]; exact hW0, xa_up_eq⟩ (fun V _ h => by rw [Int.sub_zero] at h; exact h) (by omega)
theorem rw_175_55 {b : Bool} {A : Nat → Nat} {h0 : g_H} {d : Nat} {M : xa_M} {post : Option xa_V → xa_M → Prop} {T C : Int → Int} (hT : (∀ i, 0 ≤ i → i < 80 → M 31 i = T i)) (hC : ∀ i, 0 ≤ i → i < M 55 4 → M 58 i = bk_n (C i)) (hz : 0 ≤ M 30 1 ∧ M 30 1 ≤ 80) (hS : 0 ≤ M 55 4 ∧ M 55 4 ≤ 8) (k : ∀ (r : Int) (M1 : xa_M), nm_R T C (M 30 1) (M 55 4).toNat r → (∀ q j, ¬ q = 48 → ¬ q = 49 → ¬ q = 59 → M1 q j = M q j) → rw_k (0 < r) (M 48 1) (M 49) (M1 48 1) (M1 49) (M 30 1) (rw_nw T C (M 30 1) (M 55 4).toNat (M 30 1).toNat 0) → post (some (0, 0, (-2147483648), 2147483647, r)) M1) : xa_C (xl_I b) A h0 (d + 6) 175 [(2, 55, 0, 0, 0), (2, 30, 0, 0, 0), (2, 48, 0, 0, 0)] M post := by
  refine xa_C_wk ?_
  refine xa_meth (Q0 := (4, 1, false, 0, 0, 0)) (by decide +kernel) ⟨rfl, rfl⟩ (full := s_c_175) rfl rfl ?_
  intro hM hv Q hgo
  have loop : ∀ (f : Nat) (i : Int), 0 ≤ i ∧ i ≤ 8 → i ≤ M 30 1 → (∀ j, 0 ≤ j → j < i → nm_l (T j)) → 8 - i < (f : Int) → Q 2 [(3, (0, 0, 0, 8, i)), (0, (2, 55, 0, 0, 0)), (1, (2, 30, 0, 0, 0)), (2, (2, 48, 0, 0, 0))] [] M := by
    intro f
    induction f with
    | zero => intro i i1 i2 hg hms; omega
    | succ f ih =>
      intro i i1 i2 hg hms
      refine hgo.1 27 [2] 2 _ _ _ ?_
      refine And.intro ?_ ?_
      · intro (c1 : (M 30 1) ≤ i)
        refine And.intro ?_ ?_
        · intro (c2 : ¬ (M 30 1) = 0)
          have hN1 : 1 ≤ M 30 1 ∧ M 30 1 ≤ 8 := by omega
          have hL1 : ∀ j, 0 ≤ j → j < M 30 1 → nm_l (T j) := (fun j j0 j1 => hg j j0 (by omega))
          have hP := nm_P hS.1 hS.2
          show xa_C (xl_I b) A h0 _ 176 [(2, 55, 0, 0, 0), (2, 30, 0, 0, 0)] M _
          refine cx_176_55 hT hC hN1 hS hL1 ?_
          intro M156 (i3 : ∀ q j, ¬ q = 59 → M156 q j = M q j) (i4 : ∀ v, 0 ≤ v → v < xa_ib 6 1 (M 55 4) → M156 59 v = nm_g T C (M 30 1) (M 55 4).toNat v)
          have x30 : M156 30 1 = M 30 1 := i3 30 1 (by decide)
          have x4 : M156 55 4 = M 55 4 := i3 55 4 (by decide)
          show xa_C (xl_I b) A h0 _ 23 [(2, 59, 0, 0, 0), (0, 0, 0, 0, 0)] M156 _
          refine cx_23_59 (show 0 ≤ 0 ∧ 0 < 256 by omega) ?_
          refine And.intro ?_ ?_
          · intro (c5 : (M156 59 0) ≤ 0)
            show xa_wk post (some (0, 0, (-2147483648), 2147483647, M156 59 0)) M156
            exact xa_wkI _ rfl (fun _ _ => by omega) (k _ _ (Or.inr ⟨(fun j j0 j1 => hg j j0 (by omega)), by omega, Or.inr ⟨by omega, (i4 0 (by omega) (by omega)).trans (nm_g0 (by omega))⟩⟩) (fun q j h1 h2 h3 => i3 q j h3) (rw_no (by omega) (i3 48 1 (by decide)) (fun i _ _ => i3 49 i (by decide))))
          · intro (c5 : 0 < (M156 59 0))
            show xa_C (xl_I b) A h0 _ 178 [(2, 55, 0, 0, 0), (2, 30, 0, 0, 0), (2, 48, 0, 0, 0)] M156 _
            refine rw_178_55 (T := T) (C := C) (by rw [x30]; omega) (by rw [x4]; omega) (fun i i0 i1 => (i3 31 i (by decide)).trans (hT i i0 i1)) (fun i i0 i1 => (i3 58 i (by decide)).trans (hC i i0 (by omega))) (fun i i0 i1 => hL1 i i0 (by omega)) (by rw [x30, x4]; exact i4) c5 ?_
            intro M157 (i6 : ∀ q j, ¬ q = 48 → ¬ q = 49 → M157 q j = M156 q j) (z9 : M157 48 1 = M156 30 1) (v9 : rw_nw T C (M156 30 1) (M156 55 4).toNat (M156 30 1).toNat 0 (M157 49))
            show xa_wk post (some (0, 0, (-2147483648), 2147483647, M156 59 0)) M157
            exact xa_wkI _ rfl (fun _ _ => by omega) (k _ _ (Or.inr ⟨(fun j j0 j1 => hg j j0 (by omega)), by omega, Or.inr ⟨by omega, (i4 0 (by omega) (by omega)).trans (nm_g0 (by omega))⟩⟩) (fun q j h1 h2 h3 => (i6 q j h1 h2).trans (i3 q j h3)) (rw_yes (V := M157 49) (by omega) (z9.trans x30) (fun _ _ _ => rfl) (by rw [x30, x4] at v9; exact v9)))
        · intro (c2 : (M 30 1) = 0)
          show xa_wk post (some (0, 0, (-100), (-100), (-100))) M
          exact xa_wkI (-100) rfl (fun _ _ => by omega) (k _ _ (Or.inr ⟨(fun j j0 j1 => hg j j0 (by omega)), by omega, Or.inl ⟨by omega, rfl⟩⟩) (fun _ _ _ _ _ => rfl) (rw_no (by omega) rfl (fun _ _ _ => rfl)))
      · intro (c1 : i < (M 30 1))
        refine And.intro ?_ ?_
        · intro (c7 : 8 ≤ i)
          show xa_wk post (some (0, 0, (-108), (-100), (-100) - i)) M
          have t9 := hT i (by omega) (by omega)
          exact xa_wkI _ rfl (fun _ _ => by omega) (k _ _ (Or.inl ⟨i, by omega, by omega, by omega, by unfold nm_l; omega, hg, by omega⟩) (fun _ _ _ _ _ => rfl) (rw_no (by omega) rfl (fun _ _ _ => rfl)))
        · intro (c7 : i < 8)
          show xa_C (xl_I b) A h0 _ 120 [(2, 30, 0, 0, 0), (0, 0, 0, 8, i)] M _
          refine cg_120 (show 0 ≤ (M 30 1) ∧ (M 30 1) ≤ 80 by omega) ?_ ?_
          · intro (i8 : (0 ≤ i ∧ i < (M 30 1)) ∧ 97 ≤ M 31 i ∧ M 31 i ≤ 122)
            show Q 2 [(3, (0, 0, 1, 9, i + 1)), (0, (2, 55, 0, 0, 0)), (1, (2, 30, 0, 0, 0)), (2, (2, 48, 0, 0, 0))] [] M
            have t9 := hT i (by omega) (by omega)
            refine hgo.2.1 2 _ [(3, (0, 0, 0, 8, i + 1)), (0, (2, 55, 0, 0, 0)), (1, (2, 30, 0, 0, 0)), (2, (2, 48, 0, 0, 0))] _ _ (xa_subI rfl rfl (fun _ _ _ _ => by omega) (xa_subR rfl (xa_subR rfl (xa_subR rfl (xa_sub0))))) ?_
            exact ih (i + 1) (by omega) (by omega) (fun j j0 j1 => by
              by_cases e : j = i
              · rw [e]
                unfold nm_l
                omega
              · exact hg j j0 (by omega)) (by omega)
          · intro (i9 : ¬ ((0 ≤ i ∧ i < (M 30 1)) ∧ 97 ≤ M 31 i ∧ M 31 i ≤ 122))
            show xa_C (xl_I b) A h0 _ 172 [(2, 30, 0, 0, 0), (0, 0, 0, 8, i)] M _
            refine cg_172 (show 0 ≤ (M 30 1) ∧ (M 30 1) ≤ 80 by omega) ?_ ?_
            · intro (i10 : (0 ≤ i ∧ i < (M 30 1)) ∧ M 31 i = 63)
              show Q 2 [(3, (0, 0, 1, 9, i + 1)), (0, (2, 55, 0, 0, 0)), (1, (2, 30, 0, 0, 0)), (2, (2, 48, 0, 0, 0))] [] M
              have t9 := hT i (by omega) (by omega)
              refine hgo.2.1 2 _ [(3, (0, 0, 0, 8, i + 1)), (0, (2, 55, 0, 0, 0)), (1, (2, 30, 0, 0, 0)), (2, (2, 48, 0, 0, 0))] _ _ (xa_subI rfl rfl (fun _ _ _ _ => by omega) (xa_subR rfl (xa_subR rfl (xa_subR rfl (xa_sub0))))) ?_
              exact ih (i + 1) (by omega) (by omega) (fun j j0 j1 => by
                by_cases e : j = i
                · rw [e]
                  unfold nm_l
                  omega
                · exact hg j j0 (by omega)) (by omega)
            · intro (i11 : ¬ ((0 ≤ i ∧ i < (M 30 1)) ∧ M 31 i = 63))
              show xa_wk post (some (0, 0, (-108), (-100), (-100) - i)) M
              have t9 := hT i (by omega) (by omega)
              exact xa_wkI _ rfl (fun _ _ => by omega) (k _ _ (Or.inl ⟨i, by omega, by omega, by omega, by unfold nm_l; omega, hg, by omega⟩) (fun _ _ _ _ _ => rfl) (rw_no (by omega) rfl (fun _ _ _ => rfl)))
  refine hgo.1 7 [2] 0 _ _ _ ?_
  show Q 2 [(3, (0, 0, 0, 0, 0)), (0, (2, 55, 0, 0, 0)), (1, (2, 30, 0, 0, 0)), (2, (2, 48, 0, 0, 0))] [] M
  refine hgo.2.1 2 _ [(3, (0, 0, 0, 8, 0)), (0, (2, 55, 0, 0, 0)), (1, (2, 30, 0, 0, 0)), (2, (2, 48, 0, 0, 0))] _ _ (xa_subI rfl rfl (fun _ _ _ _ => by omega) (xa_subR rfl (xa_subR rfl (xa_subR rfl (xa_sub0))))) ?_
  exact loop 9 0 (by omega) (by omega) (fun j j0 j1 => by omega) (by omega)
theorem rw_174_55 {A : Nat → Nat} {h0 : g_H} {d : Nat} {M : xa_M} {post : Option xa_V → xa_M → Prop} {T C : Int → Int} (hT : (∀ i, 0 ≤ i → i < 80 → M 31 i = T i)) (hC : ∀ i, 0 ≤ i → i < M 55 4 → M 58 i = bk_n (C i)) (hz : 0 ≤ M 30 1 ∧ M 30 1 ≤ 80) (hS : 0 ≤ M 55 4 ∧ M 55 4 ≤ 8) (k : ∀ (r : Int) (M1 : xa_M), nm_R T C (M 30 1) (M 55 4).toNat r → M1 30 1 = 0 → (∀ q j, ¬ q = 48 → ¬ q = 49 → ¬ q = 54 → ¬ q = 59 → ¬ (q = 30 ∧ j = 1) → ¬ (q = 60 ∧ j = 21) → M1 q j = M q j) → rw_k (0 < r) (M 48 1) (M 49) (M1 48 1) (M1 49) (M 30 1) (rw_nw T C (M 30 1) (M 55 4).toNat (M 30 1).toNat 0) → post (some (0, 0, (-2147483648), 2147483647, r)) M1) : xa_C (xl_I true) A h0 (d + 7) 174 [(2, 0, 0, 0, 0)] M post := by
  refine xa_C_wk ?_
  refine xa_meth (Q0 := (2, 1, false, 0, 0, 11)) (by decide +kernel) ⟨rfl, rfl⟩ (full := s_c_174) rfl rfl ?_
  intro hM hv Q hgo
  refine hgo.1 19 [] 0 _ _ _ ?_
  show xa_C (xl_I true) A h0 _ 175 [(2, 55, 0, 0, 0), (2, 30, 0, 0, 0), (2, 48, 0, 0, 0)] M _
  refine rw_175_55 hT hC hz hS ?_
  intro r158 M159 (i1 : nm_R T C (M 30 1) (M 55 4).toNat r158) (i2 : ∀ q j, ¬ q = 48 → ¬ q = 49 → ¬ q = 59 → M159 q j = M q j) (z9 : rw_k (0 < r158) (M 48 1) (M 49) (M159 48 1) (M159 49) (M 30 1) (rw_nw T C (M 30 1) (M 55 4).toNat (M 30 1).toNat 0))
  show xa_C (xl_I true) A h0 _ 113 [(2, 30, 0, 0, 0), (0, 0, 0, 0, 0)] M159 _
  refine cx_113f ?_
  intro n160 M161 (i3 : lt_E M159 30 1 (M159 30 1) 0 n160 M161)
  show xa_wk post (some (0, 0, (-2147483648), 2147483647, r158)) M161
  have z30 : 0 ≤ M159 30 1 := by rw [i2 30 1 (by decide) (by decide) (by decide)]; exact hz.1
  obtain ⟨h4, h5⟩ := le_cut z30 i3
  exact xa_wkI _ rfl (fun _ _ => by omega) (k _ _ i1 h4 (fun q j h1 h2 h3 h6 h7 h8 => (h5 q j h7 h8).trans (i2 q j h1 h2 h6)) (rw_k_e (h5 48 1 (by omega) (by omega)) (funext (fun i => h5 49 i (by omega) (by omega))) z9))
theorem rw_174x {b : Bool} {A : Nat → Nat} {h0 : g_H} {d : Nat} {M : xa_M} {post : Option xa_V → xa_M → Prop} {T C : Int → Int} (hT : (∀ i, 0 ≤ i → i < 80 → M 31 i = T i)) (hC : ∀ i, 0 ≤ i → i < M (bk_p b) 4 → M (bk_p b + 3) i = bk_n (C i)) (hz : 0 ≤ M 30 1 ∧ M 30 1 ≤ 80) (hS : 0 ≤ M (bk_p b) 4 ∧ M (bk_p b) 4 ≤ 8) (k : ∀ (r : Int) (M1 : xa_M), nm_R T C (M 30 1) (M (bk_p b) 4).toNat r → M1 30 1 = 0 → (∀ q j, ¬ q = 48 → ¬ q = 49 → ¬ q = 54 → ¬ q = 59 → ¬ (q = 30 ∧ j = 1) → ¬ (q = 60 ∧ j = 21) → M1 q j = M q j) → rw_k (0 < r) (M 48 1) (M 49) (M1 48 1) (M1 49) (M 30 1) (rw_nw T C (M 30 1) (M (bk_p b) 4).toNat (M 30 1).toNat 0) → post (some (0, 0, (-2147483648), 2147483647, r)) M1) : xa_C (xl_I b) A h0 (d + 7) 174 [(2, 0, 0, 0, 0)] M post := by
  cases b
  · exact rw_174_50 hT hC hz hS k
  · exact rw_174_55 hT hC hz hS k
theorem rw_namesFrom {T : Int → Int} {s0 : Int} {R0 : Int → Int} {P : (Int → Int) → Prop} : ∀ (n : Nat) {A : Nat → Nat} {h0 : g_H} {d : Nat} {M : xa_M} {post : Option xa_V → xa_M → Prop} {l1 u1 l2 u2 l3 u3 : Int} {a m u : Int}, m - a = (n : Int) → 0 ≤ a → m ≤ 8 → (∀ i, 0 ≤ i → i < m → T i = M 73 i) → 0 ≤ M 60 53 → M 60 53 + nm_f T (M 72) m (M 60 11).toNat n u ≤ 2147483647 → rw_g m s0 R0 P (M 60 53) (M 60 20) (M 74) → (M 60 53 = 0 → rw_nc T (M 72) m (M 60 11).toNat P a u (M 95)) → (∀ M1 : xa_M, xm_cor M M1 → M1 60 53 = M 60 53 + nm_f T (M 72) m (M 60 11).toNat n u → rw_g m s0 R0 P (M1 60 53) (M1 60 20) (M1 74) → (∀ i : Int, 0 ≤ i → i < a → M1 95 i = M 95 i) → post none M1) → xa_C xm_I A h0 (d + n + 2) 282 [(2, 60, 0, 0, 0), (0, 0, l1, u1, a), (0, 0, l2, u2, m), (0, 0, l3, u3, u)] M post := by
  intro n
  induction n with
  | zero =>
    intro A h0 d M post l1 u1 l2 u2 l3 u3 a m u hn a0 m8 hT h53 hb hg hcc kk
    refine xa_C_arg [(2, 60, 0, 0, 0), (0, 0, 0, 8, a), (0, 0, 0, 8, m), (0, 0, (-2147483648), 2147483647, u)] (xa_svR (xa_svI (fun _ _ _ _ => by omega) (xa_svI (fun _ _ _ _ => by omega) (xa_svI (fun _ _ _ _ => by omega) xa_sv0)))) ?_
    refine xa_meth (Q0 := (5, 0, false, 0, 0, 12)) (by decide +kernel) ⟨rfl, rfl⟩ (full := s_c_282) rfl rfl ?_
    intro hM _ Q hgo
    have f0 : nm_f T (M 72) m (M 60 11).toNat 0 u = 1 := rfl
    have loop1 : M 60 53 = 0 → ∀ (n : Nat) (x4 : Int) (M1 : xa_M), 0 ≤ x4 ∧ x4 ≤ 8 → xm_cor M M1 → (M1 60 20 = x4 ∧ x4 ≤ m) → M1 60 53 = M 60 53 → ((∀ i : Int, 0 ≤ i → i < x4 → M1 74 i = M 95 i) ∧ ∀ i : Int, M1 95 i = M 95 i) → 8 - x4 < (n : Int) → Q 20 [(4, (0, 0, 0, 8, x4)), (2, (0, 0, 0, 8, m)), (0, (2, 60, 0, 0, 0))] [] M1 := by
      intro cc n
      induction n with
      | zero => intro x4 M1 b4 hc h20 h539 hV hms; omega
      | succ n ih1 =>
        intro x4 M1 b4 hc h20 h539 hV hms
        have w9 : xa_w32 ((M1 60 53) + 1) = M1 60 53 + 1 := xa_w32_id (by omega) (by omega)
        refine hgo.2.2 _ _ _ _ (fun hM1 _ => ?_)
        have b20 := xm_f20 hM1
        refine hgo.1 17 [20, 58] 20 _ _ _ ?_
        refine And.intro ?_ ?_
        · intro (c1 : m ≤ x4)
          show post none (xa_up M1 60 53 (xa_w32 ((M1 60 53) + 1)))
          exact kk _ (xm_cor_f (by omega) hc) (by rw [xa_up_eq, w9]; omega) (Or.inr ⟨by rw [xa_up_eq, w9]; omega, (xa_up_ne (by omega)).trans (by omega), hcc cc _ (fun i i0 i1 => (xa_up_ne (by omega)).trans (hV.1 i i0 (by omega))) (by rw [show (m - a).toNat = 0 by omega]; exact trivial)⟩) (fun i _ _ => (xa_up_ne (by omega)).trans (hV.2 i))
        · intro (c1 : x4 < m)
          refine And.intro (show 0 ≤ x4 ∧ x4 < 8 by omega) ?_
          show xa_C xm_I A h0 _ 231 [(2, 60, 0, 0, 0), (1, 0, 0, 7, M1 95 x4)] M1 _
          refine ct_tell (n := (M1 60 20)) (by first | rfl | (simp [xa_up]; done) | omega) (by omega) (by omega) ?_
          show Q 20 [(4, (0, 0, 1, 9, x4 + 1)), (2, (0, 0, 0, 8, m)), (0, (2, 60, 0, 0, 0))] [] (xa_up (xa_up M1 74 (M1 60 20) (M1 95 x4)) 60 20 ((M1 60 20) + 1))
          refine hgo.2.1 20 _ [(4, (0, 0, 0, 8, x4 + 1)), (2, (0, 0, 0, 8, m)), (0, (2, 60, 0, 0, 0))] _ _ (xa_subI rfl rfl (fun _ _ _ _ => by omega) (xa_subI rfl rfl (fun _ _ _ _ => by omega) (xa_subR rfl xa_sub0))) ?_
          exact ih1 (x4 + 1) (xa_up (xa_up M1 74 (M1 60 20) (M1 95 x4)) 60 20 ((M1 60 20) + 1)) (by omega) (xm_cor_f (by omega) (xm_cor_a rfl hc)) ⟨by rw [xa_up_eq]; omega, by omega⟩ ((xa_up_ne (by omega)).trans ((xa_up_ne (by omega)).trans h539)) ⟨fun i i0 i1 => by
            refine (xa_up_ne (by omega)).trans ?_
            by_cases e : i = M1 60 20
            · rw [e, xa_up_eq, hV.2, h20.1]
            · exact (xa_up_ne (by omega)).trans (hV.1 i i0 (by omega)), fun i => (xa_up_ne (by omega)).trans ((xa_up_ne (by omega)).trans (hV.2 i))⟩ (by omega)
    refine hgo.1 17 [20, 58] 0 _ _ _ ?_
    refine And.intro ?_ ?_
    · intro (c1 : ¬ a = m)
      show Q 58 [(4, (0, 0, 0, 0, 0)), (0, (2, 60, 0, 0, 0)), (1, (0, 0, 0, 8, a)), (2, (0, 0, 0, 8, m)), (3, (0, 0, (-2147483648), 2147483647, u))] [] M
      exfalso
      omega
    · intro (c1 : a = m)
      refine And.intro ?_ ?_
      · intro (c2 : ¬ (M 60 53) = 0)
        show post none (xa_up M 60 53 (xa_w32 ((M 60 53) + 1)))
        exact kk _ (xm_cor_f (by omega) xm_cor_r) (by rw [xa_up_eq, xa_w32_id (by omega) (by omega)]; omega) (rw_g1 hg c2 h53 (by rw [xa_up_eq, xa_w32_id (by omega) (by omega)]) (xa_up_ne (by omega)) (funext (fun i => xa_up_ne (by omega)))) (fun i _ _ => xa_up_ne (by omega))
      · intro (c2 : (M 60 53) = 0)
        show Q 20 [(4, (0, 0, 0, 0, 0)), (0, (2, 60, 0, 0, 0)), (1, (0, 0, 0, 8, a)), (2, (0, 0, 0, 8, m)), (3, (0, 0, (-2147483648), 2147483647, u))] [] (xa_up M 60 20 0)
        refine hgo.2.1 20 _ [(4, (0, 0, 0, 8, 0)), (2, (0, 0, 0, 8, m)), (0, (2, 60, 0, 0, 0))] _ _ (xa_subI rfl rfl (fun _ _ _ _ => by omega) (xa_subI rfl rfl (fun _ _ _ _ => by omega) (xa_subR rfl xa_sub0))) ?_
        exact loop1 c2 9 0 (xa_up M 60 20 0) (by omega) (xm_cor_f (by omega) xm_cor_r) ⟨xa_up_eq, by omega⟩ (xa_up_ne (by omega)) ⟨fun i i0 i1 => absurd i1 (by omega), fun i => xa_up_ne (by omega)⟩ (by omega)
  | succ n ih =>
    intro A h0 d M post l1 u1 l2 u2 l3 u3 a m u hn a0 m8 hT h53 hb hg hcc kk
    refine xa_C_arg [(2, 60, 0, 0, 0), (0, 0, 0, 7, a), (0, 0, 0, 8, m), (0, 0, (-2147483648), 2147483647, u)] (xa_svR (xa_svI (fun _ _ _ _ => by omega) (xa_svI (fun _ _ _ _ => by omega) (xa_svI (fun _ _ _ _ => by omega) xa_sv0)))) ?_
    refine xa_meth (d := d + n + 2) (Q0 := (5, 0, false, 0, 0, 12)) (by decide +kernel) ⟨rfl, rfl⟩ (full := s_c_282) rfl rfl ?_
    intro hM _ Q hgo
    have b11 := xm_f11 hM
    have ef : nm_f T (M 72) m (M 60 11).toNat (n + 1) u = nm_s T (M 72) a u (nm_f T (M 72) m (M 60 11).toNat n) (M 60 11).toNat := by
      rw [nm_f1, show m - ((n + 1 : Nat) : Int) = a by omega]
    rw [ef] at hb kk
    have hf0 := fun x => (nm_f_b (T := T) (C := M 72) (N := m) (S := (M 60 11).toNat) (by omega) n x).1
    have loop2 : ∀ (n3 : Nat) (x4 : Int) (M1 : xa_M), 0 ≤ x4 ∧ x4 ≤ 8 → xm_cor M M1 → rw_g m s0 R0 P (M1 60 53) (M1 60 20) (M1 74) → (∀ i : Int, 0 ≤ i → i < a → M1 95 i = M 95 i) → x4 ≤ M 60 11 → M1 60 53 = M 60 53 + nm_s T (M 72) a u (nm_f T (M 72) m (M 60 11).toNat n) x4.toNat → 8 - x4 < (n3 : Int) → Q 58 [(4, (0, 0, 0, 8, x4)), (1, (0, 0, 0, 7, a)), (2, (0, 0, 0, 8, m)), (3, (0, 0, (-2147483648), 2147483647, u)), (0, (2, 60, 0, 0, 0))] [] M1 := by
      intro n2
      induction n2 with
      | zero => intro x4 M1 b4 hc hg1 h95 h11 hs hms; omega
      | succ n2 ih2 =>
        intro x4 M1 b4 hc hg1 h95 h11 hs hms
        have ei : ((x4.toNat : Nat) : Int) = x4 := Int.toNat_of_nonneg (by omega)
        have e73 : M1 73 a = M 73 a := hc 73 a (by unfold xm_scr; omega)
        have e72 : M1 72 x4 = M 72 x4 := hc 72 x4 (by unfold xm_scr; omega)
        have tA := hT a (by omega) (by omega)
        have e11 := xm_corf hc 11 (by omega)
        refine hgo.1 46 [20, 58] 58 _ _ _ ?_
        refine And.intro ?_ ?_
        · intro (c1 : (M1 60 11) ≤ x4)
          show post none M1
          exact kk _ hc (by rw [hs, show x4 = M 60 11 by omega]) hg1 h95
        · intro (c1 : x4 < (M1 60 11))
          show xa_C xm_I A h0 _ 248 [(0, 0, (-2147483648), 2147483647, u), (0, 0, 0, 8, x4)] M1 _
          refine ct_has (fun r2 zr2 er2 => ?_)
          refine And.intro ?_ ?_
          · intro (c3 : ¬ r2 = 0)
            show Q 58 [(4, (0, 0, 1, 9, x4 + 1)), (1, (0, 0, 0, 7, a)), (2, (0, 0, 0, 8, m)), (3, (0, 0, (-2147483648), 2147483647, u)), (0, (2, 60, 0, 0, 0))] [] M1
            refine hgo.2.1 58 _ [(4, (0, 0, 0, 8, x4 + 1)), (1, (0, 0, 0, 7, a)), (2, (0, 0, 0, 8, m)), (3, (0, 0, (-2147483648), 2147483647, u)), (0, (2, 60, 0, 0, 0))] _ _ (xa_subI rfl rfl (fun _ _ _ _ => by omega) (xa_subI rfl rfl (fun _ _ _ _ => by omega) (xa_subI rfl rfl (fun _ _ _ _ => by omega) (xa_subI rfl rfl (fun _ _ _ _ => by omega) (xa_subR rfl xa_sub0))))) ?_
            have f9 : ¬ nm_o T (M 72) a u ((x4.toNat : Nat) : Int) = true := fun h => by
              rw [ei, nm_oi] at h
              have e9 := nm_bit (u := u) (p := x4) (by omega) (by omega)
              omega
            exact ih2 (x4 + 1) M1 (by omega) hc hg1 h95 (by omega) (by rw [hs, show (x4 + 1).toNat = x4.toNat + 1 by omega, nm_s0 f9]) (by omega)
          · intro (c3 : r2 = 0)
            refine And.intro ?_ ?_
            · intro (c4 : (M1 73 a) = 63)
              refine And.intro (show 0 ≤ x4 ∧ x4 ≤ 7 by omega) ?_
              show xa_C xm_I A h0 _ 282 [(2, 60, 0, 0, 0), (0, 0, 1, 8, a + 1), (0, 0, 0, 8, m), (0, 0, (-2147483648), 2147483647, xa_ib 4 u (xa_ib 6 1 x4))] (xa_up M1 95 a x4) _
              have e9 := nm_bit (u := u) (p := x4) (by omega) (by omega)
              have f9 : nm_o T (M 72) a u ((x4.toNat : Nat) : Int) = true := by
                rw [ei, nm_oi]
                omega
              have s9 := nm_s1 (F := nm_f T (M 72) m (M 60 11).toNat n) f9
              rw [ei] at s9
              have m9 := nm_s_m (T := T) (C := M 72) (s := a) (u := u) hf0 (x4.toNat + 1) ((M 60 11).toNat - (x4.toNat + 1))
              rw [show x4.toNat + 1 + ((M 60 11).toNat - (x4.toNat + 1)) = (M 60 11).toNat by omega, s9] at m9
              have z9 := (nm_s_b (T := T) (C := M 72) (s := a) (u := u) (nm_f_b (T := T) (C := M 72) (N := m) (S := (M 60 11).toNat) (by omega) n) x4.toNat).1
              have g72 : (xa_up M1 95 a x4) 72 = M 72 := funext (fun j => (xa_up_ne (by omega)).trans (hc 72 j (by unfold xm_scr; omega)))
              have g11 : (xa_up M1 95 a x4) 60 11 = M 60 11 := (xa_up_ne (by omega)).trans e11
              have g53 : (xa_up M1 95 a x4) 60 53 = M1 60 53 := xa_up_ne (by omega)
              have g20 : (xa_up M1 95 a x4) 60 20 = M1 60 20 := xa_up_ne (by omega)
              have g74 : (xa_up M1 95 a x4) 74 = M1 74 := funext (fun j => xa_up_ne (by omega))
              refine ih (d := d) (by omega) (by omega) (by omega) (fun i i0 i1 => (hT i i0 i1).trans (((xa_up_ne (by omega)).trans (hc 73 i (by unfold xm_scr; omega))).symm)) (by rw [g53]; omega) (by rw [g72, g11, g53]; omega) (by rw [g53, g20, g74]; exact hg1) (fun z => by
                rw [g53] at z
                rw [g72, g11]
                exact rw_nc_s (f := n) (by omega) (by omega) (by omega) (by omega) (by have q := f9; rw [ei] at q; exact q) (fun q q0 q1 => rw_ns0 hf0 (fun k => (nm_s_b (T := T) (C := M 72) (s := a) (u := u) (nm_f_b (T := T) (C := M 72) (N := m) (S := (M 60 11).toNat) (by omega) n) k).1) (k := x4.toNat) (by omega) q q0 (by omega)) (fun i i0 i1 => (xa_up_ne (by omega)).trans (h95 i i0 i1)) xa_up_eq (hcc (by omega))) (fun M5 hc5 hv9 hg5 h95b => ?_)
              rw [g72, g11, g53] at hv9
              show Q 58 [(4, (0, 0, 1, 9, x4 + 1)), (1, (0, 0, 0, 7, a)), (2, (0, 0, 0, 8, m)), (3, (0, 0, (-2147483648), 2147483647, u)), (0, (2, 60, 0, 0, 0))] [] M5
              refine hgo.2.1 58 _ [(4, (0, 0, 0, 8, x4 + 1)), (1, (0, 0, 0, 7, a)), (2, (0, 0, 0, 8, m)), (3, (0, 0, (-2147483648), 2147483647, u)), (0, (2, 60, 0, 0, 0))] _ _ (xa_subI rfl rfl (fun _ _ _ _ => by omega) (xa_subI rfl rfl (fun _ _ _ _ => by omega) (xa_subI rfl rfl (fun _ _ _ _ => by omega) (xa_subI rfl rfl (fun _ _ _ _ => by omega) (xa_subR rfl xa_sub0))))) ?_
              exact ih2 (x4 + 1) M5 (by omega) (xm_cor_t (xm_cor_a rfl hc) hc5) hg5 (fun i i0 i1 => (h95b i i0 (by omega)).trans ((xa_up_ne (by omega)).trans (h95 i i0 i1))) (by omega) (by rw [show (x4 + 1).toNat = x4.toNat + 1 by omega, s9, hv9, hs]; omega) (by omega)
            · intro (c4 : ¬ (M1 73 a) = 63)
              refine And.intro (show 0 ≤ x4 ∧ x4 < 8 by omega) ?_
              refine And.intro ?_ ?_
              · intro (c6 : (M1 73 a) = (M1 72 x4))
                refine And.intro (show 0 ≤ x4 ∧ x4 ≤ 7 by omega) ?_
                show xa_C xm_I A h0 _ 282 [(2, 60, 0, 0, 0), (0, 0, 1, 8, a + 1), (0, 0, 0, 8, m), (0, 0, (-2147483648), 2147483647, xa_ib 4 u (xa_ib 6 1 x4))] (xa_up M1 95 a x4) _
                have e9 := nm_bit (u := u) (p := x4) (by omega) (by omega)
                have f9 : nm_o T (M 72) a u ((x4.toNat : Nat) : Int) = true := by
                  rw [ei, nm_oi]
                  omega
                have s9 := nm_s1 (F := nm_f T (M 72) m (M 60 11).toNat n) f9
                rw [ei] at s9
                have m9 := nm_s_m (T := T) (C := M 72) (s := a) (u := u) hf0 (x4.toNat + 1) ((M 60 11).toNat - (x4.toNat + 1))
                rw [show x4.toNat + 1 + ((M 60 11).toNat - (x4.toNat + 1)) = (M 60 11).toNat by omega, s9] at m9
                have z9 := (nm_s_b (T := T) (C := M 72) (s := a) (u := u) (nm_f_b (T := T) (C := M 72) (N := m) (S := (M 60 11).toNat) (by omega) n) x4.toNat).1
                have g72 : (xa_up M1 95 a x4) 72 = M 72 := funext (fun j => (xa_up_ne (by omega)).trans (hc 72 j (by unfold xm_scr; omega)))
                have g11 : (xa_up M1 95 a x4) 60 11 = M 60 11 := (xa_up_ne (by omega)).trans e11
                have g53 : (xa_up M1 95 a x4) 60 53 = M1 60 53 := xa_up_ne (by omega)
                have g20 : (xa_up M1 95 a x4) 60 20 = M1 60 20 := xa_up_ne (by omega)
                have g74 : (xa_up M1 95 a x4) 74 = M1 74 := funext (fun j => xa_up_ne (by omega))
                refine ih (d := d) (by omega) (by omega) (by omega) (fun i i0 i1 => (hT i i0 i1).trans (((xa_up_ne (by omega)).trans (hc 73 i (by unfold xm_scr; omega))).symm)) (by rw [g53]; omega) (by rw [g72, g11, g53]; omega) (by rw [g53, g20, g74]; exact hg1) (fun z => by
                rw [g53] at z
                rw [g72, g11]
                exact rw_nc_s (f := n) (by omega) (by omega) (by omega) (by omega) (by have q := f9; rw [ei] at q; exact q) (fun q q0 q1 => rw_ns0 hf0 (fun k => (nm_s_b (T := T) (C := M 72) (s := a) (u := u) (nm_f_b (T := T) (C := M 72) (N := m) (S := (M 60 11).toNat) (by omega) n) k).1) (k := x4.toNat) (by omega) q q0 (by omega)) (fun i i0 i1 => (xa_up_ne (by omega)).trans (h95 i i0 i1)) xa_up_eq (hcc (by omega))) (fun M7 hc7 hv9 hg7 h95b => ?_)
                rw [g72, g11, g53] at hv9
                show Q 58 [(4, (0, 0, 1, 9, x4 + 1)), (1, (0, 0, 0, 7, a)), (2, (0, 0, 0, 8, m)), (3, (0, 0, (-2147483648), 2147483647, u)), (0, (2, 60, 0, 0, 0))] [] M7
                refine hgo.2.1 58 _ [(4, (0, 0, 0, 8, x4 + 1)), (1, (0, 0, 0, 7, a)), (2, (0, 0, 0, 8, m)), (3, (0, 0, (-2147483648), 2147483647, u)), (0, (2, 60, 0, 0, 0))] _ _ (xa_subI rfl rfl (fun _ _ _ _ => by omega) (xa_subI rfl rfl (fun _ _ _ _ => by omega) (xa_subI rfl rfl (fun _ _ _ _ => by omega) (xa_subI rfl rfl (fun _ _ _ _ => by omega) (xa_subR rfl xa_sub0))))) ?_
                exact ih2 (x4 + 1) M7 (by omega) (xm_cor_t (xm_cor_a rfl hc) hc7) hg7 (fun i i0 i1 => (h95b i i0 (by omega)).trans ((xa_up_ne (by omega)).trans (h95 i i0 i1))) (by omega) (by rw [show (x4 + 1).toNat = x4.toNat + 1 by omega, s9, hv9, hs]; omega) (by omega)
              · intro (c6 : ¬ (M1 73 a) = (M1 72 x4))
                show Q 58 [(4, (0, 0, 1, 9, x4 + 1)), (1, (0, 0, 0, 7, a)), (2, (0, 0, 0, 8, m)), (3, (0, 0, (-2147483648), 2147483647, u)), (0, (2, 60, 0, 0, 0))] [] M1
                refine hgo.2.1 58 _ [(4, (0, 0, 0, 8, x4 + 1)), (1, (0, 0, 0, 7, a)), (2, (0, 0, 0, 8, m)), (3, (0, 0, (-2147483648), 2147483647, u)), (0, (2, 60, 0, 0, 0))] _ _ (xa_subI rfl rfl (fun _ _ _ _ => by omega) (xa_subI rfl rfl (fun _ _ _ _ => by omega) (xa_subI rfl rfl (fun _ _ _ _ => by omega) (xa_subI rfl rfl (fun _ _ _ _ => by omega) (xa_subR rfl xa_sub0))))) ?_
                have f9 : ¬ nm_o T (M 72) a u ((x4.toNat : Nat) : Int) = true := fun h => by
                  rw [ei, nm_oi] at h
                  have e9 := nm_bit (u := u) (p := x4) (by omega) (by omega)
                  omega
                exact ih2 (x4 + 1) M1 (by omega) hc hg1 h95 (by omega) (by rw [hs, show (x4 + 1).toNat = x4.toNat + 1 by omega, nm_s0 f9]) (by omega)
    refine hgo.1 17 [20, 58] 0 _ _ _ ?_
    refine And.intro ?_ ?_
    · intro (c1 : ¬ a = m)
      show Q 58 [(4, (0, 0, 0, 0, 0)), (0, (2, 60, 0, 0, 0)), (1, (0, 0, 0, 7, a)), (2, (0, 0, 0, 8, m)), (3, (0, 0, (-2147483648), 2147483647, u))] [] M
      refine hgo.2.1 58 _ [(4, (0, 0, 0, 8, 0)), (1, (0, 0, 0, 7, a)), (2, (0, 0, 0, 8, m)), (3, (0, 0, (-2147483648), 2147483647, u)), (0, (2, 60, 0, 0, 0))] _ _ (xa_subI rfl rfl (fun _ _ _ _ => by omega) (xa_subI rfl rfl (fun _ _ _ _ => by omega) (xa_subI rfl rfl (fun _ _ _ _ => by omega) (xa_subI rfl rfl (fun _ _ _ _ => by omega) (xa_subR rfl xa_sub0))))) ?_
      exact loop2 9 0 M (by omega) xm_cor_r hg (fun _ _ _ => rfl) (by omega) (by show M 60 53 = M 60 53 + 0; omega) (by omega)
    · intro (c1 : a = m)
      refine And.intro ?_ ?_
      · intro (c2 : ¬ (M 60 53) = 0)
        show post none (xa_up M 60 53 (xa_w32 ((M 60 53) + 1)))
        exfalso
        omega
      · intro (c2 : (M 60 53) = 0)
        show Q 20 [(4, (0, 0, 0, 0, 0)), (0, (2, 60, 0, 0, 0)), (1, (0, 0, 0, 7, a)), (2, (0, 0, 0, 8, m)), (3, (0, 0, (-2147483648), 2147483647, u))] [] (xa_up M 60 20 0)
        exfalso
        omega
theorem rw_namesFrom8 {T : Int → Int} {s0 : Int} {R0 : Int → Int} {P : (Int → Int) → Prop} {A : Nat → Nat} {h0 : g_H} {d : Nat} {M : xa_M} {post : Option xa_V → xa_M → Prop} {l1 u1 l2 u2 l3 u3 a m u : Int} (a0 : 0 ≤ a) (a1 : a ≤ m) (m8 : m ≤ 8) (hT : ∀ i, 0 ≤ i → i < m → T i = M 73 i) (h53 : 0 ≤ M 60 53) (hb : M 60 53 + nm_f T (M 72) m (M 60 11).toNat (m - a).toNat u ≤ 2147483647) (hg : rw_g m s0 R0 P (M 60 53) (M 60 20) (M 74)) (hcc : M 60 53 = 0 → rw_nc T (M 72) m (M 60 11).toNat P a u (M 95)) (k : ∀ M1 : xa_M, xm_cor M M1 → M1 60 53 = M 60 53 + nm_f T (M 72) m (M 60 11).toNat (m - a).toNat u → rw_g m s0 R0 P (M1 60 53) (M1 60 20) (M1 74) → post none M1) : xa_C xm_I A h0 (d + 10) 282 [(2, 60, 0, 0, 0), (0, 0, l1, u1, a), (0, 0, l2, u2, m), (0, 0, l3, u3, u)] M post := by
  obtain ⟨n, hn⟩ : ∃ n : Nat, m - a = (n : Int) := ⟨(m - a).toNat, by omega⟩
  have hd : d + 10 = (d + (8 - n)) + n + 2 := by omega
  rw [show (m - a).toNat = n by omega] at hb k
  rw [hd]
  exact rw_namesFrom n hn a0 m8 hT h53 hb hg hcc (fun M1 x1 x2 x3 _ => k M1 x1 x2 x3)
theorem rw_m174 {A : Nat → Nat} {h0 : g_H} {d : Nat} {M : xa_M} {post : Option xa_V → xa_M → Prop} {T : Int → Int} (hT : ∀ i, 0 ≤ i → i < 80 → T i = M 73 i % 256) (k : ∀ (lo hi r : Int) (M1 : xa_M), nm_R T (M 72) (M 60 18) (M 60 11).toNat r → xm_cor (xa_up (xa_up M 60 21 0) 60 18 0) M1 → rw_k (0 < r) (M 60 20) (M 74) (M1 60 20) (M1 74) (M 60 18) (rw_nw T (M 72) (M 60 18) (M 60 11).toNat (M 60 18).toNat 0) → post (some (0, 0, lo, hi, r)) M1) : xa_C xm_I A h0 (d + 11) 281 [(2, 60, 0, 0, 0)] M post := by
  refine xa_meth (Q0 := (3, 1, false, 0, 0, 12)) (by decide +kernel) ⟨rfl, rfl⟩ (full := s_c_281) rfl rfl ?_
  intro hM hv Q hgo
  have b18 := xm_f18 hM
  have b11 := xm_f11 hM
  obtain ⟨x1, hx1⟩ : ∃ x1, x1 = M 60 18 := ⟨_, rfl⟩
  have loop0 : ∀ (n : Nat) (x2 : Int) (M1 : xa_M), 0 ≤ x2 ∧ x2 ≤ 8 → xm_cor (xa_up (xa_up M 60 21 0) 60 18 0) M1 → (M1 60 20 = M 60 20 ∧ ∀ i : Int, M1 74 i = M 74 i) → x2 ≤ x1 → (∀ j, 0 ≤ j → j < x2 → nm_l (T j)) → 8 - x2 < (n : Int) → Q 17 [(2, (0, 0, 0, 8, x2)), (1, (0, 0, 0, 80, x1)), (0, (2, 60, 0, 0, 0))] [] M1 := by
    intro n
    induction n with
    | zero => intro x2 M1 b2 hc h20 h2 hg hms; omega
    | succ n ih0 =>
      intro x2 M1 b2 hc h20 h2 hg hms0
      have e73 : ∀ i, M1 73 i = M 73 i := fun i => (hc 73 i (by unfold xm_scr; omega)).trans ((xa_up_ne (by omega)).trans (xa_up_ne (by omega)))
      have e72 : ∀ i, M1 72 i = M 72 i := fun i => (hc 72 i (by unfold xm_scr; omega)).trans ((xa_up_ne (by omega)).trans (xa_up_ne (by omega)))
      have e11 : M1 60 11 = M 60 11 := (hc 60 11 (by unfold xm_scr; omega)).trans ((xa_up_ne (by omega)).trans (xa_up_ne (by omega)))
      have t9 := hT x2
      have q9 := e73 x2
      have m9 := xm_t73 hM x2
      refine hgo.1 28 [17] 17 _ _ _ ?_
      refine And.intro ?_ ?_
      · intro (c1 : x1 ≤ x2)
        refine And.intro ?_ ?_
        · intro (c2 : ¬ x1 = 0)
          refine And.intro ?_ ?_
          · intro (c3 : x1 ≤ 8)
            show xa_C xm_I A h0 _ 282 [(2, 60, 0, 0, 0), (0, 0, 0, 0, 0), (0, 0, 0, 80, x1), (0, 0, 0, 0, 0)] (xa_up M1 60 53 0) _
            have g72 : (xa_up M1 60 53 0) 72 = M 72 := funext (fun j => (xa_up_ne (by omega)).trans (e72 j))
            have g11 : (xa_up M1 60 53 0) 60 11 = M 60 11 := (xa_up_ne (by omega)).trans e11
            have g53 : (xa_up M1 60 53 0) 60 53 = 0 := xa_up_eq
            have n9 := nm_fb (T := T) (C := M 72) (N := x1) (S := (M 60 11).toNat) (f := x1.toNat) (by omega) (by omega) 0
            have z9 : (x1 - 0).toNat = x1.toNat := by rw [Int.sub_zero]
            refine rw_namesFrom8 (T := T) (s0 := M 60 20) (R0 := M 74) (P := (rw_nw T (M 72) (M 60 18) (M 60 11).toNat (M 60 18).toNat 0)) (by omega) (by omega) (by omega) (fun i i0 i1 => ?_) (by rw [g53]; exact Int.le_refl 0) (by rw [g72, g11, g53, z9]; omega) (Or.inl ⟨by rw [g53]; exact Int.le_refl 0, (xa_up_ne (by omega)).trans h20.1, fun i _ _ => (xa_up_ne (by omega)).trans (h20.2 i)⟩) (fun _ V _ h => by rw [g72, g11, z9] at h; rw [← hx1]; exact h) (fun M4 hc4 hv9 hg4 => ?_)
            · have l9 := hg i i0 (by omega)
              unfold nm_l at l9
              have t8 := hT i i0 (by omega)
              have m8 := xm_t73 hM i i0 (by omega)
              exact (show T i = M 73 i by omega).trans (((xa_up_ne (by omega)).trans (e73 i)).symm)
            rw [g72, g11, g53, z9] at hv9
            show post (some (0, 0, (-2147483648), 2147483647, M4 60 53)) M4
            exact k _ _ _ _ (Or.inr ⟨fun j j0 j1 => hg j j0 (by omega), by omega, Or.inr ⟨by omega, by rw [← hx1, hv9]; omega⟩⟩) (xm_cor_t (xm_cor_u (by unfold xm_scr; omega) hc) hc4) (rw_gc hg4 hx1)
          · intro (c3 : 8 < x1)
            show post (some (0, 0, (-108), (-108), (-108))) M1
            exact k _ _ _ _ (Or.inl ⟨8, by omega, by omega, by omega, Or.inl rfl, fun j j0 j1 => hg j j0 (by omega), by omega⟩) hc (rw_no (by omega) h20.1 (fun i _ _ => h20.2 i))
        · intro (c2 : x1 = 0)
          show post (some (0, 0, (-100), (-100), (-100))) M1
          exact k _ _ _ _ (Or.inr ⟨fun j j0 j1 => by omega, by omega, Or.inl ⟨by omega, rfl⟩⟩) hc (rw_no (by omega) h20.1 (fun i _ _ => h20.2 i))
      · intro (c1 : x2 < x1)
        refine And.intro ?_ ?_
        · intro (c5 : 8 ≤ x2)
          refine And.intro ?_ ?_
          · intro (c6 : ¬ x1 = 0)
            refine And.intro ?_ ?_
            · intro (c7 : x1 ≤ 8)
              show xa_C xm_I A h0 _ 282 [(2, 60, 0, 0, 0), (0, 0, 0, 0, 0), (0, 0, 0, 80, x1), (0, 0, 0, 0, 0)] (xa_up M1 60 53 0) _
              have g72 : (xa_up M1 60 53 0) 72 = M 72 := funext (fun j => (xa_up_ne (by omega)).trans (e72 j))
              have g11 : (xa_up M1 60 53 0) 60 11 = M 60 11 := (xa_up_ne (by omega)).trans e11
              have g53 : (xa_up M1 60 53 0) 60 53 = 0 := xa_up_eq
              have n9 := nm_fb (T := T) (C := M 72) (N := x1) (S := (M 60 11).toNat) (f := x1.toNat) (by omega) (by omega) 0
              have z9 : (x1 - 0).toNat = x1.toNat := by rw [Int.sub_zero]
              refine rw_namesFrom8 (T := T) (s0 := M 60 20) (R0 := M 74) (P := (rw_nw T (M 72) (M 60 18) (M 60 11).toNat (M 60 18).toNat 0)) (by omega) (by omega) (by omega) (fun i i0 i1 => ?_) (by rw [g53]; exact Int.le_refl 0) (by rw [g72, g11, g53, z9]; omega) (Or.inl ⟨by rw [g53]; exact Int.le_refl 0, (xa_up_ne (by omega)).trans h20.1, fun i _ _ => (xa_up_ne (by omega)).trans (h20.2 i)⟩) (fun _ V _ h => by rw [g72, g11, z9] at h; rw [← hx1]; exact h) (fun M8 hc8 hv9 hg8 => ?_)
              · have l9 := hg i i0 (by omega)
                unfold nm_l at l9
                have t8 := hT i i0 (by omega)
                have m8 := xm_t73 hM i i0 (by omega)
                exact (show T i = M 73 i by omega).trans (((xa_up_ne (by omega)).trans (e73 i)).symm)
              rw [g72, g11, g53, z9] at hv9
              show post (some (0, 0, (-2147483648), 2147483647, M8 60 53)) M8
              exact k _ _ _ _ (Or.inr ⟨fun j j0 j1 => hg j j0 (by omega), by omega, Or.inr ⟨by omega, by rw [← hx1, hv9]; omega⟩⟩) (xm_cor_t (xm_cor_u (by unfold xm_scr; omega) hc) hc8) (rw_gc hg8 hx1)
            · intro (c7 : 8 < x1)
              show post (some (0, 0, (-108), (-108), (-108))) M1
              exact k _ _ _ _ (Or.inl ⟨8, by omega, by omega, by omega, Or.inl rfl, fun j j0 j1 => hg j j0 (by omega), by omega⟩) hc (rw_no (by omega) h20.1 (fun i _ _ => h20.2 i))
          · intro (c6 : x1 = 0)
            show post (some (0, 0, (-100), (-100), (-100))) M1
            exact k _ _ _ _ (Or.inr ⟨fun j j0 j1 => by omega, by omega, Or.inl ⟨by omega, rfl⟩⟩) hc (rw_no (by omega) h20.1 (fun i _ _ => h20.2 i))
        · intro (c5 : x2 < 8)
          refine And.intro ?_ ?_
          · intro (c9 : (M1 73 x2) = 63)
            show Q 17 [(2, (0, 0, 1, 9, x2 + 1)), (1, (0, 0, 0, 80, x1)), (0, (2, 60, 0, 0, 0))] [] M1
            refine hgo.2.1 17 _ [(2, (0, 0, 0, 8, x2 + 1)), (1, (0, 0, 0, 80, x1)), (0, (2, 60, 0, 0, 0))] _ _ (xa_subI rfl rfl (fun _ _ _ _ => by omega) (xa_subI rfl rfl (fun _ _ _ _ => by omega) (xa_subR rfl xa_sub0))) ?_
            exact ih0 (x2 + 1) M1 (by omega) hc h20 (by omega) (fun j j0 j1 => by
              by_cases e : j = x2
              · rw [e]
                unfold nm_l
                omega
              · exact hg j j0 (by omega)) (by omega)
          · intro (c9 : ¬ (M1 73 x2) = 63)
            show xa_C xm_I A h0 _ 214 [(0, 0, (-128), 127, M1 73 x2), (0, 0, 97, 97, 97), (0, 0, 122, 122, 122)] M1 _
            refine ct_in ?_ ?_
            · intro (i10 : 97 ≤ (M1 73 x2) ∧ (M1 73 x2) ≤ 122)
              show Q 17 [(2, (0, 0, 1, 9, x2 + 1)), (1, (0, 0, 0, 80, x1)), (0, (2, 60, 0, 0, 0))] [] M1
              refine hgo.2.1 17 _ [(2, (0, 0, 0, 8, x2 + 1)), (1, (0, 0, 0, 80, x1)), (0, (2, 60, 0, 0, 0))] _ _ (xa_subI rfl rfl (fun _ _ _ _ => by omega) (xa_subI rfl rfl (fun _ _ _ _ => by omega) (xa_subR rfl xa_sub0))) ?_
              exact ih0 (x2 + 1) M1 (by omega) hc h20 (by omega) (fun j j0 j1 => by
                by_cases e : j = x2
                · rw [e]
                  unfold nm_l
                  omega
                · exact hg j j0 (by omega)) (by omega)
            · intro (i10 : ¬ (97 ≤ (M1 73 x2) ∧ (M1 73 x2) ≤ 122))
              show post (some (0, 0, (-108), (-100), (-100) - x2)) M1
              exact k _ _ _ _ (Or.inl ⟨x2, by omega, by omega, by omega, Or.inr (by unfold nm_l; omega), hg, by omega⟩) hc (rw_no (by omega) h20.1 (fun i _ _ => h20.2 i))
  refine hgo.1 16 [17] 0 _ _ _ ?_
  show Q 17 [(2, (0, 0, 0, 0, 0)), (1, (0, 0, 0, 80, M 60 18)), (0, (2, 60, 0, 0, 0))] [] (xa_up (xa_up M 60 21 0) 60 18 0)
  rw [← hx1]
  refine hgo.2.1 17 _ [(2, (0, 0, 0, 8, 0)), (1, (0, 0, 0, 80, x1)), (0, (2, 60, 0, 0, 0))] _ _ (xa_subI rfl rfl (fun _ _ _ _ => by omega) (xa_subI rfl rfl (fun _ _ _ _ => by omega) (xa_subR rfl xa_sub0))) ?_
  exact loop0 9 0 (xa_up (xa_up M 60 21 0) 60 18 0) (by omega) xm_cor_r ⟨(xa_up_ne (by omega)).trans (xa_up_ne (by omega)), fun i => (xa_up_ne (by omega)).trans (xa_up_ne (by omega))⟩ (by omega) (fun j j0 j1 => by omega) (by omega)
theorem rw_p174 (A : Nat → Nat) (cmp : Bool) : iv_pair (rw_J A) A 174 281 [] cmp false := rw_armV (fun W b h as M hJ hM hInv hs hR hz => by
  obtain rfl := iv_sp0 hs
  obtain ⟨s1, s2, s3, s4⟩ := lm_Sx.mp hR.2.1
  have hMk := xa_H_Mok hM
  have b18 := xm_f18 hMk
  have b11 := xm_f11 hMk
  have hC : ∀ i, 0 ≤ i → i < iv_num h (bk_p b) 4 → iv_num h (bk_p b + 3) i = bk_n (M 72 i) := fun i i0 i1 => by
    rw [s3] at i1
    exact (s4 i i0 (by omega) i1).2.2
  have hc := rw_174x (b := b) (A := A) (h0 := h) (d := 53) (M := iv_num h) (T := fun i => M 73 i % 256) (C := M 72) (post := fun o M1 => ∃ lo hi n, o = some (0, 0, lo, hi, n) ∧ ((nm_R (fun i => M 73 i % 256) (M 72) (iv_num h 30 1) (iv_num h (bk_p b) 4).toNat n ∧ M1 30 1 = 0 ∧ ∀ q j, ¬ q = 48 → ¬ q = 49 → ¬ q = 54 → ¬ q = 59 → ¬ (q = 30 ∧ j = 1) → ¬ (q = 60 ∧ j = 21) → M1 q j = iv_num h q j) ∧ rw_k (0 < n) (iv_num h 48 1) (iv_num h 49) (M1 48 1) (M1 49) (iv_num h 30 1) (rw_nw (fun i => M 73 i % 256) (M 72) (iv_num h 30 1) (iv_num h (bk_p b) 4).toNat (iv_num h 30 1).toNat 0))) s2 hC (by omega) (by omega) (fun n M1 x1 x2 x3 x4 => ⟨_, _, n, rfl, ⟨x1, x2, x3⟩, x4⟩)
  have hm := fun (h1 : g_H) => rw_m174 (A := A) (h0 := h1) (d := 49) (M := M) (T := fun i => M 73 i % 256) (post := fun o M2 => (∃ lo hi n, o = some (0, 0, lo, hi, n) ∧ ((nm_R (fun i => M 73 i % 256) (M 72) (M 60 18) (M 60 11).toNat n ∧ xm_cor (xa_up (xa_up M 60 21 0) 60 18 0) M2) ∧ rw_k (0 < n) (M 60 20) (M 74) (M2 60 20) (M2 74) (M 60 18) (rw_nw (fun i => M 73 i % 256) (M 72) (M 60 18) (M 60 11).toNat (M 60 18).toNat 0))) ∧ xm_Inv M2) (fun i _ _ => rfl) (fun lo hi n M2 x1 x2 x3 => ⟨⟨_, _, n, rfl, ⟨x1, x2⟩, x3⟩, cor_Inv hInv x2⟩)
  refine ⟨[(2, 0, 0, 0, 0)], [(2, 60, 0, 0, 0)], _, _, ⟨rfl, trivial⟩, ⟨rfl, trivial⟩, fun n n' M1 M2 h1 h2 => ?_, hc, hm⟩
  obtain ⟨⟨a1, a2, a3⟩, z1⟩ := h1
  obtain ⟨⟨c1, c2⟩, z2⟩ := h2
  obtain ⟨d1, d2⟩ := cor_k c2
  rw [s1, s3] at a1
  rw [s1, s3] at z1
  have en : n = n' := nm_one a1 c1
  refine ⟨fun _ => en, fun x => cor_kk c2 (by omega) x, fun x => cor_kk c2 (by omega) x, lm_Rt hR (by omega) (fun i i0 i1 => ?_) (fun q j hC hq e1 e2 => a3 q j (by first | (have t9 := lm_Cq hC; omega) | (unfold lm_C at hC; omega)) (by first | (have t9 := lm_Cq hC; omega) | (unfold lm_C at hC; omega)) (by first | (have t9 := lm_Cq hC; omega) | (unfold lm_C at hC; omega)) (by first | (have t9 := lm_Cq hC; omega) | (unfold lm_C at hC; omega)) e1 (by omega)) (fun q j hC hq e1 e2 => d2 q j hC hq e1), rw_k1 z1 z2 (by rw [en]) (fun hp => by rcases a1 with ⟨i, x1, x2, x3, x4, x5, x6⟩ | ⟨-, x3, -⟩ <;> omega) (fun V V' hp g1 g2 i i0 i1 => rw_nw_one _ g1 g2 i (by omega) i1) hz⟩
  rw [a3 31 i (by omega) (by omega) (by omega) (by omega) (by omega) (by omega), d2 73 i (by unfold lm_C; first | (simp; done) | (simp; omega) | omega) (by omega) (by omega)]
  exact s2 i i0 i1)

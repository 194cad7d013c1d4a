-- the model's turns, found (made by wip/p24/xa/xm3.py)
set_option maxRecDepth 20000
def xm_trn (M : xa_M) : Prop := ∀ b, 0 ≤ b → b < 10 → M 77 b = 1 → 1 ≤ M 76 b
def xm_R (M : xa_M) : Int := M 77 0 + M 77 1 + M 77 2 + M 77 3 + M 77 4 + M 77 5 + M 77 6 + M 77 7 + M 77 8 + M 77 9
theorem xm_R_c {M M' : xa_M} (h : ∀ j, M' 77 j = M 77 j) : xm_R M' = xm_R M := by
  unfold xm_R
  simp only [h]
theorem xm_R_up {M : xa_M} {t : Int} (h0 : 0 ≤ t) (h1 : t < 10) (h : M 77 t = 0) : xm_R (xa_up M 77 t 1) = xm_R M + 1 := by
  rcases (show t = 0 ∨ t = 1 ∨ t = 2 ∨ t = 3 ∨ t = 4 ∨ t = 5 ∨ t = 6 ∨ t = 7 ∨ t = 8 ∨ t = 9 by omega) with e | e | e | e | e | e | e | e | e | e <;> subst e <;> simp [xm_R, xa_up] <;> omega
theorem xm_R_le {M : xa_M} (hM : xa_Mok xm_I M) : 0 ≤ xm_R M ∧ xm_R M ≤ 10 := by
  have t := xm_t77 hM
  have t0 := t 0 (by omega) (by omega)
  have t1 := t 1 (by omega) (by omega)
  have t2 := t 2 (by omega) (by omega)
  have t3 := t 3 (by omega) (by omega)
  have t4 := t 4 (by omega) (by omega)
  have t5 := t 5 (by omega) (by omega)
  have t6 := t 6 (by omega) (by omega)
  have t7 := t 7 (by omega) (by omega)
  have t8 := t 8 (by omega) (by omega)
  have t9 := t 9 (by omega) (by omega)
  unfold xm_R
  omega
theorem xm_msh {M : xa_M} (hM : xa_Mok xm_I M) (hI : xm_Inv M) {m : Int} (h0 : 0 ≤ m) (h1 : m < M 60 6) : (0 ≤ M 66 m ∧ M 66 m ≤ 13) ∧ (0 ≤ M 67 m ∧ M 67 m ≤ 13) ∧ (0 ≤ M 64 (M 66 m) ∧ M 64 (M 66 m) ≤ 9) ∧ (0 ≤ M 64 (M 67 m) ∧ M 64 (M 67 m) ≤ 9) ∧ 10 ≤ M 63 (M 66 m) ∧ 10 ≤ M 63 (M 67 m) ∧ (0 ≤ M 77 (M 64 (M 66 m)) ∧ M 77 (M 64 (M 66 m)) ≤ 1) ∧ (0 ≤ M 77 (M 64 (M 67 m)) ∧ M 77 (M 64 (M 67 m)) ≤ 1) ∧ m < 16 := by
  have b6 := xm_f6 hM
  have a := xm_t66 hM m h0 (by omega)
  have b := xm_t67 hM m h0 (by omega)
  have c := hI.2.1 m h0 h1
  have e := xm_t64 hM _ a.1 (by omega)
  have f := xm_t64 hM _ b.1 (by omega)
  have g := hI.1 _ a.1 c.1
  have h := hI.1 _ b.1 c.2
  have i := xm_t77 hM _ e.1 (by omega)
  have j := xm_t77 hM _ f.1 (by omega)
  exact ⟨a, b, e, f, g.2.2, h.2.2, i, j, by omega⟩
def xm_ldU (M : xa_M) (a b c : Int) : Int := (-(M 75 a) * M 63 b).tdiv (Int.gcd (-(M 75 a) * M 63 b) (M 76 a * M 63 c) : Int)
def xm_ldL (M : xa_M) (a b c : Int) : Int := (M 76 a * M 63 c) / (Int.gcd (-(M 75 a) * M 63 b) (M 76 a * M 63 c) : Int)
theorem xm_led_eq {M : xa_M} {a b c u l : Int} (h : xm_led M a b c u l) : u = xm_ldU M a b c ∧ l = xm_ldL M a b c := by
  obtain ⟨g, rfl, e1, e2⟩ := h
  exact ⟨e1, e2⟩
/-- the text of findTurns, on memories -/
def xm_sto (M : xa_M) (t u l : Int) : xa_M := xa_up (xa_up (xa_up (xa_up (xa_up M 60 25 u) 60 26 l) 75 t u) 76 t l) 77 t 1
def xm_put (z : Int) (M : xa_M) (a b c t : Int) : Option (Int × xa_M) := if 1000000000000000 < ((xm_ldU M a b c).natAbs : Int) ∨ 1000000000000000 < xm_ldL M a b c then none else some (1, xm_sto M t (xm_ldU M a b c) (xm_ldL M a b c))
def xm_stC (but m z : Int) (M : xa_M) : Option (Int × xa_M) := if m = but ∨ M 77 (M 64 (M 66 m)) = M 77 (M 64 (M 67 m)) then some (z, M) else if M 77 (M 64 (M 66 m)) = 0 then xm_put z M (M 64 (M 67 m)) (M 67 m) (M 66 m) (M 64 (M 66 m)) else xm_put z M (M 64 (M 66 m)) (M 66 m) (M 67 m) (M 64 (M 67 m))
def xm_fC (but : Int) : Nat → Int → Int → xa_M → Option (Int × xa_M)
  | 0, _, z, M => some (z, M)
  | n + 1, m, z, M => if m < M 60 6 then (match xm_stC but m z M with
    | none => none
    | some p => xm_fC but n (m + 1) p.1 p.2) else some (z, M)
def xm_fB (but : Int) : Nat → Int → xa_M → Option xa_M
  | 0, _, M => some M
  | n + 1, z, M => if z = 0 then some M else (match xm_fC but 17 0 0 M with
    | none => none
    | some p => xm_fB but n p.1 p.2)
def xm_bd (but : Int) (n : Nat) (o : Option (Int × xa_M)) : Option xa_M := match o with
  | none => none
  | some p => xm_fB but n p.1 p.2
def xm_fD (but : Int) : Nat → Int → Int → xa_M → Int × xa_M
  | 0, _, z, M => (z, M)
  | n + 1, m, z, M => if m < M 60 6 then (if m = but ∨ M 77 (M 64 (M 66 m)) = 0 ∨ M 77 (M 64 (M 67 m)) = 0 then xm_fD but n (m + 1) z M else xm_fD but n (m + 1) (if ¬ z = 0 ∨ ¬ xm_ldU M (M 64 (M 66 m)) (M 66 m) (M 67 m) = M 75 (M 64 (M 67 m)) ∨ ¬ xm_ldL M (M 64 (M 66 m)) (M 66 m) (M 67 m) = M 76 (M 64 (M 67 m)) then 1 else 0) (xa_up (xa_up M 60 25 (xm_ldU M (M 64 (M 66 m)) (M 66 m) (M 67 m))) 60 26 (xm_ldL M (M 64 (M 66 m)) (M 66 m) (M 67 m)))) else (z, M)
def xm_i77 : Nat → Int → xa_M → xa_M
  | 0, _, M => M
  | n + 1, b, M => if b < 10 then xm_i77 n (b + 1) (xa_up M 77 b (if b = 0 then 1 else 0)) else M
def xm_ini (M : xa_M) : xa_M := xa_up (xa_up (xm_i77 11 0 M) 75 0 1) 76 0 1
def xm_res (but : Int) (o : Option xa_M) (v : Int) (M' : xa_M) : Prop := match o with
  | none => v = -5
  | some M1 => v = (if (xm_fD but 17 0 0 M1).1 = 0 then 0 else -3) ∧ M' = (xm_fD but 17 0 0 M1).2
/-- what findTurns answers, what it leaves -/
def xm_FT (but : Int) (M : xa_M) (v : Int) (M' : xa_M) : Prop := xm_res but (xm_fB but 23 1 (xm_ini M)) v M'
theorem xm_fD_end {but m z : Int} {n : Nat} {M : xa_M} (h : ¬ m < M 60 6) : xm_fD but (n + 1) m z M = (z, M) := by
  rw [xm_fD, if_neg h]
theorem xm_fD_skip {but m z : Int} {n : Nat} {M : xa_M} (h : m < M 60 6) (h2 : m = but ∨ M 77 (M 64 (M 66 m)) = 0 ∨ M 77 (M 64 (M 67 m)) = 0) : xm_fD but (n + 1) m z M = xm_fD but n (m + 1) z M := by
  rw [xm_fD, if_pos h, if_pos h2]
theorem xm_fD_go {but m z u l z2 : Int} {n : Nat} {M : xa_M} (h : m < M 60 6) (h2 : ¬ (m = but ∨ M 77 (M 64 (M 66 m)) = 0 ∨ M 77 (M 64 (M 67 m)) = 0)) (hl : xm_led M (M 64 (M 66 m)) (M 66 m) (M 67 m) u l) (hz : z2 = if ¬ z = 0 ∨ ¬ u = M 75 (M 64 (M 67 m)) ∨ ¬ l = M 76 (M 64 (M 67 m)) then 1 else 0) : xm_fD but (n + 1) m z M = xm_fD but n (m + 1) z2 (xa_up (xa_up M 60 25 u) 60 26 l) := by
  obtain ⟨rfl, rfl⟩ := xm_led_eq hl
  rw [xm_fD, if_pos h, if_neg h2, hz]
theorem xm_fC_end {but m z : Int} {n : Nat} {M : xa_M} (h : ¬ m < M 60 6) : xm_fC but (n + 1) m z M = some (z, M) := by
  rw [xm_fC, if_neg h]
theorem xm_fC_skip {but m z : Int} {n : Nat} {M : xa_M} (h : m < M 60 6) (h2 : m = but ∨ M 77 (M 64 (M 66 m)) = M 77 (M 64 (M 67 m))) : xm_fC but (n + 1) m z M = xm_fC but n (m + 1) z M := by
  rw [xm_fC, if_pos h, xm_stC, if_pos h2]
theorem xm_fC_go {but m z u l a b c t : Int} {n : Nat} {M : xa_M} (h : m < M 60 6) (h2 : ¬ (m = but ∨ M 77 (M 64 (M 66 m)) = M 77 (M 64 (M 67 m)))) (hs : (M 77 (M 64 (M 66 m)) = 0 ∧ a = M 64 (M 67 m) ∧ b = M 67 m ∧ c = M 66 m ∧ t = M 64 (M 66 m)) ∨ (¬ M 77 (M 64 (M 66 m)) = 0 ∧ a = M 64 (M 66 m) ∧ b = M 66 m ∧ c = M 67 m ∧ t = M 64 (M 67 m))) (hl : xm_led M a b c u l) (h3 : ¬ (1000000000000000 < ((u.natAbs : Nat) : Int) ∨ 1000000000000000 < l)) : xm_fC but (n + 1) m z M = xm_fC but n (m + 1) 1 (xa_up (xa_up (xa_up (xa_up (xa_up M 60 25 u) 60 26 l) 75 t u) 76 t l) 77 t 1) := by
  obtain ⟨rfl, rfl⟩ := xm_led_eq hl
  rw [xm_fC, if_pos h, xm_stC, if_neg h2]
  rcases hs with ⟨e, rfl, rfl, rfl, rfl⟩ | ⟨e, rfl, rfl, rfl, rfl⟩
  · rw [if_pos e, xm_put, if_neg h3]
    rfl
  · rw [if_neg e, xm_put, if_neg h3]
    rfl
theorem xm_fC_no {but m z u l a b c t : Int} {n : Nat} {M : xa_M} (h : m < M 60 6) (h2 : ¬ (m = but ∨ M 77 (M 64 (M 66 m)) = M 77 (M 64 (M 67 m)))) (hs : (M 77 (M 64 (M 66 m)) = 0 ∧ a = M 64 (M 67 m) ∧ b = M 67 m ∧ c = M 66 m ∧ t = M 64 (M 66 m)) ∨ (¬ M 77 (M 64 (M 66 m)) = 0 ∧ a = M 64 (M 66 m) ∧ b = M 66 m ∧ c = M 67 m ∧ t = M 64 (M 67 m))) (hl : xm_led M a b c u l) (h3 : 1000000000000000 < ((u.natAbs : Nat) : Int) ∨ 1000000000000000 < l) : xm_fC but (n + 1) m z M = none := by
  obtain ⟨rfl, rfl⟩ := xm_led_eq hl
  rw [xm_fC, if_pos h, xm_stC, if_neg h2]
  rcases hs with ⟨e, rfl, rfl, rfl, rfl⟩ | ⟨e, rfl, rfl, rfl, rfl⟩
  · rw [if_pos e, xm_put, if_pos h3]
  · rw [if_neg e, xm_put, if_pos h3]
theorem ct_findTurns {A : Nat → Nat} {h0 : g_H} {d : Nat} {M : xa_M} {post : Option xa_V → xa_M → Prop} {l1 u1 : Int} {a : Int} (hI : xm_Inv M) (k : ∀ (v : Int) (M1 : xa_M), (v = 0 ∨ v = -3 ∨ v = -5) → xm_cor M M1 → xm_trn M1 → xm_FT a M v M1 → post (some (0, 0, -5, 0, v)) M1) : xa_C xm_I A h0 (d + 4) 227 [(2, 60, 0, 0, 0), (0, 0, l1, u1, a)] M post := by
  refine xa_C_arg [(2, 60, 0, 0, 0), (0, 0, (-2147483648), 2147483647, a)] (xa_svR (xa_svI (fun _ _ _ _ => by omega) xa_sv0)) (xa_C_wk ?_)
  refine xa_meth (Q0 := (7, 1, false, 0, 0, 12)) (by decide +kernel) ⟨rfl, rfl⟩ (full := s_c_227) rfl rfl ?_
  intro hM hv Q hgo
  have b6 := xm_f6 hM
  have loopD : ∀ (n : Nat) (m z : Int) (M1 : xa_M), 0 ≤ m → m ≤ 16 → 0 ≤ z → z ≤ 1 → xm_cor M M1 → xm_trn M1 → (∀ v, v = (if (xm_fD a n m z M1).1 = 0 then 0 else -3) → xm_FT a M v (xm_fD a n m z M1).2) → 16 - m < (n : Int) → Q 251 [(4, (0, 0, 0, 16, m)), (3, (0, 0, 0, 1, z)), (0, (2, 60, 0, 0, 0)), (1, (0, 0, (-2147483648), 2147483647, a))] [] M1 := by
    intro n
    induction n with
    | zero => intro m z M1 h1 h2 z0 z1 hc hT hE hms; omega
    | succ n ih =>
      intro m z M1 h1 h2 z0 z1 hc hT hE hms
      refine hgo.2.2 _ _ _ _ (fun hM1 _ => ?_)
      have hI1 := xm_Inv_cor hc hI
      have b6 := xm_f6 hM1
      have ms := fun h : m < M1 60 6 => xm_msh hM1 hI1 h1 h
      have ra : m < M1 60 6 → M1 77 (M1 64 (M1 66 m)) = 1 → 1 ≤ M1 76 (M1 64 (M1 66 m)) := fun h => hT _ (ms h).2.2.1.1 (by have := ms h; omega)
      have rb : m < M1 60 6 → M1 77 (M1 64 (M1 67 m)) = 1 → 1 ≤ M1 76 (M1 64 (M1 67 m)) := fun h => hT _ (ms h).2.2.2.1.1 (by have := ms h; omega)
      have hxy : M1 64 (M1 66 m) = M1 64 (M1 67 m) → M1 77 (M1 64 (M1 66 m)) = M1 77 (M1 64 (M1 67 m)) := fun h => by rw [h]
      refine hgo.1 70 [2, 45, 53, 251] 251 _ _ _ ?_
      refine And.intro ?_ ?_
      · intro (c1 : (M1 60 6) ≤ m)
        refine And.intro ?_ ?_
        · intro (c2 : z = 0)
          show xa_wk post (some (0, 0, 0, 0, 0)) M1
          rw [xm_fD_end (by omega)] at hE
          exact xa_wkI 0 rfl (fun _ _ => by omega) (k 0 _ (by omega) hc hT (hE _ (by dsimp only; split <;> omega)))
        · intro (c2 : ¬ z = 0)
          show xa_wk post (some (0, 0, (-3), (-3), (-3))) M1
          rw [xm_fD_end (by omega)] at hE
          exact xa_wkI (-3) rfl (fun _ _ => by omega) (k (-3) _ (by omega) hc hT (hE _ (by dsimp only; split <;> omega)))
      · intro (c1 : m < (M1 60 6))
        refine And.intro (show 0 ≤ m ∧ m < 16 by omega) ?_
        refine And.intro (show 0 ≤ m ∧ m < 16 by omega) ?_
        refine And.intro ?_ ?_
        · intro (c3 : m = a)
          show Q 251 [(4, (0, 0, 1, 17, m + 1)), (6, (0, 0, 0, 9, M1 64 (M1 67 m))), (5, (0, 0, 0, 9, M1 64 (M1 66 m))), (3, (0, 0, 0, 1, z)), (0, (2, 60, 0, 0, 0)), (1, (0, 0, (-2147483648), 2147483647, a))] [] M1
          refine hgo.2.1 251 _ [(4, (0, 0, 0, 16, m + 1)), (3, (0, 0, 0, 1, z)), (0, (2, 60, 0, 0, 0)), (1, (0, 0, (-2147483648), 2147483647, a))] _ _ (xa_subI rfl rfl (fun _ _ _ _ => by omega) (xa_subI rfl rfl (fun _ _ _ _ => by omega) (xa_subR rfl (xa_subI rfl rfl (fun _ _ _ _ => by omega) xa_sub0)))) ?_
          rw [xm_fD_skip (by omega) (by omega)] at hE
          exact ih (m + 1) z M1 (by omega) (by omega) (by omega) (by omega) hc (by first | exact hT | (intro b b0 b1 b2; simp [xa_up] at b2 ⊢; exact hT b b0 b1 b2)) hE (by omega)
        · intro (c3 : ¬ m = a)
          refine And.intro ?_ ?_
          · intro (c4 : (M1 77 (M1 64 (M1 66 m))) = 0)
            show Q 251 [(4, (0, 0, 1, 17, m + 1)), (6, (0, 0, 0, 9, M1 64 (M1 67 m))), (5, (0, 0, 0, 9, M1 64 (M1 66 m))), (3, (0, 0, 0, 1, z)), (0, (2, 60, 0, 0, 0)), (1, (0, 0, (-2147483648), 2147483647, a))] [] M1
            refine hgo.2.1 251 _ [(4, (0, 0, 0, 16, m + 1)), (3, (0, 0, 0, 1, z)), (0, (2, 60, 0, 0, 0)), (1, (0, 0, (-2147483648), 2147483647, a))] _ _ (xa_subI rfl rfl (fun _ _ _ _ => by omega) (xa_subI rfl rfl (fun _ _ _ _ => by omega) (xa_subR rfl (xa_subI rfl rfl (fun _ _ _ _ => by omega) xa_sub0)))) ?_
            rw [xm_fD_skip (by omega) (by omega)] at hE
            exact ih (m + 1) z M1 (by omega) (by omega) (by omega) (by omega) hc (by first | exact hT | (intro b b0 b1 b2; simp [xa_up] at b2 ⊢; exact hT b b0 b1 b2)) hE (by omega)
          · intro (c4 : ¬ (M1 77 (M1 64 (M1 66 m))) = 0)
            refine And.intro ?_ ?_
            · intro (c5 : ¬ (M1 77 (M1 64 (M1 67 m))) = 0)
              refine And.intro (show 0 ≤ m ∧ m < 16 by omega) ?_
              refine And.intro (show 0 ≤ m ∧ m < 16 by omega) ?_
              show xa_C xm_I A h0 _ 228 [(2, 60, 0, 0, 0), (0, 0, 0, 9, M1 64 (M1 66 m)), (0, 0, 0, 13, M1 66 m), (0, 0, 0, 13, M1 67 m)] M1 _
              refine ct_lead (by decide) (by decide) (by decide) (by decide) (by decide) (by decide) (by omega) (by omega) (fun u6 l6 bu6 bl6 eg6 => ?_)
              refine And.intro ?_ ?_
              · intro (c7 : ¬ z = 0)
                show Q 251 [(4, (0, 0, 1, 17, m + 1)), (3, (0, 0, 1, 1, 1)), (6, (0, 0, 0, 9, M1 64 (M1 67 m))), (5, (0, 0, 0, 9, M1 64 (M1 66 m))), (0, (2, 60, 0, 0, 0)), (1, (0, 0, (-2147483648), 2147483647, a))] [] (xa_up (xa_up M1 60 25 u6) 60 26 l6)
                refine hgo.2.1 251 _ [(4, (0, 0, 0, 16, m + 1)), (3, (0, 0, 0, 1, 1)), (0, (2, 60, 0, 0, 0)), (1, (0, 0, (-2147483648), 2147483647, a))] _ _ (xa_subI rfl rfl (fun _ _ _ _ => by omega) (xa_subI rfl rfl (fun _ _ _ _ => by omega) (xa_subR rfl (xa_subI rfl rfl (fun _ _ _ _ => by omega) xa_sub0)))) ?_
                rw [xm_fD_go (z2 := 1) (by omega) (by omega) eg6 (by split <;> omega)] at hE
                exact ih (m + 1) 1 (xa_up (xa_up M1 60 25 u6) 60 26 l6) (by omega) (by omega) (by omega) (by omega) (xm_cor_f (by omega) (xm_cor_f (by omega) hc)) (by first | exact hT | (intro b b0 b1 b2; simp [xa_up] at b2 ⊢; exact hT b b0 b1 b2)) hE (by omega)
              · intro (c7 : z = 0)
                refine And.intro ?_ ?_
                · intro (c8 : ¬ u6 = (M1 75 (M1 64 (M1 67 m))))
                  show Q 251 [(4, (0, 0, 1, 17, m + 1)), (3, (0, 0, 1, 1, 1)), (6, (0, 0, 0, 9, M1 64 (M1 67 m))), (5, (0, 0, 0, 9, M1 64 (M1 66 m))), (0, (2, 60, 0, 0, 0)), (1, (0, 0, (-2147483648), 2147483647, a))] [] (xa_up (xa_up M1 60 25 u6) 60 26 l6)
                  refine hgo.2.1 251 _ [(4, (0, 0, 0, 16, m + 1)), (3, (0, 0, 0, 1, 1)), (0, (2, 60, 0, 0, 0)), (1, (0, 0, (-2147483648), 2147483647, a))] _ _ (xa_subI rfl rfl (fun _ _ _ _ => by omega) (xa_subI rfl rfl (fun _ _ _ _ => by omega) (xa_subR rfl (xa_subI rfl rfl (fun _ _ _ _ => by omega) xa_sub0)))) ?_
                  rw [xm_fD_go (z2 := 1) (by omega) (by omega) eg6 (by split <;> omega)] at hE
                  exact ih (m + 1) 1 (xa_up (xa_up M1 60 25 u6) 60 26 l6) (by omega) (by omega) (by omega) (by omega) (xm_cor_f (by omega) (xm_cor_f (by omega) hc)) (by first | exact hT | (intro b b0 b1 b2; simp [xa_up] at b2 ⊢; exact hT b b0 b1 b2)) hE (by omega)
                · intro (c8 : u6 = (M1 75 (M1 64 (M1 67 m))))
                  refine And.intro ?_ ?_
                  · intro (c9 : l6 = (M1 76 (M1 64 (M1 67 m))))
                    show Q 251 [(4, (0, 0, 1, 17, m + 1)), (3, (0, 0, 0, 0, 0)), (6, (0, 0, 0, 9, M1 64 (M1 67 m))), (5, (0, 0, 0, 9, M1 64 (M1 66 m))), (0, (2, 60, 0, 0, 0)), (1, (0, 0, (-2147483648), 2147483647, a))] [] (xa_up (xa_up M1 60 25 u6) 60 26 l6)
                    refine hgo.2.1 251 _ [(4, (0, 0, 0, 16, m + 1)), (3, (0, 0, 0, 1, 0)), (0, (2, 60, 0, 0, 0)), (1, (0, 0, (-2147483648), 2147483647, a))] _ _ (xa_subI rfl rfl (fun _ _ _ _ => by omega) (xa_subI rfl rfl (fun _ _ _ _ => by omega) (xa_subR rfl (xa_subI rfl rfl (fun _ _ _ _ => by omega) xa_sub0)))) ?_
                    rw [xm_fD_go (z2 := 0) (by omega) (by omega) eg6 (by split <;> omega)] at hE
                    exact ih (m + 1) 0 (xa_up (xa_up M1 60 25 u6) 60 26 l6) (by omega) (by omega) (by omega) (by omega) (xm_cor_f (by omega) (xm_cor_f (by omega) hc)) (by first | exact hT | (intro b b0 b1 b2; simp [xa_up] at b2 ⊢; exact hT b b0 b1 b2)) hE (by omega)
                  · intro (c9 : ¬ l6 = (M1 76 (M1 64 (M1 67 m))))
                    show Q 251 [(4, (0, 0, 1, 17, m + 1)), (3, (0, 0, 1, 1, 1)), (6, (0, 0, 0, 9, M1 64 (M1 67 m))), (5, (0, 0, 0, 9, M1 64 (M1 66 m))), (0, (2, 60, 0, 0, 0)), (1, (0, 0, (-2147483648), 2147483647, a))] [] (xa_up (xa_up M1 60 25 u6) 60 26 l6)
                    refine hgo.2.1 251 _ [(4, (0, 0, 0, 16, m + 1)), (3, (0, 0, 0, 1, 1)), (0, (2, 60, 0, 0, 0)), (1, (0, 0, (-2147483648), 2147483647, a))] _ _ (xa_subI rfl rfl (fun _ _ _ _ => by omega) (xa_subI rfl rfl (fun _ _ _ _ => by omega) (xa_subR rfl (xa_subI rfl rfl (fun _ _ _ _ => by omega) xa_sub0)))) ?_
                    rw [xm_fD_go (z2 := 1) (by omega) (by omega) eg6 (by split <;> omega)] at hE
                    exact ih (m + 1) 1 (xa_up (xa_up M1 60 25 u6) 60 26 l6) (by omega) (by omega) (by omega) (by omega) (xm_cor_f (by omega) (xm_cor_f (by omega) hc)) (by first | exact hT | (intro b b0 b1 b2; simp [xa_up] at b2 ⊢; exact hT b b0 b1 b2)) hE (by omega)
            · intro (c5 : (M1 77 (M1 64 (M1 67 m))) = 0)
              show Q 251 [(4, (0, 0, 1, 17, m + 1)), (6, (0, 0, 0, 9, M1 64 (M1 67 m))), (5, (0, 0, 0, 9, M1 64 (M1 66 m))), (3, (0, 0, 0, 1, z)), (0, (2, 60, 0, 0, 0)), (1, (0, 0, (-2147483648), 2147483647, a))] [] M1
              refine hgo.2.1 251 _ [(4, (0, 0, 0, 16, m + 1)), (3, (0, 0, 0, 1, z)), (0, (2, 60, 0, 0, 0)), (1, (0, 0, (-2147483648), 2147483647, a))] _ _ (xa_subI rfl rfl (fun _ _ _ _ => by omega) (xa_subI rfl rfl (fun _ _ _ _ => by omega) (xa_subR rfl (xa_subI rfl rfl (fun _ _ _ _ => by omega) xa_sub0)))) ?_
              rw [xm_fD_skip (by omega) (by omega)] at hE
              exact ih (m + 1) z M1 (by omega) (by omega) (by omega) (by omega) hc (by first | exact hT | (intro b b0 b1 b2; simp [xa_up] at b2 ⊢; exact hT b b0 b1 b2)) hE (by omega)
  have loopB : ∀ (n : Nat) (z : Int) (M0 : xa_M), 0 ≤ z → z ≤ 1 → xm_cor M M0 → xm_trn M0 → (∀ v M9, xm_res a (xm_fB a n z M0) v M9 → xm_FT a M v M9) → (2 * (10 - xm_R M0) + z).toNat < n → Q 45 [(2, (0, 0, 0, 1, z)), (0, (2, 60, 0, 0, 0)), (1, (0, 0, (-2147483648), 2147483647, a))] [] M0 := by
    intro n
    induction n with
    | zero => intro z M0 _ _ _ _ _ h; omega
    | succ nB ihB =>
      intro z M0 z00 z01 hc0 hT0 hE0 hms
      refine hgo.2.2 _ _ _ _ (fun hM0 _ => ?_)
      have r0 := xm_R_le hM0
      refine hgo.1 11 [2, 45, 53, 251] 45 _ _ _ ?_
      refine And.intro ?_ ?_
      · intro (c1 : z = 0)
        show Q 251 [(4, (0, 0, 0, 0, 0)), (3, (0, 0, 0, 0, 0)), (2, (0, 0, 0, 1, z)), (0, (2, 60, 0, 0, 0)), (1, (0, 0, (-2147483648), 2147483647, a))] [] M0
        refine hgo.2.1 251 _ [(4, (0, 0, 0, 16, 0)), (3, (0, 0, 0, 1, 0)), (0, (2, 60, 0, 0, 0)), (1, (0, 0, (-2147483648), 2147483647, a))] _ _ (xa_subI rfl rfl (fun _ _ _ _ => by omega) (xa_subI rfl rfl (fun _ _ _ _ => by omega) (xa_subR rfl (xa_subI rfl rfl (fun _ _ _ _ => by omega) xa_sub0)))) ?_
        rw [xm_fB, if_pos (by omega)] at hE0
        exact loopD 17 0 0 M0 (by omega) (by omega) (by omega) (by omega) hc0 hT0 (fun v hv9 => hE0 _ _ (And.intro hv9 rfl)) (by omega)
      · intro (c1 : ¬ z = 0)
        have loopC : ∀ (n : Nat) (m z : Int) (M1 : xa_M), 0 ≤ m → m ≤ 16 → 0 ≤ z → z ≤ 1 → xm_cor M M1 → xm_trn M1 → xm_R M0 + z ≤ xm_R M1 → (∀ v M9, xm_res a (xm_bd a nB (xm_fC a n m z M1)) v M9 → xm_FT a M v M9) → 16 - m < (n : Int) → Q 53 [(3, (0, 0, 0, 16, m)), (2, (0, 0, 0, 1, z)), (0, (2, 60, 0, 0, 0)), (1, (0, 0, (-2147483648), 2147483647, a))] [] M1 := by
          intro n
          induction n with
          | zero => intro m z M1 h1 h2 z0 z1 hc hT hR hE hms; omega
          | succ n ihC =>
            intro m z M1 h1 h2 z0 z1 hc hT hR hE hms
            refine hgo.2.2 _ _ _ _ (fun hM1 _ => ?_)
            have hI1 := xm_Inv_cor hc hI
            have b6 := xm_f6 hM1
            have ms := fun h : m < M1 60 6 => xm_msh hM1 hI1 h1 h
            have ra : m < M1 60 6 → M1 77 (M1 64 (M1 66 m)) = 1 → 1 ≤ M1 76 (M1 64 (M1 66 m)) := fun h => hT _ (ms h).2.2.1.1 (by have := ms h; omega)
            have rb : m < M1 60 6 → M1 77 (M1 64 (M1 67 m)) = 1 → 1 ≤ M1 76 (M1 64 (M1 67 m)) := fun h => hT _ (ms h).2.2.2.1.1 (by have := ms h; omega)
            have hxy : M1 64 (M1 66 m) = M1 64 (M1 67 m) → M1 77 (M1 64 (M1 66 m)) = M1 77 (M1 64 (M1 67 m)) := fun h => by rw [h]
            refine hgo.1 90 [2, 45, 53, 251] 53 _ _ _ ?_
            refine And.intro ?_ ?_
            · intro (c1 : (M1 60 6) ≤ m)
              show Q 45 [(3, (0, 0, 0, 16, m)), (2, (0, 0, 0, 1, z)), (0, (2, 60, 0, 0, 0)), (1, (0, 0, (-2147483648), 2147483647, a))] [] M1
              refine hgo.2.1 45 _ [(2, (0, 0, 0, 1, z)), (0, (2, 60, 0, 0, 0)), (1, (0, 0, (-2147483648), 2147483647, a))] _ _ (xa_subI rfl rfl (fun _ _ _ _ => by omega) (xa_subR rfl (xa_subI rfl rfl (fun _ _ _ _ => by omega) xa_sub0))) ?_
              rw [xm_fC_end (by omega)] at hE
              exact ihB z M1 z0 z1 hc hT hE (by omega)
            · intro (c1 : m < (M1 60 6))
              refine And.intro (show 0 ≤ m ∧ m < 16 by omega) ?_
              refine And.intro (show 0 ≤ m ∧ m < 16 by omega) ?_
              refine And.intro ?_ ?_
              · intro (c2 : m = a)
                show Q 53 [(3, (0, 0, 1, 17, m + 1)), (5, (0, 0, 0, 9, M1 64 (M1 67 m))), (4, (0, 0, 0, 9, M1 64 (M1 66 m))), (2, (0, 0, 0, 1, z)), (0, (2, 60, 0, 0, 0)), (1, (0, 0, (-2147483648), 2147483647, a))] [] M1
                refine hgo.2.1 53 _ [(3, (0, 0, 0, 16, m + 1)), (2, (0, 0, 0, 1, z)), (0, (2, 60, 0, 0, 0)), (1, (0, 0, (-2147483648), 2147483647, a))] _ _ (xa_subI rfl rfl (fun _ _ _ _ => by omega) (xa_subI rfl rfl (fun _ _ _ _ => by omega) (xa_subR rfl (xa_subI rfl rfl (fun _ _ _ _ => by omega) xa_sub0)))) ?_
                rw [xm_fC_skip (by omega) (by omega)] at hE
                exact ihC (m + 1) z M1 (by omega) (by omega) z0 z1 hc hT hR hE (by omega)
              · intro (c2 : ¬ m = a)
                refine And.intro ?_ ?_
                · intro (c3 : ¬ (M1 77 (M1 64 (M1 66 m))) = (M1 77 (M1 64 (M1 67 m))))
                  refine And.intro ?_ ?_
                  · intro (c4 : (M1 77 (M1 64 (M1 66 m))) = 0)
                    refine And.intro ?_ ?_
                    · intro (c5 : ¬ (M1 64 (M1 66 m)) = (M1 64 (M1 67 m)))
                      refine And.intro (show 0 ≤ m ∧ m < 16 by omega) ?_
                      refine And.intro (show 0 ≤ m ∧ m < 16 by omega) ?_
                      show xa_C xm_I A h0 _ 228 [(2, 60, 0, 0, 0), (0, 0, 0, 9, M1 64 (M1 67 m)), (0, 0, 0, 13, M1 67 m), (0, 0, 0, 13, M1 66 m)] M1 _
                      refine ct_lead (by decide) (by decide) (by decide) (by decide) (by decide) (by decide) (by omega) (by omega) (fun u6 l6 bu6 bl6 eg6 => ?_)
                      show xa_C xm_I A h0 _ 56 [(1, 0, (-400000000000000000), 400000000000000000, u6)] (xa_up (xa_up M1 60 25 u6) 60 26 l6) _
                      refine ct_absb 400000000000000000 (by decide) (by decide) (by decide) (fun a7 ea7 => ?_)
                      refine And.intro ?_ ?_
                      · intro (c8 : 1000000000000000 < a7)
                        show xa_wk post (some (0, 0, (-5), (-5), (-5))) (xa_up (xa_up M1 60 25 u6) 60 26 l6)
                        first
                          | (exfalso; omega)
                          | (rw [xm_fC_no (a := M1 64 (M1 67 m)) (b := M1 67 m) (c := M1 66 m) (t := M1 64 (M1 66 m)) (by omega) (by omega) (by omega) eg6 (by omega)] at hE
                             exact xa_wkI (-5) rfl (fun _ _ => by omega) (k (-5) _ (by omega) (xm_cor_f (by omega) (xm_cor_f (by omega) hc)) (fun b b0 b1 b2 => by simp [xa_up] at b2 ⊢; exact hT b b0 b1 b2) (hE _ _ rfl)))
                      · intro (c8 : a7 ≤ 1000000000000000)
                        refine And.intro ?_ ?_
                        · intro (c9 : l6 ≤ 1000000000000000)
                          refine And.intro (show (-1000000000000000) ≤ u6 ∧ u6 ≤ 1000000000000000 by omega) ?_
                          refine And.intro (show 0 ≤ l6 ∧ l6 ≤ 1000000000000000 by omega) ?_
                          show Q 53 [(3, (0, 0, 1, 17, m + 1)), (2, (0, 0, 1, 1, 1)), (6, (0, 0, 0, 9, M1 64 (M1 66 m))), (5, (0, 0, 0, 9, M1 64 (M1 67 m))), (4, (0, 0, 0, 9, M1 64 (M1 66 m))), (0, (2, 60, 0, 0, 0)), (1, (0, 0, (-2147483648), 2147483647, a))] [] (xa_up (xa_up (xa_up (xa_up (xa_up M1 60 25 u6) 60 26 l6) 75 (M1 64 (M1 66 m)) u6) 76 (M1 64 (M1 66 m)) l6) 77 (M1 64 (M1 66 m)) 1)
                          refine hgo.2.1 53 _ [(3, (0, 0, 0, 16, m + 1)), (2, (0, 0, 0, 1, 1)), (0, (2, 60, 0, 0, 0)), (1, (0, 0, (-2147483648), 2147483647, a))] _ _ (xa_subI rfl rfl (fun _ _ _ _ => by omega) (xa_subI rfl rfl (fun _ _ _ _ => by omega) (xa_subR rfl (xa_subI rfl rfl (fun _ _ _ _ => by omega) xa_sub0)))) ?_
                          first
                            | (exfalso; omega)
                            | (have hR2 := xm_R_up (M := M1) (t := M1 64 (M1 66 m)) (by omega) (by omega) (by omega)
                               rw [xm_fC_go (a := M1 64 (M1 67 m)) (b := M1 67 m) (c := M1 66 m) (t := M1 64 (M1 66 m)) (by omega) (by omega) (by omega) eg6 (by omega)] at hE
                               have hR3 : xm_R (xa_up (xa_up (xa_up (xa_up (xa_up M1 60 25 u6) 60 26 l6) 75 (M1 64 (M1 66 m)) u6) 76 (M1 64 (M1 66 m)) l6) 77 (M1 64 (M1 66 m)) 1) = xm_R (xa_up M1 77 (M1 64 (M1 66 m)) 1) := xm_R_c (fun j => by simp [xa_up])
                               exact ihC (m + 1) 1 (xa_up (xa_up (xa_up (xa_up (xa_up M1 60 25 u6) 60 26 l6) 75 (M1 64 (M1 66 m)) u6) 76 (M1 64 (M1 66 m)) l6) 77 (M1 64 (M1 66 m)) 1) (by omega) (by omega) (by omega) (by omega) (xm_cor_a rfl (xm_cor_a rfl (xm_cor_a rfl (xm_cor_f (by omega) (xm_cor_f (by omega) hc))))) (by
                                 intro b b0 b1 b2
                                 by_cases e : b = M1 64 (M1 66 m)
                                 · subst e
                                   simp [xa_up]
                                   omega
                                 · simp [xa_up, e] at b2 ⊢
                                   exact hT b b0 b1 b2) (by rw [hR3, hR2]; omega) hE (by omega))
                        · intro (c9 : 1000000000000000 < l6)
                          show xa_wk post (some (0, 0, (-5), (-5), (-5))) (xa_up (xa_up M1 60 25 u6) 60 26 l6)
                          first
                            | (exfalso; omega)
                            | (rw [xm_fC_no (a := M1 64 (M1 67 m)) (b := M1 67 m) (c := M1 66 m) (t := M1 64 (M1 66 m)) (by omega) (by omega) (by omega) eg6 (by omega)] at hE
                               exact xa_wkI (-5) rfl (fun _ _ => by omega) (k (-5) _ (by omega) (xm_cor_f (by omega) (xm_cor_f (by omega) hc)) (fun b b0 b1 b2 => by simp [xa_up] at b2 ⊢; exact hT b b0 b1 b2) (hE _ _ rfl)))
                    · intro (c5 : (M1 64 (M1 66 m)) = (M1 64 (M1 67 m)))
                      refine And.intro (show 0 ≤ m ∧ m < 16 by omega) ?_
                      refine And.intro (show 0 ≤ m ∧ m < 16 by omega) ?_
                      show xa_C xm_I A h0 _ 228 [(2, 60, 0, 0, 0), (0, 0, 0, 9, M1 64 (M1 66 m)), (0, 0, 0, 13, M1 66 m), (0, 0, 0, 13, M1 67 m)] M1 _
                      refine ct_lead (by decide) (by decide) (by decide) (by decide) (by decide) (by decide) (by omega) (by omega) (fun u10 l10 bu10 bl10 eg10 => ?_)
                      show xa_C xm_I A h0 _ 56 [(1, 0, (-400000000000000000), 400000000000000000, u10)] (xa_up (xa_up M1 60 25 u10) 60 26 l10) _
                      refine ct_absb 400000000000000000 (by decide) (by decide) (by decide) (fun a11 ea11 => ?_)
                      refine And.intro ?_ ?_
                      · intro (c12 : 1000000000000000 < a11)
                        show xa_wk post (some (0, 0, (-5), (-5), (-5))) (xa_up (xa_up M1 60 25 u10) 60 26 l10)
                        first
                          | (exfalso; omega)
                          | (rw [xm_fC_no (a := M1 64 (M1 66 m)) (b := M1 66 m) (c := M1 67 m) (t := M1 64 (M1 67 m)) (by omega) (by omega) (by omega) eg10 (by omega)] at hE
                             exact xa_wkI (-5) rfl (fun _ _ => by omega) (k (-5) _ (by omega) (xm_cor_f (by omega) (xm_cor_f (by omega) hc)) (fun b b0 b1 b2 => by simp [xa_up] at b2 ⊢; exact hT b b0 b1 b2) (hE _ _ rfl)))
                      · intro (c12 : a11 ≤ 1000000000000000)
                        refine And.intro ?_ ?_
                        · intro (c13 : l10 ≤ 1000000000000000)
                          refine And.intro (show (-1000000000000000) ≤ u10 ∧ u10 ≤ 1000000000000000 by omega) ?_
                          refine And.intro (show 0 ≤ l10 ∧ l10 ≤ 1000000000000000 by omega) ?_
                          show Q 53 [(3, (0, 0, 1, 17, m + 1)), (2, (0, 0, 1, 1, 1)), (6, (0, 0, 0, 9, M1 64 (M1 66 m))), (5, (0, 0, 0, 9, M1 64 (M1 67 m))), (4, (0, 0, 0, 9, M1 64 (M1 66 m))), (0, (2, 60, 0, 0, 0)), (1, (0, 0, (-2147483648), 2147483647, a))] [] (xa_up (xa_up (xa_up (xa_up (xa_up M1 60 25 u10) 60 26 l10) 75 (M1 64 (M1 66 m)) u10) 76 (M1 64 (M1 66 m)) l10) 77 (M1 64 (M1 66 m)) 1)
                          refine hgo.2.1 53 _ [(3, (0, 0, 0, 16, m + 1)), (2, (0, 0, 0, 1, 1)), (0, (2, 60, 0, 0, 0)), (1, (0, 0, (-2147483648), 2147483647, a))] _ _ (xa_subI rfl rfl (fun _ _ _ _ => by omega) (xa_subI rfl rfl (fun _ _ _ _ => by omega) (xa_subR rfl (xa_subI rfl rfl (fun _ _ _ _ => by omega) xa_sub0)))) ?_
                          first
                            | (exfalso; omega)
                            | (have hR2 := xm_R_up (M := M1) (t := M1 64 (M1 66 m)) (by omega) (by omega) (by omega)
                               rw [xm_fC_go (a := M1 64 (M1 66 m)) (b := M1 66 m) (c := M1 67 m) (t := M1 64 (M1 66 m)) (by omega) (by omega) (by omega) eg10 (by omega)] at hE
                               have hR3 : xm_R (xa_up (xa_up (xa_up (xa_up (xa_up M1 60 25 u10) 60 26 l10) 75 (M1 64 (M1 66 m)) u10) 76 (M1 64 (M1 66 m)) l10) 77 (M1 64 (M1 66 m)) 1) = xm_R (xa_up M1 77 (M1 64 (M1 66 m)) 1) := xm_R_c (fun j => by simp [xa_up])
                               exact ihC (m + 1) 1 (xa_up (xa_up (xa_up (xa_up (xa_up M1 60 25 u10) 60 26 l10) 75 (M1 64 (M1 66 m)) u10) 76 (M1 64 (M1 66 m)) l10) 77 (M1 64 (M1 66 m)) 1) (by omega) (by omega) (by omega) (by omega) (xm_cor_a rfl (xm_cor_a rfl (xm_cor_a rfl (xm_cor_f (by omega) (xm_cor_f (by omega) hc))))) (by
                                 intro b b0 b1 b2
                                 by_cases e : b = M1 64 (M1 66 m)
                                 · subst e
                                   simp [xa_up]
                                   omega
                                 · simp [xa_up, e] at b2 ⊢
                                   exact hT b b0 b1 b2) (by rw [hR3, hR2]; omega) hE (by omega))
                        · intro (c13 : 1000000000000000 < l10)
                          show xa_wk post (some (0, 0, (-5), (-5), (-5))) (xa_up (xa_up M1 60 25 u10) 60 26 l10)
                          first
                            | (exfalso; omega)
                            | (rw [xm_fC_no (a := M1 64 (M1 66 m)) (b := M1 66 m) (c := M1 67 m) (t := M1 64 (M1 67 m)) (by omega) (by omega) (by omega) eg10 (by omega)] at hE
                               exact xa_wkI (-5) rfl (fun _ _ => by omega) (k (-5) _ (by omega) (xm_cor_f (by omega) (xm_cor_f (by omega) hc)) (fun b b0 b1 b2 => by simp [xa_up] at b2 ⊢; exact hT b b0 b1 b2) (hE _ _ rfl)))
                  · intro (c4 : ¬ (M1 77 (M1 64 (M1 66 m))) = 0)
                    refine And.intro ?_ ?_
                    · intro (c14 : ¬ (M1 64 (M1 67 m)) = (M1 64 (M1 67 m)))
                      refine And.intro (show 0 ≤ m ∧ m < 16 by omega) ?_
                      refine And.intro (show 0 ≤ m ∧ m < 16 by omega) ?_
                      show xa_C xm_I A h0 _ 228 [(2, 60, 0, 0, 0), (0, 0, 0, 9, M1 64 (M1 67 m)), (0, 0, 0, 13, M1 67 m), (0, 0, 0, 13, M1 66 m)] M1 _
                      refine ct_lead (by decide) (by decide) (by decide) (by decide) (by decide) (by decide) (by omega) (by omega) (fun u15 l15 bu15 bl15 eg15 => ?_)
                      show xa_C xm_I A h0 _ 56 [(1, 0, (-400000000000000000), 400000000000000000, u15)] (xa_up (xa_up M1 60 25 u15) 60 26 l15) _
                      refine ct_absb 400000000000000000 (by decide) (by decide) (by decide) (fun a16 ea16 => ?_)
                      refine And.intro ?_ ?_
                      · intro (c17 : 1000000000000000 < a16)
                        show xa_wk post (some (0, 0, (-5), (-5), (-5))) (xa_up (xa_up M1 60 25 u15) 60 26 l15)
                        first
                          | (exfalso; omega)
                          | (rw [xm_fC_no (a := M1 64 (M1 67 m)) (b := M1 67 m) (c := M1 66 m) (t := M1 64 (M1 66 m)) (by omega) (by omega) (by omega) eg15 (by omega)] at hE
                             exact xa_wkI (-5) rfl (fun _ _ => by omega) (k (-5) _ (by omega) (xm_cor_f (by omega) (xm_cor_f (by omega) hc)) (fun b b0 b1 b2 => by simp [xa_up] at b2 ⊢; exact hT b b0 b1 b2) (hE _ _ rfl)))
                      · intro (c17 : a16 ≤ 1000000000000000)
                        refine And.intro ?_ ?_
                        · intro (c18 : l15 ≤ 1000000000000000)
                          refine And.intro (show (-1000000000000000) ≤ u15 ∧ u15 ≤ 1000000000000000 by omega) ?_
                          refine And.intro (show 0 ≤ l15 ∧ l15 ≤ 1000000000000000 by omega) ?_
                          show Q 53 [(3, (0, 0, 1, 17, m + 1)), (2, (0, 0, 1, 1, 1)), (6, (0, 0, 0, 9, M1 64 (M1 67 m))), (5, (0, 0, 0, 9, M1 64 (M1 67 m))), (4, (0, 0, 0, 9, M1 64 (M1 66 m))), (0, (2, 60, 0, 0, 0)), (1, (0, 0, (-2147483648), 2147483647, a))] [] (xa_up (xa_up (xa_up (xa_up (xa_up M1 60 25 u15) 60 26 l15) 75 (M1 64 (M1 67 m)) u15) 76 (M1 64 (M1 67 m)) l15) 77 (M1 64 (M1 67 m)) 1)
                          refine hgo.2.1 53 _ [(3, (0, 0, 0, 16, m + 1)), (2, (0, 0, 0, 1, 1)), (0, (2, 60, 0, 0, 0)), (1, (0, 0, (-2147483648), 2147483647, a))] _ _ (xa_subI rfl rfl (fun _ _ _ _ => by omega) (xa_subI rfl rfl (fun _ _ _ _ => by omega) (xa_subR rfl (xa_subI rfl rfl (fun _ _ _ _ => by omega) xa_sub0)))) ?_
                          first
                            | (exfalso; omega)
                            | (have hR2 := xm_R_up (M := M1) (t := M1 64 (M1 67 m)) (by omega) (by omega) (by omega)
                               rw [xm_fC_go (a := M1 64 (M1 67 m)) (b := M1 67 m) (c := M1 66 m) (t := M1 64 (M1 67 m)) (by omega) (by omega) (by omega) eg15 (by omega)] at hE
                               have hR3 : xm_R (xa_up (xa_up (xa_up (xa_up (xa_up M1 60 25 u15) 60 26 l15) 75 (M1 64 (M1 67 m)) u15) 76 (M1 64 (M1 67 m)) l15) 77 (M1 64 (M1 67 m)) 1) = xm_R (xa_up M1 77 (M1 64 (M1 67 m)) 1) := xm_R_c (fun j => by simp [xa_up])
                               exact ihC (m + 1) 1 (xa_up (xa_up (xa_up (xa_up (xa_up M1 60 25 u15) 60 26 l15) 75 (M1 64 (M1 67 m)) u15) 76 (M1 64 (M1 67 m)) l15) 77 (M1 64 (M1 67 m)) 1) (by omega) (by omega) (by omega) (by omega) (xm_cor_a rfl (xm_cor_a rfl (xm_cor_a rfl (xm_cor_f (by omega) (xm_cor_f (by omega) hc))))) (by
                                 intro b b0 b1 b2
                                 by_cases e : b = M1 64 (M1 67 m)
                                 · subst e
                                   simp [xa_up]
                                   omega
                                 · simp [xa_up, e] at b2 ⊢
                                   exact hT b b0 b1 b2) (by rw [hR3, hR2]; omega) hE (by omega))
                        · intro (c18 : 1000000000000000 < l15)
                          show xa_wk post (some (0, 0, (-5), (-5), (-5))) (xa_up (xa_up M1 60 25 u15) 60 26 l15)
                          first
                            | (exfalso; omega)
                            | (rw [xm_fC_no (a := M1 64 (M1 67 m)) (b := M1 67 m) (c := M1 66 m) (t := M1 64 (M1 66 m)) (by omega) (by omega) (by omega) eg15 (by omega)] at hE
                               exact xa_wkI (-5) rfl (fun _ _ => by omega) (k (-5) _ (by omega) (xm_cor_f (by omega) (xm_cor_f (by omega) hc)) (fun b b0 b1 b2 => by simp [xa_up] at b2 ⊢; exact hT b b0 b1 b2) (hE _ _ rfl)))
                    · intro (c14 : (M1 64 (M1 67 m)) = (M1 64 (M1 67 m)))
                      refine And.intro (show 0 ≤ m ∧ m < 16 by omega) ?_
                      refine And.intro (show 0 ≤ m ∧ m < 16 by omega) ?_
                      show xa_C xm_I A h0 _ 228 [(2, 60, 0, 0, 0), (0, 0, 0, 9, M1 64 (M1 66 m)), (0, 0, 0, 13, M1 66 m), (0, 0, 0, 13, M1 67 m)] M1 _
                      refine ct_lead (by decide) (by decide) (by decide) (by decide) (by decide) (by decide) (by omega) (by omega) (fun u19 l19 bu19 bl19 eg19 => ?_)
                      show xa_C xm_I A h0 _ 56 [(1, 0, (-400000000000000000), 400000000000000000, u19)] (xa_up (xa_up M1 60 25 u19) 60 26 l19) _
                      refine ct_absb 400000000000000000 (by decide) (by decide) (by decide) (fun a20 ea20 => ?_)
                      refine And.intro ?_ ?_
                      · intro (c21 : 1000000000000000 < a20)
                        show xa_wk post (some (0, 0, (-5), (-5), (-5))) (xa_up (xa_up M1 60 25 u19) 60 26 l19)
                        first
                          | (exfalso; omega)
                          | (rw [xm_fC_no (a := M1 64 (M1 66 m)) (b := M1 66 m) (c := M1 67 m) (t := M1 64 (M1 67 m)) (by omega) (by omega) (by omega) eg19 (by omega)] at hE
                             exact xa_wkI (-5) rfl (fun _ _ => by omega) (k (-5) _ (by omega) (xm_cor_f (by omega) (xm_cor_f (by omega) hc)) (fun b b0 b1 b2 => by simp [xa_up] at b2 ⊢; exact hT b b0 b1 b2) (hE _ _ rfl)))
                      · intro (c21 : a20 ≤ 1000000000000000)
                        refine And.intro ?_ ?_
                        · intro (c22 : l19 ≤ 1000000000000000)
                          refine And.intro (show (-1000000000000000) ≤ u19 ∧ u19 ≤ 1000000000000000 by omega) ?_
                          refine And.intro (show 0 ≤ l19 ∧ l19 ≤ 1000000000000000 by omega) ?_
                          show Q 53 [(3, (0, 0, 1, 17, m + 1)), (2, (0, 0, 1, 1, 1)), (6, (0, 0, 0, 9, M1 64 (M1 67 m))), (5, (0, 0, 0, 9, M1 64 (M1 67 m))), (4, (0, 0, 0, 9, M1 64 (M1 66 m))), (0, (2, 60, 0, 0, 0)), (1, (0, 0, (-2147483648), 2147483647, a))] [] (xa_up (xa_up (xa_up (xa_up (xa_up M1 60 25 u19) 60 26 l19) 75 (M1 64 (M1 67 m)) u19) 76 (M1 64 (M1 67 m)) l19) 77 (M1 64 (M1 67 m)) 1)
                          refine hgo.2.1 53 _ [(3, (0, 0, 0, 16, m + 1)), (2, (0, 0, 0, 1, 1)), (0, (2, 60, 0, 0, 0)), (1, (0, 0, (-2147483648), 2147483647, a))] _ _ (xa_subI rfl rfl (fun _ _ _ _ => by omega) (xa_subI rfl rfl (fun _ _ _ _ => by omega) (xa_subR rfl (xa_subI rfl rfl (fun _ _ _ _ => by omega) xa_sub0)))) ?_
                          first
                            | (exfalso; omega)
                            | (have hR2 := xm_R_up (M := M1) (t := M1 64 (M1 67 m)) (by omega) (by omega) (by omega)
                               rw [xm_fC_go (a := M1 64 (M1 66 m)) (b := M1 66 m) (c := M1 67 m) (t := M1 64 (M1 67 m)) (by omega) (by omega) (by omega) eg19 (by omega)] at hE
                               have hR3 : xm_R (xa_up (xa_up (xa_up (xa_up (xa_up M1 60 25 u19) 60 26 l19) 75 (M1 64 (M1 67 m)) u19) 76 (M1 64 (M1 67 m)) l19) 77 (M1 64 (M1 67 m)) 1) = xm_R (xa_up M1 77 (M1 64 (M1 67 m)) 1) := xm_R_c (fun j => by simp [xa_up])
                               exact ihC (m + 1) 1 (xa_up (xa_up (xa_up (xa_up (xa_up M1 60 25 u19) 60 26 l19) 75 (M1 64 (M1 67 m)) u19) 76 (M1 64 (M1 67 m)) l19) 77 (M1 64 (M1 67 m)) 1) (by omega) (by omega) (by omega) (by omega) (xm_cor_a rfl (xm_cor_a rfl (xm_cor_a rfl (xm_cor_f (by omega) (xm_cor_f (by omega) hc))))) (by
                                 intro b b0 b1 b2
                                 by_cases e : b = M1 64 (M1 67 m)
                                 · subst e
                                   simp [xa_up]
                                   omega
                                 · simp [xa_up, e] at b2 ⊢
                                   exact hT b b0 b1 b2) (by rw [hR3, hR2]; omega) hE (by omega))
                        · intro (c22 : 1000000000000000 < l19)
                          show xa_wk post (some (0, 0, (-5), (-5), (-5))) (xa_up (xa_up M1 60 25 u19) 60 26 l19)
                          first
                            | (exfalso; omega)
                            | (rw [xm_fC_no (a := M1 64 (M1 66 m)) (b := M1 66 m) (c := M1 67 m) (t := M1 64 (M1 67 m)) (by omega) (by omega) (by omega) eg19 (by omega)] at hE
                               exact xa_wkI (-5) rfl (fun _ _ => by omega) (k (-5) _ (by omega) (xm_cor_f (by omega) (xm_cor_f (by omega) hc)) (fun b b0 b1 b2 => by simp [xa_up] at b2 ⊢; exact hT b b0 b1 b2) (hE _ _ rfl)))
                · intro (c3 : (M1 77 (M1 64 (M1 66 m))) = (M1 77 (M1 64 (M1 67 m))))
                  show Q 53 [(3, (0, 0, 1, 17, m + 1)), (5, (0, 0, 0, 9, M1 64 (M1 67 m))), (4, (0, 0, 0, 9, M1 64 (M1 66 m))), (2, (0, 0, 0, 1, z)), (0, (2, 60, 0, 0, 0)), (1, (0, 0, (-2147483648), 2147483647, a))] [] M1
                  refine hgo.2.1 53 _ [(3, (0, 0, 0, 16, m + 1)), (2, (0, 0, 0, 1, z)), (0, (2, 60, 0, 0, 0)), (1, (0, 0, (-2147483648), 2147483647, a))] _ _ (xa_subI rfl rfl (fun _ _ _ _ => by omega) (xa_subI rfl rfl (fun _ _ _ _ => by omega) (xa_subR rfl (xa_subI rfl rfl (fun _ _ _ _ => by omega) xa_sub0)))) ?_
                  rw [xm_fC_skip (by omega) (by omega)] at hE
                  exact ihC (m + 1) z M1 (by omega) (by omega) z0 z1 hc hT hR hE (by omega)
        show Q 53 [(3, (0, 0, 0, 0, 0)), (2, (0, 0, 0, 0, 0)), (0, (2, 60, 0, 0, 0)), (1, (0, 0, (-2147483648), 2147483647, a))] [] M0
        refine hgo.2.1 53 _ [(3, (0, 0, 0, 16, 0)), (2, (0, 0, 0, 1, 0)), (0, (2, 60, 0, 0, 0)), (1, (0, 0, (-2147483648), 2147483647, a))] _ _ (xa_subI rfl rfl (fun _ _ _ _ => by omega) (xa_subI rfl rfl (fun _ _ _ _ => by omega) (xa_subR rfl (xa_subI rfl rfl (fun _ _ _ _ => by omega) xa_sub0)))) ?_
        rw [xm_fB, if_neg (by omega)] at hE0
        exact loopC 17 0 0 M0 (by omega) (by omega) (by omega) (by omega) hc0 hT0 (by omega) hE0 (by omega)
  have loopA : ∀ (n : Nat) (b : Int) (M1 : xa_M), 0 ≤ b → b ≤ 10 → xm_cor M M1 → (∀ e, 0 ≤ e → e < b → M1 77 e = 1 → e = 0) → xm_i77 n b M1 = xm_i77 11 0 M → 10 - b < (n : Int) → Q 2 [(2, (0, 0, 0, 10, b)), (0, (2, 60, 0, 0, 0)), (1, (0, 0, (-2147483648), 2147483647, a))] [] M1 := by
    intro n
    induction n with
    | zero => intro b M1 h1 h2 hc hz hE hms; omega
    | succ n ih =>
      intro b M1 h1 h2 hc hz hE hms
      refine hgo.2.2 _ _ _ _ (fun hM1 _ => ?_)
      refine hgo.1 20 [2, 45, 53, 251] 2 _ _ _ ?_
      refine And.intro ?_ ?_
      · intro (c1 : 10 ≤ b)
        show Q 45 [(2, (0, 0, 1, 1, 1)), (0, (2, 60, 0, 0, 0)), (1, (0, 0, (-2147483648), 2147483647, a))] [] (xa_up (xa_up M1 75 0 1) 76 0 1)
        refine hgo.2.1 45 _ [(2, (0, 0, 0, 1, 1)), (0, (2, 60, 0, 0, 0)), (1, (0, 0, (-2147483648), 2147483647, a))] _ _ (xa_subI rfl rfl (fun _ _ _ _ => by omega) (xa_subR rfl (xa_subI rfl rfl (fun _ _ _ _ => by omega) xa_sub0))) ?_
        rw [xm_i77, if_neg (by omega)] at hE
        refine loopB 23 1 (xa_up (xa_up M1 75 0 1) 76 0 1) (by omega) (by omega) (xm_cor_a rfl (xm_cor_a rfl hc)) ?_ (fun v M9 h => by unfold xm_FT xm_ini; rw [← hE]; exact h) ?_
        · intro e e0 e1 e2
          by_cases ee : e = 0
          · subst ee
            simp [xa_up]
          · simp [xa_up, ee] at e2 ⊢
            exact absurd (hz e e0 (by omega) e2) ee
        · have := xm_R_le hM1
          have e9 : xm_R (xa_up (xa_up M1 75 0 1) 76 0 1) = xm_R M1 := xm_R_c (fun j => by simp [xa_up])
          rw [e9]
          omega
      · intro (c1 : b < 10)
        refine And.intro ?_ ?_
        · intro (c2 : ¬ b = 0)
          refine And.intro (show 0 ≤ b ∧ b < 10 by omega) ?_
          show Q 2 [(2, (0, 0, 1, 11, b + 1)), (0, (2, 60, 0, 0, 0)), (1, (0, 0, (-2147483648), 2147483647, a))] [] (xa_up M1 77 b 0)
          refine hgo.2.1 2 _ [(2, (0, 0, 0, 10, b + 1)), (0, (2, 60, 0, 0, 0)), (1, (0, 0, (-2147483648), 2147483647, a))] _ _ (xa_subI rfl rfl (fun _ _ _ _ => by omega) (xa_subR rfl (xa_subI rfl rfl (fun _ _ _ _ => by omega) xa_sub0))) ?_
          exact ih (b + 1) (xa_up M1 77 b 0) (by omega) (by omega) (xm_cor_a rfl hc) (fun e e0 e1 e2 => by
            by_cases ee : e = b
            · subst ee
              simp [xa_up] at e2
              try omega
            · simp [xa_up, ee] at e2
              exact hz e e0 (by omega) e2) (by rw [xm_i77, if_pos (by omega), if_neg (by omega)] at hE; exact hE) (by omega)
        · intro (c2 : b = 0)
          refine And.intro (show 0 ≤ b ∧ b < 10 by omega) ?_
          show Q 2 [(2, (0, 0, 1, 11, b + 1)), (0, (2, 60, 0, 0, 0)), (1, (0, 0, (-2147483648), 2147483647, a))] [] (xa_up M1 77 b 1)
          refine hgo.2.1 2 _ [(2, (0, 0, 0, 10, b + 1)), (0, (2, 60, 0, 0, 0)), (1, (0, 0, (-2147483648), 2147483647, a))] _ _ (xa_subI rfl rfl (fun _ _ _ _ => by omega) (xa_subR rfl (xa_subI rfl rfl (fun _ _ _ _ => by omega) xa_sub0))) ?_
          exact ih (b + 1) (xa_up M1 77 b 1) (by omega) (by omega) (xm_cor_a rfl hc) (fun e e0 e1 e2 => by
            by_cases ee : e = b
            · subst ee
              simp [xa_up] at e2
              try omega
            · simp [xa_up, ee] at e2
              exact hz e e0 (by omega) e2) (by rw [xm_i77, if_pos (by omega), if_pos (by omega)] at hE; exact hE) (by omega)
  refine hgo.1 7 [2, 45, 53, 251] 0 _ _ _ ?_
  show Q 2 [(2, (0, 0, 0, 0, 0)), (0, (2, 60, 0, 0, 0)), (1, (0, 0, (-2147483648), 2147483647, a))] [] M
  refine hgo.2.1 2 _ [(2, (0, 0, 0, 10, 0)), (0, (2, 60, 0, 0, 0)), (1, (0, 0, (-2147483648), 2147483647, a))] _ _ (xa_subI rfl rfl (fun _ _ _ _ => by omega) (xa_subR rfl (xa_subI rfl rfl (fun _ _ _ _ => by omega) xa_sub0))) ?_
  exact loopA 11 0 M (by omega) (by omega) xm_cor_r (fun e e0 e1 => by omega) rfl (by omega)

set_option maxRecDepth 20000
/-- none of a kept build's wheels is what is left of i -/
def rw_uP (ax lv lo hi K : Int → Int) (a i : Int) : Prop := br_no ax lv lo hi (fun x => K (124 * a + 1 + 5 * x + 3)) (fun x => K (124 * a + 1 + 5 * x + 4)) (fun x => K (124 * a + 1 + 5 * x + 2)) (K (124 * a)) i
noncomputable def rw_uB (ax lv lo hi K : Int → Int) (L a : Int) : Int := br_b (rw_uP ax lv lo hi K a) L.toNat
/-- unlike wheels, by the kept rows -/
noncomputable def rw_uU (K : Int → Int) (a b : Int) : Int := br_b (un_P (K (124 * a)) (K (124 * b)) (fun x => K (124 * a + 1 + 5 * x + 2)) (fun x => K (124 * a + 1 + 5 * x + 3)) (fun x => K (124 * a + 1 + 5 * x + 4)) (fun x => K (124 * b + 1 + 5 * x + 2)) (fun x => K (124 * b + 1 + 5 * x + 3)) (fun x => K (124 * b + 1 + 5 * x + 4))) 14
/-- what is told -/
noncomputable def rw_uV (ax lv lo hi K : Int → Int) (L a b : Int) : Int → Int := rw_v [rw_uU K a b, rw_uB ax lv lo hi K L a, rw_uB ax lv lo hi K L b]
theorem rw_uB_1 {ax lv lo hi K ax' lv' lo' hi' K' : Int → Int} {L L' a : Int} (eL : L = L' ∧ L ≤ 12) (e : ∀ i, 0 ≤ i → i < 12 → ax i = ax' i ∧ lv i = lv' i ∧ lo i = lo' i ∧ hi i = hi' i) (eK : ∀ x, 0 ≤ x → x < 496 → K x = K' x) (ha : 0 ≤ a ∧ a < 4) (hn : K (124 * a) ≤ 14) : rw_uB ax lv lo hi K L a = rw_uB ax' lv' lo' hi' K' L' a := by
  unfold rw_uB
  rw [← eL.1]
  refine br_b_e _ (fun k hk => ?_)
  obtain ⟨e1, e2, e3, e4⟩ := e (k : Int) (by omega) (by omega)
  have e0 := eK (124 * a) (by omega) (by omega)
  have is : ∀ w, 0 ≤ w → w < 14 → (br_is ax lv lo hi (fun x => K (124 * a + 1 + 5 * x + 3)) (fun x => K (124 * a + 1 + 5 * x + 4)) (fun x => K (124 * a + 1 + 5 * x + 2)) (k : Int) w ↔ br_is ax' lv' lo' hi' (fun x => K' (124 * a + 1 + 5 * x + 3)) (fun x => K' (124 * a + 1 + 5 * x + 4)) (fun x => K' (124 * a + 1 + 5 * x + 2)) (k : Int) w) := fun w w0 w1 => by
    unfold br_is
    dsimp only
    rw [e1, e2, e3, e4, eK (124 * a + 1 + 5 * w + 3) (by omega) (by omega), eK (124 * a + 1 + 5 * w + 4) (by omega) (by omega), eK (124 * a + 1 + 5 * w + 2) (by omega) (by omega)]
  unfold rw_uP br_no
  exact ⟨fun h w w0 w1 hh => h w w0 (by omega) ((is w w0 (by omega)).mpr hh), fun h w w0 w1 hh => h w w0 (by omega) ((is w w0 (by omega)).mp hh)⟩
theorem rw_uU_1 {K K' : Int → Int} {a b : Int} (eK : ∀ x, 0 ≤ x → x < 496 → K x = K' x) (ha : 0 ≤ a ∧ a < 4) (hb : 0 ≤ b ∧ b < 4) : rw_uU K a b = rw_uU K' a b := by
  unfold rw_uU
  refine br_b_e _ (fun k hk => ?_)
  unfold un_P
  dsimp only
  rw [eK (124 * a) (by omega) (by omega), eK (124 * b) (by omega) (by omega), eK (124 * a + 1 + 5 * (k : Int) + 2) (by omega) (by omega), eK (124 * a + 1 + 5 * (k : Int) + 3) (by omega) (by omega), eK (124 * a + 1 + 5 * (k : Int) + 4) (by omega) (by omega), eK (124 * b + 1 + 5 * (k : Int) + 2) (by omega) (by omega), eK (124 * b + 1 + 5 * (k : Int) + 3) (by omega) (by omega), eK (124 * b + 1 + 5 * (k : Int) + 4) (by omega) (by omega)]
theorem rw_uV_1 {ax lv lo hi K ax' lv' lo' hi' K' : Int → Int} {L L' a b : Int} (eL : L = L' ∧ L ≤ 12) (e : ∀ i, 0 ≤ i → i < 12 → ax i = ax' i ∧ lv i = lv' i ∧ lo i = lo' i ∧ hi i = hi' i) (eK : ∀ x, 0 ≤ x → x < 496 → K x = K' x) (ha : 0 ≤ a ∧ a < 4) (hb : 0 ≤ b ∧ b < 4) (hna : K (124 * a) ≤ 14) (hnb : K (124 * b) ≤ 14) : rw_uV ax lv lo hi K L a b = rw_uV ax' lv' lo' hi' K' L' a b := by
  unfold rw_uV
  rw [rw_uU_1 eK ha hb, rw_uB_1 eL e eK ha hna, rw_uB_1 eL e eK hb hnb]
theorem rw_uVa {ax lv lo hi K : Int → Int} {L a b : Int} {R : Int → Int} (h0 : R 0 = rw_uU K a b) (h1 : R 1 = rw_uB ax lv lo hi K L a) (h2 : R 2 = rw_uB ax lv lo hi K L b) : ∀ i : Int, 0 ≤ i → i < 3 → R i = rw_uV ax lv lo hi K L a b i := fun i i0 i1 => by
  rcases (show i = 0 ∨ i = 1 ∨ i = 2 by omega) with rfl | rfl | rfl
  · exact h0
  · exact h1
  · exact h2
theorem rw_brokenBy {A : Nat → Nat} {h0 : g_H} {d : Nat} {M : xa_M} {post : Option xa_V → xa_M → Prop} {l1 u1 : Int} {a : Int} (ha0 : 0 ≤ a) (ha1 : a ≤ 3) (hb : xm_bld M a) (k : ∀ r : Int, r = rw_uB (M 100) (M 101) (M 102) (M 103) (M 104) (M 60 61) a → post (some (0, 0, -2147483648, 2147483647, r)) M) : xa_C xm_I A h0 (d + 3) 299 [(2, 60, 0, 0, 0), (0, 0, l1, u1, a)] M post := by
  refine xa_C_arg [(2, 60, 0, 0, 0), (0, 0, 0, 3, a)] (xa_svR (xa_svI (fun _ _ _ _ => by omega) xa_sv0)) ?_
  refine xa_meth (Q0 := (6, 1, false, 0, 0, 12)) (by decide +kernel) ⟨rfl, rfl⟩ (full := s_c_299) rfl rfl ?_
  intro hM hv Q hgo
  have hbb := hb.1
  have b61 := xm_f61 hM
  have loopO : ∀ (n : Nat) (l b : Int), 0 ≤ l → l ≤ M 60 61 → b = br_b (rw_uP (M 100) (M 101) (M 102) (M 103) (M 104) a) l.toNat → 12 - l < (n : Int) → Q 4 [(3, (0, 0, 0, 12, l)), (2, (0, 0, (-2147483648), 2147483647, b)), (1, (0, 0, 0, 3, a)), (0, (2, 60, 0, 0, 0))] [] M := by
    intro n
    induction n with
    | zero => intro l b h1 h2 hb9 hms; clear hb9; omega
    | succ n ihO =>
      intro l b h1 h2 hb9 hms
      have ei : ((l.toNat : Nat) : Int) = l := Int.toNat_of_nonneg h1
      have hr := br_b_r (P := (rw_uP (M 100) (M 101) (M 102) (M 103) (M 104) a)) l.toNat
      rw [← hb9] at hr
      refine hgo.1 13 [4, 18] 4 _ _ _ ?_
      refine And.intro ?_ ?_
      · intro (c1 : (M 60 61) ≤ l)
        show post (some (0, 0, (-2147483648), 2147483647, b)) M
        exact k _ (by rw [hb9, show l = M 60 61 by omega]; rfl)
      · intro (c1 : l < (M 60 61))
        have loopI : ∀ (n : Nat) (w z : Int), 0 ≤ w → w ≤ M 104 (124 * a) → (0 ≤ z ∧ z ≤ 1) → br_s (br_is (M 100) (M 101) (M 102) (M 103) (fun x => M 104 (124 * a + 1 + 5 * x + 3)) (fun x => M 104 (124 * a + 1 + 5 * x + 4)) (fun x => M 104 (124 * a + 1 + 5 * x + 2)) l) w z → 14 - w < (n : Int) → Q 18 [(5, (0, 0, 0, 14, w)), (4, (0, 0, 0, 1, z)), (3, (0, 0, 0, 11, l)), (2, (0, 0, (-2147483648), 2147483647, b)), (1, (0, 0, 0, 3, a)), (0, (2, 60, 0, 0, 0))] [] M := by
          intro n
          induction n with
          | zero => intro w z h1 h2 hz hs hms; clear hs; omega
          | succ n ih =>
            intro w z h1 h2 hz hs hms
            refine hgo.1 39 [4, 18] 18 _ _ _ ?_
            refine And.intro ?_ ?_
            · intro (c1 : (M 104 (124 * a)) ≤ w)
              refine And.intro ?_ ?_
              · intro (c2 : z = 0)
                show Q 4 [(3, (0, 0, 1, 12, l + 1)), (2, (0, 0, (-2147483648), 2147483647, xa_ib 4 b (xa_ib 6 1 l))), (5, (0, 0, 0, 14, w)), (4, (0, 0, 0, 1, z)), (1, (0, 0, 0, 3, a)), (0, (2, 60, 0, 0, 0))] [] M
                refine hgo.2.1 4 _ [(3, (0, 0, 0, 12, l + 1)), (2, (0, 0, (-2147483648), 2147483647, xa_ib 4 b (xa_ib 6 1 l))), (1, (0, 0, 0, 3, a)), (0, (2, 60, 0, 0, 0))] _ _ (xa_subI rfl rfl (fun _ _ _ _ => by omega) (xa_subI rfl rfl (fun _ _ _ _ => by omega) (xa_subI rfl rfl (fun _ _ _ _ => by omega) (xa_subR rfl xa_sub0)))) ?_
                have eb : xa_ib 4 b (xa_ib 6 1 l) = br_b (rw_uP (M 100) (M 101) (M 102) (M 103) (M 104) a) (l + 1).toNat := by
                  rw [show (l + 1).toNat = l.toNat + 1 by omega, br_b1 (show (rw_uP (M 100) (M 101) (M 102) (M 103) (M 104) a) ((l.toNat : Nat) : Int) by rw [ei]; exact fun w9 w0 w1 => br_s_no hs (by omega) w9 w0 (by omega)), ← hb9, ei]
                exact ihO (l + 1) _ (by omega) (by omega) eb (by omega)
              · intro (c2 : ¬ z = 0)
                show Q 4 [(3, (0, 0, 1, 12, l + 1)), (2, (0, 0, (-2147483648), 2147483647, xa_ib 4 b 0)), (5, (0, 0, 0, 14, w)), (4, (0, 0, 0, 1, z)), (1, (0, 0, 0, 3, a)), (0, (2, 60, 0, 0, 0))] [] M
                refine hgo.2.1 4 _ [(3, (0, 0, 0, 12, l + 1)), (2, (0, 0, (-2147483648), 2147483647, xa_ib 4 b 0)), (1, (0, 0, 0, 3, a)), (0, (2, 60, 0, 0, 0))] _ _ (xa_subI rfl rfl (fun _ _ _ _ => by omega) (xa_subI rfl rfl (fun _ _ _ _ => by omega) (xa_subI rfl rfl (fun _ _ _ _ => by omega) (xa_subR rfl xa_sub0)))) ?_
                have eb : xa_ib 4 b 0 = br_b (rw_uP (M 100) (M 101) (M 102) (M 103) (M 104) a) (l + 1).toNat := by
                  rw [show (l + 1).toNat = l.toNat + 1 by omega, br_b0 (show ¬ (rw_uP (M 100) (M 101) (M 102) (M 103) (M 104) a) ((l.toNat : Nat) : Int) by rw [ei]; exact fun hh => br_s_so hs (by omega) (fun w9 w0 w1 => hh w9 w0 (by omega))), ← hb9, br_or0 hr.1 hr.2]
                exact ihO (l + 1) _ (by omega) (by omega) eb (by omega)
            · intro (c1 : w < (M 104 (124 * a)))
              refine And.intro ?_ ?_
              · intro (c3 : ¬ z = 0)
                show Q 18 [(5, (0, 0, 1, 15, w + 1)), (4, (0, 0, 1, 1, 1)), (3, (0, 0, 0, 11, l)), (2, (0, 0, (-2147483648), 2147483647, b)), (1, (0, 0, 0, 3, a)), (0, (2, 60, 0, 0, 0))] [] M
                refine hgo.2.1 18 _ [(5, (0, 0, 0, 14, w + 1)), (4, (0, 0, 0, 1, 1)), (3, (0, 0, 0, 11, l)), (2, (0, 0, (-2147483648), 2147483647, b)), (1, (0, 0, 0, 3, a)), (0, (2, 60, 0, 0, 0))] _ _ (xa_subI rfl rfl (fun _ _ _ _ => by omega) (xa_subI rfl rfl (fun _ _ _ _ => by omega) (xa_subI rfl rfl (fun _ _ _ _ => by omega) (xa_subI rfl rfl (fun _ _ _ _ => by omega) (xa_subI rfl rfl (fun _ _ _ _ => by omega) (xa_subR rfl xa_sub0)))))) ?_
                exact ih (w + 1) 1 (by omega) (by omega) (by omega) (br_s_k hs (by omega)) (by omega)
              · intro (c3 : z = 0)
                show xa_C xm_I A h0 _ 298 [(2, 60, 0, 0, 0), (0, 0, 0, 3, a), (0, 0, 0, 14, w), (0, 0, 3, 3, 3)] M _
                refine ct_ofBuild (by omega) (by omega) (by omega) (by omega) (by omega) (by omega) ?_
                show xa_C xm_I A h0 _ 298 [(2, 60, 0, 0, 0), (0, 0, 0, 3, a), (0, 0, 0, 14, w), (0, 0, 4, 4, 4)] M _
                refine ct_ofBuild (by omega) (by omega) (by omega) (by omega) (by omega) (by omega) ?_
                show xa_C xm_I A h0 _ 298 [(2, 60, 0, 0, 0), (0, 0, 0, 3, a), (0, 0, 0, 14, w), (0, 0, 2, 2, 2)] M _
                refine ct_ofBuild (by omega) (by omega) (by omega) (by omega) (by omega) (by omega) ?_
                show xa_C xm_I A h0 _ 292 [(2, 60, 0, 0, 0), (0, 0, 0, 11, l), (0, 0, (-2147483648), 2147483647, M 104 (124 * a + 1 + 5 * w + 3)), (0, 0, (-2147483648), 2147483647, M 104 (124 * a + 1 + 5 * w + 4)), (0, 0, (-2147483648), 2147483647, M 104 (124 * a + 1 + 5 * w + 2))] M _
                refine ct_isLeft (by omega) (by omega) (fun r4 zr4 er4 => ?_)
                refine And.intro ?_ ?_
                · intro (c5 : r4 = 0)
                  show Q 18 [(5, (0, 0, 1, 15, w + 1)), (4, (0, 0, 0, 0, 0)), (3, (0, 0, 0, 11, l)), (2, (0, 0, (-2147483648), 2147483647, b)), (1, (0, 0, 0, 3, a)), (0, (2, 60, 0, 0, 0))] [] M
                  refine hgo.2.1 18 _ [(5, (0, 0, 0, 14, w + 1)), (4, (0, 0, 0, 1, 0)), (3, (0, 0, 0, 11, l)), (2, (0, 0, (-2147483648), 2147483647, b)), (1, (0, 0, 0, 3, a)), (0, (2, 60, 0, 0, 0))] _ _ (xa_subI rfl rfl (fun _ _ _ _ => by omega) (xa_subI rfl rfl (fun _ _ _ _ => by omega) (xa_subI rfl rfl (fun _ _ _ _ => by omega) (xa_subI rfl rfl (fun _ _ _ _ => by omega) (xa_subI rfl rfl (fun _ _ _ _ => by omega) (xa_subR rfl xa_sub0)))))) ?_
                  exact ih (w + 1) 0 (by omega) (by omega) (by omega) (br_s_n hs (by omega) (fun hh => by have q := er4.mpr ⟨hh.1.symm, hh.2.1.symm, hh.2.2.1, hh.2.2.2⟩; omega)) (by omega)
                · intro (c5 : ¬ r4 = 0)
                  show Q 18 [(5, (0, 0, 1, 15, w + 1)), (4, (0, 0, 1, 1, 1)), (3, (0, 0, 0, 11, l)), (2, (0, 0, (-2147483648), 2147483647, b)), (1, (0, 0, 0, 3, a)), (0, (2, 60, 0, 0, 0))] [] M
                  refine hgo.2.1 18 _ [(5, (0, 0, 0, 14, w + 1)), (4, (0, 0, 0, 1, 1)), (3, (0, 0, 0, 11, l)), (2, (0, 0, (-2147483648), 2147483647, b)), (1, (0, 0, 0, 3, a)), (0, (2, 60, 0, 0, 0))] _ _ (xa_subI rfl rfl (fun _ _ _ _ => by omega) (xa_subI rfl rfl (fun _ _ _ _ => by omega) (xa_subI rfl rfl (fun _ _ _ _ => by omega) (xa_subI rfl rfl (fun _ _ _ _ => by omega) (xa_subI rfl rfl (fun _ _ _ _ => by omega) (xa_subR rfl xa_sub0)))))) ?_
                  exact ih (w + 1) 1 (by omega) (by omega) (by omega) (br_s_y (by omega) (by have q := er4.mp (by omega); exact ⟨q.1.symm, q.2.1.symm, q.2.2.1, q.2.2.2⟩)) (by omega)
        show Q 18 [(5, (0, 0, 0, 0, 0)), (4, (0, 0, 0, 0, 0)), (3, (0, 0, 0, 12, l)), (2, (0, 0, (-2147483648), 2147483647, b)), (1, (0, 0, 0, 3, a)), (0, (2, 60, 0, 0, 0))] [] M
        refine hgo.2.1 18 _ [(5, (0, 0, 0, 14, 0)), (4, (0, 0, 0, 1, 0)), (3, (0, 0, 0, 11, l)), (2, (0, 0, (-2147483648), 2147483647, b)), (1, (0, 0, 0, 3, a)), (0, (2, 60, 0, 0, 0))] _ _ (xa_subI rfl rfl (fun _ _ _ _ => by omega) (xa_subI rfl rfl (fun _ _ _ _ => by omega) (xa_subI rfl rfl (fun _ _ _ _ => by omega) (xa_subI rfl rfl (fun _ _ _ _ => by omega) (xa_subI rfl rfl (fun _ _ _ _ => by omega) (xa_subR rfl xa_sub0)))))) ?_
        exact loopI 15 0 0 (by omega) (by omega) (by omega) br_s_0 (by omega)
  refine hgo.1 9 [4] 0 _ _ _ ?_
  show Q 4 [(3, (0, 0, 0, 0, 0)), (2, (0, 0, 0, 0, 0)), (0, (2, 60, 0, 0, 0)), (1, (0, 0, 0, 3, a))] [] M
  refine hgo.2.1 4 _ [(3, (0, 0, 0, 12, 0)), (2, (0, 0, (-2147483648), 2147483647, 0)), (1, (0, 0, 0, 3, a)), (0, (2, 60, 0, 0, 0))] _ _ (xa_subI rfl rfl (fun _ _ _ _ => by omega) (xa_subI rfl rfl (fun _ _ _ _ => by omega) (xa_subI rfl rfl (fun _ _ _ _ => by omega) (xa_subR rfl xa_sub0)))) ?_
  exact loopO 13 0 0 (by omega) (by omega) rfl (by omega)
theorem rw_uB_e {M N : xa_M} (h : ∀ (q : Nat) (j : Int), ¬ (q = 74 ∨ (q = 60 ∧ j < 61)) → N q j = M q j) (a : Int) : rw_uB (N 100) (N 101) (N 102) (N 103) (N 104) (N 60 61) a = rw_uB (M 100) (M 101) (M 102) (M 103) (M 104) (M 60 61) a := by
  rw [show N 100 = M 100 from funext (fun j => h 100 j (by omega)), show N 101 = M 101 from funext (fun j => h 101 j (by omega)), show N 102 = M 102 from funext (fun j => h 102 j (by omega)), show N 103 = M 103 from funext (fun j => h 103 j (by omega)), show N 104 = M 104 from funext (fun j => h 104 j (by omega)), h 60 61 (by omega)]
theorem rw_m205 {A : Nat → Nat} {h0 : g_H} {d : Nat} {M : xa_M} {post : Option xa_V → xa_M → Prop} {l1 u1 l2 u2 a b : Int} (hI : xm_Inv M) (k : ∀ (r : Int) (M1 : xa_M), un_A M a b r → xm_cor M M1 → rw_k (rz_uk M a b) (M 60 20) (M 74) (M1 60 20) (M1 74) 3 (fun V => V = rw_uV (M 100) (M 101) (M 102) (M 103) (M 104) (M 60 61) a b) → post (some (0, 0, (-2147483648), 2147483647, r)) M1) : xa_C xm_I A h0 (d + 5) 297 [(2, 60, 0, 0, 0), (0, 0, l1, u1, a), (0, 0, l2, u2, b)] M post := by
  refine xa_C_wk ?_
  refine xa_C_arg [(2, 60, 0, 0, 0), (0, 0, (-2147483648), 2147483647, a), (0, 0, (-2147483648), 2147483647, b)] (xa_svR (xa_svI (fun _ _ _ _ => by omega) (xa_svI (fun _ _ _ _ => by omega) xa_sv0))) ?_
  refine xa_meth (Q0 := (9, 1, false, 0, 0, 12)) (by decide +kernel) ⟨rfl, rfl⟩ (full := s_c_297) rfl rfl ?_
  intro hM hv Q hgo
  have t105a := fun h0 h1 => xm_t105 hM a h0 h1
  have t105b := fun h0 h1 => xm_t105 hM b h0 h1
  have key : 0 ≤ a → a ≤ 3 → 0 ≤ b → b ≤ 3 → M 105 a = 1 → M 105 b = 1 → Q 48 [(4, (0, 0, 0, 14, 0)), (3, (0, 0, (-2147483648), 2147483647, 0)), (2, (0, 0, 0, 3, b)), (1, (0, 0, 0, 3, a)), (0, (2, 60, 0, 0, 0))] [] (xa_up M 60 21 0) := by
    intro a0 a1 b0 b1 e1 e2
    have ba := hI.2.2.2.2 a a0 (by omega) e1
    have bb := hI.2.2.2.2 b b0 (by omega) e2
    have loop : ∀ (n : Nat) (w c : Int), 0 ≤ w ∧ w ≤ 14 → c = br_b (un_P (M 104 (124 * a)) (M 104 (124 * b)) (fun x => M 104 (124 * a + 1 + 5 * x + 2)) (fun x => M 104 (124 * a + 1 + 5 * x + 3)) (fun x => M 104 (124 * a + 1 + 5 * x + 4)) (fun x => M 104 (124 * b + 1 + 5 * x + 2)) (fun x => M 104 (124 * b + 1 + 5 * x + 3)) (fun x => M 104 (124 * b + 1 + 5 * x + 4))) w.toNat → 14 - w < (n : Int) → Q 48 [(4, (0, 0, 0, 14, w)), (3, (0, 0, (-2147483648), 2147483647, c)), (2, (0, 0, 0, 3, b)), (1, (0, 0, 0, 3, a)), (0, (2, 60, 0, 0, 0))] [] (xa_up M 60 21 0) := by
      intro n
      induction n with
      | zero => intro w c w1 hc hms; omega
      | succ n ih =>
        intro w c w1 hc hms
        have ew : ((w.toNat : Nat) : Int) = w := Int.toNat_of_nonneg w1.1
        have hr := br_b_r (P := (un_P (M 104 (124 * a)) (M 104 (124 * b)) (fun x => M 104 (124 * a + 1 + 5 * x + 2)) (fun x => M 104 (124 * a + 1 + 5 * x + 3)) (fun x => M 104 (124 * a + 1 + 5 * x + 4)) (fun x => M 104 (124 * b + 1 + 5 * x + 2)) (fun x => M 104 (124 * b + 1 + 5 * x + 3)) (fun x => M 104 (124 * b + 1 + 5 * x + 4)))) w.toNat
        rw [← hc] at hr
        refine hgo.1 124 [43, 48] 48 _ _ _ ?_
        refine And.intro ?_ ?_
        · intro (c1 : 14 ≤ w)
          show xa_C xm_I A h0 _ 231 [(2, 60, 0, 0, 0), (1, 0, (-2147483648), 2147483647, c)] (xa_up (xa_up M 60 21 0) 60 20 0) _
          refine ct_tell (n := 0) (by first | rfl | (simp [xa_up]; done) | omega) (by omega) (by omega) ?_
          show xa_C xm_I A h0 _ 299 [(2, 60, 0, 0, 0), (0, 0, 0, 3, a)] (xa_up (xa_up (xa_up (xa_up M 60 21 0) 60 20 0) 74 0 c) 60 20 1) _
          refine rw_brokenBy (by omega) (by omega) (xm_bld_c (fun j => by simp [xa_up]) ba) ?_
          intro r101 q9a
          have qa : r101 = rw_uB (M 100) (M 101) (M 102) (M 103) (M 104) (M 60 61) a := q9a.trans (rw_uB_e (M := M) (fun q j hn => ((xa_up_ne (by omega)).trans ((xa_up_ne (by omega)).trans ((xa_up_ne (by omega)).trans (xa_up_ne (by omega)))))) a)
          show xa_C xm_I A h0 _ 231 [(2, 60, 0, 0, 0), (1, 0, (-2147483648), 2147483647, r101)] (xa_up (xa_up (xa_up (xa_up M 60 21 0) 60 20 0) 74 0 c) 60 20 1) _
          refine ct_tell (n := 1) (by first | rfl | (simp [xa_up]; done) | omega) (by omega) (by omega) ?_
          show xa_C xm_I A h0 _ 299 [(2, 60, 0, 0, 0), (0, 0, 0, 3, b)] (xa_up (xa_up (xa_up (xa_up (xa_up (xa_up M 60 21 0) 60 20 0) 74 0 c) 60 20 1) 74 1 r101) 60 20 2) _
          refine rw_brokenBy (by omega) (by omega) (xm_bld_c (fun j => by simp [xa_up]) bb) ?_
          intro r102 q9b
          have qb : r102 = rw_uB (M 100) (M 101) (M 102) (M 103) (M 104) (M 60 61) b := q9b.trans (rw_uB_e (M := M) (fun q j hn => ((xa_up_ne (by omega)).trans ((xa_up_ne (by omega)).trans ((xa_up_ne (by omega)).trans ((xa_up_ne (by omega)).trans ((xa_up_ne (by omega)).trans (xa_up_ne (by omega)))))))) b)
          show xa_C xm_I A h0 _ 231 [(2, 60, 0, 0, 0), (1, 0, (-2147483648), 2147483647, r102)] (xa_up (xa_up (xa_up (xa_up (xa_up (xa_up M 60 21 0) 60 20 0) 74 0 c) 60 20 1) 74 1 r101) 60 20 2) _
          refine ct_tell (n := 2) (by first | rfl | (simp [xa_up]; done) | omega) (by omega) (by omega) ?_
          show xa_C xm_I A h0 _ 136 [(0, 0, (-2147483648), 2147483647, c)] (xa_up (xa_up (xa_up (xa_up (xa_up (xa_up (xa_up (xa_up M 60 21 0) 60 20 0) 74 0 c) 60 20 1) 74 1 r101) 60 20 2) 74 2 r102) 60 20 3) _
          refine ct_bitCount ?_
          show xa_wk post (some (0, 0, (-2147483648), 2147483647, xa_bc c)) (xa_up (xa_up (xa_up (xa_up (xa_up (xa_up (xa_up (xa_up M 60 21 0) 60 20 0) 74 0 c) 60 20 1) 74 1 r101) 60 20 2) 74 2 r102) 60 20 3)
          rw [show w = 14 by omega] at hc
          have hu : c = rw_uU (M 104) a b := hc
          exact xa_wkI _ rfl (fun _ _ => by omega) (k _ _ (Or.inl ⟨by omega, by omega, by omega, by omega, by rw [hc]; rfl⟩) (xm_cor_f (by omega) (xm_cor_a rfl (xm_cor_f (by omega) (xm_cor_a rfl (xm_cor_f (by omega) (xm_cor_a rfl (xm_cor_f (by omega) (xm_cor_f (by omega) xm_cor_r)))))))) (rw_yes ⟨by omega, by omega, by omega, by omega⟩ xa_up_eq (rw_uVa ((xa_up_ne (by omega)).trans ((xa_up_ne (by omega)).trans ((xa_up_ne (by omega)).trans ((xa_up_ne (by omega)).trans ((xa_up_ne (by omega)).trans (xa_up_eq.trans hu)))))) ((xa_up_ne (by omega)).trans ((xa_up_ne (by omega)).trans ((xa_up_ne (by omega)).trans (xa_up_eq.trans qa)))) ((xa_up_ne (by omega)).trans (xa_up_eq.trans qb))) rfl))
        · intro (c1 : w < 14)
          refine And.intro ?_ ?_
          · intro (c2 : (M 104 (124 * a)) ≤ w)
            refine And.intro ?_ ?_
            · intro (c3 : (M 104 (124 * b)) ≤ w)
              show Q 48 [(4, (0, 0, 1, 15, w + 1)), (3, (0, 0, (-2147483648), 2147483647, xa_ib 4 c 0)), (8, (0, 0, 2, 2, 2)), (7, (0, 0, 0, 0, 0)), (6, (0, 0, 0, 0, 0)), (5, (0, 0, 0, 0, 0)), (2, (0, 0, 0, 3, b)), (1, (0, 0, 0, 3, a)), (0, (2, 60, 0, 0, 0))] [] (xa_up M 60 21 0)
              have eb : xa_ib 4 c 0 = br_b (un_P (M 104 (124 * a)) (M 104 (124 * b)) (fun x => M 104 (124 * a + 1 + 5 * x + 2)) (fun x => M 104 (124 * a + 1 + 5 * x + 3)) (fun x => M 104 (124 * a + 1 + 5 * x + 4)) (fun x => M 104 (124 * b + 1 + 5 * x + 2)) (fun x => M 104 (124 * b + 1 + 5 * x + 3)) (fun x => M 104 (124 * b + 1 + 5 * x + 4))) (w + 1).toNat := by
                rw [show (w + 1).toNat = w.toNat + 1 by omega, br_b0 (show ¬ (un_P (M 104 (124 * a)) (M 104 (124 * b)) (fun x => M 104 (124 * a + 1 + 5 * x + 2)) (fun x => M 104 (124 * a + 1 + 5 * x + 3)) (fun x => M 104 (124 * a + 1 + 5 * x + 4)) (fun x => M 104 (124 * b + 1 + 5 * x + 2)) (fun x => M 104 (124 * b + 1 + 5 * x + 3)) (fun x => M 104 (124 * b + 1 + 5 * x + 4))) ((w.toNat : Nat) : Int) by rw [ew]; exact fun h => h.elim (fun e => by omega) (fun e => by omega)), ← hc, br_or0 hr.1 hr.2]
              refine hgo.2.1 48 _ [(4, (0, 0, 0, 14, w + 1)), (3, (0, 0, (-2147483648), 2147483647, xa_ib 4 c 0)), (2, (0, 0, 0, 3, b)), (1, (0, 0, 0, 3, a)), (0, (2, 60, 0, 0, 0))] _ _ (xa_subI rfl rfl (fun _ _ _ _ => by omega) (xa_subI rfl rfl (fun _ _ _ _ => by omega) (xa_subI rfl rfl (fun _ _ _ _ => by omega) (xa_subI rfl rfl (fun _ _ _ _ => by omega) (xa_subR rfl (xa_sub0)))))) ?_
              exact ih (w + 1) _ (by omega) eb (by omega)
            · intro (c3 : w < (M 104 (124 * b)))
              show Q 48 [(4, (0, 0, 1, 15, w + 1)), (3, (0, 0, (-2147483648), 2147483647, xa_ib 4 c (xa_ib 6 1 w))), (8, (0, 0, 2, 2, 2)), (7, (0, 0, 1, 1, 1)), (6, (0, 0, 1, 1, 1)), (5, (0, 0, 0, 0, 0)), (2, (0, 0, 0, 3, b)), (1, (0, 0, 0, 3, a)), (0, (2, 60, 0, 0, 0))] [] (xa_up M 60 21 0)
              have eb : xa_ib 4 c (xa_ib 6 1 w) = br_b (un_P (M 104 (124 * a)) (M 104 (124 * b)) (fun x => M 104 (124 * a + 1 + 5 * x + 2)) (fun x => M 104 (124 * a + 1 + 5 * x + 3)) (fun x => M 104 (124 * a + 1 + 5 * x + 4)) (fun x => M 104 (124 * b + 1 + 5 * x + 2)) (fun x => M 104 (124 * b + 1 + 5 * x + 3)) (fun x => M 104 (124 * b + 1 + 5 * x + 4))) (w + 1).toNat := by
                rw [show (w + 1).toNat = w.toNat + 1 by omega, br_b1 (show (un_P (M 104 (124 * a)) (M 104 (124 * b)) (fun x => M 104 (124 * a + 1 + 5 * x + 2)) (fun x => M 104 (124 * a + 1 + 5 * x + 3)) (fun x => M 104 (124 * a + 1 + 5 * x + 4)) (fun x => M 104 (124 * b + 1 + 5 * x + 2)) (fun x => M 104 (124 * b + 1 + 5 * x + 3)) (fun x => M 104 (124 * b + 1 + 5 * x + 4))) ((w.toNat : Nat) : Int) by rw [ew]; exact Or.inl (by omega)), ← hc, ew]
              refine hgo.2.1 48 _ [(4, (0, 0, 0, 14, w + 1)), (3, (0, 0, (-2147483648), 2147483647, xa_ib 4 c (xa_ib 6 1 w))), (2, (0, 0, 0, 3, b)), (1, (0, 0, 0, 3, a)), (0, (2, 60, 0, 0, 0))] _ _ (xa_subI rfl rfl (fun _ _ _ _ => by omega) (xa_subI rfl rfl (fun _ _ _ _ => by omega) (xa_subI rfl rfl (fun _ _ _ _ => by omega) (xa_subI rfl rfl (fun _ _ _ _ => by omega) (xa_subR rfl (xa_sub0)))))) ?_
              exact ih (w + 1) _ (by omega) eb (by omega)
          · intro (c2 : w < (M 104 (124 * a)))
            refine And.intro ?_ ?_
            · intro (c4 : (M 104 (124 * b)) ≤ w)
              show Q 48 [(4, (0, 0, 1, 15, w + 1)), (3, (0, 0, (-2147483648), 2147483647, xa_ib 4 c (xa_ib 6 1 w))), (8, (0, 0, 2, 2, 2)), (7, (0, 0, 1, 1, 1)), (6, (0, 0, 0, 0, 0)), (5, (0, 0, 1, 1, 1)), (2, (0, 0, 0, 3, b)), (1, (0, 0, 0, 3, a)), (0, (2, 60, 0, 0, 0))] [] (xa_up M 60 21 0)
              have eb : xa_ib 4 c (xa_ib 6 1 w) = br_b (un_P (M 104 (124 * a)) (M 104 (124 * b)) (fun x => M 104 (124 * a + 1 + 5 * x + 2)) (fun x => M 104 (124 * a + 1 + 5 * x + 3)) (fun x => M 104 (124 * a + 1 + 5 * x + 4)) (fun x => M 104 (124 * b + 1 + 5 * x + 2)) (fun x => M 104 (124 * b + 1 + 5 * x + 3)) (fun x => M 104 (124 * b + 1 + 5 * x + 4))) (w + 1).toNat := by
                rw [show (w + 1).toNat = w.toNat + 1 by omega, br_b1 (show (un_P (M 104 (124 * a)) (M 104 (124 * b)) (fun x => M 104 (124 * a + 1 + 5 * x + 2)) (fun x => M 104 (124 * a + 1 + 5 * x + 3)) (fun x => M 104 (124 * a + 1 + 5 * x + 4)) (fun x => M 104 (124 * b + 1 + 5 * x + 2)) (fun x => M 104 (124 * b + 1 + 5 * x + 3)) (fun x => M 104 (124 * b + 1 + 5 * x + 4))) ((w.toNat : Nat) : Int) by rw [ew]; exact Or.inl (by omega)), ← hc, ew]
              refine hgo.2.1 48 _ [(4, (0, 0, 0, 14, w + 1)), (3, (0, 0, (-2147483648), 2147483647, xa_ib 4 c (xa_ib 6 1 w))), (2, (0, 0, 0, 3, b)), (1, (0, 0, 0, 3, a)), (0, (2, 60, 0, 0, 0))] _ _ (xa_subI rfl rfl (fun _ _ _ _ => by omega) (xa_subI rfl rfl (fun _ _ _ _ => by omega) (xa_subI rfl rfl (fun _ _ _ _ => by omega) (xa_subI rfl rfl (fun _ _ _ _ => by omega) (xa_subR rfl (xa_sub0)))))) ?_
              exact ih (w + 1) _ (by omega) eb (by omega)
            · intro (c4 : w < (M 104 (124 * b)))
              show xa_C xm_I A h0 _ 298 [(2, 60, 0, 0, 0), (0, 0, 0, 3, a), (0, 0, 0, 14, w), (0, 0, 2, 2, 2)] (xa_up M 60 21 0) _
              refine ct_ofBuild (by omega) (by omega) (by omega) (by omega) (by omega) (by omega) ?_
              show xa_C xm_I A h0 _ 298 [(2, 60, 0, 0, 0), (0, 0, 0, 3, b), (0, 0, 0, 14, w), (0, 0, 2, 2, 2)] (xa_up M 60 21 0) _
              refine ct_ofBuild (by omega) (by omega) (by omega) (by omega) (by omega) (by omega) ?_
              refine And.intro ?_ ?_
              · intro (c5 : (M 104 (124 * a + 1 + 5 * w + 2)) = (M 104 (124 * b + 1 + 5 * w + 2)))
                show xa_C xm_I A h0 _ 298 [(2, 60, 0, 0, 0), (0, 0, 0, 3, a), (0, 0, 0, 14, w), (0, 0, 3, 3, 2 + 1)] (xa_up M 60 21 0) _
                refine ct_ofBuild (by omega) (by omega) (by omega) (by omega) (by omega) (by omega) ?_
                show xa_C xm_I A h0 _ 298 [(2, 60, 0, 0, 0), (0, 0, 0, 3, b), (0, 0, 0, 14, w), (0, 0, 3, 3, 2 + 1)] (xa_up M 60 21 0) _
                refine ct_ofBuild (by omega) (by omega) (by omega) (by omega) (by omega) (by omega) ?_
                refine And.intro ?_ ?_
                · intro (c6 : (M 104 (124 * a + 1 + 5 * w + (2 + 1))) = (M 104 (124 * b + 1 + 5 * w + (2 + 1))))
                  show xa_C xm_I A h0 _ 298 [(2, 60, 0, 0, 0), (0, 0, 0, 3, a), (0, 0, 0, 14, w), (0, 0, 4, 4, (2 + 1) + 1)] (xa_up M 60 21 0) _
                  refine ct_ofBuild (by omega) (by omega) (by omega) (by omega) (by omega) (by omega) ?_
                  show xa_C xm_I A h0 _ 298 [(2, 60, 0, 0, 0), (0, 0, 0, 3, b), (0, 0, 0, 14, w), (0, 0, 4, 4, (2 + 1) + 1)] (xa_up M 60 21 0) _
                  refine ct_ofBuild (by omega) (by omega) (by omega) (by omega) (by omega) (by omega) ?_
                  refine And.intro ?_ ?_
                  · intro (c7 : (M 104 (124 * a + 1 + 5 * w + ((2 + 1) + 1))) = (M 104 (124 * b + 1 + 5 * w + ((2 + 1) + 1))))
                    show Q 48 [(4, (0, 0, 1, 15, w + 1)), (3, (0, 0, (-2147483648), 2147483647, xa_ib 4 c 0)), (8, (0, 0, 5, 5, ((2 + 1) + 1) + 1)), (7, (0, 0, 0, 0, 0)), (6, (0, 0, 1, 1, 1)), (5, (0, 0, 1, 1, 1)), (2, (0, 0, 0, 3, b)), (1, (0, 0, 0, 3, a)), (0, (2, 60, 0, 0, 0))] [] (xa_up M 60 21 0)
                    have eb : xa_ib 4 c 0 = br_b (un_P (M 104 (124 * a)) (M 104 (124 * b)) (fun x => M 104 (124 * a + 1 + 5 * x + 2)) (fun x => M 104 (124 * a + 1 + 5 * x + 3)) (fun x => M 104 (124 * a + 1 + 5 * x + 4)) (fun x => M 104 (124 * b + 1 + 5 * x + 2)) (fun x => M 104 (124 * b + 1 + 5 * x + 3)) (fun x => M 104 (124 * b + 1 + 5 * x + 4))) (w + 1).toNat := by
                      rw [show (w + 1).toNat = w.toNat + 1 by omega, br_b0 (show ¬ (un_P (M 104 (124 * a)) (M 104 (124 * b)) (fun x => M 104 (124 * a + 1 + 5 * x + 2)) (fun x => M 104 (124 * a + 1 + 5 * x + 3)) (fun x => M 104 (124 * a + 1 + 5 * x + 4)) (fun x => M 104 (124 * b + 1 + 5 * x + 2)) (fun x => M 104 (124 * b + 1 + 5 * x + 3)) (fun x => M 104 (124 * b + 1 + 5 * x + 4))) ((w.toNat : Nat) : Int) by rw [ew]; exact fun h => h.elim (fun e => e ⟨fun _ => c4, fun _ => c2⟩) (fun e => e.2.2 ⟨c5, c6, c7⟩)), ← hc, br_or0 hr.1 hr.2]
                    refine hgo.2.1 48 _ [(4, (0, 0, 0, 14, w + 1)), (3, (0, 0, (-2147483648), 2147483647, xa_ib 4 c 0)), (2, (0, 0, 0, 3, b)), (1, (0, 0, 0, 3, a)), (0, (2, 60, 0, 0, 0))] _ _ (xa_subI rfl rfl (fun _ _ _ _ => by omega) (xa_subI rfl rfl (fun _ _ _ _ => by omega) (xa_subI rfl rfl (fun _ _ _ _ => by omega) (xa_subI rfl rfl (fun _ _ _ _ => by omega) (xa_subR rfl (xa_sub0)))))) ?_
                    exact ih (w + 1) _ (by omega) eb (by omega)
                  · intro (c7 : ¬ (M 104 (124 * a + 1 + 5 * w + ((2 + 1) + 1))) = (M 104 (124 * b + 1 + 5 * w + ((2 + 1) + 1))))
                    show Q 48 [(4, (0, 0, 1, 15, w + 1)), (3, (0, 0, (-2147483648), 2147483647, xa_ib 4 c (xa_ib 6 1 w))), (8, (0, 0, 5, 5, ((2 + 1) + 1) + 1)), (7, (0, 0, 1, 1, 1)), (6, (0, 0, 1, 1, 1)), (5, (0, 0, 1, 1, 1)), (2, (0, 0, 0, 3, b)), (1, (0, 0, 0, 3, a)), (0, (2, 60, 0, 0, 0))] [] (xa_up M 60 21 0)
                    have eb : xa_ib 4 c (xa_ib 6 1 w) = br_b (un_P (M 104 (124 * a)) (M 104 (124 * b)) (fun x => M 104 (124 * a + 1 + 5 * x + 2)) (fun x => M 104 (124 * a + 1 + 5 * x + 3)) (fun x => M 104 (124 * a + 1 + 5 * x + 4)) (fun x => M 104 (124 * b + 1 + 5 * x + 2)) (fun x => M 104 (124 * b + 1 + 5 * x + 3)) (fun x => M 104 (124 * b + 1 + 5 * x + 4))) (w + 1).toNat := by
                      rw [show (w + 1).toNat = w.toNat + 1 by omega, br_b1 (show (un_P (M 104 (124 * a)) (M 104 (124 * b)) (fun x => M 104 (124 * a + 1 + 5 * x + 2)) (fun x => M 104 (124 * a + 1 + 5 * x + 3)) (fun x => M 104 (124 * a + 1 + 5 * x + 4)) (fun x => M 104 (124 * b + 1 + 5 * x + 2)) (fun x => M 104 (124 * b + 1 + 5 * x + 3)) (fun x => M 104 (124 * b + 1 + 5 * x + 4))) ((w.toNat : Nat) : Int) by rw [ew]; exact Or.inr ⟨c2, c4, fun e => c7 e.2.2⟩), ← hc, ew]
                    refine hgo.2.1 48 _ [(4, (0, 0, 0, 14, w + 1)), (3, (0, 0, (-2147483648), 2147483647, xa_ib 4 c (xa_ib 6 1 w))), (2, (0, 0, 0, 3, b)), (1, (0, 0, 0, 3, a)), (0, (2, 60, 0, 0, 0))] _ _ (xa_subI rfl rfl (fun _ _ _ _ => by omega) (xa_subI rfl rfl (fun _ _ _ _ => by omega) (xa_subI rfl rfl (fun _ _ _ _ => by omega) (xa_subI rfl rfl (fun _ _ _ _ => by omega) (xa_subR rfl (xa_sub0)))))) ?_
                    exact ih (w + 1) _ (by omega) eb (by omega)
                · intro (c6 : ¬ (M 104 (124 * a + 1 + 5 * w + (2 + 1))) = (M 104 (124 * b + 1 + 5 * w + (2 + 1))))
                  show Q 48 [(4, (0, 0, 1, 15, w + 1)), (3, (0, 0, (-2147483648), 2147483647, xa_ib 4 c (xa_ib 6 1 w))), (8, (0, 0, 5, 5, ((2 + 1) + 1) + 1)), (7, (0, 0, 1, 1, 1)), (6, (0, 0, 1, 1, 1)), (5, (0, 0, 1, 1, 1)), (2, (0, 0, 0, 3, b)), (1, (0, 0, 0, 3, a)), (0, (2, 60, 0, 0, 0))] [] (xa_up M 60 21 0)
                  have eb : xa_ib 4 c (xa_ib 6 1 w) = br_b (un_P (M 104 (124 * a)) (M 104 (124 * b)) (fun x => M 104 (124 * a + 1 + 5 * x + 2)) (fun x => M 104 (124 * a + 1 + 5 * x + 3)) (fun x => M 104 (124 * a + 1 + 5 * x + 4)) (fun x => M 104 (124 * b + 1 + 5 * x + 2)) (fun x => M 104 (124 * b + 1 + 5 * x + 3)) (fun x => M 104 (124 * b + 1 + 5 * x + 4))) (w + 1).toNat := by
                    rw [show (w + 1).toNat = w.toNat + 1 by omega, br_b1 (show (un_P (M 104 (124 * a)) (M 104 (124 * b)) (fun x => M 104 (124 * a + 1 + 5 * x + 2)) (fun x => M 104 (124 * a + 1 + 5 * x + 3)) (fun x => M 104 (124 * a + 1 + 5 * x + 4)) (fun x => M 104 (124 * b + 1 + 5 * x + 2)) (fun x => M 104 (124 * b + 1 + 5 * x + 3)) (fun x => M 104 (124 * b + 1 + 5 * x + 4))) ((w.toNat : Nat) : Int) by rw [ew]; exact Or.inr ⟨c2, c4, fun e => c6 e.2.1⟩), ← hc, ew]
                  refine hgo.2.1 48 _ [(4, (0, 0, 0, 14, w + 1)), (3, (0, 0, (-2147483648), 2147483647, xa_ib 4 c (xa_ib 6 1 w))), (2, (0, 0, 0, 3, b)), (1, (0, 0, 0, 3, a)), (0, (2, 60, 0, 0, 0))] _ _ (xa_subI rfl rfl (fun _ _ _ _ => by omega) (xa_subI rfl rfl (fun _ _ _ _ => by omega) (xa_subI rfl rfl (fun _ _ _ _ => by omega) (xa_subI rfl rfl (fun _ _ _ _ => by omega) (xa_subR rfl (xa_sub0)))))) ?_
                  exact ih (w + 1) _ (by omega) eb (by omega)
              · intro (c5 : ¬ (M 104 (124 * a + 1 + 5 * w + 2)) = (M 104 (124 * b + 1 + 5 * w + 2)))
                show Q 48 [(4, (0, 0, 1, 15, w + 1)), (3, (0, 0, (-2147483648), 2147483647, xa_ib 4 c (xa_ib 6 1 w))), (8, (0, 0, 5, 5, ((2 + 1) + 1) + 1)), (7, (0, 0, 1, 1, 1)), (6, (0, 0, 1, 1, 1)), (5, (0, 0, 1, 1, 1)), (2, (0, 0, 0, 3, b)), (1, (0, 0, 0, 3, a)), (0, (2, 60, 0, 0, 0))] [] (xa_up M 60 21 0)
                have eb : xa_ib 4 c (xa_ib 6 1 w) = br_b (un_P (M 104 (124 * a)) (M 104 (124 * b)) (fun x => M 104 (124 * a + 1 + 5 * x + 2)) (fun x => M 104 (124 * a + 1 + 5 * x + 3)) (fun x => M 104 (124 * a + 1 + 5 * x + 4)) (fun x => M 104 (124 * b + 1 + 5 * x + 2)) (fun x => M 104 (124 * b + 1 + 5 * x + 3)) (fun x => M 104 (124 * b + 1 + 5 * x + 4))) (w + 1).toNat := by
                  rw [show (w + 1).toNat = w.toNat + 1 by omega, br_b1 (show (un_P (M 104 (124 * a)) (M 104 (124 * b)) (fun x => M 104 (124 * a + 1 + 5 * x + 2)) (fun x => M 104 (124 * a + 1 + 5 * x + 3)) (fun x => M 104 (124 * a + 1 + 5 * x + 4)) (fun x => M 104 (124 * b + 1 + 5 * x + 2)) (fun x => M 104 (124 * b + 1 + 5 * x + 3)) (fun x => M 104 (124 * b + 1 + 5 * x + 4))) ((w.toNat : Nat) : Int) by rw [ew]; exact Or.inr ⟨c2, c4, fun e => c5 e.1⟩), ← hc, ew]
                refine hgo.2.1 48 _ [(4, (0, 0, 0, 14, w + 1)), (3, (0, 0, (-2147483648), 2147483647, xa_ib 4 c (xa_ib 6 1 w))), (2, (0, 0, 0, 3, b)), (1, (0, 0, 0, 3, a)), (0, (2, 60, 0, 0, 0))] _ _ (xa_subI rfl rfl (fun _ _ _ _ => by omega) (xa_subI rfl rfl (fun _ _ _ _ => by omega) (xa_subI rfl rfl (fun _ _ _ _ => by omega) (xa_subI rfl rfl (fun _ _ _ _ => by omega) (xa_subR rfl (xa_sub0)))))) ?_
                exact ih (w + 1) _ (by omega) eb (by omega)
    exact loop 15 0 0 (by omega) rfl (by omega)
  refine hgo.1 29 [43] 0 _ _ _ ?_
  show xa_C xm_I A h0 _ 214 [(0, 0, (-2147483648), 2147483647, a), (0, 0, 0, 0, 0), (0, 0, 3, 3, 3)] (xa_up M 60 21 0) _
  refine ct_in ?_ ?_
  · intro (i1 : 0 ≤ a ∧ a ≤ 3)
    show xa_C xm_I A h0 _ 214 [(0, 0, (-2147483648), 2147483647, b), (0, 0, 0, 0, 0), (0, 0, 3, 3, 3)] (xa_up M 60 21 0) _
    refine ct_in ?_ ?_
    · intro (i2 : 0 ≤ b ∧ b ≤ 3)
      refine And.intro (show 0 ≤ a ∧ a < 4 by omega) ?_
      refine And.intro ?_ ?_
      · intro (c3 : (M 105 a) = 0)
        show xa_wk post (some (0, 0, (-1), (-1), (-1))) (xa_up M 60 21 0)
        exact xa_wkI (-1) rfl (fun _ _ => by omega) (k _ _ (Or.inr ⟨fun h => by omega, rfl⟩) (xm_cor_f (by omega) xm_cor_r) (rw_no (fun h => by unfold rz_uk at h; omega) (xa_up_ne (by omega)) (fun i _ _ => xa_up_ne (by omega))))
      · intro (c3 : ¬ (M 105 a) = 0)
        refine And.intro (show 0 ≤ b ∧ b < 4 by omega) ?_
        refine And.intro ?_ ?_
        · intro (c4 : ¬ (M 105 b) = 0)
          show Q 43 [(0, (2, 60, 0, 0, 0)), (1, (0, 0, (-2147483648), 2147483647, a)), (2, (0, 0, (-2147483648), 2147483647, b))] [] (xa_up M 60 21 0)
          refine hgo.2.1 43 _ [(0, (2, 60, 0, 0, 0)), (1, (0, 0, 0, 3, a)), (2, (0, 0, 0, 3, b))] _ _ (xa_subR rfl (xa_subI rfl rfl (fun _ _ _ _ => by omega) (xa_subI rfl rfl (fun _ _ _ _ => by omega) (xa_sub0)))) ?_
          refine hgo.1 9 [48] 43 _ _ _ ?_
          show Q 48 [(4, (0, 0, 0, 0, 0)), (3, (0, 0, 0, 0, 0)), (0, (2, 60, 0, 0, 0)), (1, (0, 0, 0, 3, a)), (2, (0, 0, 0, 3, b))] [] (xa_up M 60 21 0)
          refine hgo.2.1 48 _ [(4, (0, 0, 0, 14, 0)), (3, (0, 0, (-2147483648), 2147483647, 0)), (2, (0, 0, 0, 3, b)), (1, (0, 0, 0, 3, a)), (0, (2, 60, 0, 0, 0))] _ _ (xa_subI rfl rfl (fun _ _ _ _ => by omega) (xa_subI rfl rfl (fun _ _ _ _ => by omega) (xa_subI rfl rfl (fun _ _ _ _ => by omega) (xa_subI rfl rfl (fun _ _ _ _ => by omega) (xa_subR rfl (xa_sub0)))))) ?_
          exact key (by omega) (by omega) (by omega) (by omega) (by have := t105a (by omega) (by omega); omega) (by have := t105b (by omega) (by omega); omega)
        · intro (c4 : (M 105 b) = 0)
          show xa_wk post (some (0, 0, (-1), (-1), (-1))) (xa_up M 60 21 0)
          exact xa_wkI (-1) rfl (fun _ _ => by omega) (k _ _ (Or.inr ⟨fun h => by omega, rfl⟩) (xm_cor_f (by omega) xm_cor_r) (rw_no (fun h => by unfold rz_uk at h; omega) (xa_up_ne (by omega)) (fun i _ _ => xa_up_ne (by omega))))
    · intro (i5 : ¬ (0 ≤ b ∧ b ≤ 3))
      show xa_wk post (some (0, 0, (-1), (-1), (-1))) (xa_up M 60 21 0)
      exact xa_wkI (-1) rfl (fun _ _ => by omega) (k _ _ (Or.inr ⟨fun h => by omega, rfl⟩) (xm_cor_f (by omega) xm_cor_r) (rw_no (fun h => by unfold rz_uk at h; omega) (xa_up_ne (by omega)) (fun i _ _ => xa_up_ne (by omega))))
  · intro (i6 : ¬ (0 ≤ a ∧ a ≤ 3))
    show xa_wk post (some (0, 0, (-1), (-1), (-1))) (xa_up M 60 21 0)
    exact xa_wkI (-1) rfl (fun _ _ => by omega) (k _ _ (Or.inr ⟨fun h => by omega, rfl⟩) (xm_cor_f (by omega) xm_cor_r) (rw_no (fun h => by unfold rz_uk at h; omega) (xa_up_ne (by omega)) (fun i _ _ => xa_up_ne (by omega))))
theorem un_lt {x y : Int32} : g_c2 x y .lt = decide (x.toInt < y.toInt) := by
  show decide (x < y) = _
  exact decide_eq_decide.mpr Int32.lt_iff_toInt_lt
theorem un_gt {x y : Int32} : g_c2 x y .gt = decide (y.toInt < x.toInt) := by
  show decide (y < x) = _
  exact decide_eq_decide.mpr Int32.lt_iff_toInt_lt
theorem un_le {x y : Int32} : g_c2 x y .le = decide (x.toInt ≤ y.toInt) := by
  show decide (x ≤ y) = _
  exact decide_eq_decide.mpr Int32.le_iff_toInt_le
theorem un_eq {x y : Int32} : g_c2 x y .eq = decide (x.toInt = y.toInt) := by
  show decide (x = y) = _
  exact decide_eq_decide.mpr Int32.toInt_inj.symm
/-- an array of what is left; what is left -/
def un_ra (A : Nat → Nat) (M : xa_M) (h : g_H) (q : Nat) : Prop := ∃ f : Nat → Value, h[q]? = some (A q, true, 0, 12, f) ∧ ∀ i : Nat, i < 12 → ∃ m : Int32, f i = .int m ∧ m.toInt = M q (i : Int)
def un_rm (A : Nat → Nat) (M : xa_M) (h : g_H) : Prop := (∃ (g : Nat → Value) (L : Int32), h[43]? = some (A 43, false, 5, 5, g) ∧ (g 0 = .ref (A 44) ∧ g 1 = .ref (A 45) ∧ g 2 = .ref (A 46) ∧ g 3 = .ref (A 47)) ∧ g 4 = .int L ∧ L.toInt = M 43 4) ∧ un_ra A M h 44 ∧ un_ra A M h 45 ∧ un_ra A M h 46 ∧ un_ra A M h 47
theorem un_rm_of {b : Bool} {A : Nat → Nat} {M : xa_M} {h0 h : g_H} (hX : xa_H (xl_I b) A M h0 h) : un_rm A M h := by
  refine ⟨?_, ?_, ?_, ?_, ?_⟩
  · obtain ⟨g, e, k⟩ := hX.2.1 43 _ _ rfl
    obtain ⟨L, e4, eL, -⟩ := k 4 (show 4 < 5 by decide)
    exact ⟨g, L, e, ⟨k 0 (show 0 < 5 by decide), k 1 (show 1 < 5 by decide), k 2 (show 2 < 5 by decide), k 3 (show 3 < 5 by decide)⟩, e4, eL⟩
  · obtain ⟨f, e, k⟩ := hX.2.1 44 _ _ rfl
    exact ⟨f, e, fun i hi => by
      obtain ⟨m, e1, e2, -⟩ := k i (show i < 12 from hi)
      exact ⟨m, e1, e2⟩⟩
  · obtain ⟨f, e, k⟩ := hX.2.1 45 _ _ rfl
    exact ⟨f, e, fun i hi => by
      obtain ⟨m, e1, e2, -⟩ := k i (show i < 12 from hi)
      exact ⟨m, e1, e2⟩⟩
  · obtain ⟨f, e, k⟩ := hX.2.1 46 _ _ rfl
    exact ⟨f, e, fun i hi => by
      obtain ⟨m, e1, e2, -⟩ := k i (show i < 12 from hi)
      exact ⟨m, e1, e2⟩⟩
  · obtain ⟨f, e, k⟩ := hX.2.1 47 _ _ rfl
    exact ⟨f, e, fun i hi => by
      obtain ⟨m, e1, e2, -⟩ := k i (show i < 12 from hi)
      exact ⟨m, e1, e2⟩⟩
theorem un_197 {d p a : Nat} {h : g_H} {A ad : Nat → Nat} {M : xa_M} {f : Nat → Value} {F : Nat → Nat → Value} {i w : Nat} (hb : iv_bd h p a ad f F) (hi : iv_bi f F) (hr : un_rm A M h) (h1 : i < 12) (h2 : w < 14) : g_run (d + 3) 197 [.ref (A 43), .ref a, .int (Int32.ofInt (i : Int)), .int (Int32.ofInt (w : Int))] h 0 0 (fun r h' => h' = h ∧ ((r = some (.int 1) ∧ br_is (M 44) (M 45) (M 46) (M 47) (fun x => iv_n (F 3 x.toNat)) (fun x => iv_n (F 4 x.toNat)) (fun x => iv_n (F 2 x.toNat)) (i : Int) (w : Int)) ∨ (r = some (.int 0) ∧ ¬ br_is (M 44) (M 45) (M 46) (M 47) (fun x => iv_n (F 3 x.toNat)) (fun x => iv_n (F 4 x.toNat)) (fun x => iv_n (F 2 x.toNat)) (i : Int) (w : Int)))) := by
  obtain ⟨q1, q2, q3, q4, q5⟩ := s_mi_ok 197 (5, 2, false, 0, 0, 5) (by decide +kernel)
  obtain ⟨c1, c2⟩ := s_codes_ok 197 (5, 2, false, 0, 0, 5) (by decide +kernel)
  rw [show s_codes.getD 197 [] = s_c_197 from rfl] at c1 c2
  have q3 : g_rt 197 = some .boolean := q3
  refine ⟨q1, by rw [q2]; exact (show 4 ≤ 5 by decide), ?_⟩
  rw [q5, q2, q4]
  intro P hend hcl
  show P (0, [(0, .ref (A 43)), (1, .ref a), (2, .int (Int32.ofInt (i : Int))), (3, .int (Int32.ofInt (w : Int)))], [], 0, 0, h)
  have t28 : (g_me 28).2.1 = 1 := (s_mi_ok 28 _ (show s_mi[28]? = some (2, 1, false, 0, 0, 1) by decide +kernel)).2.2.2.2
  have t37 : (g_me 37).2.1 = 1 := (s_mi_ok 37 _ (show s_mi[37]? = some (2, 1, false, 0, 0, 1) by decide +kernel)).2.2.2.2
  have t142 : (g_me 142).2.1 = 1 := (s_mi_ok 142 _ (show s_mi[142]? = some (2, 1, false, 0, 0, 1) by decide +kernel)).2.2.2.2
  have m0 : ((0 : Nat), Value.ref (A 43)) ∈ ([(0, .ref (A 43)), (1, .ref a), (2, .int (Int32.ofInt (i : Int))), (3, .int (Int32.ofInt (w : Int)))] : g_L) := List.mem_cons_self
  have m1 : ((1 : Nat), Value.ref a) ∈ ([(0, .ref (A 43)), (1, .ref a), (2, .int (Int32.ofInt (i : Int))), (3, .int (Int32.ofInt (w : Int)))] : g_L) := List.mem_cons_of_mem _ List.mem_cons_self
  have m2 : ((2 : Nat), Value.int (Int32.ofInt (i : Int))) ∈ ([(0, .ref (A 43)), (1, .ref a), (2, .int (Int32.ofInt (i : Int))), (3, .int (Int32.ofInt (w : Int)))] : g_L) := List.mem_cons_of_mem _ (List.mem_cons_of_mem _ List.mem_cons_self)
  have m3 : ((3 : Nat), Value.int (Int32.ofInt (w : Int))) ∈ ([(0, .ref (A 43)), (1, .ref a), (2, .int (Int32.ofInt (i : Int))), (3, .int (Int32.ofInt (w : Int)))] : g_L) := List.mem_cons_of_mem _ (List.mem_cons_of_mem _ (List.mem_cons_of_mem _ List.mem_cons_self))
  obtain ⟨⟨g, LL, hg, ⟨g0, g1, g2, g3⟩, g4, gL⟩, ⟨f44, p44, k44⟩, ⟨f45, p45, k45⟩, ⟨f46, p46, k46⟩, ⟨f47, p47, k47⟩⟩ := hr
  obtain ⟨v44, e44, y44⟩ := k44 i h1
  obtain ⟨v45, e45, y45⟩ := k45 i h1
  obtain ⟨v46, e46, y46⟩ := k46 i h1
  obtain ⟨v47, e47, y47⟩ := k47 i h1
  obtain ⟨u2, eu2⟩ := hi.2.2 2 w (by decide) (show w < iv_ln 2 from h2)
  obtain ⟨u3, eu3⟩ := hi.2.2 3 w (by decide) (show w < iv_ln 3 from h2)
  obtain ⟨u4, eu4⟩ := hi.2.2 4 w (by decide) (show w < iv_ln 4 from h2)
  have is9 : br_is (M 44) (M 45) (M 46) (M 47) (fun x => iv_n (F 3 x.toNat)) (fun x => iv_n (F 4 x.toNat)) (fun x => iv_n (F 2 x.toNat)) (i : Int) (w : Int) ↔ u3.toInt = M 44 (i : Int) ∧ u4.toInt = M 45 (i : Int) ∧ M 46 (i : Int) ≤ u2.toInt ∧ u2.toInt ≤ M 47 (i : Int) := by
    unfold br_is
    simp only [Int.toNat_natCast, un_n eu2, un_n eu3, un_n eu4]
  refine ir_ld hcl (iv_dec (c2 _ (iv_in (c := []) (pc := 0) rfl)) (by decide) (by decide)) rfl m1 rfl ?_
  refine ir_ld hcl (iv_dec (c2 _ (iv_in (c := []) (pc := 1) rfl)) (by decide) (by decide)) rfl m3 rfl ?_
  refine iv_virt (as := [.int (Int32.ofInt (w : Int))]) (rest := []) hcl (c2 _ (iv_in (c := []) (pc := 2) rfl)) (q := p) (by rw [t28]; exact hb.1) rfl (show g_sum [] ≤ 8 by first | decide | exact (show (1 : Nat) ≤ 8 by decide)) (mc := 0) (ms := 0) (by decide) (by decide) (g_run_mono (un_acc28 (d := d) hb h2) (fun r h9 hq => ?_))
  obtain ⟨e1, e2⟩ := hq
  rw [e1, e2, show g_i (F 2 w) = u2 by rw [eu2]; rfl]
  clear e1 e2 r h9
  show P (5, _, [.int u2], 0, 0, h)
  refine ir_st hcl (iv_dec (c2 _ (iv_in (c := []) (pc := 5) rfl)) (by decide) (by decide)) rfl rfl (by decide) ?_
  have n0 : ((0 : Nat), Value.ref (A 43)) ∈ g_st1 4 (.int u2) ([(0, .ref (A 43)), (1, .ref a), (2, .int (Int32.ofInt (i : Int))), (3, .int (Int32.ofInt (w : Int)))] : g_L) := iv_st2c m0 (by decide) rfl
  have n1 : ((1 : Nat), Value.ref a) ∈ g_st1 4 (.int u2) ([(0, .ref (A 43)), (1, .ref a), (2, .int (Int32.ofInt (i : Int))), (3, .int (Int32.ofInt (w : Int)))] : g_L) := iv_st2c m1 (by decide) rfl
  have n2 : ((2 : Nat), Value.int (Int32.ofInt (i : Int))) ∈ g_st1 4 (.int u2) ([(0, .ref (A 43)), (1, .ref a), (2, .int (Int32.ofInt (i : Int))), (3, .int (Int32.ofInt (w : Int)))] : g_L) := iv_st2c m2 (by decide) rfl
  have n3 : ((3 : Nat), Value.int (Int32.ofInt (w : Int))) ∈ g_st1 4 (.int u2) ([(0, .ref (A 43)), (1, .ref a), (2, .int (Int32.ofInt (i : Int))), (3, .int (Int32.ofInt (w : Int)))] : g_L) := iv_st2c m3 (by decide) rfl
  have n4 : ((4 : Nat), Value.int u2) ∈ g_st1 4 (.int u2) ([(0, .ref (A 43)), (1, .ref a), (2, .int (Int32.ofInt (i : Int))), (3, .int (Int32.ofInt (w : Int)))] : g_L) := List.mem_cons_self
  have no9 : ¬ br_is (M 44) (M 45) (M 46) (M 47) (fun x => iv_n (F 3 x.toNat)) (fun x => iv_n (F 4 x.toNat)) (fun x => iv_n (F 2 x.toNat)) (i : Int) (w : Int) → P (69, g_st1 4 (.int u2) ([(0, .ref (A 43)), (1, .ref a), (2, .int (Int32.ofInt (i : Int))), (3, .int (Int32.ofInt (w : Int)))] : g_L), [], 0, 0, h) := fun hc => by
    refine ir_co hcl (iv_dec (c2 _ (iv_in (c := []) (pc := 69) rfl)) (by decide) (by decide)) rfl ?_
    exact hend _ ⟨Nat.le_refl _, Nat.le_refl _, Or.inl ⟨0, .boolean, iv_ireturn (c2 _ (iv_in (c := []) (pc := 70) rfl)), q3, rfl, rfl, rfl, Or.inr ⟨rfl, hc⟩⟩⟩
  refine ir_ld hcl (iv_dec (c2 _ (iv_in (c := []) (pc := 7) rfl)) (by decide) (by decide)) rfl n1 rfl ?_
  refine ir_ld hcl (iv_dec (c2 _ (iv_in (c := []) (pc := 8) rfl)) (by decide) (by decide)) rfl n3 rfl ?_
  refine iv_virt (as := [.int (Int32.ofInt (w : Int))]) (rest := []) hcl (c2 _ (iv_in (c := []) (pc := 9) rfl)) (q := p) (by rw [t37]; exact hb.1) rfl (show g_sum [] ≤ 8 by first | decide | exact (show (1 : Nat) ≤ 8 by decide)) (mc := 0) (ms := 0) (by decide) (by decide) (g_run_mono (un_acc37 (d := d) hb h2) (fun r h9 hq => ?_))
  obtain ⟨e1, e2⟩ := hq
  rw [e1, e2, show g_i (F 3 w) = u3 by rw [eu3]; rfl]
  clear e1 e2 r h9
  show P (12, _, [.int u3], 0, 0, h)
  refine ir_ld hcl (iv_dec (c2 _ (iv_in (c := []) (pc := 12) rfl)) (by decide) (by decide)) rfl n0 rfl ?_
  refine iv_getfield hcl (c2 _ (iv_in (c := []) (pc := 13) rfl)) (Or.inl rfl) (q := 43) (n := 5) (f := g) hg (show 0 < 5 by decide) ?_
  rw [g0]
  refine ir_ld hcl (iv_dec (c2 _ (iv_in (c := []) (pc := 16) rfl)) (by decide) (by decide)) rfl n2 rfl ?_
  refine iv_static5 (as := [.ref (A 44), .int (Int32.ofInt (i : Int))]) (rest := [.int u3]) hcl (c2 _ (iv_in (c := []) (pc := 17) rfl)) rfl (show g_sum [.int u3] ≤ 8 by exact (show (1 : Nat) ≤ 8 by decide)) (mc := 0) (ms := 0) (by decide) (by decide) (g_run_mono (un_at (d := d + 1) p44 h1 (by decide)) (fun r h9 hq => ?_))
  obtain ⟨e1, e2⟩ := hq
  rw [e1, e2, show g_i (f44 i) = v44 by rw [e44]; rfl]
  clear e1 e2 r h9
  show P (20, _, [.int v44, .int u3], 0, 0, h)
  refine ir_ic hcl (iv_dec (c2 _ (iv_in (c := []) (pc := 20) rfl)) (by decide) (by decide)) 69 rfl rfl ?_
  by_cases d1 : u3.toInt = v44.toInt
  · rw [if_neg (by rw [un_ne]; exact fun e => of_decide_eq_true e d1)]
    refine ir_ld hcl (iv_dec (c2 _ (iv_in (c := []) (pc := 23) rfl)) (by decide) (by decide)) rfl n1 rfl ?_
    refine ir_ld hcl (iv_dec (c2 _ (iv_in (c := []) (pc := 24) rfl)) (by decide) (by decide)) rfl n3 rfl ?_
    refine iv_virt (as := [.int (Int32.ofInt (w : Int))]) (rest := []) hcl (c2 _ (iv_in (c := []) (pc := 25) rfl)) (q := p) (by rw [t142]; exact hb.1) rfl (show g_sum [] ≤ 8 by first | decide | exact (show (1 : Nat) ≤ 8 by decide)) (mc := 0) (ms := 0) (by decide) (by decide) (g_run_mono (un_acc142 (d := d) hb h2) (fun r h9 hq => ?_))
    obtain ⟨e1, e2⟩ := hq
    rw [e1, e2, show g_i (F 4 w) = u4 by rw [eu4]; rfl]
    clear e1 e2 r h9
    show P (28, _, [.int u4], 0, 0, h)
    refine ir_ld hcl (iv_dec (c2 _ (iv_in (c := []) (pc := 28) rfl)) (by decide) (by decide)) rfl n0 rfl ?_
    refine iv_getfield hcl (c2 _ (iv_in (c := []) (pc := 29) rfl)) (Or.inl rfl) (q := 43) (n := 5) (f := g) hg (show 1 < 5 by decide) ?_
    rw [g1]
    refine ir_ld hcl (iv_dec (c2 _ (iv_in (c := []) (pc := 32) rfl)) (by decide) (by decide)) rfl n2 rfl ?_
    refine iv_static5 (as := [.ref (A 45), .int (Int32.ofInt (i : Int))]) (rest := [.int u4]) hcl (c2 _ (iv_in (c := []) (pc := 33) rfl)) rfl (show g_sum [.int u4] ≤ 8 by exact (show (1 : Nat) ≤ 8 by decide)) (mc := 0) (ms := 0) (by decide) (by decide) (g_run_mono (un_at (d := d + 1) p45 h1 (by decide)) (fun r h9 hq => ?_))
    obtain ⟨e1, e2⟩ := hq
    rw [e1, e2, show g_i (f45 i) = v45 by rw [e45]; rfl]
    clear e1 e2 r h9
    show P (36, _, [.int v45, .int u4], 0, 0, h)
    refine ir_ic hcl (iv_dec (c2 _ (iv_in (c := []) (pc := 36) rfl)) (by decide) (by decide)) 69 rfl rfl ?_
    by_cases d2 : u4.toInt = v45.toInt
    · rw [if_neg (by rw [un_ne]; exact fun e => of_decide_eq_true e d2)]
      refine ir_ld hcl (iv_dec (c2 _ (iv_in (c := []) (pc := 39) rfl)) (by decide) (by decide)) rfl n4 rfl ?_
      refine ir_ld hcl (iv_dec (c2 _ (iv_in (c := []) (pc := 41) rfl)) (by decide) (by decide)) rfl n0 rfl ?_
      refine iv_getfield hcl (c2 _ (iv_in (c := []) (pc := 42) rfl)) (Or.inl rfl) (q := 43) (n := 5) (f := g) hg (show 2 < 5 by decide) ?_
      rw [g2]
      refine ir_ld hcl (iv_dec (c2 _ (iv_in (c := []) (pc := 45) rfl)) (by decide) (by decide)) rfl n2 rfl ?_
      refine iv_static5 (as := [.ref (A 46), .int (Int32.ofInt (i : Int))]) (rest := [.int u2]) hcl (c2 _ (iv_in (c := []) (pc := 46) rfl)) rfl (show g_sum [.int u2] ≤ 8 by exact (show (1 : Nat) ≤ 8 by decide)) (mc := 0) (ms := 0) (by decide) (by decide) (g_run_mono (un_at (d := d + 1) p46 h1 (by decide)) (fun r h9 hq => ?_))
      obtain ⟨e1, e2⟩ := hq
      rw [e1, e2, show g_i (f46 i) = v46 by rw [e46]; rfl]
      clear e1 e2 r h9
      show P (49, _, [.int v46, .int u2], 0, 0, h)
      refine ir_ic hcl (iv_dec (c2 _ (iv_in (c := []) (pc := 49) rfl)) (by decide) (by decide)) 69 rfl rfl ?_
      by_cases d3 : u2.toInt < v46.toInt
      · rw [if_pos (by rw [un_lt]; exact decide_eq_true d3)]
        exact no9 (fun e => by have q := (is9.mp e).2.2.1; omega)
      · rw [if_neg (by rw [un_lt]; exact fun e => d3 (of_decide_eq_true e))]
        refine ir_ld hcl (iv_dec (c2 _ (iv_in (c := []) (pc := 52) rfl)) (by decide) (by decide)) rfl n4 rfl ?_
        refine ir_ld hcl (iv_dec (c2 _ (iv_in (c := []) (pc := 54) rfl)) (by decide) (by decide)) rfl n0 rfl ?_
        refine iv_getfield hcl (c2 _ (iv_in (c := []) (pc := 55) rfl)) (Or.inl rfl) (q := 43) (n := 5) (f := g) hg (show 3 < 5 by decide) ?_
        rw [g3]
        refine ir_ld hcl (iv_dec (c2 _ (iv_in (c := []) (pc := 58) rfl)) (by decide) (by decide)) rfl n2 rfl ?_
        refine iv_static5 (as := [.ref (A 47), .int (Int32.ofInt (i : Int))]) (rest := [.int u2]) hcl (c2 _ (iv_in (c := []) (pc := 59) rfl)) rfl (show g_sum [.int u2] ≤ 8 by exact (show (1 : Nat) ≤ 8 by decide)) (mc := 0) (ms := 0) (by decide) (by decide) (g_run_mono (un_at (d := d + 1) p47 h1 (by decide)) (fun r h9 hq => ?_))
        obtain ⟨e1, e2⟩ := hq
        rw [e1, e2, show g_i (f47 i) = v47 by rw [e47]; rfl]
        clear e1 e2 r h9
        show P (62, _, [.int v47, .int u2], 0, 0, h)
        refine ir_ic hcl (iv_dec (c2 _ (iv_in (c := []) (pc := 62) rfl)) (by decide) (by decide)) 69 rfl rfl ?_
        by_cases d4 : v47.toInt < u2.toInt
        · rw [if_pos (by rw [un_gt]; exact decide_eq_true d4)]
          exact no9 (fun e => by have q := (is9.mp e).2.2.2; omega)
        · rw [if_neg (by rw [un_gt]; exact fun e => d4 (of_decide_eq_true e))]
          refine ir_co hcl (iv_dec (c2 _ (iv_in (c := []) (pc := 65) rfl)) (by decide) (by decide)) rfl ?_
          refine ir_go hcl (iv_dec (c2 _ (iv_in (c := []) (pc := 66) rfl)) (by decide) (by decide)) 70 rfl rfl ?_
          exact hend _ ⟨Nat.le_refl _, Nat.le_refl _, Or.inl ⟨1, .boolean, iv_ireturn (c2 _ (iv_in (c := []) (pc := 70) rfl)), q3, rfl, rfl, rfl, Or.inl ⟨rfl, is9.mpr ⟨by omega, by omega, by omega, by omega⟩⟩⟩⟩
    · rw [if_pos (by rw [un_ne]; exact decide_eq_true d2)]
      exact no9 (fun e => by have q := (is9.mp e).2.1; omega)
  · rw [if_pos (by rw [un_ne]; exact decide_eq_true d1)]
    exact no9 (fun e => by have q := (is9.mp e).1; omega)
theorem un_196 {d p a : Nat} {h : g_H} {A ad : Nat → Nat} {M : xa_M} {f : Nat → Value} {F : Nat → Nat → Value} {n : Int32} {i : Nat} (hb : iv_bd h p a ad f F) (hi : iv_bi f F) (e9 : f 9 = .int n) (hn : 0 ≤ n.toInt ∧ n.toInt ≤ 14) (hr : un_rm A M h) (h1 : i < 12) : g_run (d + 4) 196 [.ref (A 43), .ref a, .int (Int32.ofInt (i : Int))] h 0 0 (fun r h' => h' = h ∧ ∃ v : Int32, r = some (.int v) ∧ (v.toInt = -1 ↔ br_no (M 44) (M 45) (M 46) (M 47) (fun x => iv_n (F 3 x.toNat)) (fun x => iv_n (F 4 x.toNat)) (fun x => iv_n (F 2 x.toNat)) n.toInt (i : Int))) := by
  obtain ⟨q1, q2, q3, q4, q5⟩ := s_mi_ok 196 (6, 1, false, 0, 0, 5) (by decide +kernel)
  obtain ⟨c1, c2⟩ := s_codes_ok 196 (6, 1, false, 0, 0, 5) (by decide +kernel)
  rw [show s_codes.getD 196 [] = s_c_196 from rfl] at c1 c2
  have q3 : g_rt 196 = some .int := q3
  refine ⟨q1, by rw [q2]; exact (show 3 ≤ 6 by decide), ?_⟩
  rw [q5, q2, q4]
  intro P hend hcl
  show P (0, [(0, .ref (A 43)), (1, .ref a), (2, .int (Int32.ofInt (i : Int)))], [], 0, 0, h)
  have t28 : (g_me 28).2.1 = 1 := (s_mi_ok 28 _ (show s_mi[28]? = some (2, 1, false, 0, 0, 1) by decide +kernel)).2.2.2.2
  have t197 : (g_me 197).2.1 = 5 := (s_mi_ok 197 _ (show s_mi[197]? = some (5, 2, false, 0, 0, 5) by decide +kernel)).2.2.2.2
  have m0 : ((0 : Nat), Value.ref (A 43)) ∈ ([(0, .ref (A 43)), (1, .ref a), (2, .int (Int32.ofInt (i : Int)))] : g_L) := List.mem_cons_self
  have m1 : ((1 : Nat), Value.ref a) ∈ ([(0, .ref (A 43)), (1, .ref a), (2, .int (Int32.ofInt (i : Int)))] : g_L) := List.mem_cons_of_mem _ List.mem_cons_self
  have m2 : ((2 : Nat), Value.int (Int32.ofInt (i : Int))) ∈ ([(0, .ref (A 43)), (1, .ref a), (2, .int (Int32.ofInt (i : Int)))] : g_L) := List.mem_cons_of_mem _ (List.mem_cons_of_mem _ List.mem_cons_self)
  have loop : ∀ (k w : Nat) (B : Int32) (Ls : g_L), w + k = 14 → (w : Int) ≤ n.toInt → (0, Value.ref (A 43)) ∈ Ls → (1, Value.ref a) ∈ Ls → (2, Value.int (Int32.ofInt (i : Int))) ∈ Ls → (3, Value.int B) ∈ Ls → (4, Value.int (Int32.ofInt (w : Int))) ∈ Ls → ((B = Int32.ofInt (-1) ∧ ∀ v : Nat, v < w → ¬ br_is (M 44) (M 45) (M 46) (M 47) (fun x => iv_n (F 3 x.toNat)) (fun x => iv_n (F 4 x.toNat)) (fun x => iv_n (F 2 x.toNat)) (i : Int) (v : Int)) ∨ ∃ b : Nat, b < w ∧ B = Int32.ofInt (b : Int) ∧ br_is (M 44) (M 45) (M 46) (M 47) (fun x => iv_n (F 3 x.toNat)) (fun x => iv_n (F 4 x.toNat)) (fun x => iv_n (F 2 x.toNat)) (i : Int) (b : Int)) → P (5, Ls, [], 0, 0, h) := by
    intro k
    induction k with
    | zero =>
      intro w B Ls hk hw m0 m1 m2 m3 m4 hB
      refine ir_ld hcl (iv_dec (c2 _ (iv_in (c := []) (pc := 5) rfl)) (by decide) (by decide)) rfl m4 rfl ?_
      refine ir_ld hcl (iv_dec (c2 _ (iv_in (c := []) (pc := 7) rfl)) (by decide) (by decide)) rfl m1 rfl ?_
      refine iv_getfield hcl (c2 _ (iv_in (c := []) (pc := 8) rfl)) (Or.inr rfl) (q := p) (n := 11) (f := f) hb.1 (by decide) ?_
      rw [e9]
      refine ir_ic hcl (iv_dec (c2 _ (iv_in (c := []) (pc := 11) rfl)) (by decide) (by decide)) 69 rfl rfl ?_
      by_cases cn : n.toInt ≤ (w : Int)
      · rw [if_pos (by rw [un_ge, iv_i32 (by omega)]; exact decide_eq_true cn)]
        refine ir_ld hcl (iv_dec (c2 _ (iv_in (c := []) (pc := 69) rfl)) (by decide) (by decide)) rfl m3 rfl ?_
        exact hend _ ⟨Nat.le_refl _, Nat.le_refl _, Or.inl ⟨B, .int, iv_ireturn (c2 _ (iv_in (c := []) (pc := 70) rfl)), q3, rfl, rfl, rfl, B, rfl, ⟨fun e v v0 v1 hv => by
          rcases hB with ⟨-, hB⟩ | ⟨b, b1, b2, b3⟩
          · have q := hB v.toNat (by omega)
            rw [Int.toNat_of_nonneg v0] at q
            exact q hv
          · rw [b2, iv_i32 (by omega)] at e
            omega, fun e => by
          rcases hB with ⟨hB, -⟩ | ⟨b, b1, b2, b3⟩
          · rw [hB]
            decide
          · exact absurd b3 (e (b : Int) (by omega) (by omega))⟩⟩⟩
      · exfalso
        omega
    | succ k ih =>
      intro w B Ls hk hw m0 m1 m2 m3 m4 hB
      refine ir_ld hcl (iv_dec (c2 _ (iv_in (c := []) (pc := 5) rfl)) (by decide) (by decide)) rfl m4 rfl ?_
      refine ir_ld hcl (iv_dec (c2 _ (iv_in (c := []) (pc := 7) rfl)) (by decide) (by decide)) rfl m1 rfl ?_
      refine iv_getfield hcl (c2 _ (iv_in (c := []) (pc := 8) rfl)) (Or.inr rfl) (q := p) (n := 11) (f := f) hb.1 (by decide) ?_
      rw [e9]
      refine ir_ic hcl (iv_dec (c2 _ (iv_in (c := []) (pc := 11) rfl)) (by decide) (by decide)) 69 rfl rfl ?_
      by_cases cn : n.toInt ≤ (w : Int)
      · rw [if_pos (by rw [un_ge, iv_i32 (by omega)]; exact decide_eq_true cn)]
        refine ir_ld hcl (iv_dec (c2 _ (iv_in (c := []) (pc := 69) rfl)) (by decide) (by decide)) rfl m3 rfl ?_
        exact hend _ ⟨Nat.le_refl _, Nat.le_refl _, Or.inl ⟨B, .int, iv_ireturn (c2 _ (iv_in (c := []) (pc := 70) rfl)), q3, rfl, rfl, rfl, B, rfl, ⟨fun e v v0 v1 hv => by
          rcases hB with ⟨-, hB⟩ | ⟨b, b1, b2, b3⟩
          · have q := hB v.toNat (by omega)
            rw [Int.toNat_of_nonneg v0] at q
            exact q hv
          · rw [b2, iv_i32 (by omega)] at e
            omega, fun e => by
          rcases hB with ⟨hB, -⟩ | ⟨b, b1, b2, b3⟩
          · rw [hB]
            decide
          · exact absurd b3 (e (b : Int) (by omega) (by omega))⟩⟩⟩
      · rw [if_neg (by rw [un_ge, iv_i32 (by omega), decide_eq_true_eq]; exact cn)]
        have at62 : ∀ (c B9 : Int32), ((B9 = Int32.ofInt (-1) ∧ ∀ v : Nat, v < (w + 1) → ¬ br_is (M 44) (M 45) (M 46) (M 47) (fun x => iv_n (F 3 x.toNat)) (fun x => iv_n (F 4 x.toNat)) (fun x => iv_n (F 2 x.toNat)) (i : Int) (v : Int)) ∨ ∃ b : Nat, b < (w + 1) ∧ B9 = Int32.ofInt (b : Int) ∧ br_is (M 44) (M 45) (M 46) (M 47) (fun x => iv_n (F 3 x.toNat)) (fun x => iv_n (F 4 x.toNat)) (fun x => iv_n (F 2 x.toNat)) (i : Int) (b : Int)) → P (62, g_st1 5 (.int c) Ls, [.int B9], 0, 0, h) := fun c B9 hB9 => by
          refine ir_st hcl (iv_dec (c2 _ (iv_in (c := []) (pc := 62) rfl)) (by decide) (by decide)) rfl rfl (by decide) ?_
          have n4 : ((4 : Nat), Value.int (Int32.ofInt (w : Int))) ∈ g_st1 3 (.int B9) (g_st1 5 (.int c) Ls) := iv_st2c (iv_st2c m4 (by decide) rfl) (by decide) rfl
          refine ir_ii hcl (iv_dec (c2 _ (iv_in (c := []) (pc := 63) rfl)) (by decide) (by decide)) rfl n4 (by decide) ?_
          rw [iv_i32s (by omega)]
          refine ir_go hcl (iv_dec (c2 _ (iv_in (c := []) (pc := 66) rfl)) (by decide) (by decide)) 5 rfl rfl ?_
          exact ih (w + 1) B9 _ (by omega) (by omega) (iv_st2c (iv_st2c (iv_st2c m0 (by decide) rfl) (by decide) rfl) (by decide) rfl) (iv_st2c (iv_st2c (iv_st2c m1 (by decide) rfl) (by decide) rfl) (by decide) rfl) (iv_st2c (iv_st2c (iv_st2c m2 (by decide) rfl) (by decide) rfl) (by decide) rfl) (iv_st2c List.mem_cons_self (by decide) rfl) List.mem_cons_self hB9
        have at38 : ∀ c : Int32, (c = 0 ∨ c = 1) → (B = Int32.ofInt (-1) → c = 1) → P (38, Ls, [.int c], 0, 0, h) := fun c hc1 hc2 => by
          refine ir_st hcl (iv_dec (c2 _ (iv_in (c := []) (pc := 38) rfl)) (by decide) (by decide)) rfl rfl (by decide) ?_
          have n0 : ((0 : Nat), Value.ref (A 43)) ∈ g_st1 5 (.int c) Ls := iv_st2c m0 (by decide) rfl
          have n1 : ((1 : Nat), Value.ref a) ∈ g_st1 5 (.int c) Ls := iv_st2c m1 (by decide) rfl
          have n2 : ((2 : Nat), Value.int (Int32.ofInt (i : Int))) ∈ g_st1 5 (.int c) Ls := iv_st2c m2 (by decide) rfl
          have n3 : ((3 : Nat), Value.int B) ∈ g_st1 5 (.int c) Ls := iv_st2c m3 (by decide) rfl
          have n4 : ((4 : Nat), Value.int (Int32.ofInt (w : Int))) ∈ g_st1 5 (.int c) Ls := iv_st2c m4 (by decide) rfl
          have n5 : ((5 : Nat), Value.int c) ∈ g_st1 5 (.int c) Ls := List.mem_cons_self
          obtain ⟨⟨gg, LL, hg, -⟩, -⟩ := id hr
          refine ir_ld hcl (iv_dec (c2 _ (iv_in (c := []) (pc := 40) rfl)) (by decide) (by decide)) rfl n0 rfl ?_
          refine ir_ld hcl (iv_dec (c2 _ (iv_in (c := []) (pc := 41) rfl)) (by decide) (by decide)) rfl n1 rfl ?_
          refine ir_ld hcl (iv_dec (c2 _ (iv_in (c := []) (pc := 42) rfl)) (by decide) (by decide)) rfl n2 rfl ?_
          refine ir_ld hcl (iv_dec (c2 _ (iv_in (c := []) (pc := 43) rfl)) (by decide) (by decide)) rfl n4 rfl ?_
          refine iv_virt (as := [.ref a, .int (Int32.ofInt (i : Int)), .int (Int32.ofInt (w : Int))]) (rest := []) hcl (c2 _ (iv_in (c := []) (pc := 45) rfl)) (q := 43) (by rw [t197]; exact hg) rfl (by decide) (mc := 0) (ms := 0) (by decide) (by decide) (g_run_mono (un_197 (d := d) hb hi hr h1 (show w < 14 by omega)) (fun r h9 hq => ?_))
          obtain ⟨e1, ⟨e2, y9⟩ | ⟨e2, y9⟩⟩ := hq
          · rw [e1, e2]
            clear e1 e2 r h9
            show P (48, _, [.int 1], 0, 0, h)
            refine ir_if hcl (iv_dec (c2 _ (iv_in (c := []) (pc := 48) rfl)) (by decide) (by decide)) 61 rfl rfl ?_
            rw [if_neg (show ¬ g_c1 1 .eq = true by decide)]
            refine ir_ld hcl (iv_dec (c2 _ (iv_in (c := []) (pc := 51) rfl)) (by decide) (by decide)) rfl n5 rfl ?_
            refine ir_if hcl (iv_dec (c2 _ (iv_in (c := []) (pc := 53) rfl)) (by decide) (by decide)) 61 rfl rfl ?_
            by_cases c0 : c = 0
            · rw [if_pos (show g_c1 c .eq = true from decide_eq_true c0)]
              refine ir_ld hcl (iv_dec (c2 _ (iv_in (c := []) (pc := 61) rfl)) (by decide) (by decide)) rfl n3 rfl ?_
              refine at62 c B ?_
              rcases hB with ⟨q1, q2⟩ | ⟨b, b1, b2, b3⟩
              · exact absurd ((hc2 q1).symm.trans c0) (by decide)
              · exact Or.inr ⟨b, by omega, b2, b3⟩
            · rw [if_neg (show ¬ g_c1 c .eq = true from fun e => c0 (of_decide_eq_true e))]
              refine ir_ld hcl (iv_dec (c2 _ (iv_in (c := []) (pc := 56) rfl)) (by decide) (by decide)) rfl n4 rfl ?_
              refine ir_go hcl (iv_dec (c2 _ (iv_in (c := []) (pc := 58) rfl)) (by decide) (by decide)) 62 rfl rfl ?_
              exact at62 c _ (Or.inr ⟨w, by omega, rfl, y9⟩)
          · rw [e1, e2]
            clear e1 e2 r h9
            show P (48, _, [.int 0], 0, 0, h)
            refine ir_if hcl (iv_dec (c2 _ (iv_in (c := []) (pc := 48) rfl)) (by decide) (by decide)) 61 rfl rfl ?_
            rw [if_pos (show g_c1 0 .eq = true by decide)]
            refine ir_ld hcl (iv_dec (c2 _ (iv_in (c := []) (pc := 61) rfl)) (by decide) (by decide)) rfl n3 rfl ?_
            refine at62 c B ?_
            rcases hB with ⟨q1, q2⟩ | ⟨b, b1, b2, b3⟩
            · exact Or.inl ⟨q1, fun v hv => by
                by_cases e : v = w
                · rw [e]
                  exact y9
                · exact q2 v (by omega)⟩
            · exact Or.inr ⟨b, by omega, b2, b3⟩
        refine ir_ld hcl (iv_dec (c2 _ (iv_in (c := []) (pc := 14) rfl)) (by decide) (by decide)) rfl m3 rfl ?_
        refine ir_co hcl (iv_dec (c2 _ (iv_in (c := []) (pc := 15) rfl)) (by decide) (by decide)) rfl ?_
        refine ir_ic hcl (iv_dec (c2 _ (iv_in (c := []) (pc := 16) rfl)) (by decide) (by decide)) 33 rfl rfl ?_
        rcases id hB with ⟨q1, q2⟩ | ⟨b, b1, b2, b3⟩
        · rw [if_pos (by rw [un_eq, q1]; exact decide_eq_true rfl)]
          refine ir_co hcl (iv_dec (c2 _ (iv_in (c := []) (pc := 33) rfl)) (by decide) (by decide)) rfl ?_
          refine ir_go hcl (iv_dec (c2 _ (iv_in (c := []) (pc := 34) rfl)) (by decide) (by decide)) 38 rfl rfl ?_
          exact at38 _ (Or.inr rfl) (fun _ => rfl)
        · rw [if_neg (by rw [un_eq, b2, iv_i32 (by omega), decide_eq_true_eq]; exact fun e => absurd e (show ¬ ((b : Nat) : Int) = -1 by omega))]
          obtain ⟨u2, eu2⟩ := hi.2.2 2 w (by decide) (show w < iv_ln 2 from (by omega : w < 14))
          obtain ⟨w2, ew2⟩ := hi.2.2 2 b (by decide) (show b < iv_ln 2 from (by omega : b < 14))
          refine ir_ld hcl (iv_dec (c2 _ (iv_in (c := []) (pc := 19) rfl)) (by decide) (by decide)) rfl m1 rfl ?_
          refine ir_ld hcl (iv_dec (c2 _ (iv_in (c := []) (pc := 20) rfl)) (by decide) (by decide)) rfl m4 rfl ?_
          refine iv_virt (as := [.int (Int32.ofInt (w : Int))]) (rest := []) hcl (c2 _ (iv_in (c := []) (pc := 22) rfl)) (q := p) (by rw [t28]; exact hb.1) rfl (show g_sum [] ≤ 8 by first | decide | exact (show (1 : Nat) ≤ 8 by decide)) (mc := 0) (ms := 0) (by decide) (by decide) (g_run_mono (un_acc28 (d := d + 1) hb (show w < 14 by omega)) (fun r h9 hq => ?_))
          obtain ⟨e1, e2⟩ := hq
          rw [e1, e2, show g_i (F 2 w) = u2 by rw [eu2]; rfl]
          clear e1 e2 r h9
          show P (25, _, [.int u2], 0, 0, h)
          refine ir_ld hcl (iv_dec (c2 _ (iv_in (c := []) (pc := 25) rfl)) (by decide) (by decide)) rfl m1 rfl ?_
          have m3b : ((3 : Nat), Value.int (Int32.ofInt (b : Int))) ∈ Ls := by rw [← b2]; exact m3
          refine ir_ld hcl (iv_dec (c2 _ (iv_in (c := []) (pc := 26) rfl)) (by decide) (by decide)) rfl m3b rfl ?_
          refine iv_virt (as := [.int (Int32.ofInt (b : Int))]) (rest := [.int u2]) hcl (c2 _ (iv_in (c := []) (pc := 27) rfl)) (q := p) (by rw [t28]; exact hb.1) rfl (show g_sum [.int u2] ≤ 8 by first | decide | exact (show (1 : Nat) ≤ 8 by decide)) (mc := 0) (ms := 0) (by decide) (by decide) (g_run_mono (un_acc28 (d := d + 1) hb (show b < 14 by omega)) (fun r h9 hq => ?_))
          obtain ⟨e1, e2⟩ := hq
          rw [e1, e2, show g_i (F 2 b) = w2 by rw [ew2]; rfl]
          clear e1 e2 r h9
          show P (30, _, [.int w2, .int u2], 0, 0, h)
          refine ir_ic hcl (iv_dec (c2 _ (iv_in (c := []) (pc := 30) rfl)) (by decide) (by decide)) 37 rfl rfl ?_
          have hB1 : ¬ B = Int32.ofInt (-1) := fun e => by
            have e2 := congrArg Int32.toInt (b2.symm.trans e)
            rw [iv_i32 (by omega), show (Int32.ofInt (-1)).toInt = -1 from by decide] at e2
            omega
          by_cases cw : u2.toInt ≤ w2.toInt
          · rw [if_pos (by rw [un_le]; exact decide_eq_true cw)]
            refine ir_co hcl (iv_dec (c2 _ (iv_in (c := []) (pc := 37) rfl)) (by decide) (by decide)) rfl ?_
            exact at38 _ (Or.inl rfl) (fun e => absurd e hB1)
          · rw [if_neg (by rw [un_le]; exact fun e => cw (of_decide_eq_true e))]
            refine ir_co hcl (iv_dec (c2 _ (iv_in (c := []) (pc := 33) rfl)) (by decide) (by decide)) rfl ?_
            refine ir_go hcl (iv_dec (c2 _ (iv_in (c := []) (pc := 34) rfl)) (by decide) (by decide)) 38 rfl rfl ?_
            exact at38 _ (Or.inr rfl) (fun _ => rfl)
  refine ir_co hcl (iv_dec (c2 _ (iv_in (c := []) (pc := 0) rfl)) (by decide) (by decide)) rfl ?_
  refine ir_st hcl (iv_dec (c2 _ (iv_in (c := []) (pc := 1) rfl)) (by decide) (by decide)) rfl rfl (by decide) ?_
  refine ir_co hcl (iv_dec (c2 _ (iv_in (c := []) (pc := 2) rfl)) (by decide) (by decide)) rfl ?_
  refine ir_st hcl (iv_dec (c2 _ (iv_in (c := []) (pc := 3) rfl)) (by decide) (by decide)) rfl rfl (by decide) ?_
  exact loop 14 0 (Int32.ofInt (-1)) _ rfl (by omega) (iv_st2c (iv_st2c m0 (by decide) rfl) (by decide) rfl) (iv_st2c (iv_st2c m1 (by decide) rfl) (by decide) rfl) (iv_st2c (iv_st2c m2 (by decide) rfl) (by decide) rfl) (iv_st2c List.mem_cons_self (by decide) rfl) List.mem_cons_self (Or.inl ⟨rfl, fun v hv => absurd hv (by omega)⟩)
theorem un_195 {d p a : Nat} {h : g_H} {A ad : Nat → Nat} {M : xa_M} {f : Nat → Value} {F : Nat → Nat → Value} {n : Int32} (hb : iv_bd h p a ad f F) (hi : iv_bi f F) (e9 : f 9 = .int n) (hn : 0 ≤ n.toInt ∧ n.toInt ≤ 14) (hr : un_rm A M h) (hl : 0 ≤ M 43 4 ∧ M 43 4 ≤ 12) : g_run (d + 5) 195 [.ref (A 43), .ref a] h 0 0 (fun r h' => h' = h ∧ ∃ v : Int32, r = some (.int v) ∧ v.toInt = br_b (br_no (M 44) (M 45) (M 46) (M 47) (fun x => iv_n (F 3 x.toNat)) (fun x => iv_n (F 4 x.toNat)) (fun x => iv_n (F 2 x.toNat)) n.toInt) (M 43 4).toNat) := by
  obtain ⟨q1, q2, q3, q4, q5⟩ := s_mi_ok 195 (4, 1, false, 0, 0, 5) (by decide +kernel)
  obtain ⟨c1, c2⟩ := s_codes_ok 195 (4, 1, false, 0, 0, 5) (by decide +kernel)
  rw [show s_codes.getD 195 [] = s_c_195 from rfl] at c1 c2
  have q3 : g_rt 195 = some .int := q3
  refine ⟨q1, by rw [q2]; exact (show 2 ≤ 4 by decide), ?_⟩
  rw [q5, q2, q4]
  intro P hend hcl
  show P (0, [(0, .ref (A 43)), (1, .ref a)], [], 0, 0, h)
  have t196 : (g_me 196).2.1 = 5 := (s_mi_ok 196 _ (show s_mi[196]? = some (6, 1, false, 0, 0, 5) by decide +kernel)).2.2.2.2
  have m0 : ((0 : Nat), Value.ref (A 43)) ∈ ([(0, .ref (A 43)), (1, .ref a)] : g_L) := List.mem_cons_self
  have m1 : ((1 : Nat), Value.ref a) ∈ ([(0, .ref (A 43)), (1, .ref a)] : g_L) := List.mem_cons_of_mem _ List.mem_cons_self
  obtain ⟨⟨g, LL, hg, -, g4, gL⟩, -⟩ := id hr
  have loop : ∀ (k i : Nat) (B : Int32) (Ls : g_L), i + k = 12 → (i : Int) ≤ M 43 4 → (0, Value.ref (A 43)) ∈ Ls → (1, Value.ref a) ∈ Ls → (2, Value.int B) ∈ Ls → (3, Value.int (Int32.ofInt (i : Int))) ∈ Ls → B.toInt = br_b (br_no (M 44) (M 45) (M 46) (M 47) (fun x => iv_n (F 3 x.toNat)) (fun x => iv_n (F 4 x.toNat)) (fun x => iv_n (F 2 x.toNat)) n.toInt) i → P (4, Ls, [], 0, 0, h) := by
    intro k
    induction k with
    | zero =>
      intro i B Ls hk hw m0 m1 m2 m3 hB
      refine ir_ld hcl (iv_dec (c2 _ (iv_in (c := []) (pc := 4) rfl)) (by decide) (by decide)) rfl m3 rfl ?_
      refine ir_ld hcl (iv_dec (c2 _ (iv_in (c := []) (pc := 5) rfl)) (by decide) (by decide)) rfl m0 rfl ?_
      refine iv_getfield hcl (c2 _ (iv_in (c := []) (pc := 6) rfl)) (Or.inl rfl) (q := 43) (n := 5) (f := g) hg (show 4 < 5 by decide) ?_
      rw [g4]
      refine ir_ic hcl (iv_dec (c2 _ (iv_in (c := []) (pc := 9) rfl)) (by decide) (by decide)) 38 rfl rfl ?_
      by_cases cn : LL.toInt ≤ (i : Int)
      · rw [if_pos (by rw [un_ge, iv_i32 (by omega)]; exact decide_eq_true cn)]
        refine ir_ld hcl (iv_dec (c2 _ (iv_in (c := []) (pc := 38) rfl)) (by decide) (by decide)) rfl m2 rfl ?_
        exact hend _ ⟨Nat.le_refl _, Nat.le_refl _, Or.inl ⟨B, .int, iv_ireturn (c2 _ (iv_in (c := []) (pc := 39) rfl)), q3, rfl, rfl, rfl, B, rfl, by rw [hB, show (M 43 4).toNat = i by omega]⟩⟩
      · exfalso
        omega
    | succ k ih =>
      intro i B Ls hk hw m0 m1 m2 m3 hB
      refine ir_ld hcl (iv_dec (c2 _ (iv_in (c := []) (pc := 4) rfl)) (by decide) (by decide)) rfl m3 rfl ?_
      refine ir_ld hcl (iv_dec (c2 _ (iv_in (c := []) (pc := 5) rfl)) (by decide) (by decide)) rfl m0 rfl ?_
      refine iv_getfield hcl (c2 _ (iv_in (c := []) (pc := 6) rfl)) (Or.inl rfl) (q := 43) (n := 5) (f := g) hg (show 4 < 5 by decide) ?_
      rw [g4]
      refine ir_ic hcl (iv_dec (c2 _ (iv_in (c := []) (pc := 9) rfl)) (by decide) (by decide)) 38 rfl rfl ?_
      by_cases cn : LL.toInt ≤ (i : Int)
      · rw [if_pos (by rw [un_ge, iv_i32 (by omega)]; exact decide_eq_true cn)]
        refine ir_ld hcl (iv_dec (c2 _ (iv_in (c := []) (pc := 38) rfl)) (by decide) (by decide)) rfl m2 rfl ?_
        exact hend _ ⟨Nat.le_refl _, Nat.le_refl _, Or.inl ⟨B, .int, iv_ireturn (c2 _ (iv_in (c := []) (pc := 39) rfl)), q3, rfl, rfl, rfl, B, rfl, by rw [hB, show (M 43 4).toNat = i by omega]⟩⟩
      · rw [if_neg (by rw [un_ge, iv_i32 (by omega), decide_eq_true_eq]; exact cn)]
        refine ir_ld hcl (iv_dec (c2 _ (iv_in (c := []) (pc := 12) rfl)) (by decide) (by decide)) rfl m2 rfl ?_
        refine ir_ld hcl (iv_dec (c2 _ (iv_in (c := []) (pc := 13) rfl)) (by decide) (by decide)) rfl m0 rfl ?_
        refine ir_ld hcl (iv_dec (c2 _ (iv_in (c := []) (pc := 14) rfl)) (by decide) (by decide)) rfl m1 rfl ?_
        refine ir_ld hcl (iv_dec (c2 _ (iv_in (c := []) (pc := 15) rfl)) (by decide) (by decide)) rfl m3 rfl ?_
        refine iv_virt (as := [.ref a, .int (Int32.ofInt (i : Int))]) (rest := [.int B]) hcl (c2 _ (iv_in (c := []) (pc := 16) rfl)) (q := 43) (by rw [t196]; exact hg) rfl (show g_sum [.int B] ≤ 8 by exact (show (1 : Nat) ≤ 8 by decide)) (mc := 0) (ms := 0) (by decide) (by decide) (g_run_mono (un_196 (d := d) hb hi e9 hn hr (show i < 12 by omega)) (fun r h9 hq => ?_))
        obtain ⟨e1, v, e2, hv⟩ := hq
        rw [e1, e2]
        clear e1 e2 r h9
        show P (19, _, [.int v, .int B], 0, 0, h)
        refine ir_co hcl (iv_dec (c2 _ (iv_in (c := []) (pc := 19) rfl)) (by decide) (by decide)) rfl ?_
        refine ir_ic hcl (iv_dec (c2 _ (iv_in (c := []) (pc := 20) rfl)) (by decide) (by decide)) 29 rfl rfl ?_
        by_cases c : v.toInt = -1
        · rw [if_neg (by rw [un_ne]; exact fun e => of_decide_eq_true e c)]
          refine ir_co hcl (iv_dec (c2 _ (iv_in (c := []) (pc := 23) rfl)) (by decide) (by decide)) rfl ?_
          refine ir_ld hcl (iv_dec (c2 _ (iv_in (c := []) (pc := 24) rfl)) (by decide) (by decide)) rfl m3 rfl ?_
          refine ir_ib hcl (iv_dec (c2 _ (iv_in (c := []) (pc := 25) rfl)) (by decide) (by decide)) rfl ?_
          refine ir_go hcl (iv_dec (c2 _ (iv_in (c := []) (pc := 26) rfl)) (by decide) (by decide)) 30 rfl rfl ?_
          refine ir_ib hcl (iv_dec (c2 _ (iv_in (c := []) (pc := 30) rfl)) (by decide) (by decide)) rfl ?_
          refine ir_st hcl (iv_dec (c2 _ (iv_in (c := []) (pc := 31) rfl)) (by decide) (by decide)) rfl rfl (by decide) ?_
          have n3 : ((3 : Nat), Value.int (Int32.ofInt (i : Int))) ∈ g_st1 2 (.int (B ||| Int32.ofInt 1 <<< (Int32.ofInt (i : Int) &&& 31))) Ls := iv_st2c m3 (by decide) rfl
          refine ir_ii hcl (iv_dec (c2 _ (iv_in (c := []) (pc := 32) rfl)) (by decide) (by decide)) rfl n3 (by decide) ?_
          rw [iv_i32s (by omega)]
          refine ir_go hcl (iv_dec (c2 _ (iv_in (c := []) (pc := 35) rfl)) (by decide) (by decide)) 4 rfl rfl ?_
          exact ih (i + 1) (B ||| Int32.ofInt 1 <<< (Int32.ofInt (i : Int) &&& 31)) _ (by omega) (by omega) (iv_st2c (iv_st2c m0 (by decide) rfl) (by decide) rfl) (iv_st2c (iv_st2c m1 (by decide) rfl) (by decide) rfl) (iv_st2c List.mem_cons_self (by decide) rfl) List.mem_cons_self (by rw [br_b1 (hv.mp c), ← hB]; show _ = (Int32.ofInt B.toInt ||| Int32.ofInt (Int32.ofInt 1 <<< (Int32.ofInt (i : Int) &&& 31)).toInt).toInt; rw [Int32.ofInt_toInt, Int32.ofInt_toInt])
        · rw [if_pos (by rw [un_ne]; exact decide_eq_true c)]
          refine ir_co hcl (iv_dec (c2 _ (iv_in (c := []) (pc := 29) rfl)) (by decide) (by decide)) rfl ?_
          refine ir_ib hcl (iv_dec (c2 _ (iv_in (c := []) (pc := 30) rfl)) (by decide) (by decide)) rfl ?_
          refine ir_st hcl (iv_dec (c2 _ (iv_in (c := []) (pc := 31) rfl)) (by decide) (by decide)) rfl rfl (by decide) ?_
          have n3 : ((3 : Nat), Value.int (Int32.ofInt (i : Int))) ∈ g_st1 2 (.int (B ||| 0)) Ls := iv_st2c m3 (by decide) rfl
          refine ir_ii hcl (iv_dec (c2 _ (iv_in (c := []) (pc := 32) rfl)) (by decide) (by decide)) rfl n3 (by decide) ?_
          rw [iv_i32s (by omega)]
          refine ir_go hcl (iv_dec (c2 _ (iv_in (c := []) (pc := 35) rfl)) (by decide) (by decide)) 4 rfl rfl ?_
          exact ih (i + 1) (B ||| 0) _ (by omega) (by omega) (iv_st2c (iv_st2c m0 (by decide) rfl) (by decide) rfl) (iv_st2c (iv_st2c m1 (by decide) rfl) (by decide) rfl) (iv_st2c List.mem_cons_self (by decide) rfl) List.mem_cons_self (by rw [br_b0 (fun e => c (hv.mpr e)), ← hB]; exact congrArg Int32.toInt (Int32.or_zero))
  refine ir_co hcl (iv_dec (c2 _ (iv_in (c := []) (pc := 0) rfl)) (by decide) (by decide)) rfl ?_
  refine ir_st hcl (iv_dec (c2 _ (iv_in (c := []) (pc := 1) rfl)) (by decide) (by decide)) rfl rfl (by decide) ?_
  refine ir_co hcl (iv_dec (c2 _ (iv_in (c := []) (pc := 2) rfl)) (by decide) (by decide)) rfl ?_
  refine ir_st hcl (iv_dec (c2 _ (iv_in (c := []) (pc := 3) rfl)) (by decide) (by decide)) rfl rfl (by decide) ?_
  exact loop 12 0 0 _ rfl (by omega) (iv_st2c (iv_st2c m0 (by decide) rfl) (by decide) rfl) (iv_st2c (iv_st2c m1 (by decide) rfl) (by decide) rfl) (iv_st2c List.mem_cons_self (by decide) rfl) List.mem_cons_self rfl
/-- what stays beside the row -/
def rw_sm (h' h : g_H) : Prop := (∀ q, 107 ≤ q → h'[q]? = h[q]?) ∧ iv_num h' 43 4 = iv_num h 43 4 ∧ ∀ i : Int, 0 ≤ i → i < 12 → iv_num h' 44 i = iv_num h 44 i ∧ iv_num h' 45 i = iv_num h 45 i ∧ iv_num h' 46 i = iv_num h 46 i ∧ iv_num h' 47 i = iv_num h 47 i
theorem rw_sm_t {h h' h2 : g_H} (a : rw_sm h2 h') (b : rw_sm h' h) : rw_sm h2 h := ⟨fun q hq => (a.1 q hq).trans (b.1 q hq), a.2.1.trans b.2.1, fun i i0 i1 => by
  obtain ⟨x1, x2, x3, x4⟩ := a.2.2 i i0 i1
  obtain ⟨y1, y2, y3, y4⟩ := b.2.2 i i0 i1
  exact ⟨x1.trans y1, x2.trans y2, x3.trans y3, x4.trans y4⟩⟩
theorem rw_sm_x {A : Nat → Nat} {b : Bool} {M1 : xa_M} {h h1 : g_H} (hX : xa_H (xl_I b) A M1 h h1) (hf : ∀ (q : Nat) (j : Int), ¬ (q = 48 ∨ q = 49) → M1 q j = iv_num h q j) : rw_sm h1 h := by
  refine ⟨fun q hq => hX.2.2 q (xl_no (by omega)), (iv_num_M (j := 4) hX rfl (by decide) (by decide) (by show (0 : Nat) < 2; decide)).trans (hf 43 4 (by omega)), fun i i0 i1 => ?_⟩
  obtain ⟨n, rfl⟩ := Int.eq_ofNat_of_zero_le i0
  exact ⟨(iv_num_M (j := (n : Int)) hX rfl i0 i1 (by show (0 : Nat) < 2; decide)).trans (hf 44 _ (by omega)), (iv_num_M (j := (n : Int)) hX rfl i0 i1 (by show (0 : Nat) < 2; decide)).trans (hf 45 _ (by omega)), (iv_num_M (j := (n : Int)) hX rfl i0 i1 (by show (0 : Nat) < 2; decide)).trans (hf 46 _ (by omega)), (iv_num_M (j := (n : Int)) hX rfl i0 i1 (by show (0 : Nat) < 2; decide)).trans (hf 47 _ (by omega))⟩
theorem rw_bd_k {h h' : g_H} {p a : Nat} {ad : Nat → Nat} {f : Nat → Value} {F : Nat → Nat → Value} (hs : rw_sm h' h) (hp : 107 ≤ p) (hb : iv_bd h p a ad f F) : iv_bd h' p a ad f F := ⟨(hs.1 p hp).trans hb.1, fun k hk => ⟨(hb.2 k hk).1, (hs.1 _ (by omega)).trans (hb.2 k hk).2⟩⟩
/-- in the kept row's numbers -/
theorem rw_uconv {ax lv lo hi ax' lv' lo' hi' K : Int → Int} {F : Nat → Nat → Value} {n L L' : Int} {a : Nat} (hL : L' = L ∧ L ≤ 12) (e : ∀ i, 0 ≤ i → i < 12 → ax' i = ax i ∧ lv' i = lv i ∧ lo' i = lo i ∧ hi' i = hi i) (hn : n = K (124 * (a : Int)) ∧ n ≤ 14) (hF : ∀ j : Nat, j < 14 → iv_n (F 3 j) = K (124 * (a : Int) + (4 + 5 * (j : Int))) ∧ iv_n (F 4 j) = K (124 * (a : Int) + (5 + 5 * (j : Int))) ∧ iv_n (F 2 j) = K (124 * (a : Int) + (3 + 5 * (j : Int)))) : br_b (br_no ax' lv' lo' hi' (fun x => iv_n (F 3 x.toNat)) (fun x => iv_n (F 4 x.toNat)) (fun x => iv_n (F 2 x.toNat)) n) L'.toNat = rw_uB ax lv lo hi K L (a : Int) := by
  unfold rw_uB
  rw [hL.1]
  refine br_b_e _ (fun k hk => ?_)
  obtain ⟨e1, e2, e3, e4⟩ := e (k : Int) (by omega) (by omega)
  have hn1 := hn.1
  have is : ∀ w, 0 ≤ w → w < n → (br_is ax' lv' lo' hi' (fun x => iv_n (F 3 x.toNat)) (fun x => iv_n (F 4 x.toNat)) (fun x => iv_n (F 2 x.toNat)) (k : Int) w ↔ br_is ax lv lo hi (fun x => K (124 * (a : Int) + 1 + 5 * x + 3)) (fun x => K (124 * (a : Int) + 1 + 5 * x + 4)) (fun x => K (124 * (a : Int) + 1 + 5 * x + 2)) (k : Int) w) := fun w w0 w1 => by
    obtain ⟨x3, x4, x2⟩ := hF w.toNat (by omega)
    rw [Int.toNat_of_nonneg w0] at x3 x4 x2
    unfold br_is
    dsimp only
    rw [e1, e2, e3, e4, x3, x4, x2, show 124 * (a : Int) + (4 + 5 * w) = 124 * (a : Int) + 1 + 5 * w + 3 by omega, show 124 * (a : Int) + (5 + 5 * w) = 124 * (a : Int) + 1 + 5 * w + 4 by omega, show 124 * (a : Int) + (3 + 5 * w) = 124 * (a : Int) + 1 + 5 * w + 2 by omega]
  unfold rw_uP br_no
  exact ⟨fun h w w0 w1 hh => h w w0 (by omega) ((is w w0 (by omega)).mpr hh), fun h w w0 w1 hh => h w w0 (by omega) ((is w w0 (by omega)).mp hh)⟩
theorem rw_u59 {A : Nat → Nat} {W : y_W} {b : Bool} {h : g_H} {M : xa_M} (hJ : iv_JW A W b h) (hM : xa_H xm_I A M h h) (hInv : xm_Inv M) : g_run 59 59 [.ref (A 48)] h 0 0 (fun _ h' => (∃ W', W <+: W' ∧ iv_JW A W' b h' ∧ ∀ M : xa_M, xa_H xm_I A M h h → xa_H xm_I A M h' h') ∧ iv_num h' 48 1 = 0 ∧ rw_sm h' h) := by
  have hQ : iv_Q A W b h (iv_num h) := ⟨hJ.1, hJ.2.1, hJ.2.2.2, fun _ _ _ _ => rfl⟩
  refine g_run_mono (rz_Qc (d := 59) hQ (vs := [(2, 48, 0, 0, 0)]) (xs := [.ref (A 48)]) ⟨rfl, trivial⟩ (cx_59_48 (b := b) (d := 58) (post := fun o M2 => M2 = xa_up (iv_num h) 48 1 0) rfl)) (fun r h1 hp => ?_)
  obtain ⟨o, M1, rfl, hr, hQ1, hX, km, -⟩ := hp
  refine ⟨⟨W, List.prefix_refl W, iv_Qm hQ1 (km M hM) (km M hM) hInv (fun _ => rfl) (fun _ => rfl) (lm_R_k (fun q j hC => ?_) (iv_xj hJ hM)), km⟩, (rz_n48 hX).trans xa_up_eq, rw_sm_x hX (fun q j hq => xa_up_ne (by omega))⟩
  unfold xj
  by_cases hq : q < 60
  · rw [if_pos hq, if_pos hq]
    exact xa_up_ne (by first | (have t9 := lm_Cq hC; omega) | (unfold lm_C at hC; omega))
  · rw [if_neg hq, if_neg hq]
theorem rw_u60 {A : Nat → Nat} {W : y_W} {b : Bool} {h : g_H} {M : xa_M} (hJ : iv_JW A W b h) (hM : xa_H xm_I A M h h) (hInv : xm_Inv M) (x : Int64) {c : Int} (hc : iv_num h 48 1 = c) (hc2 : 0 ≤ c ∧ c < 16) : g_run 59 60 [.ref (A 48), .long x] h 0 0 (fun _ h' => (∃ W', W <+: W' ∧ iv_JW A W' b h' ∧ ∀ M : xa_M, xa_H xm_I A M h h → xa_H xm_I A M h' h') ∧ (iv_num h' 48 1 = c + 1 ∧ iv_num h' 49 c = x.toInt ∧ ∀ i : Int, 0 ≤ i → i < 16 → ¬ i = c → iv_num h' 49 i = iv_num h 49 i) ∧ rw_sm h' h) := by
  have hQ : iv_Q A W b h (iv_num h) := ⟨hJ.1, hJ.2.1, hJ.2.2.2, fun _ _ _ _ => rfl⟩
  refine g_run_mono (rz_Qc (d := 59) hQ (vs := [(2, 48, 0, 0, 0), (1, 0, -9223372036854775808, 9223372036854775807, x.toInt)]) (xs := [.ref (A 48), .long x]) ⟨rfl, ⟨x, rfl, rfl, by have := Int64.le_toInt x; omega, by have := Int64.toInt_lt x; omega⟩, trivial⟩ (cx_60_48 (b := b) (d := 57) (x1 := x.toInt) (post := fun o M2 => M2 48 1 = c + 1 ∧ (M2 49 c = x.toInt ∧ ∀ j, ¬ j = c → M2 49 j = iv_num h 49 j) ∧ ∀ q j, ¬ (q = 48 ∨ q = 49) → M2 q j = iv_num h q j) (by omega) (fun h9 => absurd h9 (by omega)) (fun h9 => ⟨by rw [xa_up_eq, xa_w32_id (by omega) (by omega)]; omega, ⟨(xa_up_ne (by omega)).trans (by rw [hc]; exact xa_up_eq), fun j hj => (xa_up_ne (by omega)).trans (xa_up_ne (by omega))⟩, fun q j hq => (xa_up_ne (by omega)).trans (xa_up_ne (by omega))⟩))) (fun r h1 hp => ?_)
  obtain ⟨o, M1, ⟨h48, ⟨h49, h49n⟩, hf⟩, hr, hQ1, hX, km, -⟩ := hp
  refine ⟨⟨W, List.prefix_refl W, iv_Qm hQ1 (km M hM) (km M hM) hInv (fun _ => rfl) (fun _ => rfl) (lm_R_k (fun q j hC => ?_) (iv_xj hJ hM)), km⟩, ⟨(rz_n48 hX).trans h48, (rw_n49 hX hc2.1 hc2.2).trans h49, fun i i0 i1 hi => (rw_n49 hX i0 i1).trans (h49n i hi)⟩, rw_sm_x hX hf⟩
  unfold xj
  by_cases hq : q < 60
  · rw [if_pos hq, if_pos hq]
    exact hf q j (by first | (have t9 := lm_Cq hC; omega) | (unfold lm_C at hC; omega))
  · rw [if_neg hq, if_neg hq]
theorem rw_u195 {A : Nat → Nat} {W : y_W} {b : Bool} {h : g_H} (hJ : iv_JW A W b h) {p a : Nat} {ad : Nat → Nat} {f : Nat → Value} {F : Nat → Nat → Value} {n : Int32} (hb : iv_bd h p a ad f F) (hi : iv_bi f F) (e9 : f 9 = .int n) (hn : 0 ≤ n.toInt ∧ n.toInt ≤ 14) (hl : 0 ≤ iv_num h 43 4 ∧ iv_num h 43 4 ≤ 12) : g_run 59 195 [.ref (A 43), .ref a] h 0 0 (fun r h' => (∃ W', W <+: W' ∧ iv_JW A W' b h' ∧ ∀ M : xa_M, xa_H xm_I A M h h → xa_H xm_I A M h' h') ∧ h' = h ∧ ∃ v : Int32, r = some (.int v) ∧ v.toInt = br_b (br_no (iv_num h 44) (iv_num h 45) (iv_num h 46) (iv_num h 47) (fun x => iv_n (F 3 x.toNat)) (fun x => iv_n (F 4 x.toNat)) (fun x => iv_n (F 2 x.toNat)) n.toInt) (iv_num h 43 4).toNat) :=
  g_run_mono (un_195 (d := 54) (M := iv_num h) hb hi e9 hn (un_rm_of (xc_F (xl_fit b) (iv_iW_inv hJ.1) hJ.2.1)) hl) (fun r h1 hq => by
    obtain ⟨e, v, e2, hv⟩ := hq
    rw [e]
    exact ⟨⟨W, List.prefix_refl W, hJ, fun M hM => hM⟩, rfl, v, e2, hv⟩)
theorem rw_unlX {A : Nat → Nat} {W : y_W} {b : Bool} {h : g_H} {M : xa_M} (hJ : iv_JW A W b h) (hM : xa_H xm_I A M h h) (hInv : xm_Inv M) (hl : 0 ≤ iv_num h 43 4 ∧ iv_num h 43 4 ≤ 12) (m1 m2 : Int32) : g_run 60 205 [.ref (A 0), .int m1, .int m2] h 0 0 (fun r h1 => ∃ (v : Int32) (W1 : y_W), r = some (.int v) ∧ iv_JW A W1 b h1 ∧ xa_H xm_I A M h1 h1 ∧ un_A (iv_num h) m1.toInt m2.toInt v.toInt ∧ rw_k (rz_uk (iv_num h) m1.toInt m2.toInt) (iv_num h 48 1) (iv_num h 49) (iv_num h1 48 1) (iv_num h1 49) 3 (fun V => V = rw_uV (iv_num h 44) (iv_num h 45) (iv_num h 46) (iv_num h 47) (iv_num h 104) (iv_num h 43 4) m1.toInt m2.toInt)) := by
  obtain ⟨q1, q2, q3, q4, q5⟩ := s_mi_ok 205 (6, 1, false, 0, 0, 11) (by decide +kernel)
  obtain ⟨c1, c2⟩ := s_codes_ok 205 (6, 1, false, 0, 0, 11) (by decide +kernel)
  rw [show s_codes.getD 205 [] = s_c_205 from rfl] at c1 c2
  have q3 : g_rt 205 = some .int := q3
  refine ⟨q1, by rw [q2]; exact (show 3 ≤ 6 by decide), ?_⟩
  rw [q5, q2, q4]
  intro P hend hcl
  show P (0, [(0, .ref (A 0)), (1, .int m1), (2, .int m2)], [], 0, 0, h)
  have t204 : (g_me 204).2.1 = 11 := (s_mi_ok 204 _ (show s_mi[204]? = some (2, 4, false, 0, 0, 11) by decide +kernel)).2.2.2.2
  have t206 : (g_me 206).2.1 = 1 := (s_mi_ok 206 _ (show s_mi[206]? = some (5, 1, false, 0, 0, 1) by decide +kernel)).2.2.2.2
  have t59 : (g_me 59).2.1 = 6 := (s_mi_ok 59 _ (show s_mi[59]? = some (1, 0, false, 0, 0, 6) by decide +kernel)).2.2.2.2
  have t60 : (g_me 60).2.1 = 6 := (s_mi_ok 60 _ (show s_mi[60]? = some (3, 0, false, 0, 0, 6) by decide +kernel)).2.2.2.2
  have t195 : (g_me 195).2.1 = 5 := (s_mi_ok 195 _ (show s_mi[195]? = some (4, 1, false, 0, 0, 5) by decide +kernel)).2.2.2.2
  have r195 : g_rt 195 = some .int := (s_mi_ok 195 _ (show s_mi[195]? = some (4, 1, false, 0, 0, 5) by decide +kernel)).2.2.1
  have r59 : g_rt 59 = none := (s_mi_ok 59 _ (show s_mi[59]? = some (1, 0, false, 0, 0, 6) by decide +kernel)).2.2.1
  have r60 : g_rt 60 = none := (s_mi_ok 60 _ (show s_mi[60]? = some (3, 0, false, 0, 0, 6) by decide +kernel)).2.2.1
  have m0 : ((0 : Nat), Value.ref (A 0)) ∈ ([(0, .ref (A 0)), (1, .int m1), (2, .int m2)] : g_L) := List.mem_cons_self
  have m1' : ((1 : Nat), Value.int m1) ∈ ([(0, .ref (A 0)), (1, .int m1), (2, .int m2)] : g_L) := List.mem_cons_of_mem _ List.mem_cons_self
  have m2' : ((2 : Nat), Value.int m2) ∈ ([(0, .ref (A 0)), (1, .int m1), (2, .int m2)] : g_L) := List.mem_cons_of_mem _ (List.mem_cons_of_mem _ List.mem_cons_self)
  obtain ⟨f0, f11, hb⟩ := iv_b0_of hJ.1 hJ.2.1
  have none9 : ∀ Ls : g_L, ¬ ((0 ≤ m1.toInt ∧ m1.toInt < 4) ∧ (0 ≤ m2.toInt ∧ m2.toInt < 4) ∧ ¬ iv_num h 105 m1.toInt = 0 ∧ ¬ iv_num h 105 m2.toInt = 0) → P (22, Ls, [], 0, 0, h) := fun Ls hc => by
    refine ir_co hcl (iv_dec (c2 _ (iv_in (c := []) (pc := 22) rfl)) (by decide) (by decide)) rfl ?_
    exact hend _ ⟨Nat.le_refl _, Nat.le_refl _, Or.inl ⟨_, .int, iv_ireturn (c2 _ (iv_in (c := []) (pc := 23) rfl)), q3, rfl, rfl, _, W, rfl, hJ, hM, Or.inr ⟨hc, rfl⟩, rw_no hc rfl (fun _ _ _ => rfl)⟩⟩
  refine ir_ld hcl (iv_dec (c2 _ (iv_in (c := []) (pc := 0) rfl)) (by decide) (by decide)) rfl m0 rfl ?_
  refine ir_ld hcl (iv_dec (c2 _ (iv_in (c := []) (pc := 1) rfl)) (by decide) (by decide)) rfl m1' rfl ?_
  rcases iv_k_at hb hJ.2.2.2 (m := m1) with ⟨v1, z1⟩ | ⟨i1, p1, a1, hi1, hm1, v1, hk1, hc1⟩
  · refine iv_virt (as := [.int m1]) (rest := []) hcl (c2 _ (iv_in (c := []) (pc := 2) rfl)) (q := 0) (by rw [t204]; exact hb.1) rfl (show g_sum [] ≤ 8 by first | decide | exact (show (1 : Nat) ≤ 8 by decide)) (mc := 0) (ms := 0) (by decide) (by decide) (g_run_mono (iv_buildAt (d := 58) hb) (fun r h1 hq => ?_))
    obtain ⟨e1, e2⟩ := hq
    rw [e1, e2, v1]
    clear e1 e2 r h1
    show P (5, _, [Value.null], 0, 0, h)
    refine ir_st hcl (iv_dec (c2 _ (iv_in (c := []) (pc := 5) rfl)) (by decide) (by decide)) rfl rfl (by decide) ?_
    have k0 : ((0 : Nat), Value.ref (A 0)) ∈ g_st1 3 (Value.null) ([(0, .ref (A 0)), (1, .int m1), (2, .int m2)] : g_L) := iv_st2c m0 (by decide) rfl
    have k2 : ((2 : Nat), Value.int m2) ∈ g_st1 3 (Value.null) ([(0, .ref (A 0)), (1, .int m1), (2, .int m2)] : g_L) := iv_st2c m2' (by decide) rfl
    refine ir_ld hcl (iv_dec (c2 _ (iv_in (c := []) (pc := 6) rfl)) (by decide) (by decide)) rfl k0 rfl ?_
    refine ir_ld hcl (iv_dec (c2 _ (iv_in (c := []) (pc := 7) rfl)) (by decide) (by decide)) rfl k2 rfl ?_
    rcases iv_k_at hb hJ.2.2.2 (m := m2) with ⟨v2, z2⟩ | ⟨i2, p2, a2, hi2, hm2, v2, hk2, hc2⟩
    · refine iv_virt (as := [.int m2]) (rest := []) hcl (c2 _ (iv_in (c := []) (pc := 8) rfl)) (q := 0) (by rw [t204]; exact hb.1) rfl (show g_sum [] ≤ 8 by first | decide | exact (show (1 : Nat) ≤ 8 by decide)) (mc := 0) (ms := 0) (by decide) (by decide) (g_run_mono (iv_buildAt (d := 58) hb) (fun r h1 hq => ?_))
      obtain ⟨e1, e2⟩ := hq
      rw [e1, e2, v2]
      clear e1 e2 r h1
      show P (11, _, [Value.null], 0, 0, h)
      refine ir_st hcl (iv_dec (c2 _ (iv_in (c := []) (pc := 11) rfl)) (by decide) (by decide)) rfl rfl (by decide) ?_
      have n3 : ((3 : Nat), Value.null) ∈ g_st1 4 (Value.null) (g_st1 3 (Value.null) ([(0, .ref (A 0)), (1, .int m1), (2, .int m2)] : g_L)) := iv_st2c List.mem_cons_self (by decide) rfl
      have n4 : ((4 : Nat), Value.null) ∈ g_st1 4 (Value.null) (g_st1 3 (Value.null) ([(0, .ref (A 0)), (1, .int m1), (2, .int m2)] : g_L)) := List.mem_cons_self
      refine ir_ld hcl (iv_dec (c2 _ (iv_in (c := []) (pc := 13) rfl)) (by decide) (by decide)) rfl n3 rfl ?_
      refine ir_u0 hcl (iv_dec (c2 _ (iv_in (c := []) (pc := 14) rfl)) (by decide) (by decide)) 22 rfl rfl ?_
      exact none9 _ (fun h => h.2.2.1 (z1 h.1))
    · refine iv_virt (as := [.int m2]) (rest := []) hcl (c2 _ (iv_in (c := []) (pc := 8) rfl)) (q := 0) (by rw [t204]; exact hb.1) rfl (show g_sum [] ≤ 8 by first | decide | exact (show (1 : Nat) ≤ 8 by decide)) (mc := 0) (ms := 0) (by decide) (by decide) (g_run_mono (iv_buildAt (d := 58) hb) (fun r h1 hq => ?_))
      obtain ⟨e1, e2⟩ := hq
      rw [e1, e2, v2]
      clear e1 e2 r h1
      show P (11, _, [Value.ref a2], 0, 0, h)
      refine ir_st hcl (iv_dec (c2 _ (iv_in (c := []) (pc := 11) rfl)) (by decide) (by decide)) rfl rfl (by decide) ?_
      have n3 : ((3 : Nat), Value.null) ∈ g_st1 4 (Value.ref a2) (g_st1 3 (Value.null) ([(0, .ref (A 0)), (1, .int m1), (2, .int m2)] : g_L)) := iv_st2c List.mem_cons_self (by decide) rfl
      have n4 : ((4 : Nat), Value.ref a2) ∈ g_st1 4 (Value.ref a2) (g_st1 3 (Value.null) ([(0, .ref (A 0)), (1, .int m1), (2, .int m2)] : g_L)) := List.mem_cons_self
      refine ir_ld hcl (iv_dec (c2 _ (iv_in (c := []) (pc := 13) rfl)) (by decide) (by decide)) rfl n3 rfl ?_
      refine ir_u0 hcl (iv_dec (c2 _ (iv_in (c := []) (pc := 14) rfl)) (by decide) (by decide)) 22 rfl rfl ?_
      exact none9 _ (fun h => h.2.2.1 (z1 h.1))
  · refine iv_virt (as := [.int m1]) (rest := []) hcl (c2 _ (iv_in (c := []) (pc := 2) rfl)) (q := 0) (by rw [t204]; exact hb.1) rfl (show g_sum [] ≤ 8 by first | decide | exact (show (1 : Nat) ≤ 8 by decide)) (mc := 0) (ms := 0) (by decide) (by decide) (g_run_mono (iv_buildAt (d := 58) hb) (fun r h1 hq => ?_))
    obtain ⟨e1, e2⟩ := hq
    rw [e1, e2, v1]
    clear e1 e2 r h1
    show P (5, _, [Value.ref a1], 0, 0, h)
    refine ir_st hcl (iv_dec (c2 _ (iv_in (c := []) (pc := 5) rfl)) (by decide) (by decide)) rfl rfl (by decide) ?_
    have k0 : ((0 : Nat), Value.ref (A 0)) ∈ g_st1 3 (Value.ref a1) ([(0, .ref (A 0)), (1, .int m1), (2, .int m2)] : g_L) := iv_st2c m0 (by decide) rfl
    have k2 : ((2 : Nat), Value.int m2) ∈ g_st1 3 (Value.ref a1) ([(0, .ref (A 0)), (1, .int m1), (2, .int m2)] : g_L) := iv_st2c m2' (by decide) rfl
    refine ir_ld hcl (iv_dec (c2 _ (iv_in (c := []) (pc := 6) rfl)) (by decide) (by decide)) rfl k0 rfl ?_
    refine ir_ld hcl (iv_dec (c2 _ (iv_in (c := []) (pc := 7) rfl)) (by decide) (by decide)) rfl k2 rfl ?_
    rcases iv_k_at hb hJ.2.2.2 (m := m2) with ⟨v2, z2⟩ | ⟨i2, p2, a2, hi2, hm2, v2, hk2, hc2⟩
    · refine iv_virt (as := [.int m2]) (rest := []) hcl (c2 _ (iv_in (c := []) (pc := 8) rfl)) (q := 0) (by rw [t204]; exact hb.1) rfl (show g_sum [] ≤ 8 by first | decide | exact (show (1 : Nat) ≤ 8 by decide)) (mc := 0) (ms := 0) (by decide) (by decide) (g_run_mono (iv_buildAt (d := 58) hb) (fun r h1 hq => ?_))
      obtain ⟨e1, e2⟩ := hq
      rw [e1, e2, v2]
      clear e1 e2 r h1
      show P (11, _, [Value.null], 0, 0, h)
      refine ir_st hcl (iv_dec (c2 _ (iv_in (c := []) (pc := 11) rfl)) (by decide) (by decide)) rfl rfl (by decide) ?_
      have n3 : ((3 : Nat), Value.ref a1) ∈ g_st1 4 (Value.null) (g_st1 3 (Value.ref a1) ([(0, .ref (A 0)), (1, .int m1), (2, .int m2)] : g_L)) := iv_st2c List.mem_cons_self (by decide) rfl
      have n4 : ((4 : Nat), Value.null) ∈ g_st1 4 (Value.null) (g_st1 3 (Value.ref a1) ([(0, .ref (A 0)), (1, .int m1), (2, .int m2)] : g_L)) := List.mem_cons_self
      refine ir_ld hcl (iv_dec (c2 _ (iv_in (c := []) (pc := 13) rfl)) (by decide) (by decide)) rfl n3 rfl ?_
      refine ir_u1 hcl (iv_dec (c2 _ (iv_in (c := []) (pc := 14) rfl)) (by decide) (by decide)) 22 rfl rfl ?_
      refine ir_ld hcl (iv_dec (c2 _ (iv_in (c := []) (pc := 17) rfl)) (by decide) (by decide)) rfl n4 rfl ?_
      refine ir_n0 hcl (iv_dec (c2 _ (iv_in (c := []) (pc := 19) rfl)) (by decide) (by decide)) 24 rfl rfl ?_
      exact none9 _ (fun h => h.2.2.2 (z2 h.2.1))
    · refine iv_virt (as := [.int m2]) (rest := []) hcl (c2 _ (iv_in (c := []) (pc := 8) rfl)) (q := 0) (by rw [t204]; exact hb.1) rfl (show g_sum [] ≤ 8 by first | decide | exact (show (1 : Nat) ≤ 8 by decide)) (mc := 0) (ms := 0) (by decide) (by decide) (g_run_mono (iv_buildAt (d := 58) hb) (fun r h1 hq => ?_))
      obtain ⟨e1, e2⟩ := hq
      rw [e1, e2, v2]
      clear e1 e2 r h1
      show P (11, _, [Value.ref a2], 0, 0, h)
      refine ir_st hcl (iv_dec (c2 _ (iv_in (c := []) (pc := 11) rfl)) (by decide) (by decide)) rfl rfl (by decide) ?_
      have n3 : ((3 : Nat), Value.ref a1) ∈ g_st1 4 (Value.ref a2) (g_st1 3 (Value.ref a1) ([(0, .ref (A 0)), (1, .int m1), (2, .int m2)] : g_L)) := iv_st2c List.mem_cons_self (by decide) rfl
      have n4 : ((4 : Nat), Value.ref a2) ∈ g_st1 4 (Value.ref a2) (g_st1 3 (Value.ref a1) ([(0, .ref (A 0)), (1, .int m1), (2, .int m2)] : g_L)) := List.mem_cons_self
      refine ir_ld hcl (iv_dec (c2 _ (iv_in (c := []) (pc := 13) rfl)) (by decide) (by decide)) rfl n3 rfl ?_
      refine ir_u1 hcl (iv_dec (c2 _ (iv_in (c := []) (pc := 14) rfl)) (by decide) (by decide)) 22 rfl rfl ?_
      refine ir_ld hcl (iv_dec (c2 _ (iv_in (c := []) (pc := 17) rfl)) (by decide) (by decide)) rfl n4 rfl ?_
      refine ir_n1 hcl (iv_dec (c2 _ (iv_in (c := []) (pc := 19) rfl)) (by decide) (by decide)) 24 rfl rfl ?_
      obtain ⟨A1, ad1, f1, F1, q11, q21, q31, q41, bd1, q51, bc1⟩ := hk1
      have ea1 : A1 = a1 := Value.ref.inj (q41.symm.trans hc1)
      rw [ea1] at q21 bd1
      have bi1 := iv_bints hJ.1 ⟨q21, q31⟩ bd1
      obtain ⟨w1, ew1⟩ := bi1.1
      obtain ⟨A2, ad2, f2, F2, q12, q22, q32, q42, bd2, q52, bc2⟩ := hk2
      have ea2 : A2 = a2 := Value.ref.inj (q42.symm.trans hc2)
      rw [ea2] at q22 bd2
      have bi2 := iv_bints hJ.1 ⟨q22, q32⟩ bd2
      obtain ⟨w2, ew2⟩ := bi2.1
      have n0 : ((0 : Nat), Value.ref (A 0)) ∈ g_st1 4 (Value.ref a2) (g_st1 3 (Value.ref a1) ([(0, .ref (A 0)), (1, .int m1), (2, .int m2)] : g_L)) := iv_st2c k0 (by decide) rfl
      refine ir_ld hcl (iv_dec (c2 _ (iv_in (c := []) (pc := 24) rfl)) (by decide) (by decide)) rfl n3 rfl ?_
      refine ir_ld hcl (iv_dec (c2 _ (iv_in (c := []) (pc := 25) rfl)) (by decide) (by decide)) rfl n4 rfl ?_
      refine iv_virt (as := [.ref a2]) (rest := []) hcl (c2 _ (iv_in (c := []) (pc := 27) rfl)) (q := p1) (by rw [t206]; exact bd1.1) rfl (show g_sum [] ≤ 8 by first | decide | exact (show (1 : Nat) ≤ 8 by decide)) (mc := 0) (ms := 0) (by decide) (by decide) (g_run_mono (un_unl (d := 56) bd1 bd2 ew1 ew2 bi1 bi2) (fun r h1 hq => ?_))
      obtain ⟨e1, v, e2, hv⟩ := hq
      rw [e1, e2]
      clear e1 e2 r h1
      show P (30, _, [.int v], 0, 0, h)
      refine ir_st hcl (iv_dec (c2 _ (iv_in (c := []) (pc := 30) rfl)) (by decide) (by decide)) rfl rfl (by decide) ?_
      have x0 : ((0 : Nat), Value.ref (A 0)) ∈ g_st1 5 (.int v) (g_st1 4 (Value.ref a2) (g_st1 3 (Value.ref a1) ([(0, .ref (A 0)), (1, .int m1), (2, .int m2)] : g_L))) := iv_st2c n0 (by decide) rfl
      have x3 : ((3 : Nat), Value.ref a1) ∈ g_st1 5 (.int v) (g_st1 4 (Value.ref a2) (g_st1 3 (Value.ref a1) ([(0, .ref (A 0)), (1, .int m1), (2, .int m2)] : g_L))) := iv_st2c n3 (by decide) rfl
      have x4 : ((4 : Nat), Value.ref a2) ∈ g_st1 5 (.int v) (g_st1 4 (Value.ref a2) (g_st1 3 (Value.ref a1) ([(0, .ref (A 0)), (1, .int m1), (2, .int m2)] : g_L))) := iv_st2c n4 (by decide) rfl
      have x5 : ((5 : Nat), Value.int v) ∈ g_st1 5 (.int v) (g_st1 4 (Value.ref a2) (g_st1 3 (Value.ref a1) ([(0, .ref (A 0)), (1, .int m1), (2, .int m2)] : g_L))) := List.mem_cons_self
      have hK104 := fun (x : Int) x0 x1 => iv_104 hM (x := x) x0 x1
      have hbl1 := hInv.2.2.2.2 (i1 : Int) (by omega) (by omega) ((iv_105 hM (x := (i1 : Int)) (by omega) (by omega)).symm.trans q51)
      have hw1 : 0 ≤ w1.toInt ∧ w1.toInt ≤ 14 := by
        have q0 := bc1.1
        rw [un_n ew1] at q0
        have q1 : w1.toInt = iv_num h 104 (124 * (i1 : Int)) := q0.trans (congrArg (iv_num h 104) (by omega))
        have q2 := hK104 (124 * (i1 : Int)) (by omega) (by omega)
        have q3 := hbl1.1
        omega
      have hbl2 := hInv.2.2.2.2 (i2 : Int) (by omega) (by omega) ((iv_105 hM (x := (i2 : Int)) (by omega) (by omega)).symm.trans q52)
      have hw2 : 0 ≤ w2.toInt ∧ w2.toInt ≤ 14 := by
        have q0 := bc2.1
        rw [un_n ew2] at q0
        have q1 : w2.toInt = iv_num h 104 (124 * (i2 : Int)) := q0.trans (congrArg (iv_num h 104) (by omega))
        have q2 := hK104 (124 * (i2 : Int)) (by omega) (by omega)
        have q3 := hbl2.1
        omega
      have hk9 : rz_uk (iv_num h) m1.toInt m2.toInt := by
        rw [hm1, hm2]
        exact ⟨by omega, by omega, by rw [q51]; decide, by rw [q52]; decide⟩
      have hv9 : v.toInt = rw_uU (iv_num h 104) m1.toInt m2.toInt := by
        rw [hm1, hm2, hv]
        unfold rw_uU
        refine br_b_e _ (fun k hk => ?_)
        obtain ⟨b11, _, b13, _⟩ := bc1
        obtain ⟨b21, _, b23, _⟩ := bc2
        obtain ⟨_, _, u4, u5, u3⟩ := b13 k hk
        obtain ⟨_, _, s4, s5, s3⟩ := b23 k hk
        rw [un_n ew1] at b11
        rw [un_n ew2] at b21
        have j1 : ∀ c d : Int, 124 * (i1 : Int) + (c + 5 * (k : Int)) = 124 * (i1 : Int) + 1 + 5 * (k : Int) + d → iv_num h 104 (124 * (i1 : Int) + (c + 5 * (k : Int))) = iv_num h 104 (124 * (i1 : Int) + 1 + 5 * (k : Int) + d) := fun c d e => congrArg (iv_num h 104) e
        have j2 : ∀ c d : Int, 124 * (i2 : Int) + (c + 5 * (k : Int)) = 124 * (i2 : Int) + 1 + 5 * (k : Int) + d → iv_num h 104 (124 * (i2 : Int) + (c + 5 * (k : Int))) = iv_num h 104 (124 * (i2 : Int) + 1 + 5 * (k : Int) + d) := fun c d e => congrArg (iv_num h 104) e
        have t3 := u3.trans (j1 3 2 (by omega))
        have t4 := u4.trans (j1 4 3 (by omega))
        have t5 := u5.trans (j1 5 4 (by omega))
        have l3 := s3.trans (j2 3 2 (by omega))
        have l4 := s4.trans (j2 4 3 (by omega))
        have l5 := s5.trans (j2 5 4 (by omega))
        have b1 : w1.toInt = iv_num h 104 (124 * (i1 : Int)) := b11.trans (congrArg (iv_num h 104) (by omega))
        have b2 : w2.toInt = iv_num h 104 (124 * (i2 : Int)) := b21.trans (congrArg (iv_num h 104) (by omega))
        unfold un_P
        simp only [Int.toNat_natCast]
        rw [t3, t4, t5, l3, l4, l5, b1, b2]
      have ans : un_A (iv_num h) m1.toInt m2.toInt (xa_bc v.toInt) := by
        rw [hm1, hm2]
        refine Or.inl ⟨by omega, by omega, by rw [q51]; decide, by rw [q52]; decide, ?_⟩
        rw [hv]
        refine congrArg xa_bc (br_b_e _ (fun k hk => ?_))
        obtain ⟨b11, _, b13, _⟩ := bc1
        obtain ⟨b21, _, b23, _⟩ := bc2
        obtain ⟨_, _, u4, u5, u3⟩ := b13 k hk
        obtain ⟨_, _, s4, s5, s3⟩ := b23 k hk
        rw [un_n ew1] at b11
        rw [un_n ew2] at b21
        have j1 : ∀ c d : Int, 124 * (i1 : Int) + (c + 5 * (k : Int)) = 124 * (i1 : Int) + 1 + 5 * (k : Int) + d → iv_num h 104 (124 * (i1 : Int) + (c + 5 * (k : Int))) = iv_num h 104 (124 * (i1 : Int) + 1 + 5 * (k : Int) + d) := fun c d e => congrArg (iv_num h 104) e
        have j2 : ∀ c d : Int, 124 * (i2 : Int) + (c + 5 * (k : Int)) = 124 * (i2 : Int) + 1 + 5 * (k : Int) + d → iv_num h 104 (124 * (i2 : Int) + (c + 5 * (k : Int))) = iv_num h 104 (124 * (i2 : Int) + 1 + 5 * (k : Int) + d) := fun c d e => congrArg (iv_num h 104) e
        have t3 := u3.trans (j1 3 2 (by omega))
        have t4 := u4.trans (j1 4 3 (by omega))
        have t5 := u5.trans (j1 5 4 (by omega))
        have l3 := s3.trans (j2 3 2 (by omega))
        have l4 := s4.trans (j2 4 3 (by omega))
        have l5 := s5.trans (j2 5 4 (by omega))
        have b1 : w1.toInt = iv_num h 104 (124 * (i1 : Int)) := b11.trans (congrArg (iv_num h 104) (by omega))
        have b2 : w2.toInt = iv_num h 104 (124 * (i2 : Int)) := b21.trans (congrArg (iv_num h 104) (by omega))
        unfold un_P
        simp only [Int.toNat_natCast]
        rw [t3, t4, t5, l3, l4, l5, b1, b2]
      have J0 := hJ
      obtain ⟨cc0, gg0, e90, e80, ⟨y0, Y0⟩, z0, Z0⟩ := un_c0 J0
      refine ir_ld hcl (iv_dec (c2 _ (iv_in (c := []) (pc := 32) rfl)) (by decide) (by decide)) rfl x0 rfl ?_
      refine iv_getfield hcl (c2 _ (iv_in (c := []) (pc := 33) rfl)) (Or.inl rfl) (q := 0) (n := 12) (f := cc0) gg0 (by decide) ?_
      rw [e90]
      refine iv_virt (as := []) (rest := []) hcl (c2 _ (iv_in (c := []) (pc := 36) rfl)) (q := 48) (by rw [t59]; exact Y0) rfl (show g_sum [] ≤ 8 by first | decide | exact (show (1 : Nat) ≤ 8 by decide)) (mc := 0) (ms := 0) (by decide) (by decide) (g_run_rt (rw_u59 J0 hM hInv) (fun r h1 hp hrt => ?_))
      rw [r59] at hrt
      obtain rfl : r = none := hrt
      obtain ⟨⟨W1, pW1, J1, km1⟩, s1⟩ := hp
      have sm1 := s1.2
      show P (39, _, [], 0, 0, h1)
      obtain ⟨cc1, gg1, e91, e81, ⟨y1, Y1⟩, z1, Z1⟩ := un_c0 J1
      refine ir_ld hcl (iv_dec (c2 _ (iv_in (c := []) (pc := 39) rfl)) (by decide) (by decide)) rfl x0 rfl ?_
      refine iv_getfield hcl (c2 _ (iv_in (c := []) (pc := 40) rfl)) (Or.inl rfl) (q := 0) (n := 12) (f := cc1) gg1 (by decide) ?_
      rw [e91]
      refine ir_ld hcl (iv_dec (c2 _ (iv_in (c := []) (pc := 43) rfl)) (by decide) (by decide)) rfl x5 rfl ?_
      refine ir_i2l hcl (iv_dec (c2 _ (iv_in (c := []) (pc := 45) rfl)) (by decide) (by decide)) rfl ?_
      refine iv_virt (as := [.long v.toInt64]) (rest := []) hcl (c2 _ (iv_in (c := []) (pc := 46) rfl)) (q := 48) (by rw [t60]; exact Y1) rfl (show g_sum [] ≤ 8 by first | decide | exact (show (1 : Nat) ≤ 8 by decide)) (mc := 0) (ms := 0) (by decide) (by decide) (g_run_rt (rw_u60 J1 (km1 M hM) hInv v.toInt64 (c := 0) s1.1 (by decide)) (fun r h2 hp hrt => ?_))
      rw [r60] at hrt
      obtain rfl : r = none := hrt
      obtain ⟨⟨W2, pW2, J2, km2⟩, ⟨sz2, fx2, rx2⟩, t2⟩ := hp
      have sm2 := rw_sm_t t2 sm1
      show P (49, _, [], 0, 0, h2)
      obtain ⟨cc2, gg2, e92, e82, ⟨y2, Y2⟩, z2, Z2⟩ := un_c0 J2
      refine ir_ld hcl (iv_dec (c2 _ (iv_in (c := []) (pc := 49) rfl)) (by decide) (by decide)) rfl x0 rfl ?_
      refine iv_getfield hcl (c2 _ (iv_in (c := []) (pc := 50) rfl)) (Or.inl rfl) (q := 0) (n := 12) (f := cc2) gg2 (by decide) ?_
      rw [e92]
      refine ir_ld hcl (iv_dec (c2 _ (iv_in (c := []) (pc := 53) rfl)) (by decide) (by decide)) rfl x0 rfl ?_
      refine iv_getfield hcl (c2 _ (iv_in (c := []) (pc := 54) rfl)) (Or.inl rfl) (q := 0) (n := 12) (f := cc2) gg2 (by decide) ?_
      rw [e82]
      refine ir_ld hcl (iv_dec (c2 _ (iv_in (c := []) (pc := 57) rfl)) (by decide) (by decide)) rfl x3 rfl ?_
      have bd19 := rw_bd_k sm2 q11 bd1
      refine iv_virt (as := [.ref a1]) (rest := [.ref (A 48)]) hcl (c2 _ (iv_in (c := []) (pc := 58) rfl)) (q := 43) (by rw [t195]; exact Z2) rfl (show g_sum [.ref (A 48)] ≤ 8 by first | decide | exact (show (1 : Nat) ≤ 8 by decide)) (mc := 0) (ms := 0) (by decide) (by decide) (g_run_rt (rw_u195 J2 bd19 bi1 ew1 hw1 (by rw [sm2.2.1]; exact hl)) (fun r h3 hp hrt => ?_))
      rw [r195] at hrt
      obtain ⟨x29, rfl⟩ := hrt
      obtain ⟨⟨W3, pW3, J3, km3⟩, hs3, v39, ev3, fx3⟩ := hp
      have ex3 : v39 = x29 := by cases ev3; rfl
      rw [ex3] at fx3
      have sm3 : rw_sm h3 h := by rw [hs3]; exact sm2
      have sz3 : iv_num h3 48 1 = 1 := by rw [hs3]; exact sz2
      show P (61, _, [.int x29, .ref (A 48)], 0, 0, h3)
      refine ir_i2l hcl (iv_dec (c2 _ (iv_in (c := []) (pc := 61) rfl)) (by decide) (by decide)) rfl ?_
      obtain ⟨cc3, gg3, e93, e83, ⟨y3, Y3⟩, z3, Z3⟩ := un_c0 J3
      refine iv_virt (as := [.long x29.toInt64]) (rest := []) hcl (c2 _ (iv_in (c := []) (pc := 62) rfl)) (q := 48) (by rw [t60]; exact Y3) rfl (show g_sum [] ≤ 8 by first | decide | exact (show (1 : Nat) ≤ 8 by decide)) (mc := 0) (ms := 0) (by decide) (by decide) (g_run_rt (rw_u60 J3 (km3 M (km2 M (km1 M hM))) hInv x29.toInt64 (c := 1) sz3 (by decide)) (fun r h4 hp hrt => ?_))
      rw [r60] at hrt
      obtain rfl : r = none := hrt
      obtain ⟨⟨W4, pW4, J4, km4⟩, ⟨sz4, fx4, rx4⟩, t4⟩ := hp
      have sm4 := rw_sm_t t4 sm3
      show P (65, _, [], 0, 0, h4)
      obtain ⟨cc4, gg4, e94, e84, ⟨y4, Y4⟩, z4, Z4⟩ := un_c0 J4
      refine ir_ld hcl (iv_dec (c2 _ (iv_in (c := []) (pc := 65) rfl)) (by decide) (by decide)) rfl x0 rfl ?_
      refine iv_getfield hcl (c2 _ (iv_in (c := []) (pc := 66) rfl)) (Or.inl rfl) (q := 0) (n := 12) (f := cc4) gg4 (by decide) ?_
      rw [e94]
      refine ir_ld hcl (iv_dec (c2 _ (iv_in (c := []) (pc := 69) rfl)) (by decide) (by decide)) rfl x0 rfl ?_
      refine iv_getfield hcl (c2 _ (iv_in (c := []) (pc := 70) rfl)) (Or.inl rfl) (q := 0) (n := 12) (f := cc4) gg4 (by decide) ?_
      rw [e84]
      refine ir_ld hcl (iv_dec (c2 _ (iv_in (c := []) (pc := 73) rfl)) (by decide) (by decide)) rfl x4 rfl ?_
      have bd29 := rw_bd_k sm4 q12 bd2
      refine iv_virt (as := [.ref a2]) (rest := [.ref (A 48)]) hcl (c2 _ (iv_in (c := []) (pc := 75) rfl)) (q := 43) (by rw [t195]; exact Z4) rfl (show g_sum [.ref (A 48)] ≤ 8 by first | decide | exact (show (1 : Nat) ≤ 8 by decide)) (mc := 0) (ms := 0) (by decide) (by decide) (g_run_rt (rw_u195 J4 bd29 bi2 ew2 hw2 (by rw [sm4.2.1]; exact hl)) (fun r h5 hp hrt => ?_))
      rw [r195] at hrt
      obtain ⟨x49, rfl⟩ := hrt
      obtain ⟨⟨W5, pW5, J5, km5⟩, hs5, v59, ev5, fx5⟩ := hp
      have ex5 : v59 = x49 := by cases ev5; rfl
      rw [ex5] at fx5
      have sm5 : rw_sm h5 h := by rw [hs5]; exact sm4
      have sz5 : iv_num h5 48 1 = 2 := by rw [hs5]; exact sz4
      show P (78, _, [.int x49, .ref (A 48)], 0, 0, h5)
      refine ir_i2l hcl (iv_dec (c2 _ (iv_in (c := []) (pc := 78) rfl)) (by decide) (by decide)) rfl ?_
      obtain ⟨cc5, gg5, e95, e85, ⟨y5, Y5⟩, z5, Z5⟩ := un_c0 J5
      refine iv_virt (as := [.long x49.toInt64]) (rest := []) hcl (c2 _ (iv_in (c := []) (pc := 79) rfl)) (q := 48) (by rw [t60]; exact Y5) rfl (show g_sum [] ≤ 8 by first | decide | exact (show (1 : Nat) ≤ 8 by decide)) (mc := 0) (ms := 0) (by decide) (by decide) (g_run_rt (rw_u60 J5 (km5 M (km4 M (km3 M (km2 M (km1 M hM))))) hInv x49.toInt64 (c := 2) sz5 (by decide)) (fun r h6 hp hrt => ?_))
      rw [r60] at hrt
      obtain rfl : r = none := hrt
      obtain ⟨⟨W6, pW6, J6, km6⟩, ⟨sz6, fx6, rx6⟩, t6⟩ := hp
      have sm6 := rw_sm_t t6 sm5
      show P (82, _, [], 0, 0, h6)
      refine ir_ld hcl (iv_dec (c2 _ (iv_in (c := []) (pc := 82) rfl)) (by decide) (by decide)) rfl x5 rfl ?_
      have hN := (km6 M (km5 M (km4 M (km3 M (km2 M (km1 M hM))))))
      have g0 : iv_num h6 49 0 = rw_uU (iv_num h 104) m1.toInt m2.toInt := by
          rw [rx6 0 (by decide) (by decide) (by decide), hs5, rx4 0 (by decide) (by decide) (by decide), hs3, fx2, Int32.toInt_toInt64, hv9]
      have g1 : iv_num h6 49 1 = rw_uB (iv_num h 44) (iv_num h 45) (iv_num h 46) (iv_num h 47) (iv_num h 104) (iv_num h 43 4) m1.toInt := by
          rw [rx6 1 (by decide) (by decide) (by decide), hs5, fx4]
          exact (by
          have q : _ = _ := rw_uconv (K := iv_num h 104) (a := i1) (n := w1.toInt) (F := F1) (L := iv_num h 43 4) (L' := iv_num h2 43 4) (ax := iv_num h 44) (lv := iv_num h 45) (lo := iv_num h 46) (hi := iv_num h 47) (ax' := iv_num h2 44) (lv' := iv_num h2 45) (lo' := iv_num h2 46) (hi' := iv_num h2 47) ⟨sm2.2.1, hl.2⟩ sm2.2.2 ⟨(un_n ew1).symm.trans (bc1.1.trans (congrArg (iv_num h 104) (by omega))), hw1.2⟩ (fun j hj => by
            obtain ⟨-, -, u4, u5, u3⟩ := bc1.2.2.1 j hj
            exact ⟨u4, u5, u3⟩)
          rw [Int32.toInt_toInt64, fx3, q, hm1])
      have g2 : iv_num h6 49 2 = rw_uB (iv_num h 44) (iv_num h 45) (iv_num h 46) (iv_num h 47) (iv_num h 104) (iv_num h 43 4) m2.toInt := by
          rw [fx6]
          exact (by
          have q : _ = _ := rw_uconv (K := iv_num h 104) (a := i2) (n := w2.toInt) (F := F2) (L := iv_num h 43 4) (L' := iv_num h4 43 4) (ax := iv_num h 44) (lv := iv_num h 45) (lo := iv_num h 46) (hi := iv_num h 47) (ax' := iv_num h4 44) (lv' := iv_num h4 45) (lo' := iv_num h4 46) (hi' := iv_num h4 47) ⟨sm4.2.1, hl.2⟩ sm4.2.2 ⟨(un_n ew2).symm.trans (bc2.1.trans (congrArg (iv_num h 104) (by omega))), hw2.2⟩ (fun j hj => by
            obtain ⟨-, -, u4, u5, u3⟩ := bc2.2.2.1 j hj
            exact ⟨u4, u5, u3⟩)
          rw [Int32.toInt_toInt64, fx5, q, hm2])
      have hQ : iv_Q A W6 b h6 (iv_num h6) := ⟨J6.1, J6.2.1, J6.2.2.2, fun _ _ _ _ => rfl⟩
      refine iv_stat (as := [.int v]) (rest := []) (cells := 0) (slots := 0) hcl (c2 _ (iv_in (c := []) (pc := 84) rfl)) rfl (by decide) (by decide) (by decide) (g_run_mono (rz_Qc (d := 59) hQ (vs := [(0, 0, (-2147483648), 2147483647, v.toInt)]) (xs := [.int v]) ⟨iv_i v, trivial⟩ (ct_bitCount (d := 58) (I := xl_I b) (post := fun o M2 => o = some (0, 0, (-2147483648), 2147483647, xa_bc v.toInt) ∧ M2 = iv_num h6) ⟨rfl, rfl⟩)) (fun r h9 hp => ?_))
      obtain ⟨o9, M9, ⟨rfl, rfl⟩, hr9, hQ9, hX9, km9, -⟩ := hp
      have hM9 := km9 M hN
      obtain ⟨z9, rfl, hz9⟩ := iv_gRi hr9
      show P (87, _, [.int z9], 0, 0, h9)
      have J9 : iv_JW A W6 b h9 := iv_Qm hQ9 hM9 hM9 hInv (fun _ => rfl) (fun _ => rfl) (iv_xj J6 hN)
      exact hend _ ⟨Nat.le_refl _, Nat.le_refl _, Or.inl ⟨z9, .int, iv_ireturn (c2 _ (iv_in (c := []) (pc := 87) rfl)), q3, rfl, rfl, z9, W6, rfl, J9, hM9, by rw [hz9]; exact ans, rw_yes (V := rw_uV (iv_num h 44) (iv_num h 45) (iv_num h 46) (iv_num h 47) (iv_num h 104) (iv_num h 43 4) m1.toInt m2.toInt) hk9 ((rz_n48 hX9).trans sz6) (rw_uVa ((rw_n49 hX9 (by decide) (by decide)).trans g0) ((rw_n49 hX9 (by decide) (by decide)).trans g1) ((rw_n49 hX9 (by decide) (by decide)).trans g2)) rfl⟩⟩
theorem rw_p205 (A : Nat → Nat) (cmp : Bool) : iv_pair (rw_J A) A 205 297 [0, 0] cmp false := by
  intro h as hI hs
  obtain ⟨m1, ys, rfl, -, hs⟩ := iv_spc hs
  obtain ⟨m2, ys, rfl, -, hs⟩ := iv_spc hs
  obtain rfl := iv_sp0 hs
  obtain ⟨⟨W, b, hJ⟩, hz0⟩ := hI
  obtain ⟨M, hM, hInv⟩ := hJ.1.2.2
  have hR := iv_xj hJ hM
  have hX : lm_X (xj (iv_num h) M) := hR.2.2
  have s1 : iv_num h 43 4 = M 60 61 := hX.2.2.1
  have s4 : ∀ i, 0 ≤ i → i < 12 → iv_num h 44 i = M 100 i := hX.2.2.2.2.2.2.1
  have s5 : ∀ i, 0 ≤ i → i < 12 → iv_num h 45 i = M 101 i := hX.2.2.2.2.2.2.2.1
  have s6 : ∀ i, 0 ≤ i → i < 12 → iv_num h 46 i = M 102 i := hX.2.2.2.2.2.2.2.2.1
  have s7 : ∀ i, 0 ≤ i → i < 12 → iv_num h 47 i = M 103 i := hX.2.2.2.2.2.2.2.2.2.1
  have b61 := xm_f61 (xa_H_Mok hM)
  have hl : 0 ≤ iv_num h 43 4 ∧ iv_num h 43 4 ≤ 12 := by omega
  have hz := rw_I_h hJ hM hz0
  refine ⟨0, 0, by decide, by decide, g_run_mono (rw_unlX hJ hM hInv hl m1 m2) (fun r1 h1 hp => ?_)⟩
  obtain ⟨v, W1, rfl, hJ1, hM1, hA, z1⟩ := hp
  have e60 : iv_num h 60 20 = M 60 20 := iv_num_M (j := 20) hM rfl (by decide) (by decide) (by show (0 : Nat) < 2; decide)
  have hQ : iv_Q A W1 b h1 (iv_num h1) := ⟨hJ1.1, hJ1.2.1, hJ1.2.2.2, fun _ _ _ _ => rfl⟩
  refine ⟨v, rfl, iv_sh_ok (iv_iW_inv hJ1.1), g_run_mono (iv_mrun hM1 (vs := [(2, 60, 0, 0, 0), (0, 0, (-2147483648), 2147483647, m1.toInt), (0, 0, (-2147483648), 2147483647, m2.toInt)]) (xs := [.ref (A 60), .int m1, .int m2]) ⟨rfl, iv_i m1, iv_i m2, trivial⟩ (rw_m205 (d := 55) (M := M) (a := m1.toInt) (b := m2.toInt) hInv (post := fun o M2 => ∃ ans, o = some (0, 0, (-2147483648), 2147483647, ans) ∧ un_A M m1.toInt m2.toInt ans ∧ xm_cor M M2 ∧ rw_k (rz_uk M m1.toInt m2.toInt) (M 60 20) (M 74) (M2 60 20) (M2 74) 3 (fun V => V = rw_uV (M 100) (M 101) (M 102) (M 103) (M 104) (M 60 61) m1.toInt m2.toInt)) (fun r M2 x1 x2 x3 => ⟨r, rfl, x1, x2, x3⟩))) (fun r2 h2 hp2 => ?_)⟩
  obtain ⟨v2, M2, ⟨ans, rfl, k1, k2, y2⟩, hr2, hM2⟩ := hp2
  obtain ⟨z2, rfl, hz2⟩ := iv_gRi hr2
  refine ⟨⟨z2, rfl, fun _ => Int32.toInt_inj.mp (by rw [hz2]; exact un_A1 (fun x x0 x1 => iv_104 hM x0 x1) (fun x x0 x1 => iv_105 hM x0 x1) hA k1)⟩, ⟨W1, b, iv_Qm hQ hM1 hM2 (xm_Inv_cor k2 hInv) (fun x => k2 104 x (by unfold xm_scr; omega)) (fun x => k2 105 x (by unfold xm_scr; omega)) (xq_lmR (iv_xj hJ1 hM1) (fun _ _ _ _ => rfl) k2)⟩, ?_⟩
  have uk : rz_uk (iv_num h) m1.toInt m2.toInt ↔ rz_uk M m1.toInt m2.toInt := rz_uke (fun x x0 x1 => iv_105 hM x0 x1)
  have qz : rw_I (iv_num h1) M2 := rw_k1 z1 y2 uk (fun _ => by decide) (fun V V' hp g1 g2 i i0 i1 => by
    obtain ⟨⟨ha0, ha1⟩, ⟨hb0, hb1⟩, hc1, hc2⟩ := uk.mp hp
    have t1 := xm_t105 (xa_H_Mok hM) m1.toInt ha0 (by omega)
    have t2 := xm_t105 (xa_H_Mok hM) m2.toInt hb0 (by omega)
    have n1 := (hInv.2.2.2.2 m1.toInt ha0 (by omega) (by omega)).1
    have n2 := (hInv.2.2.2.2 m2.toInt hb0 (by omega) (by omega)).1
    have c1 := iv_104 hM (x := 124 * m1.toInt) (by omega) (by omega)
    have c2 := iv_104 hM (x := 124 * m2.toInt) (by omega) (by omega)
    rw [g1, g2, rw_uV_1 (a := m1.toInt) (b := m2.toInt) ⟨s1, hl.2⟩ (fun i i0 i1 => ⟨s4 i i0 i1, s5 i i0 i1, s6 i i0 i1, s7 i i0 i1⟩) (fun x x0 x1 => iv_104 hM x0 x1) ⟨ha0, ha1⟩ ⟨hb0, hb1⟩ (by omega) (by omega)]) hz
  have b48 := qz.2.1
  refine rw_I_k qz (iv_num_h (hM2.2.2 48 (xm_I_none (by omega))) 1) (rw_n60 hM2) (fun i i0 i1 => iv_num_h (hM2.2.2 49 (xm_I_none (by omega))) i) (fun i i0 i1 => rw_n74 hM2 i0 (by have := qz.1; omega))

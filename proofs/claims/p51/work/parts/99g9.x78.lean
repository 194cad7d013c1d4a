set_option maxRecDepth 20000
/-- the least, the greatest, how many, of those below n that are counted -/
def rw_sp (c : Int → Int) : Nat → Int × Int × Int
  | 0 => (-1, -1, 0)
  | n + 1 => if c (n : Int) ≤ 0 then rw_sp c n else (if (rw_sp c n).1 = -1 then (n : Int) else (rw_sp c n).1, (n : Int), (rw_sp c n).2.2 + 1)
theorem rw_sp0 {c : Int → Int} {n : Int} (n0 : 0 ≤ n) (h : c n ≤ 0) : rw_sp c (n + 1).toNat = rw_sp c n.toNat := by
  rw [show (n + 1).toNat = n.toNat + 1 by omega]
  show (if c ((n.toNat : Nat) : Int) ≤ 0 then rw_sp c n.toNat else _) = _
  rw [Int.toNat_of_nonneg n0, if_pos h]
theorem rw_sp1 {c : Int → Int} {n w v u : Int} (n0 : 0 ≤ n) (h : 0 < c n) (hs : rw_sp c n.toNat = (w, v, u)) (hw : ¬ w = -1) : rw_sp c (n + 1).toNat = (w, n, u + 1) := by
  rw [show (n + 1).toNat = n.toNat + 1 by omega]
  show (if c ((n.toNat : Nat) : Int) ≤ 0 then rw_sp c n.toNat else (if (rw_sp c n.toNat).1 = -1 then ((n.toNat : Nat) : Int) else (rw_sp c n.toNat).1, ((n.toNat : Nat) : Int), (rw_sp c n.toNat).2.2 + 1)) = _
  rw [Int.toNat_of_nonneg n0, if_neg (by omega), hs, if_neg hw]
theorem rw_sp2 {c : Int → Int} {n w v u : Int} (n0 : 0 ≤ n) (h : 0 < c n) (hs : rw_sp c n.toNat = (w, v, u)) (hw : w = -1) : rw_sp c (n + 1).toNat = (n, n, u + 1) := by
  rw [show (n + 1).toNat = n.toNat + 1 by omega]
  show (if c ((n.toNat : Nat) : Int) ≤ 0 then rw_sp c n.toNat else (if (rw_sp c n.toNat).1 = -1 then ((n.toNat : Nat) : Int) else (rw_sp c n.toNat).1, ((n.toNat : Nat) : Int), (rw_sp c n.toNat).2.2 + 1)) = _
  rw [Int.toNat_of_nonneg n0, if_neg (by omega), hs, if_pos hw]
theorem rw_spz {c : Int → Int} {a : Nat} (k : Nat) : (∀ n : Int, (a : Int) ≤ n → n < (a : Int) + (k : Int) → c n ≤ 0) → rw_sp c (a + k) = rw_sp c a := by
  induction k with
  | zero => exact fun _ => rfl
  | succ k ih =>
    intro h
    show (if c ((a + k : Nat) : Int) ≤ 0 then rw_sp c (a + k) else _) = _
    rw [if_pos (h _ (by omega) (by omega))]
    exact ih (fun n h1 h2 => h n h1 (by omega))
/-- of a wheel of the way: the least and the greatest teeth in any fitting, how many unlike -/
def rw_s101 (N : xa_M) (X p w : Int) (V : Int → Int) : Prop := ∃ (s : Int) (W R : Int → Int) (x : Int), tk_S N X p 0 s W R ∧ (0 ≤ x ∧ x < s) ∧ W x = w ∧ V = rw_v [(rw_sp (nx_K N s W R p x) 401).1, (rw_sp (nx_K N s W R p x) 401).2.1, (rw_sp (nx_K N s W R p x) 401).2.2]
theorem rw_s101_one {N : xa_M} {X p w : Int} {V V' : Int → Int} (hM : tk_M N) (h : rw_s101 N X p w V) (h' : rw_s101 N X p w V') : V = V' := by
  obtain ⟨s, W, R, x, hS, hx, e, rfl⟩ := h
  obtain ⟨s', W', R', x', hS', hx', e', rfl⟩ := h'
  obtain ⟨es, hW⟩ := (tk_S_one hM hS hS').2 (Or.inl rfl)
  subst es
  have ex : x' = x := tk_inj hM (tk_S_L hS).2.2.1 x' x hx'.1 hx'.2 hx.1 hx.2 (by rw [e, ← (hW x' hx'.1 hx'.2).1, e'])
  subst ex
  have ec : nx_K N s' W' R' p x' = nx_K N s' W R p x' := funext (fun n => nx_K_e hW)
  rw [ec]
/-- how many fittings the wheel that is told leaves at worst -/
def rw_s107 (N : xa_M) (X p : Int) (V : Int → Int) : Prop := ∃ (s : Int) (W R m : Int → Int) (b : Int), tk_S N X p 0 s W R ∧ (∀ i, 0 ≤ i → i < s → nx_m (nx_K N s W R p i) (m i)) ∧ (0 ≤ b ∧ b < s) ∧ (∀ i, 0 ≤ i → i < s → m b ≤ m i) ∧ V = rw_v [m b]
theorem rw_s107_one {N : xa_M} {X p : Int} {V V' : Int → Int} (hM : tk_M N) (h : rw_s107 N X p V) (h' : rw_s107 N X p V') : V = V' := by
  obtain ⟨s, W, R, m, b, hS, hm, hb, hle, rfl⟩ := h
  obtain ⟨s', W', R', m', b', hS', hm', hb', hle', rfl⟩ := h'
  obtain ⟨es, hW⟩ := (tk_S_one hM hS hS').2 (Or.inl rfl)
  subst es
  have em : ∀ i, 0 ≤ i → i < s' → m' i = m i := fun i i0 i1 => by
    have q := hm' i i0 i1
    rw [show nx_K N s' W' R' p i = nx_K N s' W R p i from funext (fun n => nx_K_e hW)] at q
    exact nx_m1 q (hm i i0 i1)
  have h1 := hle b' hb'.1 hb'.2
  have h2 := hle' b hb.1 hb.2
  rw [em b hb.1 hb.2] at h2
  have h3 := em b' hb'.1 hb'.2
  rw [show m b = m' b' by omega]
theorem rw_bestE {W u : Int → Int} {s x6 x4 x5 : Int} (h : nx_best W u x6 x4 x5) (hs : 1 ≤ s) (h1 : s ≤ x6) (h2 : x6 ≤ s) : ∃ b, (0 ≤ b ∧ b < s) ∧ (∀ i, 0 ≤ i → i < b → u b < u i) ∧ (∀ i, 0 ≤ i → i < s → u b ≤ u i) ∧ x4 = W b ∧ x5 = u b := by
  rcases h with ⟨h, -⟩ | ⟨-, -, b, hb, e4, e5, h6, h7⟩
  · omega
  · exact ⟨b, by omega, h6, fun i i0 i1 => h7 i i0 (by omega), e4, e5⟩
theorem rw_104 {b : Bool} {A : Nat → Nat} {h0 : g_H} {d : Nat} {M : xa_M} {post : Option xa_V → xa_M → Prop} {l1 u1 x1 : Int} {c : Int → Int} (hix : ∀ n, M 23 x1 ≤ n → n ≤ M 24 x1 → 0 ≤ M 29 x1 + n ∧ M 29 x1 + n < 800) (hTc : ∀ n, M 23 x1 ≤ n → n ≤ M 24 x1 → M 28 (M 29 x1 + n) = c n) (hc0 : ∀ n, ¬ (M 23 x1 ≤ n ∧ n ≤ M 24 x1) → c n = 0) (h1 : 0 ≤ x1 ∧ x1 < 14) (hL : 0 ≤ M 23 x1 ∧ M 23 x1 ≤ 400) (hH : M 24 x1 ≤ 400) (k : ∀ M1 : xa_M, (∀ (q : Nat) (j : Int), ¬ (q = 48 ∨ q = 49) → M1 q j = M q j) → M1 48 1 = 3 → rw_T (M1 49) [(rw_sp c 401).1, (rw_sp c 401).2.1, (rw_sp c 401).2.2] → post (some (0, 0, 0, 0, 0)) M1) : xa_C (xl_I b) A h0 (d + 3) 104 [(2, 15, 0, 0, 0), (0, 0, l1, u1, x1), (2, 48, 0, 0, 0)] M post := by
  refine xa_C_wk ?_
  refine xa_C_arg [(2, 15, 0, 0, 0), (0, 0, (-2147483648), 2147483647, x1), (2, 48, 0, 0, 0)] (xa_svR (xa_svI (fun _ _ _ _ => by omega) (xa_svR xa_sv0))) ?_
  refine xa_meth (Q0 := (7, 1, false, 0, 0, 3)) (by decide +kernel) ⟨rfl, rfl⟩ (full := s_c_104) rfl rfl ?_
  intro hM hv Q hgo
  have loop : ∀ (f : Nat) (n u v w : Int), 0 ≤ n ∧ n ≤ 401 → M 23 x1 ≤ n → (rw_sp c n.toNat = (w, v, u) ∧ 0 ≤ u ∧ u ≤ n) → 401 - n < (f : Int) → Q 18 [(6, (0, 0, 0, 401, n)), (5, (0, 0, (-2147483648), 2147483647, u)), (4, (0, 0, (-2147483648), 2147483647, v)), (3, (0, 0, (-2147483648), 2147483647, w)), (0, (2, 15, 0, 0, 0)), (1, (0, 0, 0, 13, x1)), (2, (2, 48, 0, 0, 0))] [] M := by
    intro f
    induction f with
    | zero => intro n u v w n1 hL1 hs hms; omega
    | succ f ih =>
      intro n u v w n1 hL1 hs hms
      refine hgo.1 27 [18] 18 _ _ _ ?_
      show xa_C (xl_I b) A h0 _ 23 [(2, 24, 0, 0, 0), (0, 0, 0, 13, x1)] M _
      refine cx_23_24 (show 0 ≤ x1 ∧ x1 < 14 by omega) ?_
      refine And.intro ?_ ?_
      · intro (c1 : (M 24 x1) < n)
        show xa_C (xl_I b) A h0 _ 59 [(2, 48, 0, 0, 0)] M _
        refine cx_59_48 ?_
        show xa_C (xl_I b) A h0 _ 60 [(2, 48, 0, 0, 0), (1, 0, (-2147483648), 2147483647, w)] (xa_up M 48 1 0) _
        refine rw_60 (l := []) (by show (0 : Int) ≤ 0 ∧ 0 < 16; omega) xa_up_eq rw_T0 ?_
        intro M101 (i2 : ∀ (q : Nat) (j : Int), ¬ (q = 48 ∨ q = 49) → M101 q j = (xa_up M 48 1 0) q j) (i3 : (0 : Int) ≤ M101 48 1) (zM101 : M101 48 1 = 0 + 1) (tM101 : rw_T (M101 49) [w])
        show xa_C (xl_I b) A h0 _ 60 [(2, 48, 0, 0, 0), (1, 0, (-2147483648), 2147483647, v)] M101 _
        refine rw_60 (l := [w]) (by show (0 : Int) ≤ M101 48 1 ∧ M101 48 1 < 16; omega) (show M101 48 1 = (1 : Int) by omega) tM101 ?_
        intro M102 (i4 : ∀ (q : Nat) (j : Int), ¬ (q = 48 ∨ q = 49) → M102 q j = M101 q j) (i5 : (0 : Int) ≤ M102 48 1) (zM102 : M102 48 1 = M101 48 1 + 1) (tM102 : rw_T (M102 49) [w, v])
        show xa_C (xl_I b) A h0 _ 60 [(2, 48, 0, 0, 0), (1, 0, (-2147483648), 2147483647, u)] M102 _
        refine rw_60 (l := [w, v]) (by show (0 : Int) ≤ M102 48 1 ∧ M102 48 1 < 16; omega) (show M102 48 1 = (2 : Int) by omega) tM102 ?_
        intro M103 (i6 : ∀ (q : Nat) (j : Int), ¬ (q = 48 ∨ q = 49) → M103 q j = M102 q j) (i7 : (0 : Int) ≤ M103 48 1) (zM103 : M103 48 1 = M102 48 1 + 1) (tM103 : rw_T (M103 49) [w, v, u])
        show xa_wk post (some (0, 0, 0, 0, 0)) M103
        exact xa_wkI _ rfl (fun _ _ => by omega) (k _ (fun q j hq => (i6 q j hq).trans ((i4 q j hq).trans ((i2 q j hq).trans ((xa_up_ne (by omega)))))) (by omega) (by
          have e : rw_sp c 401 = (w, v, u) := by
            rw [← hs.1, show (401 : Nat) = n.toNat + (401 - n.toNat) by omega]
            exact rw_spz _ (fun m h1 h2 => by rw [hc0 m (by omega)]; exact Int.le_refl _)
          rw [e]
          exact tM103))
      · intro (c1 : n ≤ (M 24 x1))
        show xa_C (xl_I b) A h0 _ 105 [(2, 15, 0, 0, 0), (0, 0, 0, 13, x1), (0, 0, 0, 401, n)] M _
        refine cx_105n (by omega) (hix n hL1 c1) ?_
        have hcn := hTc n hL1 c1
        refine And.intro ?_ ?_
        · intro (c8 : (M 28 (M 29 x1 + n)) ≤ 0)
          show Q 18 [(6, (0, 0, 1, 402, n + 1)), (5, (0, 0, (-2147483648), 2147483647, u)), (4, (0, 0, (-2147483648), 2147483647, v)), (3, (0, 0, (-2147483648), 2147483647, w)), (0, (2, 15, 0, 0, 0)), (1, (0, 0, 0, 13, x1)), (2, (2, 48, 0, 0, 0))] [] M
          refine hgo.2.1 18 _ [(6, (0, 0, 0, 401, n + 1)), (5, (0, 0, (-2147483648), 2147483647, u)), (4, (0, 0, (-2147483648), 2147483647, v)), (3, (0, 0, (-2147483648), 2147483647, w)), (0, (2, 15, 0, 0, 0)), (1, (0, 0, 0, 13, x1)), (2, (2, 48, 0, 0, 0))] _ _ (xa_subI rfl rfl (fun _ _ _ _ => by omega) (xa_subI rfl rfl (fun _ _ _ _ => by omega) (xa_subI rfl rfl (fun _ _ _ _ => by omega) (xa_subI rfl rfl (fun _ _ _ _ => by omega) (xa_subR rfl (xa_subI rfl rfl (fun _ _ _ _ => by omega) (xa_subR rfl (xa_sub0)))))))) ?_
          exact ih (n + 1) u v w (by omega) (by omega) ⟨(rw_sp0 n1.1 (by omega)).trans hs.1, by omega, by omega⟩ (by omega)
        · intro (c8 : 0 < (M 28 (M 29 x1 + n)))
          refine And.intro ?_ ?_
          · intro (c9 : ¬ w = (-1))
            show Q 18 [(6, (0, 0, 1, 402, n + 1)), (5, (0, 0, (-2147483648), 2147483647, xa_w32 (u + 1))), (4, (0, 0, 0, 401, n)), (3, (0, 0, (-2147483648), 2147483647, w)), (0, (2, 15, 0, 0, 0)), (1, (0, 0, 0, 13, x1)), (2, (2, 48, 0, 0, 0))] [] M
            refine hgo.2.1 18 _ [(6, (0, 0, 0, 401, n + 1)), (5, (0, 0, (-2147483648), 2147483647, xa_w32 (u + 1))), (4, (0, 0, (-2147483648), 2147483647, n)), (3, (0, 0, (-2147483648), 2147483647, w)), (0, (2, 15, 0, 0, 0)), (1, (0, 0, 0, 13, x1)), (2, (2, 48, 0, 0, 0))] _ _ (xa_subI rfl rfl (fun _ _ _ _ => by omega) (xa_subI rfl rfl (fun _ _ _ _ => by omega) (xa_subI rfl rfl (fun _ _ _ _ => by omega) (xa_subI rfl rfl (fun _ _ _ _ => by omega) (xa_subR rfl (xa_subI rfl rfl (fun _ _ _ _ => by omega) (xa_subR rfl (xa_sub0)))))))) ?_
            exact ih (n + 1) (xa_w32 (u + 1)) n w (by omega) (by omega) ⟨by rw [xa_w32_id (by omega) (by omega)]; exact rw_sp1 n1.1 (by omega) hs.1 c9, by rw [xa_w32_id (by omega) (by omega)]; omega, by rw [xa_w32_id (by omega) (by omega)]; omega⟩ (by omega)
          · intro (c9 : w = (-1))
            show Q 18 [(6, (0, 0, 1, 402, n + 1)), (5, (0, 0, (-2147483648), 2147483647, xa_w32 (u + 1))), (4, (0, 0, 0, 401, n)), (3, (0, 0, 0, 401, n)), (0, (2, 15, 0, 0, 0)), (1, (0, 0, 0, 13, x1)), (2, (2, 48, 0, 0, 0))] [] M
            refine hgo.2.1 18 _ [(6, (0, 0, 0, 401, n + 1)), (5, (0, 0, (-2147483648), 2147483647, xa_w32 (u + 1))), (4, (0, 0, (-2147483648), 2147483647, n)), (3, (0, 0, (-2147483648), 2147483647, n)), (0, (2, 15, 0, 0, 0)), (1, (0, 0, 0, 13, x1)), (2, (2, 48, 0, 0, 0))] _ _ (xa_subI rfl rfl (fun _ _ _ _ => by omega) (xa_subI rfl rfl (fun _ _ _ _ => by omega) (xa_subI rfl rfl (fun _ _ _ _ => by omega) (xa_subI rfl rfl (fun _ _ _ _ => by omega) (xa_subR rfl (xa_subI rfl rfl (fun _ _ _ _ => by omega) (xa_subR rfl (xa_sub0)))))))) ?_
            exact ih (n + 1) (xa_w32 (u + 1)) n n (by omega) (by omega) ⟨by rw [xa_w32_id (by omega) (by omega)]; exact rw_sp2 n1.1 (by omega) hs.1 c9, by rw [xa_w32_id (by omega) (by omega)]; omega, by rw [xa_w32_id (by omega) (by omega)]; omega⟩ (by omega)
  refine hgo.1 16 [18] 0 _ _ _ ?_
  show xa_C (xl_I b) A h0 _ 23 [(2, 23, 0, 0, 0), (0, 0, (-2147483648), 2147483647, x1)] M _
  refine cx_23_23 (show 0 ≤ x1 ∧ x1 < 14 by omega) ?_
  show Q 18 [(6, (0, 0, (-2147483648), 2147483647, M 23 x1)), (5, (0, 0, 0, 0, 0)), (4, (0, 0, (-1), (-1), (-1))), (3, (0, 0, (-1), (-1), (-1))), (0, (2, 15, 0, 0, 0)), (1, (0, 0, (-2147483648), 2147483647, x1)), (2, (2, 48, 0, 0, 0))] [] M
  refine hgo.2.1 18 _ [(6, (0, 0, 0, 401, M 23 x1)), (5, (0, 0, (-2147483648), 2147483647, 0)), (4, (0, 0, (-2147483648), 2147483647, (-1))), (3, (0, 0, (-2147483648), 2147483647, (-1))), (0, (2, 15, 0, 0, 0)), (1, (0, 0, 0, 13, x1)), (2, (2, 48, 0, 0, 0))] _ _ (xa_subI rfl rfl (fun _ _ _ _ => by omega) (xa_subI rfl rfl (fun _ _ _ _ => by omega) (xa_subI rfl rfl (fun _ _ _ _ => by omega) (xa_subI rfl rfl (fun _ _ _ _ => by omega) (xa_subR rfl (xa_subI rfl rfl (fun _ _ _ _ => by omega) (xa_subR rfl (xa_sub0)))))))) ?_
  have e0 := rw_spz (c := c) (a := 0) (M 23 x1).toNat (fun m h1 h2 => by rw [hc0 m (by omega)]; exact Int.le_refl _)
  rw [Nat.zero_add] at e0
  exact loop 402 (M 23 x1) 0 (-1) (-1) (by omega) (Int.le_refl _) ⟨e0, by omega, by omega⟩ (by omega)
theorem rw_101_50 {A : Nat → Nat} {h0 : g_H} {d : Nat} {M : xa_M} {post : Option xa_V → xa_M → Prop} {l1 u1 l2 u2 l3 u3 x1 x2 x3 : Int} {F : Int → Int} {N : xa_M} (hT : tk_M N) (hR : tk_R M N) (hB : tk_B 50 M N) (hFF : 1 ≤ x1 ∧ x1 ≤ 9 → tk_Y N x1 F) (k : ∀ (lo hi r : Int) (M1 : xa_M), tf_101 N x1 x2 x3 r → (∀ (q : Nat) (j : Int), ¬ (15 ≤ q ∧ q ≤ 29) → ¬ (q = 48 ∨ q = 49) → M1 q j = M q j) → rw_k (r = 0) (M 48 1) (M 49) (M1 48 1) (M1 49) 3 (rw_s101 N x1 x2 x3) → post (some (0, 0, lo, hi, r)) M1) : xa_C (xl_I false) A h0 (d + 7) 101 [(2, 0, 0, 0, 0), (0, 0, l1, u1, x1), (0, 0, l2, u2, x2), (0, 0, l3, u3, x3)] M post := by
  refine xa_C_arg [(2, 0, 0, 0, 0), (0, 0, (-2147483648), 2147483647, x1), (0, 0, (-2147483648), 2147483647, x2), (0, 0, (-2147483648), 2147483647, x3)] (xa_svR (xa_svI (fun _ _ _ _ => by omega) (xa_svI (fun _ _ _ _ => by omega) (xa_svI (fun _ _ _ _ => by omega) xa_sv0)))) ?_
  refine xa_meth (Q0 := (6, 1, false, 0, 0, 11)) (by decide +kernel) ⟨rfl, rfl⟩ (full := s_c_101) rfl rfl ?_
  intro hM hv Q hgo
  refine hgo.1 33 [] 0 _ _ _ ?_
  show xa_C (xl_I _) A h0 _ 86 [(2, 0, 0, 0, 0), (0, 0, (-2147483648), 2147483647, x1), (0, 0, (-2147483648), 2147483647, x2)] M _
  refine cx_86_50 hT hR hB hFF ?_
  intro r102 M101 (i1 : tk_S N x1 x2 r102 (M101 15 10) (M101 21) (M101 22)) (i2 : r102 = 0 → tk_A N x2 M101) (i3 : ∀ q j, ¬ (15 ≤ q ∧ q ≤ 24) → M101 q j = M q j)
  have hS := i1
  refine And.intro ?_ ?_
  · intro (c4 : r102 = 0)
    show xa_C (xl_I _) A h0 _ 102 [(2, 15, 0, 0, 0), (0, 0, (-2147483648), 2147483647, x3)] M101 _
    refine cx_102t (by have q := tk_Sl hT hS; omega) ?_
    intro r103 (i5 : (r103 = -1 ∧ ∀ i, 0 ≤ i → i < M101 15 10 → ¬ M101 21 i = x3) ∨ (0 ≤ r103 ∧ r103 < M101 15 10 ∧ M101 21 r103 = x3))
    refine And.intro ?_ ?_
    · intro (c6 : ¬ r103 = (-1))
      refine And.intro ?_ ?_
      · intro (c7 : r102 = 0)
        show xa_C (xl_I _) A h0 _ 103 [(2, 15, 0, 0, 0)] M101 _
        have er : r102 = 0 := by omega
        have hS0 := hS
        rw [er] at hS0
        obtain ⟨z1, z2, z3, z4⟩ := tk_S_L hS0
        have hZ : tk_Z N x1 x2 M101 := ⟨z1, z3, z4, i2 er⟩
        refine cx_103n hT hZ ?_
        intro r104 M105 (i8 : (r104 = 0 ∧ fs_c (tk_F N (M101 15 10) (M101 21) (M101 22) x2) (tk_pr N (M101 15 10) (M101 21)).toNat = 0) ∨ (r104 = 1 ∧ 1 ≤ fs_c (tk_F N (M101 15 10) (M101 21) (M101 22) x2) (tk_pr N (M101 15 10) (M101 21)).toNat)) (i8n : r104 = 1 → (∀ w : Int, 0 ≤ w → w < M101 15 10 → M105 29 w = nx_B (fun i => N 61 (M101 21 i)) (fun i => N 62 (M101 21 i)) w.toNat - N 61 (M101 21 w)) ∧ nx_T (M105 28) (fun i => N 61 (M101 21 i)) (fun i => N 62 (M101 21 i)) (M101 15 10) (fun j n => fs_c (nx_G (fun i => N 61 (M101 21 i)) (fun i => N 62 (M101 21 i)) (M101 15 10).toNat (tk_F N (M101 15 10) (M101 21) (M101 22) x2) j n) (tk_pr N (M101 15 10) (M101 21)).toNat)) (i9 : ∀ (q : Nat) (j : Int), ¬ (25 ≤ q ∧ q ≤ 29) → ¬ (q = 15 ∧ j = 13) → M105 q j = M101 q j)
        refine And.intro ?_ ?_
        · intro (c10 : r104 = 0)
          show post (some (0, 0, (-2), (-2), (-2))) M105
          rcases i5 with ⟨e, -⟩ | ⟨e1, e2, e3⟩
          · exfalso
            omega
          · exact k _ _ _ _ ⟨_, _, _, _, i1, Or.inr ⟨by omega, Or.inr ⟨⟨_, e1, e2, e3⟩, Or.inr ⟨by omega, Or.inl ⟨by omega, rfl⟩⟩⟩⟩⟩ (fun q j h1 h2 => (i9 q j (by omega) (by omega)).trans (i3 q j (by omega))) (rw_no (by omega) ((i9 48 1 (by omega) (by omega)).trans (i3 48 1 (by omega))) (fun j _ _ => (i9 49 j (by omega) (by omega)).trans (i3 49 j (by omega))))
        · intro (c10 : ¬ r104 = 0)
          show xa_C (xl_I _) A h0 _ 104 [(2, 15, 0, 0, 0), (0, 0, (-1), 13, r103), (2, 48, 0, 0, 0)] M105 _
          have pl : 0 ≤ r103 ∧ r103 < M101 15 10 := by
            rcases i5 with ⟨e, -⟩ | ⟨e1, e2, -⟩
            · omega
            · exact ⟨e1, e2⟩
          obtain ⟨zl1, -, zl2, -⟩ := tk_Zl hT hZ
          have zl3 := (zl2 r103 pl.1 pl.2).1
          have f23 := i9 23 r103 (by omega) (by omega)
          have f24 := i9 24 r103 (by omega) (by omega)
          have f10 := i9 15 10 (by omega) (by omega)
          obtain ⟨y1, y2, y3, y4, y5, y6⟩ := nx_cls hT hZ (i8n (by omega)) i9
          refine rw_104 (c := (nx_K N (M101 15 10) (M101 21) (M101 22) x2 r103)) (y2 r103 pl.1 (by omega)) (y3 r103 pl.1 (by omega)) (y4 r103 pl.1 (by omega)) (by omega) (by omega) (by omega) ?_
          intro M106 (i11 : ∀ (q : Nat) (j : Int), ¬ (q = 48 ∨ q = 49) → M106 q j = M105 q j) (z48 : M106 48 1 = 3) (tT : rw_T (M106 49) [(rw_sp (nx_K N (M101 15 10) (M101 21) (M101 22) x2 r103) 401).1, (rw_sp (nx_K N (M101 15 10) (M101 21) (M101 22) x2 r103) 401).2.1, (rw_sp (nx_K N (M101 15 10) (M101 21) (M101 22) x2 r103) 401).2.2])
          show post (some (0, 0, 0, 0, 0)) M106
          rcases i5 with ⟨e, -⟩ | ⟨e1, e2, e3⟩
          · exfalso
            omega
          · exact k _ _ _ _ ⟨_, _, _, _, i1, Or.inr ⟨by omega, Or.inr ⟨⟨_, e1, e2, e3⟩, Or.inr ⟨by omega, Or.inr ⟨by omega, rfl⟩⟩⟩⟩⟩ (fun q j h1 h2 => (i11 q j h2).trans ((i9 q j (by omega) (by omega)).trans (i3 q j (by omega)))) (rw_yes (V := rw_v [(rw_sp (nx_K N (M101 15 10) (M101 21) (M101 22) x2 r103) 401).1, (rw_sp (nx_K N (M101 15 10) (M101 21) (M101 22) x2 r103) 401).2.1, (rw_sp (nx_K N (M101 15 10) (M101 21) (M101 22) x2 r103) 401).2.2]) rfl z48 (fun i j0 j1 => tT i j0 j1) ⟨_, _, _, _, hS0, pl, e3, rfl⟩)
      · intro (c7 : ¬ r102 = 0)
        exfalso
        omega
    · intro (c6 : r103 = (-1))
      show post (some (0, 0, (-1), (-1), (-1))) M101
      rcases i5 with ⟨-, e⟩ | ⟨e, -, -⟩
      · exact k _ _ _ _ ⟨_, _, _, _, i1, Or.inr ⟨by omega, Or.inl ⟨e, rfl⟩⟩⟩ (fun q j h1 h2 => i3 q j (by omega)) (rw_no (by omega) (i3 48 1 (by omega)) (fun j _ _ => i3 49 j (by omega)))
      · exfalso
        omega
  · intro (c4 : ¬ r102 = 0)
    refine And.intro ?_ ?_
    · intro (c12 : r102 = (-4))
      show xa_C (xl_I _) A h0 _ 102 [(2, 15, 0, 0, 0), (0, 0, (-2147483648), 2147483647, x3)] M101 _
      refine cx_102t (by have q := tk_Sl hT hS; omega) ?_
      intro r107 (i13 : (r107 = -1 ∧ ∀ i, 0 ≤ i → i < M101 15 10 → ¬ M101 21 i = x3) ∨ (0 ≤ r107 ∧ r107 < M101 15 10 ∧ M101 21 r107 = x3))
      refine And.intro ?_ ?_
      · intro (c14 : ¬ r107 = (-1))
        refine And.intro ?_ ?_
        · intro (c15 : r102 = 0)
          exfalso
          omega
        · intro (c15 : ¬ r102 = 0)
          show post (some (0, 0, (-4), 0, r102)) M101
          rcases i13 with ⟨e, -⟩ | ⟨e1, e2, e3⟩
          · exfalso
            omega
          · exact k _ _ _ _ ⟨_, _, _, _, i1, Or.inr ⟨by omega, Or.inr ⟨⟨_, e1, e2, e3⟩, Or.inl ⟨by omega, by omega⟩⟩⟩⟩ (fun q j h1 h2 => i3 q j (by omega)) (rw_no (by omega) (i3 48 1 (by omega)) (fun j _ _ => i3 49 j (by omega)))
      · intro (c14 : r107 = (-1))
        show post (some (0, 0, (-1), (-1), (-1))) M101
        rcases i13 with ⟨-, e⟩ | ⟨e, -, -⟩
        · exact k _ _ _ _ ⟨_, _, _, _, i1, Or.inr ⟨by omega, Or.inl ⟨e, rfl⟩⟩⟩ (fun q j h1 h2 => i3 q j (by omega)) (rw_no (by omega) (i3 48 1 (by omega)) (fun j _ _ => i3 49 j (by omega)))
        · exfalso
          omega
    · intro (c12 : ¬ r102 = (-4))
      show post (some (0, 0, (-4), 0, r102)) M101
      exact k _ _ _ _ ⟨_, _, _, _, i1, Or.inl ⟨by omega, rfl⟩⟩ (fun q j h1 h2 => i3 q j (by omega)) (rw_no (by omega) (i3 48 1 (by omega)) (fun j _ _ => i3 49 j (by omega)))
theorem rw_101_55 {A : Nat → Nat} {h0 : g_H} {d : Nat} {M : xa_M} {post : Option xa_V → xa_M → Prop} {l1 u1 l2 u2 l3 u3 x1 x2 x3 : Int} {F : Int → Int} {N : xa_M} (hT : tk_M N) (hR : tk_R M N) (hB : tk_B 55 M N) (hFF : 1 ≤ x1 ∧ x1 ≤ 9 → tk_Y N x1 F) (k : ∀ (lo hi r : Int) (M1 : xa_M), tf_101 N x1 x2 x3 r → (∀ (q : Nat) (j : Int), ¬ (15 ≤ q ∧ q ≤ 29) → ¬ (q = 48 ∨ q = 49) → M1 q j = M q j) → rw_k (r = 0) (M 48 1) (M 49) (M1 48 1) (M1 49) 3 (rw_s101 N x1 x2 x3) → post (some (0, 0, lo, hi, r)) M1) : xa_C (xl_I true) A h0 (d + 7) 101 [(2, 0, 0, 0, 0), (0, 0, l1, u1, x1), (0, 0, l2, u2, x2), (0, 0, l3, u3, x3)] M post := by
  refine xa_C_arg [(2, 0, 0, 0, 0), (0, 0, (-2147483648), 2147483647, x1), (0, 0, (-2147483648), 2147483647, x2), (0, 0, (-2147483648), 2147483647, x3)] (xa_svR (xa_svI (fun _ _ _ _ => by omega) (xa_svI (fun _ _ _ _ => by omega) (xa_svI (fun _ _ _ _ => by omega) xa_sv0)))) ?_
  refine xa_meth (Q0 := (6, 1, false, 0, 0, 11)) (by decide +kernel) ⟨rfl, rfl⟩ (full := s_c_101) rfl rfl ?_
  intro hM hv Q hgo
  refine hgo.1 33 [] 0 _ _ _ ?_
  show xa_C (xl_I _) A h0 _ 86 [(2, 0, 0, 0, 0), (0, 0, (-2147483648), 2147483647, x1), (0, 0, (-2147483648), 2147483647, x2)] M _
  refine cx_86_55 hT hR hB hFF ?_
  intro r102 M101 (i1 : tk_S N x1 x2 r102 (M101 15 10) (M101 21) (M101 22)) (i2 : r102 = 0 → tk_A N x2 M101) (i3 : ∀ q j, ¬ (15 ≤ q ∧ q ≤ 24) → M101 q j = M q j)
  have hS := i1
  refine And.intro ?_ ?_
  · intro (c4 : r102 = 0)
    show xa_C (xl_I _) A h0 _ 102 [(2, 15, 0, 0, 0), (0, 0, (-2147483648), 2147483647, x3)] M101 _
    refine cx_102t (by have q := tk_Sl hT hS; omega) ?_
    intro r103 (i5 : (r103 = -1 ∧ ∀ i, 0 ≤ i → i < M101 15 10 → ¬ M101 21 i = x3) ∨ (0 ≤ r103 ∧ r103 < M101 15 10 ∧ M101 21 r103 = x3))
    refine And.intro ?_ ?_
    · intro (c6 : ¬ r103 = (-1))
      refine And.intro ?_ ?_
      · intro (c7 : r102 = 0)
        show xa_C (xl_I _) A h0 _ 103 [(2, 15, 0, 0, 0)] M101 _
        have er : r102 = 0 := by omega
        have hS0 := hS
        rw [er] at hS0
        obtain ⟨z1, z2, z3, z4⟩ := tk_S_L hS0
        have hZ : tk_Z N x1 x2 M101 := ⟨z1, z3, z4, i2 er⟩
        refine cx_103n hT hZ ?_
        intro r104 M105 (i8 : (r104 = 0 ∧ fs_c (tk_F N (M101 15 10) (M101 21) (M101 22) x2) (tk_pr N (M101 15 10) (M101 21)).toNat = 0) ∨ (r104 = 1 ∧ 1 ≤ fs_c (tk_F N (M101 15 10) (M101 21) (M101 22) x2) (tk_pr N (M101 15 10) (M101 21)).toNat)) (i8n : r104 = 1 → (∀ w : Int, 0 ≤ w → w < M101 15 10 → M105 29 w = nx_B (fun i => N 61 (M101 21 i)) (fun i => N 62 (M101 21 i)) w.toNat - N 61 (M101 21 w)) ∧ nx_T (M105 28) (fun i => N 61 (M101 21 i)) (fun i => N 62 (M101 21 i)) (M101 15 10) (fun j n => fs_c (nx_G (fun i => N 61 (M101 21 i)) (fun i => N 62 (M101 21 i)) (M101 15 10).toNat (tk_F N (M101 15 10) (M101 21) (M101 22) x2) j n) (tk_pr N (M101 15 10) (M101 21)).toNat)) (i9 : ∀ (q : Nat) (j : Int), ¬ (25 ≤ q ∧ q ≤ 29) → ¬ (q = 15 ∧ j = 13) → M105 q j = M101 q j)
        refine And.intro ?_ ?_
        · intro (c10 : r104 = 0)
          show post (some (0, 0, (-2), (-2), (-2))) M105
          rcases i5 with ⟨e, -⟩ | ⟨e1, e2, e3⟩
          · exfalso
            omega
          · exact k _ _ _ _ ⟨_, _, _, _, i1, Or.inr ⟨by omega, Or.inr ⟨⟨_, e1, e2, e3⟩, Or.inr ⟨by omega, Or.inl ⟨by omega, rfl⟩⟩⟩⟩⟩ (fun q j h1 h2 => (i9 q j (by omega) (by omega)).trans (i3 q j (by omega))) (rw_no (by omega) ((i9 48 1 (by omega) (by omega)).trans (i3 48 1 (by omega))) (fun j _ _ => (i9 49 j (by omega) (by omega)).trans (i3 49 j (by omega))))
        · intro (c10 : ¬ r104 = 0)
          show xa_C (xl_I _) A h0 _ 104 [(2, 15, 0, 0, 0), (0, 0, (-1), 13, r103), (2, 48, 0, 0, 0)] M105 _
          have pl : 0 ≤ r103 ∧ r103 < M101 15 10 := by
            rcases i5 with ⟨e, -⟩ | ⟨e1, e2, -⟩
            · omega
            · exact ⟨e1, e2⟩
          obtain ⟨zl1, -, zl2, -⟩ := tk_Zl hT hZ
          have zl3 := (zl2 r103 pl.1 pl.2).1
          have f23 := i9 23 r103 (by omega) (by omega)
          have f24 := i9 24 r103 (by omega) (by omega)
          have f10 := i9 15 10 (by omega) (by omega)
          obtain ⟨y1, y2, y3, y4, y5, y6⟩ := nx_cls hT hZ (i8n (by omega)) i9
          refine rw_104 (c := (nx_K N (M101 15 10) (M101 21) (M101 22) x2 r103)) (y2 r103 pl.1 (by omega)) (y3 r103 pl.1 (by omega)) (y4 r103 pl.1 (by omega)) (by omega) (by omega) (by omega) ?_
          intro M106 (i11 : ∀ (q : Nat) (j : Int), ¬ (q = 48 ∨ q = 49) → M106 q j = M105 q j) (z48 : M106 48 1 = 3) (tT : rw_T (M106 49) [(rw_sp (nx_K N (M101 15 10) (M101 21) (M101 22) x2 r103) 401).1, (rw_sp (nx_K N (M101 15 10) (M101 21) (M101 22) x2 r103) 401).2.1, (rw_sp (nx_K N (M101 15 10) (M101 21) (M101 22) x2 r103) 401).2.2])
          show post (some (0, 0, 0, 0, 0)) M106
          rcases i5 with ⟨e, -⟩ | ⟨e1, e2, e3⟩
          · exfalso
            omega
          · exact k _ _ _ _ ⟨_, _, _, _, i1, Or.inr ⟨by omega, Or.inr ⟨⟨_, e1, e2, e3⟩, Or.inr ⟨by omega, Or.inr ⟨by omega, rfl⟩⟩⟩⟩⟩ (fun q j h1 h2 => (i11 q j h2).trans ((i9 q j (by omega) (by omega)).trans (i3 q j (by omega)))) (rw_yes (V := rw_v [(rw_sp (nx_K N (M101 15 10) (M101 21) (M101 22) x2 r103) 401).1, (rw_sp (nx_K N (M101 15 10) (M101 21) (M101 22) x2 r103) 401).2.1, (rw_sp (nx_K N (M101 15 10) (M101 21) (M101 22) x2 r103) 401).2.2]) rfl z48 (fun i j0 j1 => tT i j0 j1) ⟨_, _, _, _, hS0, pl, e3, rfl⟩)
      · intro (c7 : ¬ r102 = 0)
        exfalso
        omega
    · intro (c6 : r103 = (-1))
      show post (some (0, 0, (-1), (-1), (-1))) M101
      rcases i5 with ⟨-, e⟩ | ⟨e, -, -⟩
      · exact k _ _ _ _ ⟨_, _, _, _, i1, Or.inr ⟨by omega, Or.inl ⟨e, rfl⟩⟩⟩ (fun q j h1 h2 => i3 q j (by omega)) (rw_no (by omega) (i3 48 1 (by omega)) (fun j _ _ => i3 49 j (by omega)))
      · exfalso
        omega
  · intro (c4 : ¬ r102 = 0)
    refine And.intro ?_ ?_
    · intro (c12 : r102 = (-4))
      show xa_C (xl_I _) A h0 _ 102 [(2, 15, 0, 0, 0), (0, 0, (-2147483648), 2147483647, x3)] M101 _
      refine cx_102t (by have q := tk_Sl hT hS; omega) ?_
      intro r107 (i13 : (r107 = -1 ∧ ∀ i, 0 ≤ i → i < M101 15 10 → ¬ M101 21 i = x3) ∨ (0 ≤ r107 ∧ r107 < M101 15 10 ∧ M101 21 r107 = x3))
      refine And.intro ?_ ?_
      · intro (c14 : ¬ r107 = (-1))
        refine And.intro ?_ ?_
        · intro (c15 : r102 = 0)
          exfalso
          omega
        · intro (c15 : ¬ r102 = 0)
          show post (some (0, 0, (-4), 0, r102)) M101
          rcases i13 with ⟨e, -⟩ | ⟨e1, e2, e3⟩
          · exfalso
            omega
          · exact k _ _ _ _ ⟨_, _, _, _, i1, Or.inr ⟨by omega, Or.inr ⟨⟨_, e1, e2, e3⟩, Or.inl ⟨by omega, by omega⟩⟩⟩⟩ (fun q j h1 h2 => i3 q j (by omega)) (rw_no (by omega) (i3 48 1 (by omega)) (fun j _ _ => i3 49 j (by omega)))
      · intro (c14 : r107 = (-1))
        show post (some (0, 0, (-1), (-1), (-1))) M101
        rcases i13 with ⟨-, e⟩ | ⟨e, -, -⟩
        · exact k _ _ _ _ ⟨_, _, _, _, i1, Or.inr ⟨by omega, Or.inl ⟨e, rfl⟩⟩⟩ (fun q j h1 h2 => i3 q j (by omega)) (rw_no (by omega) (i3 48 1 (by omega)) (fun j _ _ => i3 49 j (by omega)))
        · exfalso
          omega
    · intro (c12 : ¬ r102 = (-4))
      show post (some (0, 0, (-4), 0, r102)) M101
      exact k _ _ _ _ ⟨_, _, _, _, i1, Or.inl ⟨by omega, rfl⟩⟩ (fun q j h1 h2 => i3 q j (by omega)) (rw_no (by omega) (i3 48 1 (by omega)) (fun j _ _ => i3 49 j (by omega)))
theorem rw_101x {b : Bool} {A : Nat → Nat} {h0 : g_H} {d : Nat} {M : xa_M} {post : Option xa_V → xa_M → Prop} {l1 u1 l2 u2 l3 u3 x1 x2 x3 : Int} {F : Int → Int} {N : xa_M} (hT : tk_M N) (hR : tk_R M N) (hB : tk_B (bk_p b) M N) (hFF : 1 ≤ x1 ∧ x1 ≤ 9 → tk_Y N x1 F) (k : ∀ (lo hi r : Int) (M1 : xa_M), tf_101 N x1 x2 x3 r → (∀ (q : Nat) (j : Int), ¬ (15 ≤ q ∧ q ≤ 29) → ¬ (q = 48 ∨ q = 49) → M1 q j = M q j) → rw_k (r = 0) (M 48 1) (M 49) (M1 48 1) (M1 49) 3 (rw_s101 N x1 x2 x3) → post (some (0, 0, lo, hi, r)) M1) : xa_C (xl_I b) A h0 (d + 7) 101 [(2, 0, 0, 0, 0), (0, 0, l1, u1, x1), (0, 0, l2, u2, x2), (0, 0, l3, u3, x3)] M post := by
  cases b
  · exact rw_101_50 hT hR hB hFF k
  · exact rw_101_55 hT hR hB hFF k
theorem rw_m101 {A : Nat → Nat} {h0 : g_H} {d : Nat} {M : xa_M} {post : Option xa_V → xa_M → Prop} {l1 u1 l2 u2 l3 u3 : Int} {a x2 x3 : Int} (hI : xm_Inv M) (k : ∀ (o : Option xa_V) (M1 : xa_M), (∃ lo hi n, o = some (0, 0, lo, hi, n) ∧ tf_101 M a x2 x3 n ∧ rw_k (n = 0) (M 60 20) (M 74) (M1 60 20) (M1 74) 3 (rw_s101 M a x2 x3)) → xm_cor M M1 → post o M1) : xa_C xm_I A h0 (d + 5) 245 [(2, 60, 0, 0, 0), (0, 0, l1, u1, a), (0, 0, l2, u2, x2), (0, 0, l3, u3, x3)] M post := by
  refine xa_C_arg [(2, 60, 0, 0, 0), (0, 0, (-2147483648), 2147483647, a), (0, 0, (-2147483648), 2147483647, x2), (0, 0, (-2147483648), 2147483647, x3)] (xa_svR (xa_svI (fun _ _ _ _ => by omega) (xa_svI (fun _ _ _ _ => by omega) (xa_svI (fun _ _ _ _ => by omega) xa_sv0)))) ?_
  refine xa_meth (Q0 := (10, 1, false, 0, 0, 12)) (by decide +kernel) ⟨rfl, rfl⟩ (full := s_c_245) rfl rfl ?_
  intro hM hv Q hgo
  have hTM := tk_M_of hM hI
  have loop1 : ∀ (c : Int → Int), (∀ n, 0 ≤ c n) → (∀ V, V = rw_v [(rw_sp c 401).1, (rw_sp c 401).2.1, (rw_sp c 401).2.2] → rw_s101 M a x2 x3 V) → ∀ (n : Nat) (x9 x8 x7 x6 x5 : Int) (M1 : xa_M), 0 ≤ x9 ∧ x9 ≤ 401 → 0 ≤ x5 ∧ x5 ≤ 13 → xm_cor M M1 → tf_101 M a x2 x3 0 → (∀ n, 0 ≤ n → n ≤ 400 → M1 87 ((401 * x5) + n) = c n) → (rw_sp c x9.toNat = (x6, x7, x8) ∧ 0 ≤ x8 ∧ x8 ≤ x9) → 401 - x9 < (n : Int) → Q 113 [(9, (0, 0, 0, 401, x9)), (8, (0, 0, (-2147483648), 2147483647, x8)), (7, (0, 0, (-2147483648), 2147483647, x7)), (6, (0, 0, (-2147483648), 2147483647, x6)), (5, (0, 0, 0, 13, x5)), (0, (2, 60, 0, 0, 0))] [] M1 := by
    intro c hcn hcV n
    induction n with
    | zero => intro x9 x8 x7 x6 x5 M1 b9 b5 hc hS0 h87 hs hms; omega
    | succ n ih1 =>
      intro x9 x8 x7 x6 x5 M1 b9 b5 hc hS0 h87 hs hms1
      refine hgo.1 28 [35, 113] 113 _ _ _ ?_
      refine And.intro ?_ ?_
      · intro (c1 : 400 < x9)
        show xa_C xm_I A h0 _ 231 [(2, 60, 0, 0, 0), (1, 0, (-2147483648), 2147483647, x6)] (xa_up M1 60 20 0) _
        refine ct_tell (n := 0) (by first | rfl | (simp [xa_up]; done) | omega) (by omega) (by omega) ?_
        show xa_C xm_I A h0 _ 231 [(2, 60, 0, 0, 0), (1, 0, (-2147483648), 2147483647, x7)] (xa_up (xa_up (xa_up M1 60 20 0) 74 0 x6) 60 20 1) _
        refine ct_tell (n := 1) (by first | rfl | (simp [xa_up]; done) | omega) (by omega) (by omega) ?_
        show xa_C xm_I A h0 _ 231 [(2, 60, 0, 0, 0), (1, 0, (-2147483648), 2147483647, x8)] (xa_up (xa_up (xa_up (xa_up (xa_up M1 60 20 0) 74 0 x6) 60 20 1) 74 1 x7) 60 20 2) _
        refine ct_tell (n := 2) (by first | rfl | (simp [xa_up]; done) | omega) (by omega) (by omega) ?_
        show post (some (0, 0, 0, 0, 0)) (xa_up (xa_up (xa_up (xa_up (xa_up (xa_up (xa_up M1 60 20 0) 74 0 x6) 60 20 1) 74 1 x7) 60 20 2) 74 2 x8) 60 20 3)
        exact k _ _ ⟨_, _, _, rfl, hS0, by
          have e := hs.1
          rw [show x9.toNat = 401 by omega] at e
          exact rw_yes (V := rw_v [x6, x7, x8]) rfl xa_up_eq (fun i i0 i1 => by rcases (show i = 0 ∨ i = 1 ∨ i = 2 by omega) with rfl | rfl | rfl <;> first | rfl | (simp [xa_up, rw_v]; done)) (hcV _ (congrArg (fun q : Int × Int × Int => rw_v [q.1, q.2.1, q.2.2]) e.symm))⟩ (xm_cor_f (by omega) (xm_cor_a rfl (xm_cor_f (by omega) (xm_cor_a rfl (xm_cor_f (by omega) (xm_cor_a rfl (xm_cor_f (by omega) hc)))))))
      · intro (c1 : x9 ≤ 400)
        refine And.intro (show 0 ≤ ((401 * x5) + x9) ∧ ((401 * x5) + x9) < 5614 by omega) ?_
        refine And.intro ?_ ?_
        · intro (c2 : ¬ (M1 87 ((401 * x5) + x9)) = 0)
          refine And.intro ?_ ?_
          · intro (c3 : ¬ x6 = (-1))
            show Q 113 [(9, (0, 0, 1, 402, x9 + 1)), (8, (0, 0, (-2147483648), 2147483647, xa_w32 (x8 + 1))), (7, (0, 0, 0, 401, x9)), (6, (0, 0, (-2147483648), 2147483647, x6)), (5, (0, 0, 0, 13, x5)), (0, (2, 60, 0, 0, 0))] [] M1
            refine hgo.2.1 113 _ [(9, (0, 0, 0, 401, x9 + 1)), (8, (0, 0, (-2147483648), 2147483647, xa_w32 (x8 + 1))), (7, (0, 0, (-2147483648), 2147483647, x9)), (6, (0, 0, (-2147483648), 2147483647, x6)), (5, (0, 0, 0, 13, x5)), (0, (2, 60, 0, 0, 0))] _ _ (xa_subI rfl rfl (fun _ _ _ _ => by omega) (xa_subI rfl rfl (fun _ _ _ _ => by omega) (xa_subI rfl rfl (fun _ _ _ _ => by omega) (xa_subI rfl rfl (fun _ _ _ _ => by omega) (xa_subI rfl rfl (fun _ _ _ _ => by omega) (xa_subR rfl xa_sub0)))))) ?_
            exact ih1 (x9 + 1) (xa_w32 (x8 + 1)) x9 x6 x5 M1 (by omega) (by omega) hc hS0 h87 ⟨by rw [xa_w32_id (by omega) (by omega)]; exact rw_sp1 b9.1 (by have hcx := hcn x9; have h8x := h87 x9 b9.1 c1; omega) hs.1 c3, by rw [xa_w32_id (by omega) (by omega)]; omega, by rw [xa_w32_id (by omega) (by omega)]; omega⟩ (by omega)
          · intro (c3 : x6 = (-1))
            show Q 113 [(9, (0, 0, 1, 402, x9 + 1)), (8, (0, 0, (-2147483648), 2147483647, xa_w32 (x8 + 1))), (7, (0, 0, 0, 401, x9)), (6, (0, 0, 0, 401, x9)), (5, (0, 0, 0, 13, x5)), (0, (2, 60, 0, 0, 0))] [] M1
            refine hgo.2.1 113 _ [(9, (0, 0, 0, 401, x9 + 1)), (8, (0, 0, (-2147483648), 2147483647, xa_w32 (x8 + 1))), (7, (0, 0, (-2147483648), 2147483647, x9)), (6, (0, 0, (-2147483648), 2147483647, x9)), (5, (0, 0, 0, 13, x5)), (0, (2, 60, 0, 0, 0))] _ _ (xa_subI rfl rfl (fun _ _ _ _ => by omega) (xa_subI rfl rfl (fun _ _ _ _ => by omega) (xa_subI rfl rfl (fun _ _ _ _ => by omega) (xa_subI rfl rfl (fun _ _ _ _ => by omega) (xa_subI rfl rfl (fun _ _ _ _ => by omega) (xa_subR rfl xa_sub0)))))) ?_
            exact ih1 (x9 + 1) (xa_w32 (x8 + 1)) x9 x9 x5 M1 (by omega) (by omega) hc hS0 h87 ⟨by rw [xa_w32_id (by omega) (by omega)]; exact rw_sp2 b9.1 (by have hcx := hcn x9; have h8x := h87 x9 b9.1 c1; omega) hs.1 c3, by rw [xa_w32_id (by omega) (by omega)]; omega, by rw [xa_w32_id (by omega) (by omega)]; omega⟩ (by omega)
        · intro (c2 : (M1 87 ((401 * x5) + x9)) = 0)
          show Q 113 [(9, (0, 0, 1, 402, x9 + 1)), (8, (0, 0, (-2147483648), 2147483647, x8)), (7, (0, 0, (-2147483648), 2147483647, x7)), (6, (0, 0, (-2147483648), 2147483647, x6)), (5, (0, 0, 0, 13, x5)), (0, (2, 60, 0, 0, 0))] [] M1
          refine hgo.2.1 113 _ [(9, (0, 0, 0, 401, x9 + 1)), (8, (0, 0, (-2147483648), 2147483647, x8)), (7, (0, 0, (-2147483648), 2147483647, x7)), (6, (0, 0, (-2147483648), 2147483647, x6)), (5, (0, 0, 0, 13, x5)), (0, (2, 60, 0, 0, 0))] _ _ (xa_subI rfl rfl (fun _ _ _ _ => by omega) (xa_subI rfl rfl (fun _ _ _ _ => by omega) (xa_subI rfl rfl (fun _ _ _ _ => by omega) (xa_subI rfl rfl (fun _ _ _ _ => by omega) (xa_subI rfl rfl (fun _ _ _ _ => by omega) (xa_subR rfl xa_sub0)))))) ?_
          exact ih1 (x9 + 1) x8 x7 x6 x5 M1 (by omega) (by omega) hc hS0 h87 ⟨(rw_sp0 b9.1 (by have hcx := hcn x9; have h8x := h87 x9 b9.1 c1; omega)).trans hs.1, by omega, by omega⟩ (by omega)
  have loop0 : ∀ (n : Nat) (x6 x5 x4 : Int) (M1 : xa_M), 0 ≤ x6 ∧ x6 ≤ 14 → (-1) ≤ x5 ∧ x5 ≤ 13 → (-4) ≤ x4 ∧ x4 ≤ 0 → xm_cor M M1 → M1 60 20 = M 60 20 → (∀ i : Int, 0 ≤ i → i < M 60 20 → M1 74 i = M 74 i) → (x4 = 0 ∨ x4 = -4) → tk_S M a x2 x4 (M1 60 32) (M1 80) (M1 81) → ((x5 = -1 ∧ ∀ i, 0 ≤ i → i < x6 → ¬ M1 80 i = x3) ∨ (¬ x5 = -1 ∧ ∃ i, 0 ≤ i ∧ i < x6 ∧ M1 80 i = x3)) → (¬ x5 = -1 → (0 ≤ x5 ∧ x5 < x6) ∧ M1 80 x5 = x3) → x6 ≤ M1 60 32 → (x4 = 0 → xm_Y M1 ∧ 0 ≤ x2 ∧ x2 < M1 60 11) → 14 - x6 < (n : Int) → Q 35 [(6, (0, 0, 0, 14, x6)), (5, (0, 0, (-1), 13, x5)), (4, (0, 0, (-4), 0, x4)), (3, (0, 0, (-2147483648), 2147483647, x3)), (2, (0, 0, (-2147483648), 2147483647, x2)), (0, (2, 60, 0, 0, 0))] [] M1 := by
    intro n
    induction n with
    | zero => intro x6 x5 x4 M1 b6 b5 b4 hc h20 h74 h04 hSr hpl hpl2 hle hv0 hms; clear hpl hpl2; omega
    | succ n ih0 =>
      intro x6 x5 x4 M1 b6 b5 b4 hc h20 h74 h04 hSr hpl hpl2 hle hv0 hms0
      refine hgo.2.2 _ _ _ _ (fun hM1 _ => ?_)
      have b32 := xm_f32 hM1
      refine hgo.1 28 [35, 113] 35 _ _ _ ?_
      refine And.intro ?_ ?_
      · intro (c1 : (M1 60 32) ≤ x6)
        refine And.intro ?_ ?_
        · intro (c2 : ¬ x5 = (-1))
          have hpx : ∃ i, 0 ≤ i ∧ i < M1 60 32 ∧ M1 80 i = x3 := by
            obtain ⟨h12, h3⟩ := hpl2 c2
            exact ⟨x5, h12.1, by omega, h3⟩
          refine And.intro ?_ ?_
          · intro (c3 : 0 ≤ x4)
            show xa_C xm_I A h0 _ 246 [(2, 60, 0, 0, 0), (0, 0, (-2147483648), 2147483647, x2)] M1 _
            refine rz_fx (j := 246) (by decide) (xa_C_mok (xw_ct_countFitsN (xm_Inv_cor hc hI) (hv0 (by omega)).1 (by have q := (hv0 (by omega)).2; omega) (by have q := (hv0 (by omega)).2; omega) (fun M4 hc4 hq4 hM4 => ?_)))
            intro (zM4 : M4 60 20 = M1 60 20)
            refine And.intro ?_ ?_
            · intro (c5 : ¬ (M4 60 39) = 0)
              show Q 113 [(9, (0, 0, 0, 0, 0)), (8, (0, 0, 0, 0, 0)), (7, (0, 0, (-1), (-1), (-1))), (6, (0, 0, (-1), (-1), (-1))), (5, (0, 0, (-1), 13, x5)), (4, (0, 0, (-4), 0, x4)), (3, (0, 0, (-2147483648), 2147483647, x3)), (2, (0, 0, (-2147483648), 2147483647, x2)), (0, (2, 60, 0, 0, 0))] [] M4
              refine hgo.2.1 113 _ [(9, (0, 0, 0, 401, 0)), (8, (0, 0, (-2147483648), 2147483647, 0)), (7, (0, 0, (-2147483648), 2147483647, (-1))), (6, (0, 0, (-2147483648), 2147483647, (-1))), (5, (0, 0, 0, 13, x5)), (0, (2, 60, 0, 0, 0))] _ _ (xa_subI rfl rfl (fun _ _ _ _ => by omega) (xa_subI rfl rfl (fun _ _ _ _ => by omega) (xa_subI rfl rfl (fun _ _ _ _ => by omega) (xa_subI rfl rfl (fun _ _ _ _ => by omega) (xa_subI rfl rfl (fun _ _ _ _ => by omega) (xa_subR rfl xa_sub0)))))) ?_
              have e0 : x4 = 0 := by omega
              obtain ⟨Mr, hKr, hKs, hq, hAr⟩ := hq4
              obtain ⟨eL, eH, e81, e32, e71, e70⟩ := fr_L_k hKr
              obtain ⟨eF, ep, -, -⟩ := fm_e hc (p := x2)
              have eFr : fr_F Mr x2 = fr_F M1 x2 := by
                unfold fr_F
                rw [eL, eH, e81, e32, e71, e70]
              rw [eFr, eL, eH, e32, eF, ep] at hq
              have hcb := fs_cb (F := tk_F M (M1 60 32) (M1 80) (M1 81) x2) (tk_pr M (M1 60 32) (M1 80)).toNat
              have e61 := (tk_ce hc).2.1
              have e62 := (tk_ce hc).2.2.1
              have hS0 : tk_S M a x2 0 (M1 60 32) (M1 80) (M1 81) := by rw [← e0]; exact hSr
              have hp9 := hpl2 c2
              have hK9 : ∀ w n : Int, fs_c (nx_G (fr_L Mr) (fr_H Mr) (Mr 60 32).toNat (fr_F Mr x2) w n) (fs_pr (fr_L Mr) (fr_H Mr) (Mr 60 32).toNat).toNat = nx_K M (M1 60 32) (M1 80) (M1 81) x2 w n := fun w n => by
                rw [eFr, eL, eH, e32, eF, ep]
                unfold nx_K fr_L fr_H
                rw [e61, e62]
              exact loop1 (nx_K M (M1 60 32) (M1 80) (M1 81) x2 x5) (fun n => (fs_cb _).1) (fun V e => ⟨_, _, _, x5, hS0, by omega, hp9.2, e⟩) 402 0 0 (-1) (-1) x5 M4 (by omega) (by omega) (xm_cor_t hc (xw_to hc4)) ⟨0, _, _, _, by rw [← e0]; exact hSr, Or.inr ⟨Or.inl rfl, Or.inr ⟨hpx, Or.inr ⟨rfl, Or.inr ⟨by omega, rfl⟩⟩⟩⟩⟩ (fun n n0 n1 => (hAr x5 n (by omega) (by omega) n0 n1).trans (hK9 x5 n)) ⟨rfl, by omega, by omega⟩ (by omega)
            · intro (c5 : (M4 60 39) = 0)
              show post (some (0, 0, (-2), (-2), (-2))) M4
              have e0 : x4 = 0 := by omega
              obtain ⟨Mr, hKr, hKs, hq, hAr⟩ := hq4
              obtain ⟨eL, eH, e81, e32, e71, e70⟩ := fr_L_k hKr
              obtain ⟨eF, ep, -, -⟩ := fm_e hc (p := x2)
              have eFr : fr_F Mr x2 = fr_F M1 x2 := by
                unfold fr_F
                rw [eL, eH, e81, e32, e71, e70]
              rw [eFr, eL, eH, e32, eF, ep] at hq
              have hcb := fs_cb (F := tk_F M (M1 60 32) (M1 80) (M1 81) x2) (tk_pr M (M1 60 32) (M1 80)).toNat
              exact k _ _ ⟨_, _, _, rfl, ⟨0, _, _, _, by rw [← e0]; exact hSr, Or.inr ⟨Or.inl rfl, Or.inr ⟨hpx, Or.inr ⟨rfl, Or.inl ⟨by omega, rfl⟩⟩⟩⟩⟩, by exact rw_no (by omega) (zM4.trans h20) (fun i i0 i1 => (xw_74 hc4 i0 (by have b20 := xm_f20 hM; omega)).trans (h74 i i0 i1))⟩ (xm_cor_t hc (xw_to hc4))
          · intro (c3 : x4 < 0)
            show post (some (0, 0, (-4), 0, x4)) M1
            exact k _ _ ⟨_, _, _, rfl, ⟨x4, _, _, _, hSr, Or.inr ⟨h04, Or.inr ⟨hpx, Or.inl ⟨by rcases h04 with e | e; exact absurd e (Int.ne_of_lt (by assumption)); exact e, by rcases h04 with e | e; exact absurd e (Int.ne_of_lt (by assumption)); exact e⟩⟩⟩⟩, by exact rw_no (by omega) h20 h74⟩ hc
        · intro (c2 : x5 = (-1))
          show post (some (0, 0, (-1), (-1), (-1))) M1
          rcases hpl with ⟨-, h⟩ | h
          · exact k _ _ ⟨_, _, _, rfl, ⟨x4, _, _, _, hSr, Or.inr ⟨h04, Or.inl ⟨fun i i0 i1 => h i i0 (by omega), rfl⟩⟩⟩, by exact rw_no (by omega) h20 h74⟩ hc
          · exact absurd c2 h.1
      · intro (c1 : x6 < (M1 60 32))
        refine And.intro (show 0 ≤ x6 ∧ x6 < 14 by omega) ?_
        refine And.intro ?_ ?_
        · intro (c6 : ¬ (M1 80 x6) = x3)
          show Q 35 [(6, (0, 0, 1, 15, x6 + 1)), (5, (0, 0, (-1), 13, x5)), (4, (0, 0, (-4), 0, x4)), (3, (0, 0, (-2147483648), 2147483647, x3)), (2, (0, 0, (-2147483648), 2147483647, x2)), (0, (2, 60, 0, 0, 0))] [] M1
          refine hgo.2.1 35 _ [(6, (0, 0, 0, 14, x6 + 1)), (5, (0, 0, (-1), 13, x5)), (4, (0, 0, (-4), 0, x4)), (3, (0, 0, (-2147483648), 2147483647, x3)), (2, (0, 0, (-2147483648), 2147483647, x2)), (0, (2, 60, 0, 0, 0))] _ _ (xa_subI rfl rfl (fun _ _ _ _ => by omega) (xa_subI rfl rfl (fun _ _ _ _ => by omega) (xa_subI rfl rfl (fun _ _ _ _ => by omega) (xa_subI rfl rfl (fun _ _ _ _ => by omega) (xa_subI rfl rfl (fun _ _ _ _ => by omega) (xa_subR rfl xa_sub0)))))) ?_
          exact ih0 (x6 + 1) x5 x4 M1 (by omega) (by omega) (by omega) hc h20 h74 h04 hSr (by
            rcases hpl with ⟨e, h⟩ | ⟨e, i, h1, h2, h3⟩
            · refine Or.inl ⟨e, fun i i0 i1 => ?_⟩
              by_cases q : i = x6
              · rw [q]
                exact c6
              · exact h i i0 (by omega)
            · exact Or.inr ⟨e, i, h1, by omega, h3⟩) (fun h => by
            have q := hpl2 h
            exact ⟨by omega, q.2⟩) (by omega) hv0 (by omega)
        · intro (c6 : (M1 80 x6) = x3)
          show Q 35 [(6, (0, 0, 1, 15, x6 + 1)), (5, (0, 0, 0, 14, x6)), (4, (0, 0, (-4), 0, x4)), (3, (0, 0, (-2147483648), 2147483647, x3)), (2, (0, 0, (-2147483648), 2147483647, x2)), (0, (2, 60, 0, 0, 0))] [] M1
          refine hgo.2.1 35 _ [(6, (0, 0, 0, 14, x6 + 1)), (5, (0, 0, (-1), 13, x6)), (4, (0, 0, (-4), 0, x4)), (3, (0, 0, (-2147483648), 2147483647, x3)), (2, (0, 0, (-2147483648), 2147483647, x2)), (0, (2, 60, 0, 0, 0))] _ _ (xa_subI rfl rfl (fun _ _ _ _ => by omega) (xa_subI rfl rfl (fun _ _ _ _ => by omega) (xa_subI rfl rfl (fun _ _ _ _ => by omega) (xa_subI rfl rfl (fun _ _ _ _ => by omega) (xa_subI rfl rfl (fun _ _ _ _ => by omega) (xa_subR rfl xa_sub0)))))) ?_
          exact ih0 (x6 + 1) x6 x4 M1 (by omega) (by omega) (by omega) hc h20 h74 h04 hSr (Or.inr ⟨by omega, x6, b6.1, by omega, c6⟩) (fun _ => ⟨by omega, c6⟩) (by omega) hv0 (by omega)
  refine hgo.1 23 [35, 113] 0 _ _ _ ?_
  show xa_C xm_I A h0 _ 238 [(2, 60, 0, 0, 0), (0, 0, (-2147483648), 2147483647, a), (0, 0, (-2147483648), 2147483647, x2)] (xa_up M 60 21 0) _
  refine rz_fx (j := 238) (by decide) (xa_C_mok (xw_ct_readyF (xm_Inv_cor (xm_cor_f (by omega) xm_cor_r) hI) (fun v1 M1 z1 hc1 hr1 hq1 hM1 => ?_)))
  intro (zM1 : M1 60 20 = M 60 20)
  have hS := rd_S hTM (xm_cor_f (by omega) xm_cor_r) (xw_to hc1) hM1 hq1
  refine And.intro ?_ ?_
  · intro (c2 : v1 = (-1))
    show post (some (0, 0, (-4), 0, v1)) M1
    exact k _ _ ⟨_, _, _, rfl, ⟨v1, _, _, _, hS, Or.inl ⟨by omega, rfl⟩⟩, by exact rw_no (by omega) zM1 (fun i i0 i1 => (xw_74 hc1 i0 (by have b20 := xm_f20 hM; omega)).trans (xa_up_ne (by omega)))⟩ (xm_cor_t (xm_cor_f (by omega) xm_cor_r) (xw_to hc1))
  · intro (c2 : ¬ v1 = (-1))
    refine And.intro ?_ ?_
    · intro (c3 : ¬ v1 = (-2))
      show Q 35 [(6, (0, 0, 0, 0, 0)), (5, (0, 0, (-1), (-1), (-1))), (4, (0, 0, (-4), 0, v1)), (0, (2, 60, 0, 0, 0)), (1, (0, 0, (-2147483648), 2147483647, a)), (2, (0, 0, (-2147483648), 2147483647, x2)), (3, (0, 0, (-2147483648), 2147483647, x3))] [] M1
      refine hgo.2.1 35 _ [(6, (0, 0, 0, 14, 0)), (5, (0, 0, (-1), 13, (-1))), (4, (0, 0, (-4), 0, v1)), (3, (0, 0, (-2147483648), 2147483647, x3)), (2, (0, 0, (-2147483648), 2147483647, x2)), (0, (2, 60, 0, 0, 0))] _ _ (xa_subI rfl rfl (fun _ _ _ _ => by omega) (xa_subI rfl rfl (fun _ _ _ _ => by omega) (xa_subI rfl rfl (fun _ _ _ _ => by omega) (xa_subI rfl rfl (fun _ _ _ _ => by omega) (xa_subI rfl rfl (fun _ _ _ _ => by omega) (xa_subR rfl xa_sub0)))))) ?_
      exact loop0 15 0 (-1) v1 M1 (by omega) (by omega) (by omega) (xm_cor_t (xm_cor_f (by omega) xm_cor_r) (xw_to hc1)) zM1 (fun i i0 i1 => (xw_74 hc1 i0 (by have b20 := xm_f20 hM; omega)).trans (xa_up_ne (by omega))) (by omega) hS (Or.inl ⟨rfl, fun i i0 i1 => by omega⟩) (fun h => absurd rfl h) (xm_f32 hM1).1 (fun h => ⟨⟨(hr1 h).1, (hr1 h).2.1⟩, by have q := (hr1 h).2.2; have e := xm_corf (xm_cor_t (xm_cor_f (by omega) xm_cor_r) (xw_to hc1)) 11 (by omega); simp [xa_up] at q; omega⟩) (by omega)
    · intro (c3 : v1 = (-2))
      show post (some (0, 0, (-4), 0, v1)) M1
      exact k _ _ ⟨_, _, _, rfl, ⟨v1, _, _, _, hS, Or.inl ⟨by omega, rfl⟩⟩, by exact rw_no (by omega) zM1 (fun i i0 i1 => (xw_74 hc1 i0 (by have b20 := xm_f20 hM; omega)).trans (xa_up_ne (by omega)))⟩ (xm_cor_t (xm_cor_f (by omega) xm_cor_r) (xw_to hc1))
theorem rw_p101 (A : Nat → Nat) (cmp : Bool) : iv_pair (rw_J A) A 101 245 [0, 0, 0] cmp false := rw_armV (fun W b h as M hJ hM hInv hs hR hz => by
  obtain ⟨m1, ys, rfl, -, hs⟩ := iv_spc hs
  obtain ⟨m2, ys, rfl, -, hs⟩ := iv_spc hs
  obtain ⟨m3, ys, rfl, -, hs⟩ := iv_spc hs
  obtain rfl := iv_sp0 hs
  have b0 := xm_f0 (xa_H_Mok hM)
  have b6 := xm_f6 (xa_H_Mok hM)
  have r1 : iv_num h 1 9 = M 60 0 := hR.1.1
  have r2 : iv_num h 1 10 = M 60 6 := hR.1.2.1
  have r3 : ∀ i, 0 ≤ i → i < 14 → iv_num h 2 i = M 61 i ∧ iv_num h 3 i = M 62 i ∧ iv_num h 5 i = M 64 i ∧ iv_num h 6 i = M 65 i ∧ iv_num h 4 i = M 63 i := hR.1.2.2.1
  have r4 : ∀ i, 0 ≤ i → i < 16 → iv_num h 7 i = M 66 i ∧ iv_num h 8 i = M 67 i := hR.1.2.2.2
  have hS := hR.2
  obtain ⟨s1, s2, s3, s4⟩ := lm_Sx.mp hR.2.1
  have hMk := xa_H_Mok hM
  have b11 := xm_f11 hMk
  have hT := tk_M_of hMk hInv
  have hRc : tk_R (iv_num h) M := ⟨r1, r2, fun i i0 i1 => by
    obtain ⟨g1, g2, g3, g4, -⟩ := r3 i i0 i1
    exact ⟨g1, g2, g3, g4⟩, r4⟩
  have hB : tk_B (bk_p b) (iv_num h) M := ⟨s3, b11, fun p p0 p1 => by
    obtain ⟨g1, g2, -⟩ := s4 p p0 (by omega) p1
    have t1 := xm_t70 hMk p p0 (by omega)
    have t2 := xm_t71 hMk p p0 (by omega)
    have t3 := hInv.2.2.1 p p0 p1
    exact ⟨⟨g1, g2⟩, by omega, by omega⟩⟩
  have hx : ∃ F : Int → Int, (1 ≤ m1.toInt ∧ m1.toInt ≤ 9) → tk_Y M m1.toInt F := by
    by_cases c : 1 ≤ m1.toInt ∧ m1.toInt ≤ 9
    · obtain ⟨F, hF1, hF2⟩ := wr_ex hMk (X := m1.toInt) (by omega) b6.1 (fun i i0 i1 => tk_AB hT i i0 i1)
      exact ⟨F, fun _ => ⟨hF1, fun a _ _ => hF2 a⟩⟩
    · exact ⟨fun _ => 0, fun h => absurd h c⟩
  obtain ⟨F, hFF⟩ := hx
  have hc := rw_101x (b := b) (A := A) (h0 := h) (d := 53) (M := iv_num h) (N := M) (F := F) (l1 := -2147483648) (u1 := 2147483647) (l2 := -2147483648) (u2 := 2147483647) (l3 := -2147483648) (u3 := 2147483647) (x1 := m1.toInt) (x2 := m2.toInt) (x3 := m3.toInt) (post := fun o M1 => ∃ lo hi n, o = some (0, 0, lo, hi, n) ∧ ((tf_101 M m1.toInt m2.toInt m3.toInt n ∧ ∀ (q : Nat) (j : Int), ¬ (15 ≤ q ∧ q ≤ 29) → ¬ (q = 48 ∨ q = 49) → M1 q j = iv_num h q j) ∧ rw_k (n = 0) (iv_num h 48 1) (iv_num h 49) (M1 48 1) (M1 49) 3 (rw_s101 M m1.toInt m2.toInt m3.toInt))) hT hRc hB hFF (fun lo hi n M1 x1 x2 x3 => ⟨lo, hi, n, rfl, ⟨x1, x2⟩, x3⟩)
  have hm := fun (h1 : g_H) => rw_m101 (A := A) (h0 := h1) (d := 55) (M := M) (l1 := -2147483648) (u1 := 2147483647) (l2 := -2147483648) (u2 := 2147483647) (l3 := -2147483648) (u3 := 2147483647) (a := m1.toInt) (x2 := m2.toInt) (x3 := m3.toInt) (post := fun o M2 => (∃ lo hi n, o = some (0, 0, lo, hi, n) ∧ ((tf_101 M m1.toInt m2.toInt m3.toInt n ∧ xm_cor M M2) ∧ rw_k (n = 0) (M 60 20) (M 74) (M2 60 20) (M2 74) 3 (rw_s101 M m1.toInt m2.toInt m3.toInt))) ∧ xm_Inv M2) hInv (fun o M2 x1 x2 => by
    obtain ⟨lo, hi, n, rfl, x1, x3⟩ := x1
    exact ⟨⟨lo, hi, n, rfl, ⟨x1, x2⟩, x3⟩, xm_Inv_cor x2 hInv⟩)
  refine ⟨[(2, 0, 0, 0, 0), (0, 0, -2147483648, 2147483647, m1.toInt), (0, 0, -2147483648, 2147483647, m2.toInt), (0, 0, -2147483648, 2147483647, m3.toInt)], [(2, 60, 0, 0, 0), (0, 0, -2147483648, 2147483647, m1.toInt), (0, 0, -2147483648, 2147483647, m2.toInt), (0, 0, -2147483648, 2147483647, m3.toInt)], _, _, ⟨rfl, iv_i m1, iv_i m2, iv_i m3, trivial⟩, ⟨rfl, iv_i m1, iv_i m2, iv_i m3, trivial⟩, fun n n' M1 M2 g1 g2 => by
    obtain ⟨h1, z1⟩ := g1
    obtain ⟨h2, z2⟩ := g2
    have en : n = n' := tf_101_one hT h1.1 h2.1
    exact ⟨fun _ => en, fun x => h2.2 104 x (by unfold xm_scr; omega), fun x => h2.2 105 x (by unfold xm_scr; omega), tf_lmR2 hR h1.2 h2.2, rw_k1 z1 z2 (by rw [en]) (fun _ => by decide) (fun V V' _ s1 s2 i _ _ => by rw [rw_s101_one hT s1 s2]) hz⟩, hc, hm⟩)
theorem rw_108 {b : Bool} {A : Nat → Nat} {h0 : g_H} {d : Nat} {M : xa_M} {post : Option xa_V → xa_M → Prop} {c : Int → Int → Int} {u : Int → Int} (h10 : 1 ≤ M 15 10 ∧ M 15 10 ≤ 14) (hw1 : ∀ w, 0 ≤ w → w < M 15 10 → 10 ≤ M 23 w ∧ M 23 w ≤ M 24 w ∧ M 24 w ≤ 400) (hw2 : ∀ w, 0 ≤ w → w < M 15 10 → ∀ n, M 23 w ≤ n → n ≤ M 24 w → 0 ≤ M 29 w + n ∧ M 29 w + n < 800) (hw3 : ∀ w, 0 ≤ w → w < M 15 10 → ∀ n, M 23 w ≤ n → n ≤ M 24 w → M 28 (M 29 w + n) = c w n) (hw4 : ∀ w, 0 ≤ w → w < M 15 10 → ∀ n, ¬ (M 23 w ≤ n ∧ n ≤ M 24 w) → c w n = 0) (hmu : ∀ w, 0 ≤ w → w < M 15 10 → nx_m (c w) (u w)) (k : ∀ (g : Int) (M1 : xa_M), (0 ≤ g ∧ g < M 15 10) → (∀ j, 0 ≤ j → j < g → u g < u j) → (∀ j, 0 ≤ j → j < M 15 10 → u g ≤ u j) → (∀ (q : Nat) (j : Int), ¬ (q = 48 ∨ q = 49) → M1 q j = M q j) → M1 48 1 = 1 → rw_T (M1 49) [u g] → post (some (0, 0, (-2147483648), 2147483647, M 21 g)) M1) : xa_C (xl_I b) A h0 (d + 4) 108 [(2, 15, 0, 0, 0), (2, 48, 0, 0, 0)] M post := by
  refine xa_meth (Q0 := (4, 1, false, 0, 0, 3)) (by decide +kernel) ⟨rfl, rfl⟩ (full := s_c_108) rfl rfl ?_
  intro hM hv Q hgo
  have loop : ∀ (f : Nat) (i g : Int), 1 ≤ i ∧ i ≤ 14 → (0 ≤ g ∧ g < i ∧ g < M 15 10) → (∀ j, 0 ≤ j → j < g → u g < u j) → (∀ j, 0 ≤ j → j < i → u g ≤ u j) → 14 - i < (f : Int) → Q 4 [(3, (0, 0, 0, 14, i)), (2, (0, 0, 0, 13, g)), (0, (2, 15, 0, 0, 0)), (1, (2, 48, 0, 0, 0))] [] M := by
    intro f
    induction f with
    | zero => intro i g i1 g1 hlt hle hms; clear hlt hle; omega
    | succ f ih =>
      intro i g i1 g1 hlt hle hms
      refine hgo.1 21 [4] 4 _ _ _ ?_
      refine And.intro ?_ ?_
      · intro (c1 : (M 15 10) ≤ i)
        show xa_C (xl_I b) A h0 _ 59 [(2, 48, 0, 0, 0)] M _
        refine cx_59_48 ?_
        show xa_C (xl_I b) A h0 _ 109 [(2, 15, 0, 0, 0), (0, 0, 0, 13, g)] (xa_up M 48 1 0) _
        refine cx_109n (by omega) (hw1 g (by omega) (by omega)) (hw2 g (by omega) (by omega)) (hw3 g (by omega) (by omega)) (hw4 g (by omega) (by omega)) (hmu g (by omega) (by omega)) ?_
        show xa_C (xl_I b) A h0 _ 60 [(2, 48, 0, 0, 0), (1, 0, (-2147483648), 2147483647, u g)] (xa_up M 48 1 0) _
        refine rw_60 (l := []) (by show (0 : Int) ≤ 0 ∧ 0 < 16; omega) xa_up_eq rw_T0 ?_
        intro M101 (i2 : ∀ (q : Nat) (j : Int), ¬ (q = 48 ∨ q = 49) → M101 q j = (xa_up M 48 1 0) q j) (i3 : (0 : Int) ≤ M101 48 1) (zM101 : M101 48 1 = 0 + 1) (tM101 : rw_T (M101 49) [u g])
        show xa_C (xl_I b) A h0 _ 23 [(2, 21, 0, 0, 0), (0, 0, 0, 13, g)] M101 _
        refine cx_23_21 (show 0 ≤ g ∧ g < 14 by omega) ?_
        show post (some (0, 0, (-2147483648), 2147483647, M101 21 g)) M101
        have e21 : M101 21 g = M 21 g := (i2 21 g (by decide)).trans (xa_up_ne (by omega))
        rw [e21]
        exact k g _ (by omega) hlt (fun j j0 j1 => hle j j0 (by omega)) (fun q j hq => (i2 q j hq).trans (xa_up_ne (by omega))) (by omega) tM101
      · intro (c1 : i < (M 15 10))
        show xa_C (xl_I b) A h0 _ 109 [(2, 15, 0, 0, 0), (0, 0, 0, 14, i)] M _
        refine cx_109n (by omega) (hw1 i (by omega) (by omega)) (hw2 i (by omega) (by omega)) (hw3 i (by omega) (by omega)) (hw4 i (by omega) (by omega)) (hmu i (by omega) (by omega)) ?_
        show xa_C (xl_I b) A h0 _ 109 [(2, 15, 0, 0, 0), (0, 0, 0, 13, g)] M _
        refine cx_109n (by omega) (hw1 g (by omega) (by omega)) (hw2 g (by omega) (by omega)) (hw3 g (by omega) (by omega)) (hw4 g (by omega) (by omega)) (hmu g (by omega) (by omega)) ?_
        refine And.intro ?_ ?_
        · intro (c4 : (u g) ≤ (u i))
          show Q 4 [(3, (0, 0, 1, 15, i + 1)), (2, (0, 0, 0, 13, g)), (0, (2, 15, 0, 0, 0)), (1, (2, 48, 0, 0, 0))] [] M
          refine hgo.2.1 4 _ [(3, (0, 0, 0, 14, i + 1)), (2, (0, 0, 0, 13, g)), (0, (2, 15, 0, 0, 0)), (1, (2, 48, 0, 0, 0))] _ _ (xa_subI rfl rfl (fun _ _ _ _ => by omega) (xa_subI rfl rfl (fun _ _ _ _ => by omega) (xa_subR rfl (xa_subR rfl (xa_sub0))))) ?_
          exact ih (i + 1) g (by omega) (by omega) hlt (fun j j0 j1 => by
            by_cases e : j = i
            · rw [e]
              omega
            · exact hle j j0 (by omega)) (by omega)
        · intro (c4 : (u i) < (u g))
          show Q 4 [(3, (0, 0, 1, 15, i + 1)), (2, (0, 0, 0, 14, i)), (0, (2, 15, 0, 0, 0)), (1, (2, 48, 0, 0, 0))] [] M
          refine hgo.2.1 4 _ [(3, (0, 0, 0, 14, i + 1)), (2, (0, 0, 0, 13, i)), (0, (2, 15, 0, 0, 0)), (1, (2, 48, 0, 0, 0))] _ _ (xa_subI rfl rfl (fun _ _ _ _ => by omega) (xa_subI rfl rfl (fun _ _ _ _ => by omega) (xa_subR rfl (xa_subR rfl (xa_sub0))))) ?_
          exact ih (i + 1) i (by omega) (by omega) (fun j j0 j1 => by
            have := hle j j0 j1
            omega) (fun j j0 j1 => by
            by_cases e : j = i
            · rw [e]
              exact Int.le_refl _
            · have := hle j j0 (by omega)
              omega) (by omega)
  refine hgo.1 9 [4] 0 _ _ _ ?_
  show Q 4 [(3, (0, 0, 1, 1, 1)), (2, (0, 0, 0, 0, 0)), (0, (2, 15, 0, 0, 0)), (1, (2, 48, 0, 0, 0))] [] M
  refine hgo.2.1 4 _ [(3, (0, 0, 0, 14, 1)), (2, (0, 0, 0, 13, 0)), (0, (2, 15, 0, 0, 0)), (1, (2, 48, 0, 0, 0))] _ _ (xa_subI rfl rfl (fun _ _ _ _ => by omega) (xa_subI rfl rfl (fun _ _ _ _ => by omega) (xa_subR rfl (xa_subR rfl (xa_sub0))))) ?_
  exact loop 15 1 0 (by omega) (by omega) (fun j j0 j1 => by omega) (fun j j0 j1 => by rw [show j = 0 by omega]; exact Int.le_refl _) (by omega)
theorem rw_107_50 {A : Nat → Nat} {h0 : g_H} {d : Nat} {M : xa_M} {post : Option xa_V → xa_M → Prop} {l1 u1 l2 u2 x1 x2 : Int} {F : Int → Int} {N : xa_M} (hT : tk_M N) (hR : tk_R M N) (hB : tk_B 50 M N) (hFF : 1 ≤ x1 ∧ x1 ≤ 9 → tk_Y N x1 F) (k : ∀ (lo hi r : Int) (M1 : xa_M), tf_107 N x1 x2 r → (∀ (q : Nat) (j : Int), ¬ (15 ≤ q ∧ q ≤ 29) → ¬ (q = 48 ∨ q = 49) → M1 q j = M q j) → rw_k (0 ≤ r) (M 48 1) (M 49) (M1 48 1) (M1 49) 1 (rw_s107 N x1 x2) → post (some (0, 0, lo, hi, r)) M1) : xa_C (xl_I false) A h0 (d + 7) 107 [(2, 0, 0, 0, 0), (0, 0, l1, u1, x1), (0, 0, l2, u2, x2)] M post := by
  refine xa_C_arg [(2, 0, 0, 0, 0), (0, 0, (-2147483648), 2147483647, x1), (0, 0, (-2147483648), 2147483647, x2)] (xa_svR (xa_svI (fun _ _ _ _ => by omega) (xa_svI (fun _ _ _ _ => by omega) xa_sv0))) ?_
  refine xa_meth (Q0 := (4, 1, false, 0, 0, 11)) (by decide +kernel) ⟨rfl, rfl⟩ (full := s_c_107) rfl rfl ?_
  intro hM hv Q hgo
  refine hgo.1 22 [] 0 _ _ _ ?_
  show xa_C (xl_I _) A h0 _ 86 [(2, 0, 0, 0, 0), (0, 0, (-2147483648), 2147483647, x1), (0, 0, (-2147483648), 2147483647, x2)] M _
  refine cx_86_50 hT hR hB hFF ?_
  intro r102 M101 (i1 : tk_S N x1 x2 r102 (M101 15 10) (M101 21) (M101 22)) (i2 : r102 = 0 → tk_A N x2 M101) (i3 : ∀ q j, ¬ (15 ≤ q ∧ q ≤ 24) → M101 q j = M q j)
  refine And.intro ?_ ?_
  · intro (c4 : r102 = 0)
    show xa_C (xl_I _) A h0 _ 103 [(2, 15, 0, 0, 0)] M101 _
    have er : r102 = 0 := by omega
    have hS0 := i1
    rw [er] at hS0
    obtain ⟨z1, z2, z3, z4⟩ := tk_S_L hS0
    have hZ : tk_Z N x1 x2 M101 := ⟨z1, z3, z4, i2 er⟩
    refine cx_103n hT hZ ?_
    intro r103 M104 (i5 : (r103 = 0 ∧ fs_c (tk_F N (M101 15 10) (M101 21) (M101 22) x2) (tk_pr N (M101 15 10) (M101 21)).toNat = 0) ∨ (r103 = 1 ∧ 1 ≤ fs_c (tk_F N (M101 15 10) (M101 21) (M101 22) x2) (tk_pr N (M101 15 10) (M101 21)).toNat)) (i6 : r103 = 1 → (∀ w : Int, 0 ≤ w → w < M101 15 10 → M104 29 w = nx_B (fun i => N 61 (M101 21 i)) (fun i => N 62 (M101 21 i)) w.toNat - N 61 (M101 21 w)) ∧ nx_T (M104 28) (fun i => N 61 (M101 21 i)) (fun i => N 62 (M101 21 i)) (M101 15 10) (fun j n => fs_c (nx_G (fun i => N 61 (M101 21 i)) (fun i => N 62 (M101 21 i)) (M101 15 10).toNat (tk_F N (M101 15 10) (M101 21) (M101 22) x2) j n) (tk_pr N (M101 15 10) (M101 21)).toNat)) (i7 : ∀ (q : Nat) (j : Int), ¬ (25 ≤ q ∧ q ≤ 29) → ¬ (q = 15 ∧ j = 13) → M104 q j = M101 q j)
    refine And.intro ?_ ?_
    · intro (c8 : r103 = 0)
      show post (some (0, 0, (-2), (-2), (-2))) M104
      exact k _ _ _ _ ⟨_, _, _, _, i1, Or.inr ⟨by omega, Or.inl ⟨by omega, rfl⟩⟩⟩ (fun q j h1 h2 => (i7 q j (by omega) (by omega)).trans (i3 q j (by omega))) (rw_no (by have zr := rz_Sr i1; omega) ((i7 48 1 (by omega) (by omega)).trans (i3 48 1 (by omega))) (fun j _ _ => (i7 49 j (by omega) (by omega)).trans (i3 49 j (by omega))))
    · intro (c8 : ¬ r103 = 0)
      show xa_C (xl_I _) A h0 _ 108 [(2, 15, 0, 0, 0), (2, 48, 0, 0, 0)] M104 _
      obtain ⟨y1, y2, y3, y4, y5, y6⟩ := nx_cls hT hZ (i6 (by omega)) i7
      have f10 := i7 15 10 (by decide) (by omega)
      have zl := (tk_Zr hT hZ).1
      refine rw_108 (by omega) y1 y2 y3 y4 y5 ?_
      intro g106 M105 (i9 : 0 ≤ g106 ∧ g106 < M104 15 10) (i10 : ∀ j, 0 ≤ j → j < g106 → (nx_u N M101 x2) g106 < (nx_u N M101 x2) j) (i11 : ∀ j, 0 ≤ j → j < M104 15 10 → (nx_u N M101 x2) g106 ≤ (nx_u N M101 x2) j) (i12 : ∀ (q : Nat) (j : Int), ¬ (q = 48 ∨ q = 49) → M105 q j = M104 q j) (z48 : M105 48 1 = 1) (tT : rw_T (M105 49) [(nx_u N M101 x2) g106])
      show post (some (0, 0, (-2147483648), 2147483647, M104 21 g106)) M105
      have q10 := i7 15 10 (by decide) (by omega)
      exact k _ _ _ _ ⟨_, _, _, _, i1, Or.inr ⟨by omega, Or.inr ⟨by omega, _, _, y6, by omega, i10, (fun j j0 j1 => i11 j j0 (by omega)), i7 21 _ (by omega) (by omega)⟩⟩⟩ (fun q j h1 h2 => (i12 q j h2).trans ((i7 q j (by omega) (by omega)).trans (i3 q j (by omega)))) (rw_yes (V := rw_v [(nx_u N M101 x2) g106]) (by rw [i7 21 _ (by omega) (by omega)]; exact ((tk_Zl hT hZ).2.2.1 g106 i9.1 (by omega)).2.1) z48 (fun i j0 j1 => tT i j0 j1) ⟨_, _, _, nx_u N M101 x2, g106, hS0, y6, by omega, (fun j j0 j1 => i11 j j0 (by omega)), rfl⟩)
  · intro (c4 : ¬ r102 = 0)
    show post (some (0, 0, (-4), 0, r102)) M101
    exact k _ _ _ _ ⟨_, _, _, _, i1, Or.inl ⟨by omega, rfl⟩⟩ (fun q j h1 h2 => i3 q j (by omega)) (rw_no (by have zr := rz_Sr i1; omega) (i3 48 1 (by omega)) (fun j _ _ => i3 49 j (by omega)))
theorem rw_107_55 {A : Nat → Nat} {h0 : g_H} {d : Nat} {M : xa_M} {post : Option xa_V → xa_M → Prop} {l1 u1 l2 u2 x1 x2 : Int} {F : Int → Int} {N : xa_M} (hT : tk_M N) (hR : tk_R M N) (hB : tk_B 55 M N) (hFF : 1 ≤ x1 ∧ x1 ≤ 9 → tk_Y N x1 F) (k : ∀ (lo hi r : Int) (M1 : xa_M), tf_107 N x1 x2 r → (∀ (q : Nat) (j : Int), ¬ (15 ≤ q ∧ q ≤ 29) → ¬ (q = 48 ∨ q = 49) → M1 q j = M q j) → rw_k (0 ≤ r) (M 48 1) (M 49) (M1 48 1) (M1 49) 1 (rw_s107 N x1 x2) → post (some (0, 0, lo, hi, r)) M1) : xa_C (xl_I true) A h0 (d + 7) 107 [(2, 0, 0, 0, 0), (0, 0, l1, u1, x1), (0, 0, l2, u2, x2)] M post := by
  refine xa_C_arg [(2, 0, 0, 0, 0), (0, 0, (-2147483648), 2147483647, x1), (0, 0, (-2147483648), 2147483647, x2)] (xa_svR (xa_svI (fun _ _ _ _ => by omega) (xa_svI (fun _ _ _ _ => by omega) xa_sv0))) ?_
  refine xa_meth (Q0 := (4, 1, false, 0, 0, 11)) (by decide +kernel) ⟨rfl, rfl⟩ (full := s_c_107) rfl rfl ?_
  intro hM hv Q hgo
  refine hgo.1 22 [] 0 _ _ _ ?_
  show xa_C (xl_I _) A h0 _ 86 [(2, 0, 0, 0, 0), (0, 0, (-2147483648), 2147483647, x1), (0, 0, (-2147483648), 2147483647, x2)] M _
  refine cx_86_55 hT hR hB hFF ?_
  intro r102 M101 (i1 : tk_S N x1 x2 r102 (M101 15 10) (M101 21) (M101 22)) (i2 : r102 = 0 → tk_A N x2 M101) (i3 : ∀ q j, ¬ (15 ≤ q ∧ q ≤ 24) → M101 q j = M q j)
  refine And.intro ?_ ?_
  · intro (c4 : r102 = 0)
    show xa_C (xl_I _) A h0 _ 103 [(2, 15, 0, 0, 0)] M101 _
    have er : r102 = 0 := by omega
    have hS0 := i1
    rw [er] at hS0
    obtain ⟨z1, z2, z3, z4⟩ := tk_S_L hS0
    have hZ : tk_Z N x1 x2 M101 := ⟨z1, z3, z4, i2 er⟩
    refine cx_103n hT hZ ?_
    intro r103 M104 (i5 : (r103 = 0 ∧ fs_c (tk_F N (M101 15 10) (M101 21) (M101 22) x2) (tk_pr N (M101 15 10) (M101 21)).toNat = 0) ∨ (r103 = 1 ∧ 1 ≤ fs_c (tk_F N (M101 15 10) (M101 21) (M101 22) x2) (tk_pr N (M101 15 10) (M101 21)).toNat)) (i6 : r103 = 1 → (∀ w : Int, 0 ≤ w → w < M101 15 10 → M104 29 w = nx_B (fun i => N 61 (M101 21 i)) (fun i => N 62 (M101 21 i)) w.toNat - N 61 (M101 21 w)) ∧ nx_T (M104 28) (fun i => N 61 (M101 21 i)) (fun i => N 62 (M101 21 i)) (M101 15 10) (fun j n => fs_c (nx_G (fun i => N 61 (M101 21 i)) (fun i => N 62 (M101 21 i)) (M101 15 10).toNat (tk_F N (M101 15 10) (M101 21) (M101 22) x2) j n) (tk_pr N (M101 15 10) (M101 21)).toNat)) (i7 : ∀ (q : Nat) (j : Int), ¬ (25 ≤ q ∧ q ≤ 29) → ¬ (q = 15 ∧ j = 13) → M104 q j = M101 q j)
    refine And.intro ?_ ?_
    · intro (c8 : r103 = 0)
      show post (some (0, 0, (-2), (-2), (-2))) M104
      exact k _ _ _ _ ⟨_, _, _, _, i1, Or.inr ⟨by omega, Or.inl ⟨by omega, rfl⟩⟩⟩ (fun q j h1 h2 => (i7 q j (by omega) (by omega)).trans (i3 q j (by omega))) (rw_no (by have zr := rz_Sr i1; omega) ((i7 48 1 (by omega) (by omega)).trans (i3 48 1 (by omega))) (fun j _ _ => (i7 49 j (by omega) (by omega)).trans (i3 49 j (by omega))))
    · intro (c8 : ¬ r103 = 0)
      show xa_C (xl_I _) A h0 _ 108 [(2, 15, 0, 0, 0), (2, 48, 0, 0, 0)] M104 _
      obtain ⟨y1, y2, y3, y4, y5, y6⟩ := nx_cls hT hZ (i6 (by omega)) i7
      have f10 := i7 15 10 (by decide) (by omega)
      have zl := (tk_Zr hT hZ).1
      refine rw_108 (by omega) y1 y2 y3 y4 y5 ?_
      intro g106 M105 (i9 : 0 ≤ g106 ∧ g106 < M104 15 10) (i10 : ∀ j, 0 ≤ j → j < g106 → (nx_u N M101 x2) g106 < (nx_u N M101 x2) j) (i11 : ∀ j, 0 ≤ j → j < M104 15 10 → (nx_u N M101 x2) g106 ≤ (nx_u N M101 x2) j) (i12 : ∀ (q : Nat) (j : Int), ¬ (q = 48 ∨ q = 49) → M105 q j = M104 q j) (z48 : M105 48 1 = 1) (tT : rw_T (M105 49) [(nx_u N M101 x2) g106])
      show post (some (0, 0, (-2147483648), 2147483647, M104 21 g106)) M105
      have q10 := i7 15 10 (by decide) (by omega)
      exact k _ _ _ _ ⟨_, _, _, _, i1, Or.inr ⟨by omega, Or.inr ⟨by omega, _, _, y6, by omega, i10, (fun j j0 j1 => i11 j j0 (by omega)), i7 21 _ (by omega) (by omega)⟩⟩⟩ (fun q j h1 h2 => (i12 q j h2).trans ((i7 q j (by omega) (by omega)).trans (i3 q j (by omega)))) (rw_yes (V := rw_v [(nx_u N M101 x2) g106]) (by rw [i7 21 _ (by omega) (by omega)]; exact ((tk_Zl hT hZ).2.2.1 g106 i9.1 (by omega)).2.1) z48 (fun i j0 j1 => tT i j0 j1) ⟨_, _, _, nx_u N M101 x2, g106, hS0, y6, by omega, (fun j j0 j1 => i11 j j0 (by omega)), rfl⟩)
  · intro (c4 : ¬ r102 = 0)
    show post (some (0, 0, (-4), 0, r102)) M101
    exact k _ _ _ _ ⟨_, _, _, _, i1, Or.inl ⟨by omega, rfl⟩⟩ (fun q j h1 h2 => i3 q j (by omega)) (rw_no (by have zr := rz_Sr i1; omega) (i3 48 1 (by omega)) (fun j _ _ => i3 49 j (by omega)))
theorem rw_107x {b : Bool} {A : Nat → Nat} {h0 : g_H} {d : Nat} {M : xa_M} {post : Option xa_V → xa_M → Prop} {l1 u1 l2 u2 x1 x2 : Int} {F : Int → Int} {N : xa_M} (hT : tk_M N) (hR : tk_R M N) (hB : tk_B (bk_p b) M N) (hFF : 1 ≤ x1 ∧ x1 ≤ 9 → tk_Y N x1 F) (k : ∀ (lo hi r : Int) (M1 : xa_M), tf_107 N x1 x2 r → (∀ (q : Nat) (j : Int), ¬ (15 ≤ q ∧ q ≤ 29) → ¬ (q = 48 ∨ q = 49) → M1 q j = M q j) → rw_k (0 ≤ r) (M 48 1) (M 49) (M1 48 1) (M1 49) 1 (rw_s107 N x1 x2) → post (some (0, 0, lo, hi, r)) M1) : xa_C (xl_I b) A h0 (d + 7) 107 [(2, 0, 0, 0, 0), (0, 0, l1, u1, x1), (0, 0, l2, u2, x2)] M post := by
  cases b
  · exact rw_107_50 hT hR hB hFF k
  · exact rw_107_55 hT hR hB hFF k
theorem rw_m107 {A : Nat → Nat} {h0 : g_H} {d : Nat} {M : xa_M} {post : Option xa_V → xa_M → Prop} {l1 u1 l2 u2 : Int} {a x2 : Int} (hI : xm_Inv M) (k : ∀ (o : Option xa_V) (M1 : xa_M), (∃ lo hi n, o = some (0, 0, lo, hi, n) ∧ tf_107 M a x2 n ∧ rw_k (0 ≤ n) (M 60 20) (M 74) (M1 60 20) (M1 74) 1 (rw_s107 M a x2)) → xm_cor M M1 → post o M1) : xa_C xm_I A h0 (d + 5) 249 [(2, 60, 0, 0, 0), (0, 0, l1, u1, a), (0, 0, l2, u2, x2)] M post := by
  refine xa_C_arg [(2, 60, 0, 0, 0), (0, 0, (-2147483648), 2147483647, a), (0, 0, (-2147483648), 2147483647, x2)] (xa_svR (xa_svI (fun _ _ _ _ => by omega) (xa_svI (fun _ _ _ _ => by omega) xa_sv0))) ?_
  refine xa_meth (Q0 := (9, 1, false, 0, 0, 12)) (by decide +kernel) ⟨rfl, rfl⟩ (full := s_c_249) rfl rfl ?_
  intro hM hv Q hgo
  have hTM := tk_M_of hM hI
  have loop0 : ∀ (Mb : xa_M) (c : Int → Int → Int) (u : Int → Int), (∀ w n : Int, 0 ≤ w → w < Mb 60 32 → 0 ≤ n → n ≤ 400 → Mb 87 (401 * w + n) = c w n) → (∀ w, 0 ≤ w → w < Mb 60 32 → u w = nx_mx (c w) 401) → (∀ (x4 : Int) (o : Option xa_V) (M1 : xa_M), (∃ b, (0 ≤ b ∧ b < Mb 60 32) ∧ (∀ i, 0 ≤ i → i < b → u b < u i) ∧ (∀ i, 0 ≤ i → i < Mb 60 32 → u b ≤ u i) ∧ x4 = Mb 80 b ∧ M1 74 0 = u b) → (∃ lo hi, o = some (0, 0, lo, hi, x4)) → xm_cor M M1 → M1 60 20 = 1 → post o M1) → 1 ≤ Mb 60 32 → ∀ (n : Nat) (x6 x5 x4 : Int) (M1 : xa_M), 0 ≤ x6 ∧ x6 ≤ 14 → (-1) ≤ x4 ∧ x4 ≤ 13 → xm_cor M M1 → M1 = Mb → nx_best (Mb 80) u x6 x4 x5 → x6 ≤ Mb 60 32 → 14 - x6 < (n : Int) → Q 42 [(6, (0, 0, 0, 14, x6)), (5, (0, 0, (-2147483648), 2147483647, x5)), (4, (0, 0, (-1), 13, x4)), (0, (2, 60, 0, 0, 0))] [] M1 := by
    intro Mb c u hc87 hu kk hs1 n
    induction n with
    | zero => intro x6 x5 x4 M1 b6 b4 hc hMb hbest h6 hms; clear hbest; omega
    | succ n ih0 =>
      intro x6 x5 x4 M1 b6 b4 hc hMb hbest h6 hms0
      refine hgo.2.2 _ _ _ _ (fun hM1 _ => ?_)
      have b32 := xm_f32 hM1
      have t80 : x6 < 14 → 0 ≤ M1 80 x6 ∧ M1 80 x6 ≤ 13 := fun h => xm_t80 hM1 x6 (by omega) h
      obtain ⟨n0, hn0⟩ : ∃ n0, n0 = n := ⟨_, rfl⟩
      have loop1 : ∀ (n : Nat) (x8 x7 x6 x5 x4 : Int) (M1 : xa_M), 0 ≤ x8 ∧ x8 ≤ 401 → 0 ≤ x6 ∧ x6 ≤ 13 → (-1) ≤ x4 ∧ x4 ≤ 13 → xm_cor M M1 → M1 = Mb → nx_best (Mb 80) u x6 x4 x5 → x6 < Mb 60 32 → x7 = nx_mx (c x6) x8.toNat → 13 - x6 < (n0 : Int) → 401 - x8 < (n : Int) → Q 57 [(8, (0, 0, 0, 401, x8)), (7, (0, 0, (-2147483648), 2147483647, x7)), (6, (0, 0, 0, 13, x6)), (5, (0, 0, (-2147483648), 2147483647, x5)), (4, (0, 0, (-1), 13, x4)), (0, (2, 60, 0, 0, 0))] [] M1 := by
        intro n
        induction n with
        | zero => intro x8 x7 x6 x5 x4 M1 b8 b6 b4 hc hMb hbest h6 h7 hn6 hms; clear hbest h7; omega
        | succ n ih1 =>
          intro x8 x7 x6 x5 x4 M1 b8 b6 b4 hc hMb hbest h6 h7 hn6 hms1
          refine hgo.2.2 _ _ _ _ (fun hM1 _ => ?_)
          have t80 := xm_t80 hM1 x6 (by omega) (by omega)
          refine hgo.1 23 [42, 57] 57 _ _ _ ?_
          refine And.intro ?_ ?_
          · intro (c1 : 400 < x8)
            refine And.intro ?_ ?_
            · intro (c2 : x4 = (-1))
              show Q 42 [(6, (0, 0, 1, 14, x6 + 1)), (5, (0, 0, (-2147483648), 2147483647, x7)), (4, (0, 0, 0, 13, M1 80 x6)), (8, (0, 0, 0, 401, x8)), (7, (0, 0, (-2147483648), 2147483647, x7)), (0, (2, 60, 0, 0, 0))] [] M1
              refine hgo.2.1 42 _ [(6, (0, 0, 0, 14, x6 + 1)), (5, (0, 0, (-2147483648), 2147483647, x7)), (4, (0, 0, (-1), 13, M1 80 x6)), (0, (2, 60, 0, 0, 0))] _ _ (xa_subI rfl rfl (fun _ _ _ _ => by omega) (xa_subI rfl rfl (fun _ _ _ _ => by omega) (xa_subI rfl rfl (fun _ _ _ _ => by omega) (xa_subR rfl xa_sub0)))) ?_
              have h7u : x7 = u x6 := by rw [hu x6 b6.1 h6, h7, show x8.toNat = 401 by omega]
              exact ih0 (x6 + 1) x7 (M1 80 x6) M1 (by omega) (by omega) hc hMb (by rw [hMb]; exact nx_best1 hbest b6.1 h7u (Or.inl c2) (by rw [← hMb]; exact t80.1)) (by omega) (by omega)
            · intro (c2 : ¬ x4 = (-1))
              refine And.intro ?_ ?_
              · intro (c3 : x7 < x5)
                show Q 42 [(6, (0, 0, 1, 14, x6 + 1)), (5, (0, 0, (-2147483648), 2147483647, x7)), (4, (0, 0, 0, 13, M1 80 x6)), (8, (0, 0, 0, 401, x8)), (7, (0, 0, (-2147483648), 2147483647, x7)), (0, (2, 60, 0, 0, 0))] [] M1
                refine hgo.2.1 42 _ [(6, (0, 0, 0, 14, x6 + 1)), (5, (0, 0, (-2147483648), 2147483647, x7)), (4, (0, 0, (-1), 13, M1 80 x6)), (0, (2, 60, 0, 0, 0))] _ _ (xa_subI rfl rfl (fun _ _ _ _ => by omega) (xa_subI rfl rfl (fun _ _ _ _ => by omega) (xa_subI rfl rfl (fun _ _ _ _ => by omega) (xa_subR rfl xa_sub0)))) ?_
                have h7u : x7 = u x6 := by rw [hu x6 b6.1 h6, h7, show x8.toNat = 401 by omega]
                exact ih0 (x6 + 1) x7 (M1 80 x6) M1 (by omega) (by omega) hc hMb (by rw [hMb]; exact nx_best1 hbest b6.1 h7u (Or.inr c3) (by rw [← hMb]; exact t80.1)) (by omega) (by omega)
              · intro (c3 : x5 ≤ x7)
                show Q 42 [(6, (0, 0, 1, 14, x6 + 1)), (8, (0, 0, 0, 401, x8)), (7, (0, 0, (-2147483648), 2147483647, x7)), (5, (0, 0, (-2147483648), 2147483647, x5)), (4, (0, 0, (-1), 13, x4)), (0, (2, 60, 0, 0, 0))] [] M1
                refine hgo.2.1 42 _ [(6, (0, 0, 0, 14, x6 + 1)), (5, (0, 0, (-2147483648), 2147483647, x5)), (4, (0, 0, (-1), 13, x4)), (0, (2, 60, 0, 0, 0))] _ _ (xa_subI rfl rfl (fun _ _ _ _ => by omega) (xa_subI rfl rfl (fun _ _ _ _ => by omega) (xa_subI rfl rfl (fun _ _ _ _ => by omega) (xa_subR rfl xa_sub0)))) ?_
                have h7u : x7 = u x6 := by rw [hu x6 b6.1 h6, h7, show x8.toNat = 401 by omega]
                exact ih0 (x6 + 1) x5 x4 M1 (by omega) (by omega) hc hMb (nx_best2 hbest b6.1 h7u c2 c3) (by omega) (by omega)
          · intro (c1 : x8 ≤ 400)
            refine And.intro (show 0 ≤ ((401 * x6) + x8) ∧ ((401 * x6) + x8) < 5614 by omega) ?_
            show xa_C xm_I A h0 _ 35 [(0, 0, (-2147483648), 2147483647, x7), (0, 0, (-2147483648), 2147483647, M1 87 ((401 * x6) + x8))] M1 _
            refine ct_max (-2147483648) 2147483647 (by decide) (by decide) (by decide) (fun r4 br4 er4 => ?_)
            show Q 57 [(8, (0, 0, 1, 402, x8 + 1)), (7, (0, 0, (-2147483648), 2147483647, r4)), (6, (0, 0, 0, 13, x6)), (5, (0, 0, (-2147483648), 2147483647, x5)), (4, (0, 0, (-1), 13, x4)), (0, (2, 60, 0, 0, 0))] [] M1
            refine hgo.2.1 57 _ [(8, (0, 0, 0, 401, x8 + 1)), (7, (0, 0, (-2147483648), 2147483647, r4)), (6, (0, 0, 0, 13, x6)), (5, (0, 0, (-2147483648), 2147483647, x5)), (4, (0, 0, (-1), 13, x4)), (0, (2, 60, 0, 0, 0))] _ _ (xa_subI rfl rfl (fun _ _ _ _ => by omega) (xa_subI rfl rfl (fun _ _ _ _ => by omega) (xa_subI rfl rfl (fun _ _ _ _ => by omega) (xa_subI rfl rfl (fun _ _ _ _ => by omega) (xa_subI rfl rfl (fun _ _ _ _ => by omega) (xa_subR rfl xa_sub0)))))) ?_
            have h87 := hc87 x6 x8 b6.1 h6 b8.1 c1
            rw [hMb, h87] at er4
            exact ih1 (x8 + 1) r4 x6 x5 x4 M1 (by omega) (by omega) (by omega) hc hMb hbest h6 (nx_mxs b8.1 h7 er4) (by omega) (by omega)
      refine hgo.1 17 [42, 57] 42 _ _ _ ?_
      refine And.intro ?_ ?_
      · intro (c1 : (M1 60 32) ≤ x6)
        show xa_C xm_I A h0 _ 231 [(2, 60, 0, 0, 0), (1, 0, (-2147483648), 2147483647, x5)] (xa_up M1 60 20 0) _
        refine ct_tell (n := 0) (by first | rfl | (simp [xa_up]; done) | omega) (by omega) (by omega) ?_
        show post (some (0, 0, (-1), 13, x4)) (xa_up (xa_up (xa_up M1 60 20 0) 74 0 x5) 60 20 1)
        exact kk x4 _ _ (by
          obtain ⟨b, g1, g2, g3, g4, g5⟩ := rw_bestE hbest hs1 (by rw [← hMb]; exact c1) h6
          exact ⟨b, g1, g2, g3, g4, ((xa_up_ne (by omega)).trans xa_up_eq).trans g5⟩) ⟨_, _, rfl⟩ (xm_cor_f (by omega) (xm_cor_a rfl (xm_cor_f (by omega) hc))) xa_up_eq
      · intro (c1 : x6 < (M1 60 32))
        show Q 57 [(8, (0, 0, 0, 0, 0)), (7, (0, 0, 0, 0, 0)), (6, (0, 0, 0, 14, x6)), (5, (0, 0, (-2147483648), 2147483647, x5)), (4, (0, 0, (-1), 13, x4)), (0, (2, 60, 0, 0, 0))] [] M1
        refine hgo.2.1 57 _ [(8, (0, 0, 0, 401, 0)), (7, (0, 0, (-2147483648), 2147483647, 0)), (6, (0, 0, 0, 13, x6)), (5, (0, 0, (-2147483648), 2147483647, x5)), (4, (0, 0, (-1), 13, x4)), (0, (2, 60, 0, 0, 0))] _ _ (xa_subI rfl rfl (fun _ _ _ _ => by omega) (xa_subI rfl rfl (fun _ _ _ _ => by omega) (xa_subI rfl rfl (fun _ _ _ _ => by omega) (xa_subI rfl rfl (fun _ _ _ _ => by omega) (xa_subI rfl rfl (fun _ _ _ _ => by omega) (xa_subR rfl xa_sub0)))))) ?_
        exact loop1 402 0 0 x6 x5 x4 M1 (by omega) (by omega) (by omega) hc hMb hbest (by rw [← hMb]; exact c1) rfl (by omega) (by omega)
  refine hgo.1 27 [42, 57] 0 _ _ _ ?_
  show xa_C xm_I A h0 _ 238 [(2, 60, 0, 0, 0), (0, 0, (-2147483648), 2147483647, a), (0, 0, (-2147483648), 2147483647, x2)] (xa_up M 60 21 0) _
  refine rz_fx (j := 238) (by decide) (xa_C_mok (xw_ct_readyF (xm_Inv_cor (xm_cor_f (by omega) xm_cor_r) hI) (fun v1 M1 z1 hc1 hr1 hq1 hM1 => ?_)))
  intro (zM1 : M1 60 20 = M 60 20)
  have hS := rd_S hTM (xm_cor_f (by omega) xm_cor_r) (xw_to hc1) hM1 hq1
  refine And.intro ?_ ?_
  · intro (c2 : 0 ≤ v1)
    show xa_C xm_I A h0 _ 246 [(2, 60, 0, 0, 0), (0, 0, (-2147483648), 2147483647, x2)] M1 _
    refine rz_fx (j := 246) (by decide) (xa_C_mok (xw_ct_countFitsN (xm_Inv_cor (xm_cor_t (xm_cor_f (by omega) xm_cor_r) (xw_to hc1)) hI) ⟨(hr1 (by omega)).1, (hr1 (by omega)).2.1⟩ (by have q := (hr1 (by omega)).2.2; have e := xm_corf (xm_cor_t (xm_cor_f (by omega) xm_cor_r) (xw_to hc1)) 11 (by omega); simp [xa_up] at q; omega) (by have q := (hr1 (by omega)).2.2; have e := xm_corf (xm_cor_t (xm_cor_f (by omega) xm_cor_r) (xw_to hc1)) 11 (by omega); simp [xa_up] at q; omega) (fun M3 hc3 hq3 hM3 => ?_)))
    intro (zM3 : M3 60 20 = M1 60 20)
    refine And.intro ?_ ?_
    · intro (c4 : ¬ (M3 60 39) = 0)
      show Q 42 [(6, (0, 0, 0, 0, 0)), (5, (0, 0, 0, 0, 0)), (4, (0, 0, (-1), (-1), (-1))), (3, (0, 0, (-4), 0, v1)), (0, (2, 60, 0, 0, 0)), (1, (0, 0, (-2147483648), 2147483647, a)), (2, (0, 0, (-2147483648), 2147483647, x2))] [] M3
      refine hgo.2.1 42 _ [(6, (0, 0, 0, 14, 0)), (5, (0, 0, (-2147483648), 2147483647, 0)), (4, (0, 0, (-1), 13, (-1))), (0, (2, 60, 0, 0, 0))] _ _ (xa_subI rfl rfl (fun _ _ _ _ => by omega) (xa_subI rfl rfl (fun _ _ _ _ => by omega) (xa_subI rfl rfl (fun _ _ _ _ => by omega) (xa_subR rfl xa_sub0)))) ?_
      have e0 : v1 = 0 := by omega
      rw [e0] at hS
      obtain ⟨Mr, hKr, hKs, hq, hAr⟩ := hq3
      obtain ⟨eL, eH, e81, e32, e71, e70⟩ := fr_L_k hKr
      have hcM := xm_cor_t (xm_cor_f (M := M) (j := 21) (v := 0) (by omega) xm_cor_r) (xw_to hc1)
      obtain ⟨eF, ep, -, -⟩ := fm_e hcM (p := x2)
      have eFr : fr_F Mr x2 = fr_F M1 x2 := by
        unfold fr_F
        rw [eL, eH, e81, e32, e71, e70]
      rw [eFr, eL, eH, e32, eF, ep] at hq
      have hcb := fs_cb (F := tk_F M (M1 60 32) (M1 80) (M1 81) x2) (tk_pr M (M1 60 32) (M1 80)).toNat
      have e61 := (tk_ce hcM).2.1
      have e62 := (tk_ce hcM).2.2.1
      obtain ⟨-, -, hL, -⟩ := tk_S_L hS
      have hX := (tk_S_L hS).1
      obtain ⟨s1, -, s3⟩ := tk_lst hTM ⟨hX.1, by omega⟩ hL
      have m32 : M3 60 32 = M1 60 32 := (hKs 60 32 (by decide) (by omega)).trans e32
      have m80 : ∀ j, M3 80 j = M1 80 j := fun j => (hKs 80 j (by decide) (by omega)).trans (hKr 80 j (by decide) (by omega))
      have hK9 : ∀ w n : Int, fs_c (nx_G (fr_L Mr) (fr_H Mr) (Mr 60 32).toNat (fr_F Mr x2) w n) (fs_pr (fr_L Mr) (fr_H Mr) (Mr 60 32).toNat).toNat = nx_K M (M1 60 32) (M1 80) (M1 81) x2 w n := fun w n => by
        rw [eFr, eL, eH, e32, eF, ep]
        unfold nx_K fr_L fr_H
        rw [e61, e62]
      have h87 : ∀ w n : Int, 0 ≤ w → w < M3 60 32 → 0 ≤ n → n ≤ 400 → M3 87 (401 * w + n) = nx_K M (M1 60 32) (M1 80) (M1 81) x2 w n := fun w n w0 w1 n0 n1 => (hAr w n w0 (by omega) n0 n1).trans (hK9 w n)
      have hmu : ∀ i, 0 ≤ i → i < M1 60 32 → nx_m (nx_K M (M1 60 32) (M1 80) (M1 81) x2 i) (nx_mx (nx_K M (M1 60 32) (M1 80) (M1 81) x2 i) 401) := fun i i0 i1 => nx_mxm (fun n hn => by
        have a := (s3 i i0 i1).2
        have e : nx_K M (M1 60 32) (M1 80) (M1 81) x2 i n = 0 := nx_z i0 (by omega) (fun h => hn (by have h : M 61 (M1 80 i) ≤ n ∧ n ≤ M 62 (M1 80 i) := h; omega)) _
        omega)
      refine loop0 M3 (nx_K M (M1 60 32) (M1 80) (M1 81) x2) (fun w => nx_mx (nx_K M (M1 60 32) (M1 80) (M1 81) x2 w) 401) h87 (fun w _ _ => rfl) (fun y4 o M9 hb ho hc9 h20 => ?_) (by omega) 15 0 0 (-1) M3 (by omega) (by omega) (xm_cor_t (xm_cor_t (xm_cor_f (by omega) xm_cor_r) (xw_to hc1)) (xw_to hc3)) rfl (Or.inl ⟨rfl, rfl⟩) (by omega) (by omega)
      obtain ⟨g, ⟨g0, g1⟩, g2, g3, g4, g5⟩ := hb
      obtain ⟨lo, hi, ho⟩ := ho
      exact k o M9 ⟨lo, hi, y4, ho, ⟨0, _, _, _, hS, Or.inr ⟨rfl, Or.inr ⟨by omega, fun w => nx_mx (nx_K M (M1 60 32) (M1 80) (M1 81) x2 w) 401, g, hmu, ⟨g0, by omega⟩, g2, fun i i0 i1 => g3 i i0 (by omega), g4.trans (m80 g)⟩⟩⟩, rw_yes (V := rw_v [nx_mx (nx_K M (M1 60 32) (M1 80) (M1 81) x2 g) 401]) (by rw [g4, m80]; exact (xm_t80 hM1 g g0 (by have q := (xm_f32 hM1).2; omega)).1) h20 (rw_1 g5) ⟨_, _, _, fun w => nx_mx (nx_K M (M1 60 32) (M1 80) (M1 81) x2 w) 401, g, hS, hmu, ⟨g0, by omega⟩, fun i i0 i1 => g3 i i0 (by omega), rfl⟩⟩ hc9
    · intro (c4 : (M3 60 39) = 0)
      show post (some (0, 0, (-2), (-2), (-2))) M3
      have e0 : v1 = 0 := by omega
      rw [e0] at hS
      obtain ⟨Mr, hKr, hKs, hq, hAr⟩ := hq3
      obtain ⟨eL, eH, e81, e32, e71, e70⟩ := fr_L_k hKr
      have hcM := xm_cor_t (xm_cor_f (M := M) (j := 21) (v := 0) (by omega) xm_cor_r) (xw_to hc1)
      obtain ⟨eF, ep, -, -⟩ := fm_e hcM (p := x2)
      have eFr : fr_F Mr x2 = fr_F M1 x2 := by
        unfold fr_F
        rw [eL, eH, e81, e32, e71, e70]
      rw [eFr, eL, eH, e32, eF, ep] at hq
      have hcb := fs_cb (F := tk_F M (M1 60 32) (M1 80) (M1 81) x2) (tk_pr M (M1 60 32) (M1 80)).toNat
      exact k _ _ ⟨_, _, _, rfl, ⟨0, _, _, _, hS, Or.inr ⟨rfl, Or.inl ⟨by omega, rfl⟩⟩⟩, by exact rw_no (by omega) (zM3.trans zM1) (fun i i0 i1 => (xw_74 hc3 i0 (by have b20 := xm_f20 hM; omega)).trans ((xw_74 hc1 i0 (by have b20 := xm_f20 hM; omega)).trans (xa_up_ne (by omega))))⟩ (xm_cor_t (xm_cor_t (xm_cor_f (by omega) xm_cor_r) (xw_to hc1)) (xw_to hc3))
  · intro (c2 : v1 < 0)
    show post (some (0, 0, (-4), 0, v1)) M1
    exact k _ _ ⟨_, _, _, rfl, ⟨v1, _, _, _, hS, Or.inl ⟨by omega, rfl⟩⟩, by exact rw_no (by omega) zM1 (fun i i0 i1 => (xw_74 hc1 i0 (by have b20 := xm_f20 hM; omega)).trans (xa_up_ne (by omega)))⟩ (xm_cor_t (xm_cor_f (by omega) xm_cor_r) (xw_to hc1))
theorem rw_p107 (A : Nat → Nat) (cmp : Bool) : iv_pair (rw_J A) A 107 249 [0, 0] cmp false := rw_armV (fun W b h as M hJ hM hInv hs hR hz => by
  obtain ⟨m1, ys, rfl, -, hs⟩ := iv_spc hs
  obtain ⟨m2, ys, rfl, -, hs⟩ := iv_spc hs
  obtain rfl := iv_sp0 hs
  have b0 := xm_f0 (xa_H_Mok hM)
  have b6 := xm_f6 (xa_H_Mok hM)
  have r1 : iv_num h 1 9 = M 60 0 := hR.1.1
  have r2 : iv_num h 1 10 = M 60 6 := hR.1.2.1
  have r3 : ∀ i, 0 ≤ i → i < 14 → iv_num h 2 i = M 61 i ∧ iv_num h 3 i = M 62 i ∧ iv_num h 5 i = M 64 i ∧ iv_num h 6 i = M 65 i ∧ iv_num h 4 i = M 63 i := hR.1.2.2.1
  have r4 : ∀ i, 0 ≤ i → i < 16 → iv_num h 7 i = M 66 i ∧ iv_num h 8 i = M 67 i := hR.1.2.2.2
  have hS := hR.2
  obtain ⟨s1, s2, s3, s4⟩ := lm_Sx.mp hR.2.1
  have hMk := xa_H_Mok hM
  have b11 := xm_f11 hMk
  have hT := tk_M_of hMk hInv
  have hRc : tk_R (iv_num h) M := ⟨r1, r2, fun i i0 i1 => by
    obtain ⟨g1, g2, g3, g4, -⟩ := r3 i i0 i1
    exact ⟨g1, g2, g3, g4⟩, r4⟩
  have hB : tk_B (bk_p b) (iv_num h) M := ⟨s3, b11, fun p p0 p1 => by
    obtain ⟨g1, g2, -⟩ := s4 p p0 (by omega) p1
    have t1 := xm_t70 hMk p p0 (by omega)
    have t2 := xm_t71 hMk p p0 (by omega)
    have t3 := hInv.2.2.1 p p0 p1
    exact ⟨⟨g1, g2⟩, by omega, by omega⟩⟩
  have hx : ∃ F : Int → Int, (1 ≤ m1.toInt ∧ m1.toInt ≤ 9) → tk_Y M m1.toInt F := by
    by_cases c : 1 ≤ m1.toInt ∧ m1.toInt ≤ 9
    · obtain ⟨F, hF1, hF2⟩ := wr_ex hMk (X := m1.toInt) (by omega) b6.1 (fun i i0 i1 => tk_AB hT i i0 i1)
      exact ⟨F, fun _ => ⟨hF1, fun a _ _ => hF2 a⟩⟩
    · exact ⟨fun _ => 0, fun h => absurd h c⟩
  obtain ⟨F, hFF⟩ := hx
  have hc := rw_107x (b := b) (A := A) (h0 := h) (d := 53) (M := iv_num h) (N := M) (F := F) (l1 := -2147483648) (u1 := 2147483647) (l2 := -2147483648) (u2 := 2147483647) (x1 := m1.toInt) (x2 := m2.toInt) (post := fun o M1 => ∃ lo hi n, o = some (0, 0, lo, hi, n) ∧ ((tf_107 M m1.toInt m2.toInt n ∧ ∀ (q : Nat) (j : Int), ¬ (15 ≤ q ∧ q ≤ 29) → ¬ (q = 48 ∨ q = 49) → M1 q j = iv_num h q j) ∧ rw_k (0 ≤ n) (iv_num h 48 1) (iv_num h 49) (M1 48 1) (M1 49) 1 (rw_s107 M m1.toInt m2.toInt))) hT hRc hB hFF (fun lo hi n M1 x1 x2 x3 => ⟨lo, hi, n, rfl, ⟨x1, x2⟩, x3⟩)
  have hm := fun (h1 : g_H) => rw_m107 (A := A) (h0 := h1) (d := 55) (M := M) (l1 := -2147483648) (u1 := 2147483647) (l2 := -2147483648) (u2 := 2147483647) (a := m1.toInt) (x2 := m2.toInt) (post := fun o M2 => (∃ lo hi n, o = some (0, 0, lo, hi, n) ∧ ((tf_107 M m1.toInt m2.toInt n ∧ xm_cor M M2) ∧ rw_k (0 ≤ n) (M 60 20) (M 74) (M2 60 20) (M2 74) 1 (rw_s107 M m1.toInt m2.toInt))) ∧ xm_Inv M2) hInv (fun o M2 x1 x2 => by
    obtain ⟨lo, hi, n, rfl, x1, x3⟩ := x1
    exact ⟨⟨lo, hi, n, rfl, ⟨x1, x2⟩, x3⟩, xm_Inv_cor x2 hInv⟩)
  refine ⟨[(2, 0, 0, 0, 0), (0, 0, -2147483648, 2147483647, m1.toInt), (0, 0, -2147483648, 2147483647, m2.toInt)], [(2, 60, 0, 0, 0), (0, 0, -2147483648, 2147483647, m1.toInt), (0, 0, -2147483648, 2147483647, m2.toInt)], _, _, ⟨rfl, iv_i m1, iv_i m2, trivial⟩, ⟨rfl, iv_i m1, iv_i m2, trivial⟩, fun n n' M1 M2 g1 g2 => by
    obtain ⟨h1, z1⟩ := g1
    obtain ⟨h2, z2⟩ := g2
    have en : n = n' := tf_107_one hT h1.1 h2.1
    exact ⟨fun _ => en, fun x => h2.2 104 x (by unfold xm_scr; omega), fun x => h2.2 105 x (by unfold xm_scr; omega), tf_lmR2 hR h1.2 h2.2, rw_k1 z1 z2 (by rw [en]) (fun _ => by decide) (fun V V' _ s1 s2 i _ _ => by rw [rw_s107_one hT s1 s2]) hz⟩, hc, hm⟩)

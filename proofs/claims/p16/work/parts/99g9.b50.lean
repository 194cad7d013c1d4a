-- the reference reads the book
set_option maxRecDepth 20000
/-- a sign that was read -/
theorem bk_sg {T : Int → Int} {p L' L r m m' : Int} (i : (p < L' ∧ p < 60 ∧ r = m) ∨ (¬ (p < L' ∧ p < 60) ∧ r = -1)) (eL : L' = L) (em : m = m') (hT : T p = m' % 256) (hb : -128 ≤ m' ∧ m' ≤ 127) (hr : 0 ≤ r) : p < L ∧ p < 60 ∧ T p = r := by omega
theorem bk_sgc {T : Int → Int} {p L' L r m m' c : Int} (i : (p < L' ∧ p < 60 ∧ r = m) ∨ (¬ (p < L' ∧ p < 60) ∧ r = -1)) (eL : L' = L) (em : m = m') (hT : T p = m' % 256) (hb : -128 ≤ m' ∧ m' ≤ 127) (hc : 0 ≤ c ∧ c ≤ 127) (hr : r = c) : p < L ∧ p < 60 ∧ T p = c := by omega
theorem bk_sg2 {T : Int → Int} {p L' L r m m' : Int} (i : (p < L' ∧ p < 60 ∧ r = m) ∨ (¬ (p < L' ∧ p < 60) ∧ r = -1)) (eL : L' = L) (em : m = m') (hT : T p = m' % 256) (hb : -128 ≤ m' ∧ m' ≤ 127) (h1 : p < L) (h2 : p < 60) (ht : T p ≤ 127) : T p = r := by omega
theorem bk_sg3 {T : Int → Int} {p L' L r m m' c : Int} (i : (p < L' ∧ p < 60 ∧ r = m) ∨ (¬ (p < L' ∧ p < 60) ∧ r = -1)) (eL : L' = L) (em : m = m') (hT : T p = m' % 256) (hb : -128 ≤ m' ∧ m' ≤ 127) (hc : 0 ≤ c ∧ c ≤ 127) (hr : ¬ r = c) : ¬ (p < L ∧ p < 60 ∧ T p = c) := by omega
theorem bk_sg4 {T : Int → Int} {p L' L r m m' : Int} (i : (p < L' ∧ p < 60 ∧ r = m) ∨ (¬ (p < L' ∧ p < 60) ∧ r = -1)) (eL : L' = L) (em : m = m') (hT : T p = m' % 256) (hb : -128 ≤ m' ∧ m' ≤ 127) (hr : ¬ (97 ≤ r ∧ r ≤ 122)) : ¬ (p < L ∧ p < 60 ∧ 97 ≤ T p ∧ T p ≤ 122) := by omega
theorem bk_nT {v t : Int} (h : t = v) (h0 : 0 ≤ v) : bk_n v = t := by
  unfold bk_n
  rw [if_neg (by omega)]
  exact h.symm
theorem bk_n1 : bk_n (-1) = 0 := by
  unfold bk_n
  exact if_pos rfl
/-- a line that is well -/
theorem bk_ln {T : Int → Int} {e L p0 r1 p1 w1 r2 p2 w2 : Int} (he : (L ≤ 60 ∧ e = L) ∨ (60 < L ∧ e = 60)) (h0 : 0 ≤ p0) (Q1 : nu_Q T e p0 (-1) r1 p1 w1) (hc : p1 < L ∧ p1 < 60 ∧ T p1 = 58) (Q2 : nu_Q T e (p1 + 1) w1 r2 p2 w2) (hw : w2 = -1) : (1 ≤ r1 ∧ 1 ≤ r2 ∧ 0 ≤ p2 ∧ p2 ≤ 60) ∧ ∀ n q, ((p2 < L ∧ p2 < 60 ∧ 97 ≤ T p2 ∧ T p2 ≤ 122 ∧ n = T p2 ∧ q = p2 + 1) ∨ (¬ (p2 < L ∧ p2 < 60 ∧ 97 ≤ T p2 ∧ T p2 ≤ 122) ∧ n = 0 ∧ q = p2)) → bk_L T e p0 1 r1 r2 n q := by
  rcases Q1 with ⟨c, -⟩ | ⟨-, x, g, q, N1, h1⟩
  · exact absurd rfl c
  have b1 := bk_N_b N1
  rcases h1 with ⟨g1, x1, y1, z1⟩ | ⟨g1, x1, z1⟩
  · rcases Q2 with ⟨c, -⟩ | ⟨-, x', g', q', N2, h2⟩
    · exact absurd z1 c
    have b2 := bk_N_b N2
    rcases h2 with ⟨g2, x2, y2, -⟩ | ⟨g2, -, z2⟩
    · have c1 := b1.2.2.2 g1
      have c2 := b2.2.2.2 g2
      refine ⟨⟨by omega, by omega, by omega, by omega⟩, fun n qq hq => ⟨x, g, q, N1, Or.inr (Or.inr ⟨g1, by omega, by rw [← y1]; exact hc.2.2, x', g', q', by rw [← y1]; exact N2, Or.inr ⟨g2, rfl, x1, x2, ?_⟩⟩)⟩⟩
      rw [← y2]
      rcases hq with ⟨a1, a2, a3, a4, a5, a6⟩ | ⟨a1, a2, a3⟩
      · exact Or.inl ⟨by omega, a3, a4, a5, a6⟩
      · exact Or.inr ⟨fun ⟨u1, u2, u3⟩ => a1 ⟨by omega, by omega, u2, u3⟩, a2, a3⟩
    · omega
  · rcases Q2 with ⟨c, -, -, a6⟩ | ⟨c, -⟩
    · omega
    · omega
/-- a line with a fault -/
theorem bk_lf {T : Int → Int} {e L p0 r1 p1 w1 w' r2 p2 w2 : Int} (he : (L ≤ 60 ∧ e = L) ∨ (60 < L ∧ e = 60)) (h0 : 0 ≤ p0) (Q1 : nu_Q T e p0 (-1) r1 p1 w1) (hc : (¬ (p1 < L ∧ p1 < 60 ∧ T p1 = 58) ∧ ((w1 = -1 ∧ w' = p1) ∨ (¬ w1 = -1 ∧ w' = w1))) ∨ (p1 < L ∧ p1 < 60 ∧ T p1 = 58 ∧ w' = w1 ∧ ¬ w2 = -1)) (Q2 : nu_Q T e (p1 + 1) w' r2 p2 w2) (U W N : Int) : bk_L T e p0 0 U W N w2 ∧ 0 ≤ w2 := by
  rcases Q1 with ⟨c, -⟩ | ⟨-, x, g, q, N1, h1⟩
  · exact absurd rfl c
  have b1 := bk_N_b N1
  rcases h1 with ⟨g1, x1, y1, z1⟩ | ⟨g1, x1, z1⟩
  · rcases hc with ⟨c1, c2⟩ | ⟨c1, c2, c3, c4, c5⟩
    · have e1 : w' = p1 := by omega
      have hw : w2 = w' := by
        rcases Q2 with ⟨-, -, -, h⟩ | ⟨c, -⟩
        · exact h
        · omega
      refine ⟨⟨x, g, q, N1, Or.inr (Or.inl ⟨g1, ?_, rfl, by omega⟩)⟩, by omega⟩
      rw [← y1]
      exact fun ⟨u1, u2⟩ => c1 ⟨by omega, by omega, u2⟩
    · rcases Q2 with ⟨c, -⟩ | ⟨-, x', g', q', N2, h2⟩
      · exact absurd (c4.trans z1) c
      have b2 := bk_N_b N2
      rcases h2 with ⟨-, -, -, h⟩ | ⟨g2, -, h⟩
      · exact absurd h c5
      · exact ⟨⟨x, g, q, N1, Or.inr (Or.inr ⟨g1, by omega, by rw [← y1]; exact c3, x', g', q', by rw [← y1]; exact N2, Or.inl ⟨g2, rfl, h⟩⟩)⟩, by omega⟩
  · have e1 : w' = q := by omega
    have hw : w2 = w' := by
      rcases Q2 with ⟨-, -, -, h⟩ | ⟨c, -⟩
      · exact h
      · omega
    exact ⟨⟨x, g, q, N1, Or.inl ⟨g1, rfl, by omega⟩⟩, by omega⟩
/-- the last line -/
theorem bk_le {T : Int → Int} {e L a u : Int} (he : (L ≤ 60 ∧ e = L) ∨ (60 < L ∧ e = 60)) (ha : 0 ≤ a ∧ a ≤ 60) (hu : 0 ≤ u) (hn : ¬ (a < L ∧ a < 60 ∧ T a = 59) ∨ 8 ≤ u + 1) : ∃ ans, ((a < e ∧ ¬ (T a = 59 ∧ u + 1 < 8) ∧ ans = -1 - a ∧ ans < 0) ∨ (¬ a < e ∧ L ≤ 60 ∧ ans = u + 1) ∨ (¬ a < e ∧ 60 < L ∧ ans = -1 - a ∧ ans < 0)) ∧ ((a < L ∧ ans = -1 - a ∧ ans < 0) ∨ (¬ a < L ∧ ans = u + 1 ∧ 0 ≤ ans)) := by
  by_cases c : a < L
  · refine ⟨-1 - a, ?_, Or.inl ⟨c, rfl, by omega⟩⟩
    by_cases d : a < e
    · refine Or.inl ⟨d, fun ⟨u1, u2⟩ => ?_, rfl, by omega⟩
      rcases hn with h | h
      · exact h ⟨c, by omega, u1⟩
      · omega
    · exact Or.inr (Or.inr ⟨d, by omega, rfl, by omega⟩)
  · exact ⟨u + 1, Or.inr (Or.inl ⟨by omega, by omega, rfl⟩), Or.inr ⟨c, rfl, by omega⟩⟩
set_option maxHeartbeats 8000000 in
theorem ms_bookF {A : Nat → Nat} {h0 : g_H} {d : Nat} {M : xa_M} {post : Option xa_V → xa_M → Prop} {T : Int → Int} (hT : ∀ i, 0 ≤ i → i < 80 → T i = M 73 i % 256) (hI : xm_Inv M) (k : ∀ (ans : Int) (M1 : xa_M), bk_R T (M 60 18) ans (M1 88) (M1 89) (fun i => bk_n (M1 90 i)) → M1 60 18 = 0 → ((0 ≤ ans ∧ M1 60 11 = ans ∧ ∀ i, 0 ≤ i → i < ans → M1 70 i = M1 88 i ∧ M1 71 i = M1 89 i ∧ M1 72 i = M1 90 i) ∨ (ans < 0 ∧ M1 60 11 = M 60 11 ∧ ∀ i, M1 70 i = M 70 i ∧ M1 71 i = M 71 i ∧ M1 72 i = M 72 i)) → xm_Inv M1 → (∀ q j, ¬ xm_scr q j → ¬ (q = 60 ∧ (j = 18 ∨ j = 11)) → ¬ (70 ≤ q ∧ q ≤ 72) → M1 q j = M q j) → post (some (0, 0, (-2147483648), 2147483647, ans)) M1) : xa_C xm_I A h0 (d + 3) 252 [(2, 60, 0, 0, 0)] M post := by
  refine xa_C_wk ?_
  refine xa_meth (Q0 := (4, 1, false, 0, 0, 12)) (by decide +kernel) ⟨rfl, rfl⟩ (full := s_c_252) rfl rfl ?_
  intro hM hv Q hgo
  have b18 := xm_f18 hM
  have copy : ∀ (u : Int), 0 ≤ u → u ≤ 8 → ∀ (M0 : xa_M), bk_R T (M 60 18) u (M0 88) (M0 89) (fun i => bk_n (M0 90 i)) → M0 60 18 = 0 → ∀ (MC : xa_M), xm_bkc M MC u 0 → (∀ q j, ¬ (70 ≤ q ∧ q ≤ 72) → ¬ (q = 60 ∧ j = 11) → MC q j = M0 q j) → (∀ i, 0 ≤ i → i < (0 : Int) → MC 70 i = M0 88 i ∧ MC 71 i = M0 89 i ∧ MC 72 i = M0 90 i) → Q 216 [(3, (0, 0, 0, 8, 0)), (1, (0, 0, 0, 8, u)), (0, (2, 60, 0, 0, 0))] [] MC := by
    intro u h0 h8 M0 hB1 he18
    have loopC : ∀ (n : Nat) (p : Int) (M1 : xa_M), 0 ≤ p → p ≤ u → xm_bkc M M1 u p → (∀ q j, ¬ (70 ≤ q ∧ q ≤ 72) → ¬ (q = 60 ∧ j = 11) → M1 q j = M0 q j) → (∀ i, 0 ≤ i → i < p → M1 70 i = M0 88 i ∧ M1 71 i = M0 89 i ∧ M1 72 i = M0 90 i) → u - p < (n : Int) → Q 216 [(3, (0, 0, 0, 8, p)), (1, (0, 0, 0, 8, u)), (0, (2, 60, 0, 0, 0))] [] M1 := by
      intro n
      induction n with
      | zero => intro p M1 h1 h2 hk ho hc hms; omega
      | succ n ih =>
        intro p M1 h1 h2 hk ho hc hms
        refine hgo.1 34 [43, 216] 216 _ _ _ ?_
        refine And.intro ?_ ?_
        · intro (c1 : u ≤ p)
          show xa_wk post (some (0, 0, 0, 8, u)) M1
          have q88 : M1 88 = M0 88 := funext (fun j => ho 88 j (by omega) (by omega))
          have q89 : M1 89 = M0 89 := funext (fun j => ho 89 j (by omega) (by omega))
          have q90 : M1 90 = M0 90 := funext (fun j => ho 90 j (by omega) (by omega))
          have hk9 : xm_bkc M M1 u u := ⟨hk.1, hk.2.1, hk.2.2.1, fun x x0 x1 => hk.2.2.2 x x0 (by omega)⟩
          refine xa_wkI u rfl (fun _ _ => by omega) (k u M1 (by rw [q88, q89, q90]; exact hB1) ((ho 60 18 (by omega) (by omega)).trans he18) (Or.inl ⟨h0, hk.2.1, fun i i0 i1 => ?_⟩) (xm_bkc_I hI hk9) (fun q j g1 g2 g3 => hk.1 q j g1 g2 g3))
          obtain ⟨f1, f2, f3⟩ := hc i i0 (by omega)
          exact ⟨f1.trans (by rw [q88]), f2.trans (by rw [q89]), f3.trans (by rw [q90])⟩
        · intro (c1 : p < u)
          refine And.intro (show 0 ≤ p ∧ p < 8 by omega) ?_
          refine And.intro (show 0 ≤ p ∧ p < 8 by omega) ?_
          refine And.intro (show 0 ≤ p ∧ p < 8 by omega) ?_
          refine And.intro (show 0 ≤ p ∧ p < 8 by omega) ?_
          refine And.intro (show 0 ≤ p ∧ p < 8 by omega) ?_
          refine And.intro (show 0 ≤ p ∧ p < 8 by omega) ?_
          show Q 216 [(3, (0, 0, 1, 9, p + 1)), (1, (0, 0, 0, 8, u)), (0, (2, 60, 0, 0, 0))] [] (xa_up (xa_up (xa_up M1 70 p (M1 88 p)) 71 p (M1 89 p)) 72 p (M1 90 p))
          refine hgo.2.1 216 _ [(3, (0, 0, 0, 8, p + 1)), (1, (0, 0, 0, 8, u)), (0, (2, 60, 0, 0, 0))] _ _ (xa_subI rfl rfl (fun _ _ _ _ => by omega) (xa_subI rfl rfl (fun _ _ _ _ => by omega) (xa_subR rfl (xa_sub0)))) ?_
          exact ih (p + 1) _ (by omega) (by omega) ⟨fun q j hn h4 h5 => by
              rw [xa_up_ne (by first | exact fun h => absurd h.1 (by decide) | exact fun h => absurd h.2 (by decide) | omega), xa_up_ne (by first | exact fun h => absurd h.1 (by decide) | exact fun h => absurd h.2 (by decide) | omega), xa_up_ne (by first | exact fun h => absurd h.1 (by decide) | exact fun h => absurd h.2 (by decide) | omega)]
              exact hk.1 q j hn h4 h5, by
              rw [xa_up_ne (by first | exact fun h => absurd h.1 (by decide) | exact fun h => absurd h.2 (by decide) | omega), xa_up_ne (by first | exact fun h => absurd h.1 (by decide) | exact fun h => absurd h.2 (by decide) | omega), xa_up_ne (by first | exact fun h => absurd h.1 (by decide) | exact fun h => absurd h.2 (by decide) | omega)]
              exact hk.2.1, fun x x0 x1 => by
              rw [xa_up_ne (by first | exact fun h => absurd h.1 (by decide) | exact fun h => absurd h.2 (by decide) | omega), xa_up_ne (by first | exact fun h => absurd h.1 (by decide) | exact fun h => absurd h.2 (by decide) | omega), xa_up_ne (by first | exact fun h => absurd h.1 (by decide) | exact fun h => absurd h.2 (by decide) | omega), xa_up_ne (by first | exact fun h => absurd h.1 (by decide) | exact fun h => absurd h.2 (by decide) | omega), xa_up_ne (by first | exact fun h => absurd h.1 (by decide) | exact fun h => absurd h.2 (by decide) | omega), xa_up_ne (by first | exact fun h => absurd h.1 (by decide) | exact fun h => absurd h.2 (by decide) | omega)]
              exact hk.2.2.1 x x0 x1, fun x x0 x1 => by
              by_cases e : x = p
              · rw [e]
                have f := hk.2.2.1 p h1 (by omega)
                exact ⟨by
                  rw [xa_up_ne (by first | exact fun h => absurd h.1 (by decide) | exact fun h => absurd h.2 (by decide) | omega), xa_up_ne (by first | exact fun h => absurd h.1 (by decide) | exact fun h => absurd h.2 (by decide) | omega), xa_up_hit (by omega)]
                  exact f.1, by
                  rw [xa_up_ne (by first | exact fun h => absurd h.1 (by decide) | exact fun h => absurd h.2 (by decide) | omega), xa_up_hit (by omega)]
                  exact f.2⟩
              · have f := hk.2.2.2 x x0 (by omega)
                exact ⟨by
                  rw [xa_up_ne (by first | exact fun h => absurd h.1 (by decide) | exact fun h => absurd h.2 (by decide) | omega), xa_up_ne (by first | exact fun h => absurd h.1 (by decide) | exact fun h => absurd h.2 (by decide) | omega), xa_up_ne (by first | exact fun h => absurd h.1 (by decide) | exact fun h => absurd h.2 (by decide) | omega)]
                  exact f.1, by
                  rw [xa_up_ne (by first | exact fun h => absurd h.1 (by decide) | exact fun h => absurd h.2 (by decide) | omega), xa_up_ne (by first | exact fun h => absurd h.1 (by decide) | exact fun h => absurd h.2 (by decide) | omega), xa_up_ne (by first | exact fun h => absurd h.1 (by decide) | exact fun h => absurd h.2 (by decide) | omega)]
                  exact f.2⟩⟩ (fun q j g1 g2 => by
              rw [xa_up_ne (by first | exact fun h => absurd h.1 (by decide) | exact fun h => absurd h.2 (by decide) | omega), xa_up_ne (by first | exact fun h => absurd h.1 (by decide) | exact fun h => absurd h.2 (by decide) | omega), xa_up_ne (by first | exact fun h => absurd h.1 (by decide) | exact fun h => absurd h.2 (by decide) | omega)]
              exact ho q j g1 g2) (fun i i0 i1 => by
              by_cases e : i = p
              · rw [e]
                have q88 := ho 88 p (by omega) (by omega)
                have q89 := ho 89 p (by omega) (by omega)
                have q90 := ho 90 p (by omega) (by omega)
                exact ⟨by
                  rw [xa_up_ne (by first | exact fun h => absurd h.1 (by decide) | exact fun h => absurd h.2 (by decide) | omega), xa_up_ne (by first | exact fun h => absurd h.1 (by decide) | exact fun h => absurd h.2 (by decide) | omega), xa_up_hit (by omega)]
                  exact q88, by
                  rw [xa_up_ne (by first | exact fun h => absurd h.1 (by decide) | exact fun h => absurd h.2 (by decide) | omega), xa_up_hit (by omega)]
                  exact q89, by
                  rw [xa_up_hit (by omega)]
                  exact q90⟩
              · have f := hc i i0 (by omega)
                exact ⟨by
                  rw [xa_up_ne (by first | exact fun h => absurd h.1 (by decide) | exact fun h => absurd h.2 (by decide) | omega), xa_up_ne (by first | exact fun h => absurd h.1 (by decide) | exact fun h => absurd h.2 (by decide) | omega), xa_up_ne (by first | exact fun h => absurd h.1 (by decide) | exact fun h => absurd h.2 (by decide) | omega)]
                  exact f.1, by
                  rw [xa_up_ne (by first | exact fun h => absurd h.1 (by decide) | exact fun h => absurd h.2 (by decide) | omega), xa_up_ne (by first | exact fun h => absurd h.1 (by decide) | exact fun h => absurd h.2 (by decide) | omega), xa_up_ne (by first | exact fun h => absurd h.1 (by decide) | exact fun h => absurd h.2 (by decide) | omega)]
                  exact f.2.1, by
                  rw [xa_up_ne (by first | exact fun h => absurd h.1 (by decide) | exact fun h => absurd h.2 (by decide) | omega), xa_up_ne (by first | exact fun h => absurd h.1 (by decide) | exact fun h => absurd h.2 (by decide) | omega), xa_up_ne (by first | exact fun h => absurd h.1 (by decide) | exact fun h => absurd h.2 (by decide) | omega)]
                  exact f.2.2⟩) (by omega)
    intro MC hk ho hc
    exact loopC 9 0 MC (by omega) h0 hk ho hc (by omega)
  have loop : ∀ (e : Int), ((M 60 18 ≤ 60 ∧ e = M 60 18) ∨ (60 < M 60 18 ∧ e = 60)) ∧ e = (if M 60 18 ≤ 60 then M 60 18 else 60) → ∀ (n : Nat) (u z : Int) (M1 : xa_M), 0 ≤ u → u ≤ 8 → 0 ≤ z ∧ z ≤ 1 → (z = 1 → u ≤ 7) → xm_c18 M M1 → M1 60 40 = M 60 18 → M1 60 18 = 0 → M1 60 42 = -1 → (∀ i, 0 ≤ i → i < 80 → M1 73 i = M 73 i) → (∀ x, 0 ≤ x → x < u → 1 ≤ M1 88 x ∧ 1 ≤ M1 89 x) → (z = 1 → 0 ≤ M1 60 41 ∧ M1 60 41 ≤ e ∧ 1 ≤ M 60 18) → (z = 1 → (∀ (ans : Int) (U W N : Int → Int), (∀ i, 0 ≤ i → i < u → U i = M1 88 i ∧ W i = M1 89 i ∧ N i = bk_n (M1 90 i)) → bk_B T e (M 60 18) ans U W N (8 - u).toNat u (M1 60 41) → bk_B T e (M 60 18) ans U W N 8 0 0)) → (z = 0 → ∃ ans, bk_R T (M 60 18) ans (M1 88) (M1 89) (fun i => bk_n (M1 90 i)) ∧ ((M1 60 41 < M 60 18 ∧ ans = -1 - M1 60 41 ∧ ans < 0) ∨ (¬ M1 60 41 < M 60 18 ∧ ans = u ∧ 0 ≤ ans))) → 8 - u < (n : Int) → Q 43 [(1, (0, 0, 0, 8, u)), (2, (0, 0, 0, 1, z)), (0, (2, 60, 0, 0, 0))] [] M1 := by
    intro e ⟨he3, he⟩ n
    induction n with
    | zero => intro u z M1 h1 h2 z0 hz hs e40M1 e18M1 hw e73M1 hn hA1 hA hB hms; omega
    | succ n ih =>
      intro u z M1 h1 h2 z0 hz hs e40M1 e18M1 hw e73M1 hn hA1 hA hB hms
      refine hgo.2.2 _ _ _ _ (fun hM1 _ => ?_)
      have b41 := xm_f41 hM1
      refine hgo.1 76 [43, 216] 43 _ _ _ ?_
      refine And.intro ?_ ?_
      · intro (c1 : z = 0)
        refine And.intro ?_ ?_
        · intro (c2 : (M1 60 40) ≤ (M1 60 41))
          show Q 216 [(3, (0, 0, 0, 0, 0)), (1, (0, 0, 0, 8, u)), (2, (0, 0, 0, 1, z)), (0, (2, 60, 0, 0, 0))] [] (xa_up M1 60 11 u)
          have z3 : z = 0 := by
            clear hA hB
            omega
          obtain ⟨ans, hB1, hB2⟩ := hB z3
          clear hA hB
          have ea : ans = u := by omega
          rw [ea] at hB1
          refine hgo.2.1 216 _ [(3, (0, 0, 0, 8, 0)), (1, (0, 0, 0, 8, u)), (0, (2, 60, 0, 0, 0))] _ _ (xa_subI rfl rfl (fun _ _ _ _ => by omega) (xa_subI rfl rfl (fun _ _ _ _ => by omega) (xa_subR rfl (xa_sub0)))) ?_
          exact copy u h1 h2 M1 hB1 e18M1 _ ⟨fun q j g1 g2 g3 => (xa_up_ne (by first | exact fun h => absurd h.1 (by decide) | exact fun h => absurd h.2 (by decide) | omega)).trans (hs q j g1 (by omega)), xa_up_eq, fun x x0 x1 => by rw [xa_up_ne (by first | exact fun h => absurd h.1 (by decide) | exact fun h => absurd h.2 (by decide) | omega), xa_up_ne (by first | exact fun h => absurd h.1 (by decide) | exact fun h => absurd h.2 (by decide) | omega)]; exact hn x x0 x1, fun x x0 x1 => by omega⟩ (fun q j g1 g2 => xa_up_ne (by first | exact fun h => absurd h.1 (by decide) | exact fun h => absurd h.2 (by decide) | omega)) (fun i i0 i1 => by omega)
        · intro (c2 : (M1 60 41) < (M1 60 40))
          show xa_wk post (some (0, 0, (-101), (-1), (-1) - (M1 60 41))) M1
          have z3 : z = 0 := by
            clear hA hB
            omega
          obtain ⟨ans, hB1, hB2⟩ := hB z3
          clear hA hB
          refine xa_wkI ans (by omega) (fun _ _ => by omega) (k ans _ hB1 e18M1 ?_ (xm_c18_I hI hs) (fun q j h1 h2 h3 => hs q j h1 (by omega)))
          exact Or.inr ⟨by omega, hs 60 11 (by omega) (by omega), fun i => ⟨hs 70 i (by omega) (by omega), hs 71 i (by omega) (by omega), hs 72 i (by omega) (by omega)⟩⟩
      · intro (c1 : ¬ z = 0)
        have z3 : z = 1 := by
          clear hA hB
          omega
        have hA2 := hA z3
        have hA3 := hA1 z3
        have hz7 := hz z3
        clear hA hB hA1 hz
        show xa_C xm_I A h0 _ 253 [(2, 60, 0, 0, 0)] M1 _
        refine ct_numF (T := T) (e := e) (fun i i0 i1 => by rw [e73M1 i i0 i1]; exact hT i i0 i1) (show (((M1 60 40) ≤ 60 ∧ e = (M1 60 40)) ∨ (60 < (M1 60 40) ∧ e = 60)) by omega) (show 0 ≤ (M1 60 41) ∧ (M1 60 41) ≤ 61 by omega) ?_
        intro r113 M114 (i3 : xm_f2 M1 M114) (i4 : (M1 60 41) ≤ M114 60 41 ∧ (M114 60 41 = (M1 60 41) ∨ M114 60 41 ≤ 60)) (i5 : nu_Q T e (M1 60 41) (M1 60 42) r113 (M114 60 41) (M114 60 42))
        have csM114 : xm_c18 M M114 := xm_c18_f (hs) i3
        have e40M114 : M114 60 40 = M 60 18 := (i3 60 40 (by omega)).trans (e40M1)
        have e18M114 : M114 60 18 = 0 := (i3 60 18 (by omega)).trans (e18M1)
        have e73M114 : ∀ i, 0 ≤ i → i < 80 → M114 73 i = M 73 i := fun i i0 i1 => (i3 73 i (by omega)).trans (e73M1 i i0 i1)
        have aXM114 : ∀ i, 0 ≤ i → i < u → M114 88 i = M1 88 i ∧ M114 89 i = M1 89 i ∧ M114 90 i = M1 90 i := fun i i0 i1 => ⟨(i3 88 i (by omega)).trans (rfl), (i3 89 i (by omega)).trans (rfl), (i3 90 i (by omega)).trans (rfl)⟩
        have pM114 : 0 ≤ M114 60 41 ∧ M114 60 41 + 1 < 80 := by omega
        have uM114 : M114 60 41 ≤ 60 := by omega
        have lM114 := i4.1
        clear i4
        have xM114 := xm_t73 hM (M114 60 41) (by omega) (by omega)
        have yM114 := e73M114 (M114 60 41) (by omega) (by omega)
        have tM114 := hT (M114 60 41) (by omega) (by omega)
        have xxM114 := xm_t73 hM (M114 60 41 + 1) (by omega) (by omega)
        have yyM114 := e73M114 (M114 60 41 + 1) (by omega) (by omega)
        have ttM114 := hT (M114 60 41 + 1) (by omega) (by omega)
        have h5 := i5
        rw [hw] at h5
        have hp0 : 0 ≤ M1 60 41 := by omega
        refine And.intro (show 0 ≤ u ∧ u < 8 by omega) ?_
        show xa_C xm_I A h0 _ 254 [(2, 60, 0, 0, 0)] (xa_up M114 88 u r113) _
        refine ct_here ?_
        intro r115 (i6 : ((M114 60 41) < (M114 60 40) ∧ (M114 60 41) < 60 ∧ r115 = M114 73 (M114 60 41)) ∨ (¬ ((M114 60 41) < (M114 60 40) ∧ (M114 60 41) < 60) ∧ r115 = -1))
        refine And.intro ?_ ?_
        · intro (c7 : r115 = 58)
          have j115 := bk_sgc i6 e40M114 yM114 tM114 xM114 (by decide) c7
          clear i6
          refine And.intro (show 0 ≤ ((M114 60 41) + 1) ∧ ((M114 60 41) + 1) ≤ 100 by omega) ?_
          show xa_C xm_I A h0 _ 253 [(2, 60, 0, 0, 0)] (xa_up (xa_up M114 88 u r113) 60 41 ((M114 60 41) + 1)) _
          refine ct_numF (T := T) (e := e) (fun i i0 i1 => by rw [xa_up_ne (by first | exact fun h => absurd h.1 (by decide) | exact fun h => absurd h.2 (by decide) | omega), xa_up_ne (by first | exact fun h => absurd h.1 (by decide) | exact fun h => absurd h.2 (by decide) | omega), e73M114 i i0 i1]; exact hT i i0 i1) (show (((M114 60 40) ≤ 60 ∧ e = (M114 60 40)) ∨ (60 < (M114 60 40) ∧ e = 60)) by omega) (show 0 ≤ ((M114 60 41) + 1) ∧ ((M114 60 41) + 1) ≤ 61 by omega) ?_
          intro r116 M117 (i8 : xm_f2 (xa_up (xa_up M114 88 u r113) 60 41 ((M114 60 41) + 1)) M117) (i9 : ((M114 60 41) + 1) ≤ M117 60 41 ∧ (M117 60 41 = ((M114 60 41) + 1) ∨ M117 60 41 ≤ 60)) (i10 : nu_Q T e ((M114 60 41) + 1) (M114 60 42) r116 (M117 60 41) (M117 60 42))
          have csM117 : xm_c18 M M117 := xm_c18_f (xm_c18_u (by omega) (xm_c18_u (by omega) (csM114))) i8
          have e40M117 : M117 60 40 = M 60 18 := (i8 60 40 (by omega)).trans ((xa_up_ne (by first | exact fun h => absurd h.1 (by decide) | exact fun h => absurd h.2 (by decide) | omega)).trans ((xa_up_ne (by first | exact fun h => absurd h.1 (by decide) | exact fun h => absurd h.2 (by decide) | omega)).trans (e40M114)))
          have e18M117 : M117 60 18 = 0 := (i8 60 18 (by omega)).trans ((xa_up_ne (by first | exact fun h => absurd h.1 (by decide) | exact fun h => absurd h.2 (by decide) | omega)).trans ((xa_up_ne (by first | exact fun h => absurd h.1 (by decide) | exact fun h => absurd h.2 (by decide) | omega)).trans (e18M114)))
          have e73M117 : ∀ i, 0 ≤ i → i < 80 → M117 73 i = M 73 i := fun i i0 i1 => (i8 73 i (by omega)).trans ((xa_up_ne (by first | exact fun h => absurd h.1 (by decide) | exact fun h => absurd h.2 (by decide) | omega)).trans ((xa_up_ne (by first | exact fun h => absurd h.1 (by decide) | exact fun h => absurd h.2 (by decide) | omega)).trans (e73M114 i i0 i1)))
          have aXM117 : ∀ i, 0 ≤ i → i < u → M117 88 i = M1 88 i ∧ M117 89 i = M1 89 i ∧ M117 90 i = M1 90 i := fun i i0 i1 => ⟨(i8 88 i (by omega)).trans ((xa_up_ne (by first | exact fun h => absurd h.1 (by decide) | exact fun h => absurd h.2 (by decide) | omega)).trans ((xa_up_ne (by first | exact fun h => absurd h.1 (by decide) | exact fun h => absurd h.2 (by decide) | omega)).trans ((aXM114 i i0 i1).1))), (i8 89 i (by omega)).trans ((xa_up_ne (by first | exact fun h => absurd h.1 (by decide) | exact fun h => absurd h.2 (by decide) | omega)).trans ((xa_up_ne (by first | exact fun h => absurd h.1 (by decide) | exact fun h => absurd h.2 (by decide) | omega)).trans ((aXM114 i i0 i1).2.1))), (i8 90 i (by omega)).trans ((xa_up_ne (by first | exact fun h => absurd h.1 (by decide) | exact fun h => absurd h.2 (by decide) | omega)).trans ((xa_up_ne (by first | exact fun h => absurd h.1 (by decide) | exact fun h => absurd h.2 (by decide) | omega)).trans ((aXM114 i i0 i1).2.2)))⟩
          have v88M117 : M117 88 u = r113 := (i8 88 u (by omega)).trans (by simp [xa_up])
          have pM117 : 0 ≤ M117 60 41 ∧ M117 60 41 + 1 < 80 := by omega
          have lM117 := i9.1
          clear i9
          have xM117 := xm_t73 hM (M117 60 41) (by omega) (by omega)
          have yM117 := e73M117 (M117 60 41) (by omega) (by omega)
          have tM117 := hT (M117 60 41) (by omega) (by omega)
          have xxM117 := xm_t73 hM (M117 60 41 + 1) (by omega) (by omega)
          have yyM117 := e73M117 (M117 60 41 + 1) (by omega) (by omega)
          have ttM117 := hT (M117 60 41 + 1) (by omega) (by omega)
          refine And.intro (show 0 ≤ u ∧ u < 8 by omega) ?_
          refine And.intro (show 0 ≤ u ∧ u < 8 by omega) ?_
          refine And.intro ?_ ?_
          · intro (c11 : (M117 60 42) = (-1))
            show xa_C xm_I A h0 _ 254 [(2, 60, 0, 0, 0)] (xa_up (xa_up M117 89 u r116) 90 u (-1)) _
            refine ct_here ?_
            intro r118 (i12 : ((M117 60 41) < (M117 60 40) ∧ (M117 60 41) < 60 ∧ r118 = M117 73 (M117 60 41)) ∨ (¬ ((M117 60 41) < (M117 60 40) ∧ (M117 60 41) < 60) ∧ r118 = -1))
            show xa_C xm_I A h0 _ 214 [(0, 0, (-128), 127, r118), (0, 0, 97, 97, 97), (0, 0, 122, 122, 122)] (xa_up (xa_up M117 89 u r116) 90 u (-1)) _
            refine ct_in ?_ ?_
            · intro (i13 : 97 ≤ r118 ∧ r118 ≤ 122)
              have j118 := bk_sg i12 e40M117 yM117 tM117 xM117 (Int.le_trans (by decide) i13.1)
              clear i12
              show xa_C xm_I A h0 _ 254 [(2, 60, 0, 0, 0)] (xa_up (xa_up M117 89 u r116) 90 u (-1)) _
              refine ct_here ?_
              intro r119 (i14 : ((M117 60 41) < (M117 60 40) ∧ (M117 60 41) < 60 ∧ r119 = M117 73 (M117 60 41)) ∨ (¬ ((M117 60 41) < (M117 60 40) ∧ (M117 60 41) < 60) ∧ r119 = -1))
              have j119 := bk_sg2 i14 e40M117 yM117 tM117 xM117 j118.1 j118.2.1 (by rw [j118.2.2]; exact Int.le_trans i13.2 (by decide))
              clear i14
              refine And.intro (show 0 ≤ u ∧ u < 8 by omega) ?_
              refine And.intro (show 0 ≤ ((M117 60 41) + 1) ∧ ((M117 60 41) + 1) ≤ 100 by omega) ?_
              show xa_C xm_I A h0 _ 254 [(2, 60, 0, 0, 0)] (xa_up (xa_up (xa_up (xa_up M117 89 u r116) 90 u (-1)) 90 u r119) 60 41 ((M117 60 41) + 1)) _
              refine ct_here ?_
              intro r120 (i15 : (((M117 60 41) + 1) < (M117 60 40) ∧ ((M117 60 41) + 1) < 60 ∧ r120 = M117 73 ((M117 60 41) + 1)) ∨ (¬ (((M117 60 41) + 1) < (M117 60 40) ∧ ((M117 60 41) + 1) < 60) ∧ r120 = -1))
              refine And.intro ?_ ?_
              · intro (c16 : ¬ r120 = 59)
                have n120 := bk_sg3 i15 e40M117 yyM117 ttM117 xxM117 (by decide) c16
                clear i15
                show Q 43 [(2, (0, 0, 0, 0, 0)), (1, (0, 0, 1, 9, u + 1)), (0, (2, 60, 0, 0, 0))] [] (xa_up (xa_up (xa_up (xa_up M117 89 u r116) 90 u (-1)) 90 u r119) 60 41 ((M117 60 41) + 1))
                have v1 : (xa_up (xa_up (xa_up (xa_up M117 89 u r116) 90 u (-1)) 90 u r119) 60 41 ((M117 60 41) + 1)) 88 u = r113 := (xa_up_ne (by first | exact fun h => absurd h.1 (by decide) | exact fun h => absurd h.2 (by decide) | omega)).trans ((xa_up_ne (by first | exact fun h => absurd h.1 (by decide) | exact fun h => absurd h.2 (by decide) | omega)).trans ((xa_up_ne (by first | exact fun h => absurd h.1 (by decide) | exact fun h => absurd h.2 (by decide) | omega)).trans ((xa_up_ne (by first | exact fun h => absurd h.1 (by decide) | exact fun h => absurd h.2 (by decide) | omega)).trans (v88M117))))
                have v2 : (xa_up (xa_up (xa_up (xa_up M117 89 u r116) 90 u (-1)) 90 u r119) 60 41 ((M117 60 41) + 1)) 89 u = r116 := (xa_up_ne (by first | exact fun h => absurd h.1 (by decide) | exact fun h => absurd h.2 (by decide) | omega)).trans ((xa_up_ne (by first | exact fun h => absurd h.1 (by decide) | exact fun h => absurd h.2 (by decide) | omega)).trans ((xa_up_ne (by first | exact fun h => absurd h.1 (by decide) | exact fun h => absurd h.2 (by decide) | omega)).trans (xa_up_eq)))
                have v3 : (xa_up (xa_up (xa_up (xa_up M117 89 u r116) 90 u (-1)) 90 u r119) 60 41 ((M117 60 41) + 1)) 90 u = r119 := (xa_up_ne (by first | exact fun h => absurd h.1 (by decide) | exact fun h => absurd h.2 (by decide) | omega)).trans (xa_up_eq)
                have gX : ∀ i, 0 ≤ i → i < u → (xa_up (xa_up (xa_up (xa_up M117 89 u r116) 90 u (-1)) 90 u r119) 60 41 ((M117 60 41) + 1)) 88 i = M1 88 i ∧ (xa_up (xa_up (xa_up (xa_up M117 89 u r116) 90 u (-1)) 90 u r119) 60 41 ((M117 60 41) + 1)) 89 i = M1 89 i ∧ bk_n ((xa_up (xa_up (xa_up (xa_up M117 89 u r116) 90 u (-1)) 90 u r119) 60 41 ((M117 60 41) + 1)) 90 i) = bk_n (M1 90 i) := fun i i0 i1 => ⟨(xa_up_ne (by first | exact fun h => absurd h.1 (by decide) | exact fun h => absurd h.2 (by decide) | omega)).trans ((xa_up_ne (by first | exact fun h => absurd h.1 (by decide) | exact fun h => absurd h.2 (by decide) | omega)).trans ((xa_up_ne (by first | exact fun h => absurd h.1 (by decide) | exact fun h => absurd h.2 (by decide) | omega)).trans ((xa_up_ne (by first | exact fun h => absurd h.1 (by decide) | exact fun h => absurd h.2 (by decide) | omega)).trans ((aXM117 i i0 i1).1)))), (xa_up_ne (by first | exact fun h => absurd h.1 (by decide) | exact fun h => absurd h.2 (by decide) | omega)).trans ((xa_up_ne (by first | exact fun h => absurd h.1 (by decide) | exact fun h => absurd h.2 (by decide) | omega)).trans ((xa_up_ne (by first | exact fun h => absurd h.1 (by decide) | exact fun h => absurd h.2 (by decide) | omega)).trans ((xa_up_ne (by first | exact fun h => absurd h.1 (by decide) | exact fun h => absurd h.2 (by decide) | omega)).trans ((aXM117 i i0 i1).2.1)))), congrArg bk_n ((xa_up_ne (by first | exact fun h => absurd h.1 (by decide) | exact fun h => absurd h.2 (by decide) | omega)).trans ((xa_up_ne (by first | exact fun h => absurd h.1 (by decide) | exact fun h => absurd h.2 (by decide) | omega)).trans ((xa_up_ne (by first | exact fun h => absurd h.1 (by decide) | exact fun h => absurd h.2 (by decide) | omega)).trans ((xa_up_ne (by first | exact fun h => absurd h.1 (by decide) | exact fun h => absurd h.2 (by decide) | omega)).trans ((aXM117 i i0 i1).2.2)))))⟩
                have K := bk_ln he3 hp0 h5 j115 i10 c11
                have hL : bk_L T e (M1 60 41) 1 ((xa_up (xa_up (xa_up (xa_up M117 89 u r116) 90 u (-1)) 90 u r119) 60 41 ((M117 60 41) + 1)) 88 u) ((xa_up (xa_up (xa_up (xa_up M117 89 u r116) 90 u (-1)) 90 u r119) 60 41 ((M117 60 41) + 1)) 89 u) (bk_n ((xa_up (xa_up (xa_up (xa_up M117 89 u r116) 90 u (-1)) 90 u r119) 60 41 ((M117 60 41) + 1)) 90 u)) ((M117 60 41) + 1) := by
                  rw [v1, v2, v3]
                  exact K.2 _ _ (Or.inl ⟨j118.1, j118.2.1, by rw [j118.2.2]; exact i13.1, by rw [j118.2.2]; exact i13.2, bk_nT j119 (by rw [← j119, j118.2.2]; exact Int.le_trans (by decide) i13.1), rfl⟩)
                have k9 := K.1
                have nn : ∀ i, 0 ≤ i → i < u + 1 → 1 ≤ (xa_up (xa_up (xa_up (xa_up M117 89 u r116) 90 u (-1)) 90 u r119) 60 41 ((M117 60 41) + 1)) 88 i ∧ 1 ≤ (xa_up (xa_up (xa_up (xa_up M117 89 u r116) 90 u (-1)) 90 u r119) 60 41 ((M117 60 41) + 1)) 89 i := fun i i0 i1 => by
                  by_cases ei : i = u
                  · rw [ei, v1, v2]
                    exact ⟨k9.1, k9.2.1⟩
                  · have g9 := gX i i0 (by omega)
                    rw [g9.1, g9.2.1]
                    exact hn i i0 (by omega)
                have l9 := j118
                have ha9 : 0 ≤ ((M117 60 41) + 1) ∧ ((M117 60 41) + 1) ≤ 60 := by omega
                obtain ⟨ans, A1, A2⟩ := bk_le he3 ha9 h1 (Or.inl n120)
                have hB1 := bk_B_end h1 (by omega) hA2 gX hL (Or.inr ⟨rfl, A1⟩)
                refine hgo.2.1 43 _ [(1, (0, 0, 0, 8, u + 1)), (2, (0, 0, 0, 1, 0)), (0, (2, 60, 0, 0, 0))] _ _ (xa_subI rfl rfl (fun _ _ _ _ => by omega) (xa_subI rfl rfl (fun _ _ _ _ => by omega) (xa_subR rfl (xa_sub0)))) ?_
                refine ih (u + 1) 0 _ (by omega) (by omega) (by omega) (fun h => by omega) (xm_c18_u (by omega) (xm_c18_u (by omega) (xm_c18_u (by omega) (xm_c18_u (by omega) (csM117))))) ((xa_up_ne (by first | exact fun h => absurd h.1 (by decide) | exact fun h => absurd h.2 (by decide) | omega)).trans ((xa_up_ne (by first | exact fun h => absurd h.1 (by decide) | exact fun h => absurd h.2 (by decide) | omega)).trans ((xa_up_ne (by first | exact fun h => absurd h.1 (by decide) | exact fun h => absurd h.2 (by decide) | omega)).trans ((xa_up_ne (by first | exact fun h => absurd h.1 (by decide) | exact fun h => absurd h.2 (by decide) | omega)).trans (e40M117))))) ((xa_up_ne (by first | exact fun h => absurd h.1 (by decide) | exact fun h => absurd h.2 (by decide) | omega)).trans ((xa_up_ne (by first | exact fun h => absurd h.1 (by decide) | exact fun h => absurd h.2 (by decide) | omega)).trans ((xa_up_ne (by first | exact fun h => absurd h.1 (by decide) | exact fun h => absurd h.2 (by decide) | omega)).trans ((xa_up_ne (by first | exact fun h => absurd h.1 (by decide) | exact fun h => absurd h.2 (by decide) | omega)).trans (e18M117))))) (by rw [xa_up_ne (by first | exact fun h => absurd h.1 (by decide) | exact fun h => absurd h.2 (by decide) | omega), xa_up_ne (by first | exact fun h => absurd h.1 (by decide) | exact fun h => absurd h.2 (by decide) | omega), xa_up_ne (by first | exact fun h => absurd h.1 (by decide) | exact fun h => absurd h.2 (by decide) | omega), xa_up_ne (by first | exact fun h => absurd h.1 (by decide) | exact fun h => absurd h.2 (by decide) | omega)]; omega) (fun i i0 i1 => (xa_up_ne (by first | exact fun h => absurd h.1 (by decide) | exact fun h => absurd h.2 (by decide) | omega)).trans ((xa_up_ne (by first | exact fun h => absurd h.1 (by decide) | exact fun h => absurd h.2 (by decide) | omega)).trans ((xa_up_ne (by first | exact fun h => absurd h.1 (by decide) | exact fun h => absurd h.2 (by decide) | omega)).trans ((xa_up_ne (by first | exact fun h => absurd h.1 (by decide) | exact fun h => absurd h.2 (by decide) | omega)).trans (e73M117 i i0 i1))))) nn (fun h => by omega) (fun h => absurd h (by omega)) (fun _ => ⟨ans, Or.inr ⟨by omega, by rw [← he]; exact hB1⟩, ?_⟩) (by omega)
                show (((M117 60 41) + 1) < M 60 18 ∧ ans = -1 - ((M117 60 41) + 1) ∧ ans < 0) ∨ (¬ ((M117 60 41) + 1) < M 60 18 ∧ ans = u + 1 ∧ 0 ≤ ans)
                exact A2
              · intro (c16 : r120 = 59)
                have j120 := bk_sgc i15 e40M117 yyM117 ttM117 xxM117 (by decide) c16
                clear i15
                refine And.intro ?_ ?_
                · intro (c17 : 8 ≤ (u + 1))
                  show Q 43 [(2, (0, 0, 0, 0, 0)), (1, (0, 0, 1, 9, u + 1)), (0, (2, 60, 0, 0, 0))] [] (xa_up (xa_up (xa_up (xa_up M117 89 u r116) 90 u (-1)) 90 u r119) 60 41 ((M117 60 41) + 1))
                  have v1 : (xa_up (xa_up (xa_up (xa_up M117 89 u r116) 90 u (-1)) 90 u r119) 60 41 ((M117 60 41) + 1)) 88 u = r113 := (xa_up_ne (by first | exact fun h => absurd h.1 (by decide) | exact fun h => absurd h.2 (by decide) | omega)).trans ((xa_up_ne (by first | exact fun h => absurd h.1 (by decide) | exact fun h => absurd h.2 (by decide) | omega)).trans ((xa_up_ne (by first | exact fun h => absurd h.1 (by decide) | exact fun h => absurd h.2 (by decide) | omega)).trans ((xa_up_ne (by first | exact fun h => absurd h.1 (by decide) | exact fun h => absurd h.2 (by decide) | omega)).trans (v88M117))))
                  have v2 : (xa_up (xa_up (xa_up (xa_up M117 89 u r116) 90 u (-1)) 90 u r119) 60 41 ((M117 60 41) + 1)) 89 u = r116 := (xa_up_ne (by first | exact fun h => absurd h.1 (by decide) | exact fun h => absurd h.2 (by decide) | omega)).trans ((xa_up_ne (by first | exact fun h => absurd h.1 (by decide) | exact fun h => absurd h.2 (by decide) | omega)).trans ((xa_up_ne (by first | exact fun h => absurd h.1 (by decide) | exact fun h => absurd h.2 (by decide) | omega)).trans (xa_up_eq)))
                  have v3 : (xa_up (xa_up (xa_up (xa_up M117 89 u r116) 90 u (-1)) 90 u r119) 60 41 ((M117 60 41) + 1)) 90 u = r119 := (xa_up_ne (by first | exact fun h => absurd h.1 (by decide) | exact fun h => absurd h.2 (by decide) | omega)).trans (xa_up_eq)
                  have gX : ∀ i, 0 ≤ i → i < u → (xa_up (xa_up (xa_up (xa_up M117 89 u r116) 90 u (-1)) 90 u r119) 60 41 ((M117 60 41) + 1)) 88 i = M1 88 i ∧ (xa_up (xa_up (xa_up (xa_up M117 89 u r116) 90 u (-1)) 90 u r119) 60 41 ((M117 60 41) + 1)) 89 i = M1 89 i ∧ bk_n ((xa_up (xa_up (xa_up (xa_up M117 89 u r116) 90 u (-1)) 90 u r119) 60 41 ((M117 60 41) + 1)) 90 i) = bk_n (M1 90 i) := fun i i0 i1 => ⟨(xa_up_ne (by first | exact fun h => absurd h.1 (by decide) | exact fun h => absurd h.2 (by decide) | omega)).trans ((xa_up_ne (by first | exact fun h => absurd h.1 (by decide) | exact fun h => absurd h.2 (by decide) | omega)).trans ((xa_up_ne (by first | exact fun h => absurd h.1 (by decide) | exact fun h => absurd h.2 (by decide) | omega)).trans ((xa_up_ne (by first | exact fun h => absurd h.1 (by decide) | exact fun h => absurd h.2 (by decide) | omega)).trans ((aXM117 i i0 i1).1)))), (xa_up_ne (by first | exact fun h => absurd h.1 (by decide) | exact fun h => absurd h.2 (by decide) | omega)).trans ((xa_up_ne (by first | exact fun h => absurd h.1 (by decide) | exact fun h => absurd h.2 (by decide) | omega)).trans ((xa_up_ne (by first | exact fun h => absurd h.1 (by decide) | exact fun h => absurd h.2 (by decide) | omega)).trans ((xa_up_ne (by first | exact fun h => absurd h.1 (by decide) | exact fun h => absurd h.2 (by decide) | omega)).trans ((aXM117 i i0 i1).2.1)))), congrArg bk_n ((xa_up_ne (by first | exact fun h => absurd h.1 (by decide) | exact fun h => absurd h.2 (by decide) | omega)).trans ((xa_up_ne (by first | exact fun h => absurd h.1 (by decide) | exact fun h => absurd h.2 (by decide) | omega)).trans ((xa_up_ne (by first | exact fun h => absurd h.1 (by decide) | exact fun h => absurd h.2 (by decide) | omega)).trans ((xa_up_ne (by first | exact fun h => absurd h.1 (by decide) | exact fun h => absurd h.2 (by decide) | omega)).trans ((aXM117 i i0 i1).2.2)))))⟩
                  have K := bk_ln he3 hp0 h5 j115 i10 c11
                  have hL : bk_L T e (M1 60 41) 1 ((xa_up (xa_up (xa_up (xa_up M117 89 u r116) 90 u (-1)) 90 u r119) 60 41 ((M117 60 41) + 1)) 88 u) ((xa_up (xa_up (xa_up (xa_up M117 89 u r116) 90 u (-1)) 90 u r119) 60 41 ((M117 60 41) + 1)) 89 u) (bk_n ((xa_up (xa_up (xa_up (xa_up M117 89 u r116) 90 u (-1)) 90 u r119) 60 41 ((M117 60 41) + 1)) 90 u)) ((M117 60 41) + 1) := by
                    rw [v1, v2, v3]
                    exact K.2 _ _ (Or.inl ⟨j118.1, j118.2.1, by rw [j118.2.2]; exact i13.1, by rw [j118.2.2]; exact i13.2, bk_nT j119 (by rw [← j119, j118.2.2]; exact Int.le_trans (by decide) i13.1), rfl⟩)
                  have k9 := K.1
                  have nn : ∀ i, 0 ≤ i → i < u + 1 → 1 ≤ (xa_up (xa_up (xa_up (xa_up M117 89 u r116) 90 u (-1)) 90 u r119) 60 41 ((M117 60 41) + 1)) 88 i ∧ 1 ≤ (xa_up (xa_up (xa_up (xa_up M117 89 u r116) 90 u (-1)) 90 u r119) 60 41 ((M117 60 41) + 1)) 89 i := fun i i0 i1 => by
                    by_cases ei : i = u
                    · rw [ei, v1, v2]
                      exact ⟨k9.1, k9.2.1⟩
                    · have g9 := gX i i0 (by omega)
                      rw [g9.1, g9.2.1]
                      exact hn i i0 (by omega)
                  have l9 := j118
                  have ha9 : 0 ≤ ((M117 60 41) + 1) ∧ ((M117 60 41) + 1) ≤ 60 := by omega
                  obtain ⟨ans, A1, A2⟩ := bk_le he3 ha9 h1 (Or.inr c17)
                  have hB1 := bk_B_end h1 (by omega) hA2 gX hL (Or.inr ⟨rfl, A1⟩)
                  refine hgo.2.1 43 _ [(1, (0, 0, 0, 8, u + 1)), (2, (0, 0, 0, 1, 0)), (0, (2, 60, 0, 0, 0))] _ _ (xa_subI rfl rfl (fun _ _ _ _ => by omega) (xa_subI rfl rfl (fun _ _ _ _ => by omega) (xa_subR rfl (xa_sub0)))) ?_
                  refine ih (u + 1) 0 _ (by omega) (by omega) (by omega) (fun h => by omega) (xm_c18_u (by omega) (xm_c18_u (by omega) (xm_c18_u (by omega) (xm_c18_u (by omega) (csM117))))) ((xa_up_ne (by first | exact fun h => absurd h.1 (by decide) | exact fun h => absurd h.2 (by decide) | omega)).trans ((xa_up_ne (by first | exact fun h => absurd h.1 (by decide) | exact fun h => absurd h.2 (by decide) | omega)).trans ((xa_up_ne (by first | exact fun h => absurd h.1 (by decide) | exact fun h => absurd h.2 (by decide) | omega)).trans ((xa_up_ne (by first | exact fun h => absurd h.1 (by decide) | exact fun h => absurd h.2 (by decide) | omega)).trans (e40M117))))) ((xa_up_ne (by first | exact fun h => absurd h.1 (by decide) | exact fun h => absurd h.2 (by decide) | omega)).trans ((xa_up_ne (by first | exact fun h => absurd h.1 (by decide) | exact fun h => absurd h.2 (by decide) | omega)).trans ((xa_up_ne (by first | exact fun h => absurd h.1 (by decide) | exact fun h => absurd h.2 (by decide) | omega)).trans ((xa_up_ne (by first | exact fun h => absurd h.1 (by decide) | exact fun h => absurd h.2 (by decide) | omega)).trans (e18M117))))) (by rw [xa_up_ne (by first | exact fun h => absurd h.1 (by decide) | exact fun h => absurd h.2 (by decide) | omega), xa_up_ne (by first | exact fun h => absurd h.1 (by decide) | exact fun h => absurd h.2 (by decide) | omega), xa_up_ne (by first | exact fun h => absurd h.1 (by decide) | exact fun h => absurd h.2 (by decide) | omega), xa_up_ne (by first | exact fun h => absurd h.1 (by decide) | exact fun h => absurd h.2 (by decide) | omega)]; omega) (fun i i0 i1 => (xa_up_ne (by first | exact fun h => absurd h.1 (by decide) | exact fun h => absurd h.2 (by decide) | omega)).trans ((xa_up_ne (by first | exact fun h => absurd h.1 (by decide) | exact fun h => absurd h.2 (by decide) | omega)).trans ((xa_up_ne (by first | exact fun h => absurd h.1 (by decide) | exact fun h => absurd h.2 (by decide) | omega)).trans ((xa_up_ne (by first | exact fun h => absurd h.1 (by decide) | exact fun h => absurd h.2 (by decide) | omega)).trans (e73M117 i i0 i1))))) nn (fun h => by omega) (fun h => absurd h (by omega)) (fun _ => ⟨ans, Or.inr ⟨by omega, by rw [← he]; exact hB1⟩, ?_⟩) (by omega)
                  show (((M117 60 41) + 1) < M 60 18 ∧ ans = -1 - ((M117 60 41) + 1) ∧ ans < 0) ∨ (¬ ((M117 60 41) + 1) < M 60 18 ∧ ans = u + 1 ∧ 0 ≤ ans)
                  exact A2
                · intro (c17 : (u + 1) < 8)
                  refine And.intro (show 0 ≤ (((M117 60 41) + 1) + 1) ∧ (((M117 60 41) + 1) + 1) ≤ 100 by omega) ?_
                  show Q 43 [(2, (0, 0, 1, 1, 1)), (1, (0, 0, 1, 9, u + 1)), (0, (2, 60, 0, 0, 0))] [] (xa_up (xa_up (xa_up (xa_up (xa_up M117 89 u r116) 90 u (-1)) 90 u r119) 60 41 ((M117 60 41) + 1)) 60 41 (((M117 60 41) + 1) + 1))
                  have v1 : (xa_up (xa_up (xa_up (xa_up (xa_up M117 89 u r116) 90 u (-1)) 90 u r119) 60 41 ((M117 60 41) + 1)) 60 41 (((M117 60 41) + 1) + 1)) 88 u = r113 := (xa_up_ne (by first | exact fun h => absurd h.1 (by decide) | exact fun h => absurd h.2 (by decide) | omega)).trans ((xa_up_ne (by first | exact fun h => absurd h.1 (by decide) | exact fun h => absurd h.2 (by decide) | omega)).trans ((xa_up_ne (by first | exact fun h => absurd h.1 (by decide) | exact fun h => absurd h.2 (by decide) | omega)).trans ((xa_up_ne (by first | exact fun h => absurd h.1 (by decide) | exact fun h => absurd h.2 (by decide) | omega)).trans ((xa_up_ne (by first | exact fun h => absurd h.1 (by decide) | exact fun h => absurd h.2 (by decide) | omega)).trans (v88M117)))))
                  have v2 : (xa_up (xa_up (xa_up (xa_up (xa_up M117 89 u r116) 90 u (-1)) 90 u r119) 60 41 ((M117 60 41) + 1)) 60 41 (((M117 60 41) + 1) + 1)) 89 u = r116 := (xa_up_ne (by first | exact fun h => absurd h.1 (by decide) | exact fun h => absurd h.2 (by decide) | omega)).trans ((xa_up_ne (by first | exact fun h => absurd h.1 (by decide) | exact fun h => absurd h.2 (by decide) | omega)).trans ((xa_up_ne (by first | exact fun h => absurd h.1 (by decide) | exact fun h => absurd h.2 (by decide) | omega)).trans ((xa_up_ne (by first | exact fun h => absurd h.1 (by decide) | exact fun h => absurd h.2 (by decide) | omega)).trans (xa_up_eq))))
                  have v3 : (xa_up (xa_up (xa_up (xa_up (xa_up M117 89 u r116) 90 u (-1)) 90 u r119) 60 41 ((M117 60 41) + 1)) 60 41 (((M117 60 41) + 1) + 1)) 90 u = r119 := (xa_up_ne (by first | exact fun h => absurd h.1 (by decide) | exact fun h => absurd h.2 (by decide) | omega)).trans ((xa_up_ne (by first | exact fun h => absurd h.1 (by decide) | exact fun h => absurd h.2 (by decide) | omega)).trans (xa_up_eq))
                  have gX : ∀ i, 0 ≤ i → i < u → (xa_up (xa_up (xa_up (xa_up (xa_up M117 89 u r116) 90 u (-1)) 90 u r119) 60 41 ((M117 60 41) + 1)) 60 41 (((M117 60 41) + 1) + 1)) 88 i = M1 88 i ∧ (xa_up (xa_up (xa_up (xa_up (xa_up M117 89 u r116) 90 u (-1)) 90 u r119) 60 41 ((M117 60 41) + 1)) 60 41 (((M117 60 41) + 1) + 1)) 89 i = M1 89 i ∧ bk_n ((xa_up (xa_up (xa_up (xa_up (xa_up M117 89 u r116) 90 u (-1)) 90 u r119) 60 41 ((M117 60 41) + 1)) 60 41 (((M117 60 41) + 1) + 1)) 90 i) = bk_n (M1 90 i) := fun i i0 i1 => ⟨(xa_up_ne (by first | exact fun h => absurd h.1 (by decide) | exact fun h => absurd h.2 (by decide) | omega)).trans ((xa_up_ne (by first | exact fun h => absurd h.1 (by decide) | exact fun h => absurd h.2 (by decide) | omega)).trans ((xa_up_ne (by first | exact fun h => absurd h.1 (by decide) | exact fun h => absurd h.2 (by decide) | omega)).trans ((xa_up_ne (by first | exact fun h => absurd h.1 (by decide) | exact fun h => absurd h.2 (by decide) | omega)).trans ((xa_up_ne (by first | exact fun h => absurd h.1 (by decide) | exact fun h => absurd h.2 (by decide) | omega)).trans ((aXM117 i i0 i1).1))))), (xa_up_ne (by first | exact fun h => absurd h.1 (by decide) | exact fun h => absurd h.2 (by decide) | omega)).trans ((xa_up_ne (by first | exact fun h => absurd h.1 (by decide) | exact fun h => absurd h.2 (by decide) | omega)).trans ((xa_up_ne (by first | exact fun h => absurd h.1 (by decide) | exact fun h => absurd h.2 (by decide) | omega)).trans ((xa_up_ne (by first | exact fun h => absurd h.1 (by decide) | exact fun h => absurd h.2 (by decide) | omega)).trans ((xa_up_ne (by first | exact fun h => absurd h.1 (by decide) | exact fun h => absurd h.2 (by decide) | omega)).trans ((aXM117 i i0 i1).2.1))))), congrArg bk_n ((xa_up_ne (by first | exact fun h => absurd h.1 (by decide) | exact fun h => absurd h.2 (by decide) | omega)).trans ((xa_up_ne (by first | exact fun h => absurd h.1 (by decide) | exact fun h => absurd h.2 (by decide) | omega)).trans ((xa_up_ne (by first | exact fun h => absurd h.1 (by decide) | exact fun h => absurd h.2 (by decide) | omega)).trans ((xa_up_ne (by first | exact fun h => absurd h.1 (by decide) | exact fun h => absurd h.2 (by decide) | omega)).trans ((xa_up_ne (by first | exact fun h => absurd h.1 (by decide) | exact fun h => absurd h.2 (by decide) | omega)).trans ((aXM117 i i0 i1).2.2))))))⟩
                  have K := bk_ln he3 hp0 h5 j115 i10 c11
                  have hL : bk_L T e (M1 60 41) 1 ((xa_up (xa_up (xa_up (xa_up (xa_up M117 89 u r116) 90 u (-1)) 90 u r119) 60 41 ((M117 60 41) + 1)) 60 41 (((M117 60 41) + 1) + 1)) 88 u) ((xa_up (xa_up (xa_up (xa_up (xa_up M117 89 u r116) 90 u (-1)) 90 u r119) 60 41 ((M117 60 41) + 1)) 60 41 (((M117 60 41) + 1) + 1)) 89 u) (bk_n ((xa_up (xa_up (xa_up (xa_up (xa_up M117 89 u r116) 90 u (-1)) 90 u r119) 60 41 ((M117 60 41) + 1)) 60 41 (((M117 60 41) + 1) + 1)) 90 u)) ((M117 60 41) + 1) := by
                    rw [v1, v2, v3]
                    exact K.2 _ _ (Or.inl ⟨j118.1, j118.2.1, by rw [j118.2.2]; exact i13.1, by rw [j118.2.2]; exact i13.2, bk_nT j119 (by rw [← j119, j118.2.2]; exact Int.le_trans (by decide) i13.1), rfl⟩)
                  have k9 := K.1
                  have nn : ∀ i, 0 ≤ i → i < u + 1 → 1 ≤ (xa_up (xa_up (xa_up (xa_up (xa_up M117 89 u r116) 90 u (-1)) 90 u r119) 60 41 ((M117 60 41) + 1)) 60 41 (((M117 60 41) + 1) + 1)) 88 i ∧ 1 ≤ (xa_up (xa_up (xa_up (xa_up (xa_up M117 89 u r116) 90 u (-1)) 90 u r119) 60 41 ((M117 60 41) + 1)) 60 41 (((M117 60 41) + 1) + 1)) 89 i := fun i i0 i1 => by
                    by_cases ei : i = u
                    · rw [ei, v1, v2]
                      exact ⟨k9.1, k9.2.1⟩
                    · have g9 := gX i i0 (by omega)
                      rw [g9.1, g9.2.1]
                      exact hn i i0 (by omega)
                  have l8 := j120
                  have nx := bk_B_next h1 (by omega) hA2 gX hL (by omega) l8.2.2
                  have a5 : (xa_up (xa_up (xa_up (xa_up (xa_up M117 89 u r116) 90 u (-1)) 90 u r119) 60 41 ((M117 60 41) + 1)) 60 41 (((M117 60 41) + 1) + 1)) 60 41 = ((M117 60 41) + 1) + 1 := xa_up_eq
                  refine hgo.2.1 43 _ [(1, (0, 0, 0, 8, u + 1)), (2, (0, 0, 0, 1, 1)), (0, (2, 60, 0, 0, 0))] _ _ (xa_subI rfl rfl (fun _ _ _ _ => by omega) (xa_subI rfl rfl (fun _ _ _ _ => by omega) (xa_subR rfl (xa_sub0)))) ?_
                  exact ih (u + 1) 1 _ (by omega) (by omega) (by omega) (fun h => by omega) (xm_c18_u (by omega) (xm_c18_u (by omega) (xm_c18_u (by omega) (xm_c18_u (by omega) (xm_c18_u (by omega) (csM117)))))) ((xa_up_ne (by first | exact fun h => absurd h.1 (by decide) | exact fun h => absurd h.2 (by decide) | omega)).trans ((xa_up_ne (by first | exact fun h => absurd h.1 (by decide) | exact fun h => absurd h.2 (by decide) | omega)).trans ((xa_up_ne (by first | exact fun h => absurd h.1 (by decide) | exact fun h => absurd h.2 (by decide) | omega)).trans ((xa_up_ne (by first | exact fun h => absurd h.1 (by decide) | exact fun h => absurd h.2 (by decide) | omega)).trans ((xa_up_ne (by first | exact fun h => absurd h.1 (by decide) | exact fun h => absurd h.2 (by decide) | omega)).trans (e40M117)))))) ((xa_up_ne (by first | exact fun h => absurd h.1 (by decide) | exact fun h => absurd h.2 (by decide) | omega)).trans ((xa_up_ne (by first | exact fun h => absurd h.1 (by decide) | exact fun h => absurd h.2 (by decide) | omega)).trans ((xa_up_ne (by first | exact fun h => absurd h.1 (by decide) | exact fun h => absurd h.2 (by decide) | omega)).trans ((xa_up_ne (by first | exact fun h => absurd h.1 (by decide) | exact fun h => absurd h.2 (by decide) | omega)).trans ((xa_up_ne (by first | exact fun h => absurd h.1 (by decide) | exact fun h => absurd h.2 (by decide) | omega)).trans (e18M117)))))) (by rw [xa_up_ne (by first | exact fun h => absurd h.1 (by decide) | exact fun h => absurd h.2 (by decide) | omega), xa_up_ne (by first | exact fun h => absurd h.1 (by decide) | exact fun h => absurd h.2 (by decide) | omega), xa_up_ne (by first | exact fun h => absurd h.1 (by decide) | exact fun h => absurd h.2 (by decide) | omega), xa_up_ne (by first | exact fun h => absurd h.1 (by decide) | exact fun h => absurd h.2 (by decide) | omega), xa_up_ne (by first | exact fun h => absurd h.1 (by decide) | exact fun h => absurd h.2 (by decide) | omega)]; omega) (fun i i0 i1 => (xa_up_ne (by first | exact fun h => absurd h.1 (by decide) | exact fun h => absurd h.2 (by decide) | omega)).trans ((xa_up_ne (by first | exact fun h => absurd h.1 (by decide) | exact fun h => absurd h.2 (by decide) | omega)).trans ((xa_up_ne (by first | exact fun h => absurd h.1 (by decide) | exact fun h => absurd h.2 (by decide) | omega)).trans ((xa_up_ne (by first | exact fun h => absurd h.1 (by decide) | exact fun h => absurd h.2 (by decide) | omega)).trans ((xa_up_ne (by first | exact fun h => absurd h.1 (by decide) | exact fun h => absurd h.2 (by decide) | omega)).trans (e73M117 i i0 i1)))))) nn (fun _ => by rw [a5]; omega) (fun _ => by rw [a5]; exact nx) (fun h => absurd h (by omega)) (by omega)
            · intro (i18 : ¬ (97 ≤ r118 ∧ r118 ≤ 122))
              have n118 := bk_sg4 i12 e40M117 yM117 tM117 xM117 i18
              clear i12
              show xa_C xm_I A h0 _ 254 [(2, 60, 0, 0, 0)] (xa_up (xa_up M117 89 u r116) 90 u (-1)) _
              refine ct_here ?_
              intro r121 (i19 : ((M117 60 41) < (M117 60 40) ∧ (M117 60 41) < 60 ∧ r121 = M117 73 (M117 60 41)) ∨ (¬ ((M117 60 41) < (M117 60 40) ∧ (M117 60 41) < 60) ∧ r121 = -1))
              refine And.intro ?_ ?_
              · intro (c20 : ¬ r121 = 59)
                have n121 := bk_sg3 i19 e40M117 yM117 tM117 xM117 (by decide) c20
                clear i19
                show Q 43 [(2, (0, 0, 0, 0, 0)), (1, (0, 0, 1, 9, u + 1)), (0, (2, 60, 0, 0, 0))] [] (xa_up (xa_up M117 89 u r116) 90 u (-1))
                have v1 : (xa_up (xa_up M117 89 u r116) 90 u (-1)) 88 u = r113 := (xa_up_ne (by first | exact fun h => absurd h.1 (by decide) | exact fun h => absurd h.2 (by decide) | omega)).trans ((xa_up_ne (by first | exact fun h => absurd h.1 (by decide) | exact fun h => absurd h.2 (by decide) | omega)).trans (v88M117))
                have v2 : (xa_up (xa_up M117 89 u r116) 90 u (-1)) 89 u = r116 := (xa_up_ne (by first | exact fun h => absurd h.1 (by decide) | exact fun h => absurd h.2 (by decide) | omega)).trans (xa_up_eq)
                have v3 : (xa_up (xa_up M117 89 u r116) 90 u (-1)) 90 u = (-1) := xa_up_eq
                have gX : ∀ i, 0 ≤ i → i < u → (xa_up (xa_up M117 89 u r116) 90 u (-1)) 88 i = M1 88 i ∧ (xa_up (xa_up M117 89 u r116) 90 u (-1)) 89 i = M1 89 i ∧ bk_n ((xa_up (xa_up M117 89 u r116) 90 u (-1)) 90 i) = bk_n (M1 90 i) := fun i i0 i1 => ⟨(xa_up_ne (by first | exact fun h => absurd h.1 (by decide) | exact fun h => absurd h.2 (by decide) | omega)).trans ((xa_up_ne (by first | exact fun h => absurd h.1 (by decide) | exact fun h => absurd h.2 (by decide) | omega)).trans ((aXM117 i i0 i1).1)), (xa_up_ne (by first | exact fun h => absurd h.1 (by decide) | exact fun h => absurd h.2 (by decide) | omega)).trans ((xa_up_ne (by first | exact fun h => absurd h.1 (by decide) | exact fun h => absurd h.2 (by decide) | omega)).trans ((aXM117 i i0 i1).2.1)), congrArg bk_n ((xa_up_ne (by first | exact fun h => absurd h.1 (by decide) | exact fun h => absurd h.2 (by decide) | omega)).trans ((xa_up_ne (by first | exact fun h => absurd h.1 (by decide) | exact fun h => absurd h.2 (by decide) | omega)).trans ((aXM117 i i0 i1).2.2)))⟩
                have K := bk_ln he3 hp0 h5 j115 i10 c11
                have hL : bk_L T e (M1 60 41) 1 ((xa_up (xa_up M117 89 u r116) 90 u (-1)) 88 u) ((xa_up (xa_up M117 89 u r116) 90 u (-1)) 89 u) (bk_n ((xa_up (xa_up M117 89 u r116) 90 u (-1)) 90 u)) (M117 60 41) := by
                  rw [v1, v2, v3]
                  exact K.2 _ _ (Or.inr ⟨n118, bk_n1, rfl⟩)
                have k9 := K.1
                have nn : ∀ i, 0 ≤ i → i < u + 1 → 1 ≤ (xa_up (xa_up M117 89 u r116) 90 u (-1)) 88 i ∧ 1 ≤ (xa_up (xa_up M117 89 u r116) 90 u (-1)) 89 i := fun i i0 i1 => by
                  by_cases ei : i = u
                  · rw [ei, v1, v2]
                    exact ⟨k9.1, k9.2.1⟩
                  · have g9 := gX i i0 (by omega)
                    rw [g9.1, g9.2.1]
                    exact hn i i0 (by omega)
                have ha9 : 0 ≤ (M117 60 41) ∧ (M117 60 41) ≤ 60 := by omega
                obtain ⟨ans, A1, A2⟩ := bk_le he3 ha9 h1 (Or.inl n121)
                have hB1 := bk_B_end h1 (by omega) hA2 gX hL (Or.inr ⟨rfl, A1⟩)
                refine hgo.2.1 43 _ [(1, (0, 0, 0, 8, u + 1)), (2, (0, 0, 0, 1, 0)), (0, (2, 60, 0, 0, 0))] _ _ (xa_subI rfl rfl (fun _ _ _ _ => by omega) (xa_subI rfl rfl (fun _ _ _ _ => by omega) (xa_subR rfl (xa_sub0)))) ?_
                refine ih (u + 1) 0 _ (by omega) (by omega) (by omega) (fun h => by omega) (xm_c18_u (by omega) (xm_c18_u (by omega) (csM117))) ((xa_up_ne (by first | exact fun h => absurd h.1 (by decide) | exact fun h => absurd h.2 (by decide) | omega)).trans ((xa_up_ne (by first | exact fun h => absurd h.1 (by decide) | exact fun h => absurd h.2 (by decide) | omega)).trans (e40M117))) ((xa_up_ne (by first | exact fun h => absurd h.1 (by decide) | exact fun h => absurd h.2 (by decide) | omega)).trans ((xa_up_ne (by first | exact fun h => absurd h.1 (by decide) | exact fun h => absurd h.2 (by decide) | omega)).trans (e18M117))) (by rw [xa_up_ne (by first | exact fun h => absurd h.1 (by decide) | exact fun h => absurd h.2 (by decide) | omega), xa_up_ne (by first | exact fun h => absurd h.1 (by decide) | exact fun h => absurd h.2 (by decide) | omega)]; omega) (fun i i0 i1 => (xa_up_ne (by first | exact fun h => absurd h.1 (by decide) | exact fun h => absurd h.2 (by decide) | omega)).trans ((xa_up_ne (by first | exact fun h => absurd h.1 (by decide) | exact fun h => absurd h.2 (by decide) | omega)).trans (e73M117 i i0 i1))) nn (fun h => by omega) (fun h => absurd h (by omega)) (fun _ => ⟨ans, Or.inr ⟨by omega, by rw [← he]; exact hB1⟩, ?_⟩) (by omega)
                show ((M117 60 41) < M 60 18 ∧ ans = -1 - (M117 60 41) ∧ ans < 0) ∨ (¬ (M117 60 41) < M 60 18 ∧ ans = u + 1 ∧ 0 ≤ ans)
                exact A2
              · intro (c20 : r121 = 59)
                have j121 := bk_sgc i19 e40M117 yM117 tM117 xM117 (by decide) c20
                clear i19
                refine And.intro ?_ ?_
                · intro (c21 : 8 ≤ (u + 1))
                  show Q 43 [(2, (0, 0, 0, 0, 0)), (1, (0, 0, 1, 9, u + 1)), (0, (2, 60, 0, 0, 0))] [] (xa_up (xa_up M117 89 u r116) 90 u (-1))
                  have v1 : (xa_up (xa_up M117 89 u r116) 90 u (-1)) 88 u = r113 := (xa_up_ne (by first | exact fun h => absurd h.1 (by decide) | exact fun h => absurd h.2 (by decide) | omega)).trans ((xa_up_ne (by first | exact fun h => absurd h.1 (by decide) | exact fun h => absurd h.2 (by decide) | omega)).trans (v88M117))
                  have v2 : (xa_up (xa_up M117 89 u r116) 90 u (-1)) 89 u = r116 := (xa_up_ne (by first | exact fun h => absurd h.1 (by decide) | exact fun h => absurd h.2 (by decide) | omega)).trans (xa_up_eq)
                  have v3 : (xa_up (xa_up M117 89 u r116) 90 u (-1)) 90 u = (-1) := xa_up_eq
                  have gX : ∀ i, 0 ≤ i → i < u → (xa_up (xa_up M117 89 u r116) 90 u (-1)) 88 i = M1 88 i ∧ (xa_up (xa_up M117 89 u r116) 90 u (-1)) 89 i = M1 89 i ∧ bk_n ((xa_up (xa_up M117 89 u r116) 90 u (-1)) 90 i) = bk_n (M1 90 i) := fun i i0 i1 => ⟨(xa_up_ne (by first | exact fun h => absurd h.1 (by decide) | exact fun h => absurd h.2 (by decide) | omega)).trans ((xa_up_ne (by first | exact fun h => absurd h.1 (by decide) | exact fun h => absurd h.2 (by decide) | omega)).trans ((aXM117 i i0 i1).1)), (xa_up_ne (by first | exact fun h => absurd h.1 (by decide) | exact fun h => absurd h.2 (by decide) | omega)).trans ((xa_up_ne (by first | exact fun h => absurd h.1 (by decide) | exact fun h => absurd h.2 (by decide) | omega)).trans ((aXM117 i i0 i1).2.1)), congrArg bk_n ((xa_up_ne (by first | exact fun h => absurd h.1 (by decide) | exact fun h => absurd h.2 (by decide) | omega)).trans ((xa_up_ne (by first | exact fun h => absurd h.1 (by decide) | exact fun h => absurd h.2 (by decide) | omega)).trans ((aXM117 i i0 i1).2.2)))⟩
                  have K := bk_ln he3 hp0 h5 j115 i10 c11
                  have hL : bk_L T e (M1 60 41) 1 ((xa_up (xa_up M117 89 u r116) 90 u (-1)) 88 u) ((xa_up (xa_up M117 89 u r116) 90 u (-1)) 89 u) (bk_n ((xa_up (xa_up M117 89 u r116) 90 u (-1)) 90 u)) (M117 60 41) := by
                    rw [v1, v2, v3]
                    exact K.2 _ _ (Or.inr ⟨n118, bk_n1, rfl⟩)
                  have k9 := K.1
                  have nn : ∀ i, 0 ≤ i → i < u + 1 → 1 ≤ (xa_up (xa_up M117 89 u r116) 90 u (-1)) 88 i ∧ 1 ≤ (xa_up (xa_up M117 89 u r116) 90 u (-1)) 89 i := fun i i0 i1 => by
                    by_cases ei : i = u
                    · rw [ei, v1, v2]
                      exact ⟨k9.1, k9.2.1⟩
                    · have g9 := gX i i0 (by omega)
                      rw [g9.1, g9.2.1]
                      exact hn i i0 (by omega)
                  have ha9 : 0 ≤ (M117 60 41) ∧ (M117 60 41) ≤ 60 := by omega
                  obtain ⟨ans, A1, A2⟩ := bk_le he3 ha9 h1 (Or.inr c21)
                  have hB1 := bk_B_end h1 (by omega) hA2 gX hL (Or.inr ⟨rfl, A1⟩)
                  refine hgo.2.1 43 _ [(1, (0, 0, 0, 8, u + 1)), (2, (0, 0, 0, 1, 0)), (0, (2, 60, 0, 0, 0))] _ _ (xa_subI rfl rfl (fun _ _ _ _ => by omega) (xa_subI rfl rfl (fun _ _ _ _ => by omega) (xa_subR rfl (xa_sub0)))) ?_
                  refine ih (u + 1) 0 _ (by omega) (by omega) (by omega) (fun h => by omega) (xm_c18_u (by omega) (xm_c18_u (by omega) (csM117))) ((xa_up_ne (by first | exact fun h => absurd h.1 (by decide) | exact fun h => absurd h.2 (by decide) | omega)).trans ((xa_up_ne (by first | exact fun h => absurd h.1 (by decide) | exact fun h => absurd h.2 (by decide) | omega)).trans (e40M117))) ((xa_up_ne (by first | exact fun h => absurd h.1 (by decide) | exact fun h => absurd h.2 (by decide) | omega)).trans ((xa_up_ne (by first | exact fun h => absurd h.1 (by decide) | exact fun h => absurd h.2 (by decide) | omega)).trans (e18M117))) (by rw [xa_up_ne (by first | exact fun h => absurd h.1 (by decide) | exact fun h => absurd h.2 (by decide) | omega), xa_up_ne (by first | exact fun h => absurd h.1 (by decide) | exact fun h => absurd h.2 (by decide) | omega)]; omega) (fun i i0 i1 => (xa_up_ne (by first | exact fun h => absurd h.1 (by decide) | exact fun h => absurd h.2 (by decide) | omega)).trans ((xa_up_ne (by first | exact fun h => absurd h.1 (by decide) | exact fun h => absurd h.2 (by decide) | omega)).trans (e73M117 i i0 i1))) nn (fun h => by omega) (fun h => absurd h (by omega)) (fun _ => ⟨ans, Or.inr ⟨by omega, by rw [← he]; exact hB1⟩, ?_⟩) (by omega)
                  show ((M117 60 41) < M 60 18 ∧ ans = -1 - (M117 60 41) ∧ ans < 0) ∨ (¬ (M117 60 41) < M 60 18 ∧ ans = u + 1 ∧ 0 ≤ ans)
                  exact A2
                · intro (c21 : (u + 1) < 8)
                  refine And.intro (show 0 ≤ ((M117 60 41) + 1) ∧ ((M117 60 41) + 1) ≤ 100 by omega) ?_
                  show Q 43 [(2, (0, 0, 1, 1, 1)), (1, (0, 0, 1, 9, u + 1)), (0, (2, 60, 0, 0, 0))] [] (xa_up (xa_up (xa_up M117 89 u r116) 90 u (-1)) 60 41 ((M117 60 41) + 1))
                  have v1 : (xa_up (xa_up (xa_up M117 89 u r116) 90 u (-1)) 60 41 ((M117 60 41) + 1)) 88 u = r113 := (xa_up_ne (by first | exact fun h => absurd h.1 (by decide) | exact fun h => absurd h.2 (by decide) | omega)).trans ((xa_up_ne (by first | exact fun h => absurd h.1 (by decide) | exact fun h => absurd h.2 (by decide) | omega)).trans ((xa_up_ne (by first | exact fun h => absurd h.1 (by decide) | exact fun h => absurd h.2 (by decide) | omega)).trans (v88M117)))
                  have v2 : (xa_up (xa_up (xa_up M117 89 u r116) 90 u (-1)) 60 41 ((M117 60 41) + 1)) 89 u = r116 := (xa_up_ne (by first | exact fun h => absurd h.1 (by decide) | exact fun h => absurd h.2 (by decide) | omega)).trans ((xa_up_ne (by first | exact fun h => absurd h.1 (by decide) | exact fun h => absurd h.2 (by decide) | omega)).trans (xa_up_eq))
                  have v3 : (xa_up (xa_up (xa_up M117 89 u r116) 90 u (-1)) 60 41 ((M117 60 41) + 1)) 90 u = (-1) := (xa_up_ne (by first | exact fun h => absurd h.1 (by decide) | exact fun h => absurd h.2 (by decide) | omega)).trans (xa_up_eq)
                  have gX : ∀ i, 0 ≤ i → i < u → (xa_up (xa_up (xa_up M117 89 u r116) 90 u (-1)) 60 41 ((M117 60 41) + 1)) 88 i = M1 88 i ∧ (xa_up (xa_up (xa_up M117 89 u r116) 90 u (-1)) 60 41 ((M117 60 41) + 1)) 89 i = M1 89 i ∧ bk_n ((xa_up (xa_up (xa_up M117 89 u r116) 90 u (-1)) 60 41 ((M117 60 41) + 1)) 90 i) = bk_n (M1 90 i) := fun i i0 i1 => ⟨(xa_up_ne (by first | exact fun h => absurd h.1 (by decide) | exact fun h => absurd h.2 (by decide) | omega)).trans ((xa_up_ne (by first | exact fun h => absurd h.1 (by decide) | exact fun h => absurd h.2 (by decide) | omega)).trans ((xa_up_ne (by first | exact fun h => absurd h.1 (by decide) | exact fun h => absurd h.2 (by decide) | omega)).trans ((aXM117 i i0 i1).1))), (xa_up_ne (by first | exact fun h => absurd h.1 (by decide) | exact fun h => absurd h.2 (by decide) | omega)).trans ((xa_up_ne (by first | exact fun h => absurd h.1 (by decide) | exact fun h => absurd h.2 (by decide) | omega)).trans ((xa_up_ne (by first | exact fun h => absurd h.1 (by decide) | exact fun h => absurd h.2 (by decide) | omega)).trans ((aXM117 i i0 i1).2.1))), congrArg bk_n ((xa_up_ne (by first | exact fun h => absurd h.1 (by decide) | exact fun h => absurd h.2 (by decide) | omega)).trans ((xa_up_ne (by first | exact fun h => absurd h.1 (by decide) | exact fun h => absurd h.2 (by decide) | omega)).trans ((xa_up_ne (by first | exact fun h => absurd h.1 (by decide) | exact fun h => absurd h.2 (by decide) | omega)).trans ((aXM117 i i0 i1).2.2))))⟩
                  have K := bk_ln he3 hp0 h5 j115 i10 c11
                  have hL : bk_L T e (M1 60 41) 1 ((xa_up (xa_up (xa_up M117 89 u r116) 90 u (-1)) 60 41 ((M117 60 41) + 1)) 88 u) ((xa_up (xa_up (xa_up M117 89 u r116) 90 u (-1)) 60 41 ((M117 60 41) + 1)) 89 u) (bk_n ((xa_up (xa_up (xa_up M117 89 u r116) 90 u (-1)) 60 41 ((M117 60 41) + 1)) 90 u)) (M117 60 41) := by
                    rw [v1, v2, v3]
                    exact K.2 _ _ (Or.inr ⟨n118, bk_n1, rfl⟩)
                  have k9 := K.1
                  have nn : ∀ i, 0 ≤ i → i < u + 1 → 1 ≤ (xa_up (xa_up (xa_up M117 89 u r116) 90 u (-1)) 60 41 ((M117 60 41) + 1)) 88 i ∧ 1 ≤ (xa_up (xa_up (xa_up M117 89 u r116) 90 u (-1)) 60 41 ((M117 60 41) + 1)) 89 i := fun i i0 i1 => by
                    by_cases ei : i = u
                    · rw [ei, v1, v2]
                      exact ⟨k9.1, k9.2.1⟩
                    · have g9 := gX i i0 (by omega)
                      rw [g9.1, g9.2.1]
                      exact hn i i0 (by omega)
                  have l8 := j121
                  have nx := bk_B_next h1 (by omega) hA2 gX hL (by omega) l8.2.2
                  have a5 : (xa_up (xa_up (xa_up M117 89 u r116) 90 u (-1)) 60 41 ((M117 60 41) + 1)) 60 41 = (M117 60 41) + 1 := xa_up_eq
                  refine hgo.2.1 43 _ [(1, (0, 0, 0, 8, u + 1)), (2, (0, 0, 0, 1, 1)), (0, (2, 60, 0, 0, 0))] _ _ (xa_subI rfl rfl (fun _ _ _ _ => by omega) (xa_subI rfl rfl (fun _ _ _ _ => by omega) (xa_subR rfl (xa_sub0)))) ?_
                  exact ih (u + 1) 1 _ (by omega) (by omega) (by omega) (fun h => by omega) (xm_c18_u (by omega) (xm_c18_u (by omega) (xm_c18_u (by omega) (csM117)))) ((xa_up_ne (by first | exact fun h => absurd h.1 (by decide) | exact fun h => absurd h.2 (by decide) | omega)).trans ((xa_up_ne (by first | exact fun h => absurd h.1 (by decide) | exact fun h => absurd h.2 (by decide) | omega)).trans ((xa_up_ne (by first | exact fun h => absurd h.1 (by decide) | exact fun h => absurd h.2 (by decide) | omega)).trans (e40M117)))) ((xa_up_ne (by first | exact fun h => absurd h.1 (by decide) | exact fun h => absurd h.2 (by decide) | omega)).trans ((xa_up_ne (by first | exact fun h => absurd h.1 (by decide) | exact fun h => absurd h.2 (by decide) | omega)).trans ((xa_up_ne (by first | exact fun h => absurd h.1 (by decide) | exact fun h => absurd h.2 (by decide) | omega)).trans (e18M117)))) (by rw [xa_up_ne (by first | exact fun h => absurd h.1 (by decide) | exact fun h => absurd h.2 (by decide) | omega), xa_up_ne (by first | exact fun h => absurd h.1 (by decide) | exact fun h => absurd h.2 (by decide) | omega), xa_up_ne (by first | exact fun h => absurd h.1 (by decide) | exact fun h => absurd h.2 (by decide) | omega)]; omega) (fun i i0 i1 => (xa_up_ne (by first | exact fun h => absurd h.1 (by decide) | exact fun h => absurd h.2 (by decide) | omega)).trans ((xa_up_ne (by first | exact fun h => absurd h.1 (by decide) | exact fun h => absurd h.2 (by decide) | omega)).trans ((xa_up_ne (by first | exact fun h => absurd h.1 (by decide) | exact fun h => absurd h.2 (by decide) | omega)).trans (e73M117 i i0 i1)))) nn (fun _ => by rw [a5]; omega) (fun _ => by rw [a5]; exact nx) (fun h => absurd h (by omega)) (by omega)
          · intro (c11 : ¬ (M117 60 42) = (-1))
            show xa_wk post (some (0, 0, (-2147483648), 2147483647, (-1) - (M117 60 42))) (xa_up (xa_up M117 89 u r116) 90 u (-1))
            have v1 : (xa_up (xa_up M117 89 u r116) 90 u (-1)) 88 u = r113 := (xa_up_ne (by first | exact fun h => absurd h.1 (by decide) | exact fun h => absurd h.2 (by decide) | omega)).trans ((xa_up_ne (by first | exact fun h => absurd h.1 (by decide) | exact fun h => absurd h.2 (by decide) | omega)).trans (v88M117))
            have v2 : (xa_up (xa_up M117 89 u r116) 90 u (-1)) 89 u = r116 := (xa_up_ne (by first | exact fun h => absurd h.1 (by decide) | exact fun h => absurd h.2 (by decide) | omega)).trans (xa_up_eq)
            have v3 : (xa_up (xa_up M117 89 u r116) 90 u (-1)) 90 u = (-1) := xa_up_eq
            have gX : ∀ i, 0 ≤ i → i < u → (xa_up (xa_up M117 89 u r116) 90 u (-1)) 88 i = M1 88 i ∧ (xa_up (xa_up M117 89 u r116) 90 u (-1)) 89 i = M1 89 i ∧ bk_n ((xa_up (xa_up M117 89 u r116) 90 u (-1)) 90 i) = bk_n (M1 90 i) := fun i i0 i1 => ⟨(xa_up_ne (by first | exact fun h => absurd h.1 (by decide) | exact fun h => absurd h.2 (by decide) | omega)).trans ((xa_up_ne (by first | exact fun h => absurd h.1 (by decide) | exact fun h => absurd h.2 (by decide) | omega)).trans ((aXM117 i i0 i1).1)), (xa_up_ne (by first | exact fun h => absurd h.1 (by decide) | exact fun h => absurd h.2 (by decide) | omega)).trans ((xa_up_ne (by first | exact fun h => absurd h.1 (by decide) | exact fun h => absurd h.2 (by decide) | omega)).trans ((aXM117 i i0 i1).2.1)), congrArg bk_n ((xa_up_ne (by first | exact fun h => absurd h.1 (by decide) | exact fun h => absurd h.2 (by decide) | omega)).trans ((xa_up_ne (by first | exact fun h => absurd h.1 (by decide) | exact fun h => absurd h.2 (by decide) | omega)).trans ((aXM117 i i0 i1).2.2)))⟩
            have hLf := bk_lf he3 hp0 h5 (Or.inr ⟨j115.1, j115.2.1, j115.2.2, rfl, c11⟩) i10 ((xa_up (xa_up M117 89 u r116) 90 u (-1)) 88 u) ((xa_up (xa_up M117 89 u r116) 90 u (-1)) 89 u) (bk_n ((xa_up (xa_up M117 89 u r116) 90 u (-1)) 90 u))
            have hL := hLf.1
            have hL0 := hLf.2
            have hB9 := bk_B_end (ans := -1 - (M117 60 42)) h1 (by omega) hA2 gX hL (Or.inl ⟨rfl, rfl, by omega⟩)
            refine xa_wkI (-1 - (M117 60 42)) (by omega) (fun _ _ => by omega) (k (-1 - (M117 60 42)) _ (Or.inr ⟨by omega, by rw [← he]; exact hB9⟩) ((xa_up_ne (by first | exact fun h => absurd h.1 (by decide) | exact fun h => absurd h.2 (by decide) | omega)).trans ((xa_up_ne (by first | exact fun h => absurd h.1 (by decide) | exact fun h => absurd h.2 (by decide) | omega)).trans (e18M117))) ?_ (xm_c18_I hI (xm_c18_u (by omega) (xm_c18_u (by omega) (csM117)))) (fun q j h1 h2 h3 => (xm_c18_u (by omega) (xm_c18_u (by omega) (csM117))) q j h1 (by omega)))
            exact Or.inr ⟨by omega, (xm_c18_u (by omega) (xm_c18_u (by omega) (csM117))) 60 11 (by omega) (by omega), fun i => ⟨(xm_c18_u (by omega) (xm_c18_u (by omega) (csM117))) 70 i (by omega) (by omega), (xm_c18_u (by omega) (xm_c18_u (by omega) (csM117))) 71 i (by omega) (by omega), (xm_c18_u (by omega) (xm_c18_u (by omega) (csM117))) 72 i (by omega) (by omega)⟩⟩
        · intro (c7 : ¬ r115 = 58)
          have n115 := bk_sg3 i6 e40M114 yM114 tM114 xM114 (by decide) c7
          clear i6
          show xa_C xm_I A h0 _ 255 [(2, 60, 0, 0, 0), (0, 0, 0, 100, M114 60 41)] (xa_up M114 88 u r113) _
          refine ct_fault trivial ?_ ?_
          · intro (i22 : (M114 60 42) = -1)
            refine And.intro (show 0 ≤ ((M114 60 41) + 1) ∧ ((M114 60 41) + 1) ≤ 100 by omega) ?_
            show xa_C xm_I A h0 _ 253 [(2, 60, 0, 0, 0)] (xa_up (xa_up (xa_up M114 88 u r113) 60 42 (M114 60 41)) 60 41 ((M114 60 41) + 1)) _
            refine ct_numF (T := T) (e := e) (fun i i0 i1 => by rw [xa_up_ne (by first | exact fun h => absurd h.1 (by decide) | exact fun h => absurd h.2 (by decide) | omega), xa_up_ne (by first | exact fun h => absurd h.1 (by decide) | exact fun h => absurd h.2 (by decide) | omega), xa_up_ne (by first | exact fun h => absurd h.1 (by decide) | exact fun h => absurd h.2 (by decide) | omega), e73M114 i i0 i1]; exact hT i i0 i1) (show (((M114 60 40) ≤ 60 ∧ e = (M114 60 40)) ∨ (60 < (M114 60 40) ∧ e = 60)) by omega) (show 0 ≤ ((M114 60 41) + 1) ∧ ((M114 60 41) + 1) ≤ 61 by omega) ?_
            intro r122 M123 (i23 : xm_f2 (xa_up (xa_up (xa_up M114 88 u r113) 60 42 (M114 60 41)) 60 41 ((M114 60 41) + 1)) M123) (i24 : ((M114 60 41) + 1) ≤ M123 60 41 ∧ (M123 60 41 = ((M114 60 41) + 1) ∨ M123 60 41 ≤ 60)) (i25 : nu_Q T e ((M114 60 41) + 1) (M114 60 41) r122 (M123 60 41) (M123 60 42))
            have csM123 : xm_c18 M M123 := xm_c18_f (xm_c18_u (by omega) (xm_c18_u (by omega) (xm_c18_u (by omega) (csM114)))) i23
            have e40M123 : M123 60 40 = M 60 18 := (i23 60 40 (by omega)).trans ((xa_up_ne (by first | exact fun h => absurd h.1 (by decide) | exact fun h => absurd h.2 (by decide) | omega)).trans ((xa_up_ne (by first | exact fun h => absurd h.1 (by decide) | exact fun h => absurd h.2 (by decide) | omega)).trans ((xa_up_ne (by first | exact fun h => absurd h.1 (by decide) | exact fun h => absurd h.2 (by decide) | omega)).trans (e40M114))))
            have e18M123 : M123 60 18 = 0 := (i23 60 18 (by omega)).trans ((xa_up_ne (by first | exact fun h => absurd h.1 (by decide) | exact fun h => absurd h.2 (by decide) | omega)).trans ((xa_up_ne (by first | exact fun h => absurd h.1 (by decide) | exact fun h => absurd h.2 (by decide) | omega)).trans ((xa_up_ne (by first | exact fun h => absurd h.1 (by decide) | exact fun h => absurd h.2 (by decide) | omega)).trans (e18M114))))
            have e73M123 : ∀ i, 0 ≤ i → i < 80 → M123 73 i = M 73 i := fun i i0 i1 => (i23 73 i (by omega)).trans ((xa_up_ne (by first | exact fun h => absurd h.1 (by decide) | exact fun h => absurd h.2 (by decide) | omega)).trans ((xa_up_ne (by first | exact fun h => absurd h.1 (by decide) | exact fun h => absurd h.2 (by decide) | omega)).trans ((xa_up_ne (by first | exact fun h => absurd h.1 (by decide) | exact fun h => absurd h.2 (by decide) | omega)).trans (e73M114 i i0 i1))))
            have aXM123 : ∀ i, 0 ≤ i → i < u → M123 88 i = M1 88 i ∧ M123 89 i = M1 89 i ∧ M123 90 i = M1 90 i := fun i i0 i1 => ⟨(i23 88 i (by omega)).trans ((xa_up_ne (by first | exact fun h => absurd h.1 (by decide) | exact fun h => absurd h.2 (by decide) | omega)).trans ((xa_up_ne (by first | exact fun h => absurd h.1 (by decide) | exact fun h => absurd h.2 (by decide) | omega)).trans ((xa_up_ne (by first | exact fun h => absurd h.1 (by decide) | exact fun h => absurd h.2 (by decide) | omega)).trans ((aXM114 i i0 i1).1)))), (i23 89 i (by omega)).trans ((xa_up_ne (by first | exact fun h => absurd h.1 (by decide) | exact fun h => absurd h.2 (by decide) | omega)).trans ((xa_up_ne (by first | exact fun h => absurd h.1 (by decide) | exact fun h => absurd h.2 (by decide) | omega)).trans ((xa_up_ne (by first | exact fun h => absurd h.1 (by decide) | exact fun h => absurd h.2 (by decide) | omega)).trans ((aXM114 i i0 i1).2.1)))), (i23 90 i (by omega)).trans ((xa_up_ne (by first | exact fun h => absurd h.1 (by decide) | exact fun h => absurd h.2 (by decide) | omega)).trans ((xa_up_ne (by first | exact fun h => absurd h.1 (by decide) | exact fun h => absurd h.2 (by decide) | omega)).trans ((xa_up_ne (by first | exact fun h => absurd h.1 (by decide) | exact fun h => absurd h.2 (by decide) | omega)).trans ((aXM114 i i0 i1).2.2))))⟩
            have v88M123 : M123 88 u = r113 := (i23 88 u (by omega)).trans (by simp [xa_up])
            have pM123 : 0 ≤ M123 60 41 ∧ M123 60 41 + 1 < 80 := by omega
            have lM123 := i24.1
            clear i24
            have xM123 := xm_t73 hM (M123 60 41) (by omega) (by omega)
            have yM123 := e73M123 (M123 60 41) (by omega) (by omega)
            have tM123 := hT (M123 60 41) (by omega) (by omega)
            have xxM123 := xm_t73 hM (M123 60 41 + 1) (by omega) (by omega)
            have yyM123 := e73M123 (M123 60 41 + 1) (by omega) (by omega)
            have ttM123 := hT (M123 60 41 + 1) (by omega) (by omega)
            refine And.intro (show 0 ≤ u ∧ u < 8 by omega) ?_
            refine And.intro (show 0 ≤ u ∧ u < 8 by omega) ?_
            refine And.intro ?_ ?_
            · intro (c26 : (M123 60 42) = (-1))
              have q26 := (bk_lf he3 hp0 h5 (Or.inl ⟨n115, Or.inl ⟨i22, rfl⟩⟩) i25 0 0 0).2
              exfalso
              omega
            · intro (c26 : ¬ (M123 60 42) = (-1))
              show xa_wk post (some (0, 0, (-2147483648), 2147483647, (-1) - (M123 60 42))) (xa_up (xa_up M123 89 u r122) 90 u (-1))
              have v1 : (xa_up (xa_up M123 89 u r122) 90 u (-1)) 88 u = r113 := (xa_up_ne (by first | exact fun h => absurd h.1 (by decide) | exact fun h => absurd h.2 (by decide) | omega)).trans ((xa_up_ne (by first | exact fun h => absurd h.1 (by decide) | exact fun h => absurd h.2 (by decide) | omega)).trans (v88M123))
              have v2 : (xa_up (xa_up M123 89 u r122) 90 u (-1)) 89 u = r122 := (xa_up_ne (by first | exact fun h => absurd h.1 (by decide) | exact fun h => absurd h.2 (by decide) | omega)).trans (xa_up_eq)
              have v3 : (xa_up (xa_up M123 89 u r122) 90 u (-1)) 90 u = (-1) := xa_up_eq
              have gX : ∀ i, 0 ≤ i → i < u → (xa_up (xa_up M123 89 u r122) 90 u (-1)) 88 i = M1 88 i ∧ (xa_up (xa_up M123 89 u r122) 90 u (-1)) 89 i = M1 89 i ∧ bk_n ((xa_up (xa_up M123 89 u r122) 90 u (-1)) 90 i) = bk_n (M1 90 i) := fun i i0 i1 => ⟨(xa_up_ne (by first | exact fun h => absurd h.1 (by decide) | exact fun h => absurd h.2 (by decide) | omega)).trans ((xa_up_ne (by first | exact fun h => absurd h.1 (by decide) | exact fun h => absurd h.2 (by decide) | omega)).trans ((aXM123 i i0 i1).1)), (xa_up_ne (by first | exact fun h => absurd h.1 (by decide) | exact fun h => absurd h.2 (by decide) | omega)).trans ((xa_up_ne (by first | exact fun h => absurd h.1 (by decide) | exact fun h => absurd h.2 (by decide) | omega)).trans ((aXM123 i i0 i1).2.1)), congrArg bk_n ((xa_up_ne (by first | exact fun h => absurd h.1 (by decide) | exact fun h => absurd h.2 (by decide) | omega)).trans ((xa_up_ne (by first | exact fun h => absurd h.1 (by decide) | exact fun h => absurd h.2 (by decide) | omega)).trans ((aXM123 i i0 i1).2.2)))⟩
              have hLf := bk_lf he3 hp0 h5 (Or.inl ⟨n115, Or.inl ⟨i22, rfl⟩⟩) i25 ((xa_up (xa_up M123 89 u r122) 90 u (-1)) 88 u) ((xa_up (xa_up M123 89 u r122) 90 u (-1)) 89 u) (bk_n ((xa_up (xa_up M123 89 u r122) 90 u (-1)) 90 u))
              have hL := hLf.1
              have hL0 := hLf.2
              have hB9 := bk_B_end (ans := -1 - (M123 60 42)) h1 (by omega) hA2 gX hL (Or.inl ⟨rfl, rfl, by omega⟩)
              refine xa_wkI (-1 - (M123 60 42)) (by omega) (fun _ _ => by omega) (k (-1 - (M123 60 42)) _ (Or.inr ⟨by omega, by rw [← he]; exact hB9⟩) ((xa_up_ne (by first | exact fun h => absurd h.1 (by decide) | exact fun h => absurd h.2 (by decide) | omega)).trans ((xa_up_ne (by first | exact fun h => absurd h.1 (by decide) | exact fun h => absurd h.2 (by decide) | omega)).trans (e18M123))) ?_ (xm_c18_I hI (xm_c18_u (by omega) (xm_c18_u (by omega) (csM123)))) (fun q j h1 h2 h3 => (xm_c18_u (by omega) (xm_c18_u (by omega) (csM123))) q j h1 (by omega)))
              exact Or.inr ⟨by omega, (xm_c18_u (by omega) (xm_c18_u (by omega) (csM123))) 60 11 (by omega) (by omega), fun i => ⟨(xm_c18_u (by omega) (xm_c18_u (by omega) (csM123))) 70 i (by omega) (by omega), (xm_c18_u (by omega) (xm_c18_u (by omega) (csM123))) 71 i (by omega) (by omega), (xm_c18_u (by omega) (xm_c18_u (by omega) (csM123))) 72 i (by omega) (by omega)⟩⟩
          · intro (i27 : ¬ (M114 60 42) = -1)
            refine And.intro (show 0 ≤ ((M114 60 41) + 1) ∧ ((M114 60 41) + 1) ≤ 100 by omega) ?_
            show xa_C xm_I A h0 _ 253 [(2, 60, 0, 0, 0)] (xa_up (xa_up M114 88 u r113) 60 41 ((M114 60 41) + 1)) _
            refine ct_numF (T := T) (e := e) (fun i i0 i1 => by rw [xa_up_ne (by first | exact fun h => absurd h.1 (by decide) | exact fun h => absurd h.2 (by decide) | omega), xa_up_ne (by first | exact fun h => absurd h.1 (by decide) | exact fun h => absurd h.2 (by decide) | omega), e73M114 i i0 i1]; exact hT i i0 i1) (show (((M114 60 40) ≤ 60 ∧ e = (M114 60 40)) ∨ (60 < (M114 60 40) ∧ e = 60)) by omega) (show 0 ≤ ((M114 60 41) + 1) ∧ ((M114 60 41) + 1) ≤ 61 by omega) ?_
            intro r124 M125 (i28 : xm_f2 (xa_up (xa_up M114 88 u r113) 60 41 ((M114 60 41) + 1)) M125) (i29 : ((M114 60 41) + 1) ≤ M125 60 41 ∧ (M125 60 41 = ((M114 60 41) + 1) ∨ M125 60 41 ≤ 60)) (i30 : nu_Q T e ((M114 60 41) + 1) (M114 60 42) r124 (M125 60 41) (M125 60 42))
            have csM125 : xm_c18 M M125 := xm_c18_f (xm_c18_u (by omega) (xm_c18_u (by omega) (csM114))) i28
            have e40M125 : M125 60 40 = M 60 18 := (i28 60 40 (by omega)).trans ((xa_up_ne (by first | exact fun h => absurd h.1 (by decide) | exact fun h => absurd h.2 (by decide) | omega)).trans ((xa_up_ne (by first | exact fun h => absurd h.1 (by decide) | exact fun h => absurd h.2 (by decide) | omega)).trans (e40M114)))
            have e18M125 : M125 60 18 = 0 := (i28 60 18 (by omega)).trans ((xa_up_ne (by first | exact fun h => absurd h.1 (by decide) | exact fun h => absurd h.2 (by decide) | omega)).trans ((xa_up_ne (by first | exact fun h => absurd h.1 (by decide) | exact fun h => absurd h.2 (by decide) | omega)).trans (e18M114)))
            have e73M125 : ∀ i, 0 ≤ i → i < 80 → M125 73 i = M 73 i := fun i i0 i1 => (i28 73 i (by omega)).trans ((xa_up_ne (by first | exact fun h => absurd h.1 (by decide) | exact fun h => absurd h.2 (by decide) | omega)).trans ((xa_up_ne (by first | exact fun h => absurd h.1 (by decide) | exact fun h => absurd h.2 (by decide) | omega)).trans (e73M114 i i0 i1)))
            have aXM125 : ∀ i, 0 ≤ i → i < u → M125 88 i = M1 88 i ∧ M125 89 i = M1 89 i ∧ M125 90 i = M1 90 i := fun i i0 i1 => ⟨(i28 88 i (by omega)).trans ((xa_up_ne (by first | exact fun h => absurd h.1 (by decide) | exact fun h => absurd h.2 (by decide) | omega)).trans ((xa_up_ne (by first | exact fun h => absurd h.1 (by decide) | exact fun h => absurd h.2 (by decide) | omega)).trans ((aXM114 i i0 i1).1))), (i28 89 i (by omega)).trans ((xa_up_ne (by first | exact fun h => absurd h.1 (by decide) | exact fun h => absurd h.2 (by decide) | omega)).trans ((xa_up_ne (by first | exact fun h => absurd h.1 (by decide) | exact fun h => absurd h.2 (by decide) | omega)).trans ((aXM114 i i0 i1).2.1))), (i28 90 i (by omega)).trans ((xa_up_ne (by first | exact fun h => absurd h.1 (by decide) | exact fun h => absurd h.2 (by decide) | omega)).trans ((xa_up_ne (by first | exact fun h => absurd h.1 (by decide) | exact fun h => absurd h.2 (by decide) | omega)).trans ((aXM114 i i0 i1).2.2)))⟩
            have v88M125 : M125 88 u = r113 := (i28 88 u (by omega)).trans (by simp [xa_up])
            have pM125 : 0 ≤ M125 60 41 ∧ M125 60 41 + 1 < 80 := by omega
            have lM125 := i29.1
            clear i29
            have xM125 := xm_t73 hM (M125 60 41) (by omega) (by omega)
            have yM125 := e73M125 (M125 60 41) (by omega) (by omega)
            have tM125 := hT (M125 60 41) (by omega) (by omega)
            have xxM125 := xm_t73 hM (M125 60 41 + 1) (by omega) (by omega)
            have yyM125 := e73M125 (M125 60 41 + 1) (by omega) (by omega)
            have ttM125 := hT (M125 60 41 + 1) (by omega) (by omega)
            refine And.intro (show 0 ≤ u ∧ u < 8 by omega) ?_
            refine And.intro (show 0 ≤ u ∧ u < 8 by omega) ?_
            refine And.intro ?_ ?_
            · intro (c31 : (M125 60 42) = (-1))
              have q31 := (bk_lf he3 hp0 h5 (Or.inl ⟨n115, Or.inr ⟨i27, rfl⟩⟩) i30 0 0 0).2
              exfalso
              omega
            · intro (c31 : ¬ (M125 60 42) = (-1))
              show xa_wk post (some (0, 0, (-2147483648), 2147483647, (-1) - (M125 60 42))) (xa_up (xa_up M125 89 u r124) 90 u (-1))
              have v1 : (xa_up (xa_up M125 89 u r124) 90 u (-1)) 88 u = r113 := (xa_up_ne (by first | exact fun h => absurd h.1 (by decide) | exact fun h => absurd h.2 (by decide) | omega)).trans ((xa_up_ne (by first | exact fun h => absurd h.1 (by decide) | exact fun h => absurd h.2 (by decide) | omega)).trans (v88M125))
              have v2 : (xa_up (xa_up M125 89 u r124) 90 u (-1)) 89 u = r124 := (xa_up_ne (by first | exact fun h => absurd h.1 (by decide) | exact fun h => absurd h.2 (by decide) | omega)).trans (xa_up_eq)
              have v3 : (xa_up (xa_up M125 89 u r124) 90 u (-1)) 90 u = (-1) := xa_up_eq
              have gX : ∀ i, 0 ≤ i → i < u → (xa_up (xa_up M125 89 u r124) 90 u (-1)) 88 i = M1 88 i ∧ (xa_up (xa_up M125 89 u r124) 90 u (-1)) 89 i = M1 89 i ∧ bk_n ((xa_up (xa_up M125 89 u r124) 90 u (-1)) 90 i) = bk_n (M1 90 i) := fun i i0 i1 => ⟨(xa_up_ne (by first | exact fun h => absurd h.1 (by decide) | exact fun h => absurd h.2 (by decide) | omega)).trans ((xa_up_ne (by first | exact fun h => absurd h.1 (by decide) | exact fun h => absurd h.2 (by decide) | omega)).trans ((aXM125 i i0 i1).1)), (xa_up_ne (by first | exact fun h => absurd h.1 (by decide) | exact fun h => absurd h.2 (by decide) | omega)).trans ((xa_up_ne (by first | exact fun h => absurd h.1 (by decide) | exact fun h => absurd h.2 (by decide) | omega)).trans ((aXM125 i i0 i1).2.1)), congrArg bk_n ((xa_up_ne (by first | exact fun h => absurd h.1 (by decide) | exact fun h => absurd h.2 (by decide) | omega)).trans ((xa_up_ne (by first | exact fun h => absurd h.1 (by decide) | exact fun h => absurd h.2 (by decide) | omega)).trans ((aXM125 i i0 i1).2.2)))⟩
              have hLf := bk_lf he3 hp0 h5 (Or.inl ⟨n115, Or.inr ⟨i27, rfl⟩⟩) i30 ((xa_up (xa_up M125 89 u r124) 90 u (-1)) 88 u) ((xa_up (xa_up M125 89 u r124) 90 u (-1)) 89 u) (bk_n ((xa_up (xa_up M125 89 u r124) 90 u (-1)) 90 u))
              have hL := hLf.1
              have hL0 := hLf.2
              have hB9 := bk_B_end (ans := -1 - (M125 60 42)) h1 (by omega) hA2 gX hL (Or.inl ⟨rfl, rfl, by omega⟩)
              refine xa_wkI (-1 - (M125 60 42)) (by omega) (fun _ _ => by omega) (k (-1 - (M125 60 42)) _ (Or.inr ⟨by omega, by rw [← he]; exact hB9⟩) ((xa_up_ne (by first | exact fun h => absurd h.1 (by decide) | exact fun h => absurd h.2 (by decide) | omega)).trans ((xa_up_ne (by first | exact fun h => absurd h.1 (by decide) | exact fun h => absurd h.2 (by decide) | omega)).trans (e18M125))) ?_ (xm_c18_I hI (xm_c18_u (by omega) (xm_c18_u (by omega) (csM125)))) (fun q j h1 h2 h3 => (xm_c18_u (by omega) (xm_c18_u (by omega) (csM125))) q j h1 (by omega)))
              exact Or.inr ⟨by omega, (xm_c18_u (by omega) (xm_c18_u (by omega) (csM125))) 60 11 (by omega) (by omega), fun i => ⟨(xm_c18_u (by omega) (xm_c18_u (by omega) (csM125))) 70 i (by omega) (by omega), (xm_c18_u (by omega) (xm_c18_u (by omega) (csM125))) 71 i (by omega) (by omega), (xm_c18_u (by omega) (xm_c18_u (by omega) (csM125))) 72 i (by omega) (by omega)⟩⟩
  have hE : ((M 60 18 ≤ 60 ∧ (if M 60 18 ≤ 60 then M 60 18 else 60) = M 60 18) ∨ (60 < M 60 18 ∧ (if M 60 18 ≤ 60 then M 60 18 else 60) = 60)) ∧ (if M 60 18 ≤ 60 then M 60 18 else 60) = (if M 60 18 ≤ 60 then M 60 18 else 60) := ⟨by split <;> omega, rfl⟩
  refine hgo.1 29 [43, 216] 0 _ _ _ ?_
  refine And.intro ?_ ?_
  · intro (c1 : (M 60 18) ≤ 0)
    show Q 43 [(2, (0, 0, 0, 0, 0)), (1, (0, 0, 0, 0, 0)), (0, (2, 60, 0, 0, 0))] [] (xa_up (xa_up (xa_up (xa_up (xa_up M 60 21 0) 60 40 (M 60 18)) 60 18 0) 60 41 0) 60 42 (-1))
    refine hgo.2.1 43 _ [(1, (0, 0, 0, 8, 0)), (2, (0, 0, 0, 1, 0)), (0, (2, 60, 0, 0, 0))] _ _ (xa_subI rfl rfl (fun _ _ _ _ => by omega) (xa_subI rfl rfl (fun _ _ _ _ => by omega) (xa_subR rfl (xa_sub0)))) ?_
    exact loop _ hE 9 0 0 _ (by omega) (by omega) (by omega) (fun h => by omega) (fun q j h1 h2 => (xa_up_ne (by first | exact fun h => absurd h.1 (by decide) | exact fun h => absurd h.2 (by decide) | omega)).trans ((xa_up_ne (by first | exact fun h => absurd h.1 (by decide) | exact fun h => absurd h.2 (by decide) | omega)).trans ((xa_up_ne (by first | exact fun h => absurd h.1 (by decide) | exact fun h => absurd h.2 (by decide) | omega)).trans ((xa_up_ne (by first | exact fun h => absurd h.1 (by decide) | exact fun h => absurd h.2 (by decide) | omega)).trans (xa_up_ne (by first | exact fun h => absurd h.1 (by decide) | exact fun h => absurd h.2 (by decide) | omega)))))) ((xa_up_ne (by first | exact fun h => absurd h.1 (by decide) | exact fun h => absurd h.2 (by decide) | omega)).trans ((xa_up_ne (by first | exact fun h => absurd h.1 (by decide) | exact fun h => absurd h.2 (by decide) | omega)).trans ((xa_up_ne (by first | exact fun h => absurd h.1 (by decide) | exact fun h => absurd h.2 (by decide) | omega)).trans (xa_up_eq)))) ((xa_up_ne (by first | exact fun h => absurd h.1 (by decide) | exact fun h => absurd h.2 (by decide) | omega)).trans ((xa_up_ne (by first | exact fun h => absurd h.1 (by decide) | exact fun h => absurd h.2 (by decide) | omega)).trans (xa_up_eq))) (xa_up_eq) (fun i i0 i1 => (xa_up_ne (by first | exact fun h => absurd h.1 (by decide) | exact fun h => absurd h.2 (by decide) | omega)).trans ((xa_up_ne (by first | exact fun h => absurd h.1 (by decide) | exact fun h => absurd h.2 (by decide) | omega)).trans ((xa_up_ne (by first | exact fun h => absurd h.1 (by decide) | exact fun h => absurd h.2 (by decide) | omega)).trans ((xa_up_ne (by first | exact fun h => absurd h.1 (by decide) | exact fun h => absurd h.2 (by decide) | omega)).trans (xa_up_ne (by first | exact fun h => absurd h.1 (by decide) | exact fun h => absurd h.2 (by decide) | omega)))))) (fun i i0 i1 => by omega) (fun h => absurd h (by omega)) (fun h => absurd h (by omega)) (fun _ => ⟨0, Or.inl ⟨by omega, rfl⟩, Or.inr ⟨by rw [show (xa_up (xa_up (xa_up (xa_up (xa_up M 60 21 0) 60 40 (M 60 18)) 60 18 0) 60 41 0) 60 42 (-1)) 60 41 = 0 from (xa_up_ne (by first | exact fun h => absurd h.1 (by decide) | exact fun h => absurd h.2 (by decide) | omega)).trans (xa_up_eq)]; omega, rfl, by omega⟩⟩) (by omega)
  · intro (c1 : 0 < (M 60 18))
    show Q 43 [(2, (0, 0, 1, 1, 1)), (1, (0, 0, 0, 0, 0)), (0, (2, 60, 0, 0, 0))] [] (xa_up (xa_up (xa_up (xa_up (xa_up M 60 21 0) 60 40 (M 60 18)) 60 18 0) 60 41 0) 60 42 (-1))
    refine hgo.2.1 43 _ [(1, (0, 0, 0, 8, 0)), (2, (0, 0, 0, 1, 1)), (0, (2, 60, 0, 0, 0))] _ _ (xa_subI rfl rfl (fun _ _ _ _ => by omega) (xa_subI rfl rfl (fun _ _ _ _ => by omega) (xa_subR rfl (xa_sub0)))) ?_
    exact loop _ hE 9 0 1 _ (by omega) (by omega) (by omega) (fun h => by omega) (fun q j h1 h2 => (xa_up_ne (by first | exact fun h => absurd h.1 (by decide) | exact fun h => absurd h.2 (by decide) | omega)).trans ((xa_up_ne (by first | exact fun h => absurd h.1 (by decide) | exact fun h => absurd h.2 (by decide) | omega)).trans ((xa_up_ne (by first | exact fun h => absurd h.1 (by decide) | exact fun h => absurd h.2 (by decide) | omega)).trans ((xa_up_ne (by first | exact fun h => absurd h.1 (by decide) | exact fun h => absurd h.2 (by decide) | omega)).trans (xa_up_ne (by first | exact fun h => absurd h.1 (by decide) | exact fun h => absurd h.2 (by decide) | omega)))))) ((xa_up_ne (by first | exact fun h => absurd h.1 (by decide) | exact fun h => absurd h.2 (by decide) | omega)).trans ((xa_up_ne (by first | exact fun h => absurd h.1 (by decide) | exact fun h => absurd h.2 (by decide) | omega)).trans ((xa_up_ne (by first | exact fun h => absurd h.1 (by decide) | exact fun h => absurd h.2 (by decide) | omega)).trans (xa_up_eq)))) ((xa_up_ne (by first | exact fun h => absurd h.1 (by decide) | exact fun h => absurd h.2 (by decide) | omega)).trans ((xa_up_ne (by first | exact fun h => absurd h.1 (by decide) | exact fun h => absurd h.2 (by decide) | omega)).trans (xa_up_eq))) (xa_up_eq) (fun i i0 i1 => (xa_up_ne (by first | exact fun h => absurd h.1 (by decide) | exact fun h => absurd h.2 (by decide) | omega)).trans ((xa_up_ne (by first | exact fun h => absurd h.1 (by decide) | exact fun h => absurd h.2 (by decide) | omega)).trans ((xa_up_ne (by first | exact fun h => absurd h.1 (by decide) | exact fun h => absurd h.2 (by decide) | omega)).trans ((xa_up_ne (by first | exact fun h => absurd h.1 (by decide) | exact fun h => absurd h.2 (by decide) | omega)).trans (xa_up_ne (by first | exact fun h => absurd h.1 (by decide) | exact fun h => absurd h.2 (by decide) | omega)))))) (fun i i0 i1 => by omega) (fun _ => by rw [show (xa_up (xa_up (xa_up (xa_up (xa_up M 60 21 0) 60 40 (M 60 18)) 60 18 0) 60 41 0) 60 42 (-1)) 60 41 = 0 from (xa_up_ne (by first | exact fun h => absurd h.1 (by decide) | exact fun h => absurd h.2 (by decide) | omega)).trans (xa_up_eq)]; omega) (fun _ ans U W N _ hB => by rw [show (xa_up (xa_up (xa_up (xa_up (xa_up M 60 21 0) 60 40 (M 60 18)) 60 18 0) 60 41 0) 60 42 (-1)) 60 41 = 0 from (xa_up_ne (by first | exact fun h => absurd h.1 (by decide) | exact fun h => absurd h.2 (by decide) | omega)).trans (xa_up_eq)] at hB; exact hB) (fun h => absurd h (by omega)) (by omega)

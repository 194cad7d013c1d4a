-- what is broken, on both sides (made by wip/u/mkbr.py)
set_option maxRecDepth 20000
/-- a wheel could be what is left -/
def br_is (ax lv lo hi wa wl wt : Int → Int) (i w : Int) : Prop := wa w = ax i ∧ wl w = lv i ∧ lo i ≤ wt w ∧ wt w ≤ hi i
/-- none of n wheels could -/
def br_no (ax lv lo hi wa wl wt : Int → Int) (n i : Int) : Prop := ∀ w, 0 ≤ w → w < n → ¬ br_is ax lv lo hi wa wl wt i w
/-- of the first n for which it holds the one with the most, or -1 -/
def gg_P (is : Int → Prop) (T : Int → Int) (n b : Int) : Prop := (b = -1 ∧ ∀ v, 0 ≤ v → v < n → ¬ is v) ∨ (0 ≤ b ∧ b < n ∧ is b ∧ ∀ v, 0 ≤ v → v < n → is v → T v ≤ T b)
theorem gg_0 {is : Int → Prop} {T : Int → Int} : gg_P is T 0 (-1) := Or.inl ⟨rfl, fun v h0 h1 => by omega⟩
theorem gg_no {is : Int → Prop} {T : Int → Int} {n b : Int} (hn : ¬ is n) (h : gg_P is T n b) : gg_P is T (n + 1) b := by
  rcases h with ⟨h1, h2⟩ | ⟨h1, h2, h3, h4⟩
  · refine Or.inl ⟨h1, fun v v0 v1 => ?_⟩
    by_cases e : v = n
    · rw [e]
      exact hn
    · exact h2 v v0 (by omega)
  · refine Or.inr ⟨h1, by omega, h3, fun v v0 v1 hv => ?_⟩
    by_cases e : v = n
    · rw [e] at hv
      exact absurd hv hn
    · exact h4 v v0 (by omega) hv
theorem gg_yes {is : Int → Prop} {T : Int → Int} {n b : Int} (h0 : 0 ≤ n) (hn : is n) (hb : b = -1 ∨ T b < T n) (h : gg_P is T n b) : gg_P is T (n + 1) n := by
  refine Or.inr ⟨h0, by omega, hn, fun v v0 v1 hv => ?_⟩
  by_cases e : v = n
  · rw [e]
    exact Int.le_refl _
  · rcases h with ⟨-, h2⟩ | ⟨h1, -, -, h4⟩
    · exact absurd hv (h2 v v0 (by omega))
    · have := h4 v v0 (by omega) hv
      omega
theorem gg_eq {is : Int → Prop} {T : Int → Int} {n b : Int} (hb : ¬ b = -1) (ht : T n ≤ T b) (h : gg_P is T n b) : gg_P is T (n + 1) b := by
  rcases h with ⟨h1, -⟩ | ⟨h1, h2, h3, h4⟩
  · exact absurd h1 hb
  · refine Or.inr ⟨h1, by omega, h3, fun v v0 v1 hv => ?_⟩
    by_cases e : v = n
    · rw [e]
      exact ht
    · exact h4 v v0 (by omega) hv
theorem gg_none {is : Int → Prop} {T : Int → Int} {n b : Int} (h : gg_P is T n b) : b = -1 ↔ ∀ v, 0 ≤ v → v < n → ¬ is v := by
  rcases h with ⟨h1, h2⟩ | ⟨h1, h2, h3, -⟩
  · exact ⟨fun _ => h2, fun _ => h1⟩
  · exact ⟨fun e => by omega, fun e => absurd h3 (e b h1 h2)⟩
/-- bits of those of the first for which it holds -/
noncomputable def br_b (P : Int → Prop) : Nat → Int
  | 0 => 0
  | k + 1 => @ite _ (P (k : Int)) (Classical.propDecidable _) (xa_ib 4 (br_b P k) (xa_ib 6 1 (k : Int))) (br_b P k)
theorem br_b1 {P : Int → Prop} {k : Nat} (h : P (k : Int)) : br_b P (k + 1) = xa_ib 4 (br_b P k) (xa_ib 6 1 (k : Int)) := by
  rw [br_b]
  exact if_pos h
theorem br_b0 {P : Int → Prop} {k : Nat} (h : ¬ P (k : Int)) : br_b P (k + 1) = br_b P k := by
  rw [br_b]
  exact if_neg h
theorem br_b_e {P P' : Int → Prop} : ∀ n : Nat, (∀ k : Nat, k < n → (P (k : Int) ↔ P' (k : Int))) → br_b P n = br_b P' n := by
  intro n
  induction n with
  | zero => intro _; rfl
  | succ k ih =>
    intro e
    have ih := ih (fun j hj => e j (by omega))
    by_cases h : P (k : Int)
    · rw [br_b1 h, br_b1 ((e k (by omega)).mp h), ih]
    · rw [br_b0 h, br_b0 (fun h' => h ((e k (by omega)).mpr h')), ih]
theorem br_b_r {P : Int → Prop} : ∀ n : Nat, -2147483648 ≤ br_b P n ∧ br_b P n ≤ 2147483647 := by
  intro n
  induction n with
  | zero => exact ⟨by show (-2147483648 : Int) ≤ 0; decide, by show (0 : Int) ≤ 2147483647; decide⟩
  | succ k ih =>
    by_cases h : P (k : Int)
    · rw [br_b1 h]
      generalize br_b P k = x
      generalize xa_ib 6 1 (k : Int) = y
      have h1 := Int32.le_toInt (s_fib 4 (Int32.ofInt x) (Int32.ofInt y))
      have h2 := Int32.toInt_lt (s_fib 4 (Int32.ofInt x) (Int32.ofInt y))
      unfold xa_ib
      exact ⟨h1, by omega⟩
    · rw [br_b0 h]
      exact ih
theorem br_or0 {a : Int} (h1 : -2147483648 ≤ a) (h2 : a ≤ 2147483647) : xa_ib 4 a 0 = a := by
  show (Int32.ofInt a ||| Int32.ofInt 0).toInt = a
  rw [show Int32.ofInt 0 = 0 from rfl, Int32.or_zero]
  exact Int32.toInt_ofInt_of_le (by omega) (by omega)
/-- of the first n it holds for some (1) or none (0) -/
def br_s (is : Int → Prop) (n x : Int) : Prop := x = 1 ↔ ∃ w, 0 ≤ w ∧ w < n ∧ is w
theorem br_s_0 {is : Int → Prop} : br_s is 0 0 := ⟨fun h => by omega, fun ⟨w, h1, h2, _⟩ => by omega⟩
theorem br_s_k {is : Int → Prop} {n x : Int} (h : br_s is n x) (hx : x = 1) : br_s is (n + 1) 1 := ⟨fun _ => by
  obtain ⟨w, h1, h2, h3⟩ := h.mp hx
  exact ⟨w, h1, by omega, h3⟩, fun _ => rfl⟩
theorem br_s_y {is : Int → Prop} {n : Int} (h0 : 0 ≤ n) (h : is n) : br_s is (n + 1) 1 := ⟨fun _ => ⟨n, h0, by omega, h⟩, fun _ => rfl⟩
theorem br_s_n {is : Int → Prop} {n x : Int} (h : br_s is n x) (hx : ¬ x = 1) (hn : ¬ is n) : br_s is (n + 1) 0 := ⟨fun e => by omega, fun ⟨w, h1, h2, h3⟩ => by
  by_cases e : w = n
  · rw [e] at h3
    exact absurd h3 hn
  · exact absurd (h.mpr ⟨w, h1, by omega, h3⟩) hx⟩
theorem br_s_no {is : Int → Prop} {n x : Int} (h : br_s is n x) (hx : ¬ x = 1) : ∀ w, 0 ≤ w → w < n → ¬ is w := fun w h1 h2 h3 => hx (h.mpr ⟨w, h1, h2, h3⟩)
theorem br_s_so {is : Int → Prop} {n x : Int} (h : br_s is n x) (hx : x = 1) (hn : ∀ w, 0 ≤ w → w < n → ¬ is w) : False := by
  obtain ⟨w, h1, h2, h3⟩ := h.mp hx
  exact hn w h1 h2 h3
theorem cx_23_44 {b : Bool} {A : Nat → Nat} {h0 : g_H} {d : Nat} {M : xa_M} {post : Option xa_V → xa_M → Prop} {l1 u1 : Int} {i : Int} (h1 : 0 ≤ i ∧ i < 12) (k1 : post (some (0, 0, (-2147483648), 2147483647, M 44 i)) M) : xa_C (xl_I b) A h0 (d + 1) 23 [(2, 44, 0, 0, 0), (0, 0, l1, u1, i)] M post := by
  refine xa_C_arg [(2, 44, 0, 0, 0), (0, 0, (-2147483648), 2147483647, i)] (xa_svR (xa_svI (fun _ _ _ _ => by omega) xa_sv0)) ?_
  refine xa_meth (Q0 := (2, 1, false, 0, 0, 11)) (by decide +kernel) ⟨rfl, rfl⟩ (full := s_c_23) rfl rfl ?_
  intro hM hv Q hgo
  refine hgo.1 15 [] 0 _ _ _ ?_
  refine And.intro ?_ ?_
  · intro (c1 : i < 0)
    show post (some (0, 0, 0, 0, 0)) M
    exact absurd h1 (by omega)
  · intro (c1 : 0 ≤ i)
    refine And.intro ?_ ?_
    · intro (c2 : 12 ≤ i)
      show post (some (0, 0, 0, 0, 0)) M
      exact absurd h1 (by omega)
    · intro (c2 : i < 12)
      refine And.intro (show 0 ≤ i ∧ i < 12 by omega) ?_
      show post (some (0, 0, (-2147483648), 2147483647, M 44 i)) M
      exact k1
theorem cx_23_6 {b : Bool} {A : Nat → Nat} {h0 : g_H} {d : Nat} {M : xa_M} {post : Option xa_V → xa_M → Prop} {l1 u1 : Int} {i : Int} (h1 : 0 ≤ i ∧ i < 14) (k1 : post (some (0, 0, (-2147483648), 2147483647, M 6 i)) M) : xa_C (xl_I b) A h0 (d + 1) 23 [(2, 6, 0, 0, 0), (0, 0, l1, u1, i)] M post := by
  refine xa_C_arg [(2, 6, 0, 0, 0), (0, 0, (-2147483648), 2147483647, i)] (xa_svR (xa_svI (fun _ _ _ _ => by omega) xa_sv0)) ?_
  refine xa_meth (Q0 := (2, 1, false, 0, 0, 11)) (by decide +kernel) ⟨rfl, rfl⟩ (full := s_c_23) rfl rfl ?_
  intro hM hv Q hgo
  refine hgo.1 15 [] 0 _ _ _ ?_
  refine And.intro ?_ ?_
  · intro (c1 : i < 0)
    show post (some (0, 0, 0, 0, 0)) M
    exact absurd h1 (by omega)
  · intro (c1 : 0 ≤ i)
    refine And.intro ?_ ?_
    · intro (c2 : 14 ≤ i)
      show post (some (0, 0, 0, 0, 0)) M
      exact absurd h1 (by omega)
    · intro (c2 : i < 14)
      refine And.intro (show 0 ≤ i ∧ i < 14 by omega) ?_
      show post (some (0, 0, (-2147483648), 2147483647, M 6 i)) M
      exact k1
theorem cx_142_1 {b : Bool} {A : Nat → Nat} {h0 : g_H} {d : Nat} {M : xa_M} {post : Option xa_V → xa_M → Prop} {l1 u1 : Int} {x1 : Int} (h1 : 0 ≤ x1 ∧ x1 < 14) (k1 : post (some (0, 0, (-2147483648), 2147483647, M 6 x1)) M) : xa_C (xl_I b) A h0 (d + 2) 142 [(2, 1, 0, 0, 0), (0, 0, l1, u1, x1)] M post := by
  refine xa_C_arg [(2, 1, 0, 0, 0), (0, 0, (-2147483648), 2147483647, x1)] (xa_svR (xa_svI (fun _ _ _ _ => by omega) (xa_sv0))) ?_
  refine xa_meth (Q0 := (2, 1, false, 0, 0, 1)) (by decide +kernel) ⟨rfl, rfl⟩ (full := s_c_142) rfl rfl ?_
  intro hM hv Q hgo
  refine hgo.1 9 [] 0 _ _ _ ?_
  show xa_C (xl_I b) A h0 _ 23 [(2, 6, 0, 0, 0), (0, 0, (-2147483648), 2147483647, x1)] M _
  refine cx_23_6 (show 0 ≤ x1 ∧ x1 < 14 by omega) ?_
  show post (some (0, 0, (-2147483648), 2147483647, M 6 x1)) M
  exact k1
theorem cx_23_45 {b : Bool} {A : Nat → Nat} {h0 : g_H} {d : Nat} {M : xa_M} {post : Option xa_V → xa_M → Prop} {l1 u1 : Int} {i : Int} (h1 : 0 ≤ i ∧ i < 12) (k1 : post (some (0, 0, (-2147483648), 2147483647, M 45 i)) M) : xa_C (xl_I b) A h0 (d + 1) 23 [(2, 45, 0, 0, 0), (0, 0, l1, u1, i)] M post := by
  refine xa_C_arg [(2, 45, 0, 0, 0), (0, 0, (-2147483648), 2147483647, i)] (xa_svR (xa_svI (fun _ _ _ _ => by omega) xa_sv0)) ?_
  refine xa_meth (Q0 := (2, 1, false, 0, 0, 11)) (by decide +kernel) ⟨rfl, rfl⟩ (full := s_c_23) rfl rfl ?_
  intro hM hv Q hgo
  refine hgo.1 15 [] 0 _ _ _ ?_
  refine And.intro ?_ ?_
  · intro (c1 : i < 0)
    show post (some (0, 0, 0, 0, 0)) M
    exact absurd h1 (by omega)
  · intro (c1 : 0 ≤ i)
    refine And.intro ?_ ?_
    · intro (c2 : 12 ≤ i)
      show post (some (0, 0, 0, 0, 0)) M
      exact absurd h1 (by omega)
    · intro (c2 : i < 12)
      refine And.intro (show 0 ≤ i ∧ i < 12 by omega) ?_
      show post (some (0, 0, (-2147483648), 2147483647, M 45 i)) M
      exact k1
theorem cx_23_46 {b : Bool} {A : Nat → Nat} {h0 : g_H} {d : Nat} {M : xa_M} {post : Option xa_V → xa_M → Prop} {l1 u1 : Int} {i : Int} (h1 : 0 ≤ i ∧ i < 12) (k1 : post (some (0, 0, (-2147483648), 2147483647, M 46 i)) M) : xa_C (xl_I b) A h0 (d + 1) 23 [(2, 46, 0, 0, 0), (0, 0, l1, u1, i)] M post := by
  refine xa_C_arg [(2, 46, 0, 0, 0), (0, 0, (-2147483648), 2147483647, i)] (xa_svR (xa_svI (fun _ _ _ _ => by omega) xa_sv0)) ?_
  refine xa_meth (Q0 := (2, 1, false, 0, 0, 11)) (by decide +kernel) ⟨rfl, rfl⟩ (full := s_c_23) rfl rfl ?_
  intro hM hv Q hgo
  refine hgo.1 15 [] 0 _ _ _ ?_
  refine And.intro ?_ ?_
  · intro (c1 : i < 0)
    show post (some (0, 0, 0, 0, 0)) M
    exact absurd h1 (by omega)
  · intro (c1 : 0 ≤ i)
    refine And.intro ?_ ?_
    · intro (c2 : 12 ≤ i)
      show post (some (0, 0, 0, 0, 0)) M
      exact absurd h1 (by omega)
    · intro (c2 : i < 12)
      refine And.intro (show 0 ≤ i ∧ i < 12 by omega) ?_
      show post (some (0, 0, (-2147483648), 2147483647, M 46 i)) M
      exact k1
theorem cx_23_47 {b : Bool} {A : Nat → Nat} {h0 : g_H} {d : Nat} {M : xa_M} {post : Option xa_V → xa_M → Prop} {l1 u1 : Int} {i : Int} (h1 : 0 ≤ i ∧ i < 12) (k1 : post (some (0, 0, (-2147483648), 2147483647, M 47 i)) M) : xa_C (xl_I b) A h0 (d + 1) 23 [(2, 47, 0, 0, 0), (0, 0, l1, u1, i)] M post := by
  refine xa_C_arg [(2, 47, 0, 0, 0), (0, 0, (-2147483648), 2147483647, i)] (xa_svR (xa_svI (fun _ _ _ _ => by omega) xa_sv0)) ?_
  refine xa_meth (Q0 := (2, 1, false, 0, 0, 11)) (by decide +kernel) ⟨rfl, rfl⟩ (full := s_c_23) rfl rfl ?_
  intro hM hv Q hgo
  refine hgo.1 15 [] 0 _ _ _ ?_
  refine And.intro ?_ ?_
  · intro (c1 : i < 0)
    show post (some (0, 0, 0, 0, 0)) M
    exact absurd h1 (by omega)
  · intro (c1 : 0 ≤ i)
    refine And.intro ?_ ?_
    · intro (c2 : 12 ≤ i)
      show post (some (0, 0, 0, 0, 0)) M
      exact absurd h1 (by omega)
    · intro (c2 : i < 12)
      refine And.intro (show 0 ≤ i ∧ i < 12 by omega) ?_
      show post (some (0, 0, (-2147483648), 2147483647, M 47 i)) M
      exact k1
theorem cx_197f {b : Bool} {A : Nat → Nat} {h0 : g_H} {d : Nat} {M : xa_M} {post : Option xa_V → xa_M → Prop} {l2 u2 l3 u3 x w : Int} (h1 : 0 ≤ x ∧ x ≤ 11) (h2 : 0 ≤ w ∧ w ≤ 13) (k1 : br_is (M 44) (M 45) (M 46) (M 47) (M 5) (M 6) (M 4) x w → post (some (0, 0, 1, 1, 1)) M) (k0 : ¬ br_is (M 44) (M 45) (M 46) (M 47) (M 5) (M 6) (M 4) x w → post (some (0, 0, 0, 0, 0)) M) : xa_C (xl_I b) A h0 (d + 3) 197 [(2, 43, 0, 0, 0), (2, 1, 0, 0, 0), (0, 0, l2, u2, x), (0, 0, l3, u3, w)] M post := by
  refine xa_C_arg [(2, 43, 0, 0, 0), (2, 1, 0, 0, 0), (0, 0, 0, 11, x), (0, 0, 0, 13, w)] (xa_svR (xa_svR (xa_svI (fun _ _ _ _ => by omega) (xa_svI (fun _ _ _ _ => by omega) (xa_sv0))))) ?_
  refine xa_meth (Q0 := (5, 2, false, 0, 0, 5)) (by decide +kernel) ⟨rfl, rfl⟩ (full := s_c_197) rfl rfl ?_
  intro hM hv Q hgo
  refine hgo.1 39 [] 0 _ _ _ ?_
  show xa_C (xl_I b) A h0 _ 28 [(2, 1, 0, 0, 0), (0, 0, 0, 13, w)] M _
  refine cx_28_1 (show 0 ≤ w ∧ w < 14 by omega) ?_
  show xa_C (xl_I b) A h0 _ 37 [(2, 1, 0, 0, 0), (0, 0, 0, 13, w)] M _
  refine cx_37_1 (show 0 ≤ w ∧ w < 14 by omega) ?_
  show xa_C (xl_I b) A h0 _ 23 [(2, 44, 0, 0, 0), (0, 0, 0, 11, x)] M _
  refine cx_23_44 (show 0 ≤ x ∧ x < 12 by omega) ?_
  refine And.intro ?_ ?_
  · intro (c1 : ¬ (M 5 w) = (M 44 x))
    show post (some (0, 0, 0, 0, 0)) M
    exact k0 (by unfold br_is; omega)
  · intro (c1 : (M 5 w) = (M 44 x))
    show xa_C (xl_I b) A h0 _ 142 [(2, 1, 0, 0, 0), (0, 0, 0, 13, w)] M _
    refine cx_142_1 (show 0 ≤ w ∧ w < 14 by omega) ?_
    show xa_C (xl_I b) A h0 _ 23 [(2, 45, 0, 0, 0), (0, 0, 0, 11, x)] M _
    refine cx_23_45 (show 0 ≤ x ∧ x < 12 by omega) ?_
    refine And.intro ?_ ?_
    · intro (c2 : ¬ (M 6 w) = (M 45 x))
      show post (some (0, 0, 0, 0, 0)) M
      exact k0 (by unfold br_is; omega)
    · intro (c2 : (M 6 w) = (M 45 x))
      show xa_C (xl_I b) A h0 _ 23 [(2, 46, 0, 0, 0), (0, 0, 0, 11, x)] M _
      refine cx_23_46 (show 0 ≤ x ∧ x < 12 by omega) ?_
      refine And.intro ?_ ?_
      · intro (c3 : (M 4 w) < (M 46 x))
        show post (some (0, 0, 0, 0, 0)) M
        exact k0 (by unfold br_is; omega)
      · intro (c3 : (M 46 x) ≤ (M 4 w))
        show xa_C (xl_I b) A h0 _ 23 [(2, 47, 0, 0, 0), (0, 0, 0, 11, x)] M _
        refine cx_23_47 (show 0 ≤ x ∧ x < 12 by omega) ?_
        refine And.intro ?_ ?_
        · intro (c4 : (M 47 x) < (M 4 w))
          show post (some (0, 0, 0, 0, 0)) M
          exact k0 (by unfold br_is; omega)
        · intro (c4 : (M 4 w) ≤ (M 47 x))
          show post (some (0, 0, 1, 1, 1)) M
          exact k1 (by unfold br_is; omega)
theorem cx_196f {b : Bool} {A : Nat → Nat} {h0 : g_H} {d : Nat} {M : xa_M} {post : Option xa_V → xa_M → Prop} {l2 u2 : Int} {x : Int} (h1 : 0 ≤ x ∧ x ≤ 11) (hn : 0 ≤ M 1 9 ∧ M 1 9 ≤ 14) (k : ∀ r : Int, gg_P (br_is (M 44) (M 45) (M 46) (M 47) (M 5) (M 6) (M 4) x) (M 4) (M 1 9) r → (-1 ≤ r ∧ r ≤ 13) → post (some (0, 0, (-1), 13, r)) M) : xa_C (xl_I b) A h0 (d + 4) 196 [(2, 43, 0, 0, 0), (2, 1, 0, 0, 0), (0, 0, l2, u2, x)] M post := by
  refine xa_C_arg [(2, 43, 0, 0, 0), (2, 1, 0, 0, 0), (0, 0, 0, 11, x)] (xa_svR (xa_svR (xa_svI (fun _ _ _ _ => by omega) (xa_sv0)))) ?_
  refine xa_meth (Q0 := (6, 1, false, 0, 0, 5)) (by decide +kernel) ⟨rfl, rfl⟩ (full := s_c_196) rfl rfl ?_
  intro hM hv Q hgo
  have loop : ∀ (n : Nat) (i bs : Int), 0 ≤ i ∧ i ≤ M 1 9 → -1 ≤ bs ∧ bs < i → gg_P (br_is (M 44) (M 45) (M 46) (M 47) (M 5) (M 6) (M 4) x) (M 4) i bs → 14 - i < (n : Int) → Q 5 [(4, (0, 0, 0, 14, i)), (3, (0, 0, (-1), 13, bs)), (0, (2, 43, 0, 0, 0)), (1, (2, 1, 0, 0, 0)), (2, (0, 0, 0, 11, x))] [] M := by
    intro n
    induction n with
    | zero => intro i bs i1 b1 hg hms; omega
    | succ n ih =>
      intro i bs i1 b1 hg hms
      refine hgo.1 35 [5] 5 _ _ _ ?_
      refine And.intro ?_ ?_
      · intro (c1 : (M 1 9) ≤ i)
        show post (some (0, 0, (-1), 13, bs)) M
        exact k _ (by rw [show M 1 9 = i by omega]; exact hg) (by omega)
      · intro (c1 : i < (M 1 9))
        refine And.intro ?_ ?_
        · intro (c2 : bs = (-1))
          show xa_C (xl_I b) A h0 _ 197 [(2, 43, 0, 0, 0), (2, 1, 0, 0, 0), (0, 0, 0, 11, x), (0, 0, 0, 14, i)] M _
          refine cx_197f (show 0 ≤ x ∧ x ≤ 11 by omega) (show 0 ≤ i ∧ i ≤ 13 by omega) ?_ ?_
          · intro (i3 : br_is (M 44) (M 45) (M 46) (M 47) (M 5) (M 6) (M 4) x i)
            show Q 5 [(4, (0, 0, 1, 15, i + 1)), (3, (0, 0, 0, 14, i)), (5, (0, 0, 1, 1, 1)), (0, (2, 43, 0, 0, 0)), (1, (2, 1, 0, 0, 0)), (2, (0, 0, 0, 11, x))] [] M
            refine hgo.2.1 5 _ [(4, (0, 0, 0, 14, i + 1)), (3, (0, 0, (-1), 13, i)), (0, (2, 43, 0, 0, 0)), (1, (2, 1, 0, 0, 0)), (2, (0, 0, 0, 11, x))] _ _ (xa_subI rfl rfl (fun _ _ _ _ => by omega) (xa_subI rfl rfl (fun _ _ _ _ => by omega) (xa_subR rfl (xa_subR rfl (xa_subI rfl rfl (fun _ _ _ _ => by omega) (xa_sub0)))))) ?_
            exact ih (i + 1) i (by omega) (by omega) (gg_yes (by omega) i3 (by omega) hg) (by omega)
          · intro (i4 : ¬ br_is (M 44) (M 45) (M 46) (M 47) (M 5) (M 6) (M 4) x i)
            show Q 5 [(4, (0, 0, 1, 15, i + 1)), (3, (0, 0, (-1), 13, bs)), (5, (0, 0, 1, 1, 1)), (0, (2, 43, 0, 0, 0)), (1, (2, 1, 0, 0, 0)), (2, (0, 0, 0, 11, x))] [] M
            refine hgo.2.1 5 _ [(4, (0, 0, 0, 14, i + 1)), (3, (0, 0, (-1), 13, bs)), (0, (2, 43, 0, 0, 0)), (1, (2, 1, 0, 0, 0)), (2, (0, 0, 0, 11, x))] _ _ (xa_subI rfl rfl (fun _ _ _ _ => by omega) (xa_subI rfl rfl (fun _ _ _ _ => by omega) (xa_subR rfl (xa_subR rfl (xa_subI rfl rfl (fun _ _ _ _ => by omega) (xa_sub0)))))) ?_
            exact ih (i + 1) bs (by omega) (by omega) (gg_no i4 hg) (by omega)
        · intro (c2 : ¬ bs = (-1))
          show xa_C (xl_I b) A h0 _ 28 [(2, 1, 0, 0, 0), (0, 0, 0, 14, i)] M _
          refine cx_28_1 (show 0 ≤ i ∧ i < 14 by omega) ?_
          show xa_C (xl_I b) A h0 _ 28 [(2, 1, 0, 0, 0), (0, 0, (-1), 13, bs)] M _
          refine cx_28_1 (show 0 ≤ bs ∧ bs < 14 by omega) ?_
          refine And.intro ?_ ?_
          · intro (c5 : (M 4 i) ≤ (M 4 bs))
            show xa_C (xl_I b) A h0 _ 197 [(2, 43, 0, 0, 0), (2, 1, 0, 0, 0), (0, 0, 0, 11, x), (0, 0, 0, 14, i)] M _
            refine cx_197f (show 0 ≤ x ∧ x ≤ 11 by omega) (show 0 ≤ i ∧ i ≤ 13 by omega) ?_ ?_
            · intro (i6 : br_is (M 44) (M 45) (M 46) (M 47) (M 5) (M 6) (M 4) x i)
              show Q 5 [(4, (0, 0, 1, 15, i + 1)), (3, (0, 0, (-1), 13, bs)), (5, (0, 0, 0, 0, 0)), (0, (2, 43, 0, 0, 0)), (1, (2, 1, 0, 0, 0)), (2, (0, 0, 0, 11, x))] [] M
              refine hgo.2.1 5 _ [(4, (0, 0, 0, 14, i + 1)), (3, (0, 0, (-1), 13, bs)), (0, (2, 43, 0, 0, 0)), (1, (2, 1, 0, 0, 0)), (2, (0, 0, 0, 11, x))] _ _ (xa_subI rfl rfl (fun _ _ _ _ => by omega) (xa_subI rfl rfl (fun _ _ _ _ => by omega) (xa_subR rfl (xa_subR rfl (xa_subI rfl rfl (fun _ _ _ _ => by omega) (xa_sub0)))))) ?_
              exact ih (i + 1) bs (by omega) (by omega) (gg_eq (by omega) (by omega) hg) (by omega)
            · intro (i7 : ¬ br_is (M 44) (M 45) (M 46) (M 47) (M 5) (M 6) (M 4) x i)
              show Q 5 [(4, (0, 0, 1, 15, i + 1)), (3, (0, 0, (-1), 13, bs)), (5, (0, 0, 0, 0, 0)), (0, (2, 43, 0, 0, 0)), (1, (2, 1, 0, 0, 0)), (2, (0, 0, 0, 11, x))] [] M
              refine hgo.2.1 5 _ [(4, (0, 0, 0, 14, i + 1)), (3, (0, 0, (-1), 13, bs)), (0, (2, 43, 0, 0, 0)), (1, (2, 1, 0, 0, 0)), (2, (0, 0, 0, 11, x))] _ _ (xa_subI rfl rfl (fun _ _ _ _ => by omega) (xa_subI rfl rfl (fun _ _ _ _ => by omega) (xa_subR rfl (xa_subR rfl (xa_subI rfl rfl (fun _ _ _ _ => by omega) (xa_sub0)))))) ?_
              exact ih (i + 1) bs (by omega) (by omega) (gg_no i7 hg) (by omega)
          · intro (c5 : (M 4 bs) < (M 4 i))
            show xa_C (xl_I b) A h0 _ 197 [(2, 43, 0, 0, 0), (2, 1, 0, 0, 0), (0, 0, 0, 11, x), (0, 0, 0, 14, i)] M _
            refine cx_197f (show 0 ≤ x ∧ x ≤ 11 by omega) (show 0 ≤ i ∧ i ≤ 13 by omega) ?_ ?_
            · intro (i8 : br_is (M 44) (M 45) (M 46) (M 47) (M 5) (M 6) (M 4) x i)
              show Q 5 [(4, (0, 0, 1, 15, i + 1)), (3, (0, 0, 0, 14, i)), (5, (0, 0, 1, 1, 1)), (0, (2, 43, 0, 0, 0)), (1, (2, 1, 0, 0, 0)), (2, (0, 0, 0, 11, x))] [] M
              refine hgo.2.1 5 _ [(4, (0, 0, 0, 14, i + 1)), (3, (0, 0, (-1), 13, i)), (0, (2, 43, 0, 0, 0)), (1, (2, 1, 0, 0, 0)), (2, (0, 0, 0, 11, x))] _ _ (xa_subI rfl rfl (fun _ _ _ _ => by omega) (xa_subI rfl rfl (fun _ _ _ _ => by omega) (xa_subR rfl (xa_subR rfl (xa_subI rfl rfl (fun _ _ _ _ => by omega) (xa_sub0)))))) ?_
              exact ih (i + 1) i (by omega) (by omega) (gg_yes (by omega) i8 (by omega) hg) (by omega)
            · intro (i9 : ¬ br_is (M 44) (M 45) (M 46) (M 47) (M 5) (M 6) (M 4) x i)
              show Q 5 [(4, (0, 0, 1, 15, i + 1)), (3, (0, 0, (-1), 13, bs)), (5, (0, 0, 1, 1, 1)), (0, (2, 43, 0, 0, 0)), (1, (2, 1, 0, 0, 0)), (2, (0, 0, 0, 11, x))] [] M
              refine hgo.2.1 5 _ [(4, (0, 0, 0, 14, i + 1)), (3, (0, 0, (-1), 13, bs)), (0, (2, 43, 0, 0, 0)), (1, (2, 1, 0, 0, 0)), (2, (0, 0, 0, 11, x))] _ _ (xa_subI rfl rfl (fun _ _ _ _ => by omega) (xa_subI rfl rfl (fun _ _ _ _ => by omega) (xa_subR rfl (xa_subR rfl (xa_subI rfl rfl (fun _ _ _ _ => by omega) (xa_sub0)))))) ?_
              exact ih (i + 1) bs (by omega) (by omega) (gg_no i9 hg) (by omega)
  refine hgo.1 9 [5] 0 _ _ _ ?_
  show Q 5 [(4, (0, 0, 0, 0, 0)), (3, (0, 0, (-1), (-1), (-1))), (0, (2, 43, 0, 0, 0)), (1, (2, 1, 0, 0, 0)), (2, (0, 0, 0, 11, x))] [] M
  refine hgo.2.1 5 _ [(4, (0, 0, 0, 14, 0)), (3, (0, 0, (-1), 13, (-1))), (0, (2, 43, 0, 0, 0)), (1, (2, 1, 0, 0, 0)), (2, (0, 0, 0, 11, x))] _ _ (xa_subI rfl rfl (fun _ _ _ _ => by omega) (xa_subI rfl rfl (fun _ _ _ _ => by omega) (xa_subR rfl (xa_subR rfl (xa_subI rfl rfl (fun _ _ _ _ => by omega) (xa_sub0)))))) ?_
  exact loop 15 0 (-1) (by omega) (by omega) gg_0 (by omega)
theorem cx_195f {b : Bool} {A : Nat → Nat} {h0 : g_H} {d : Nat} {M : xa_M} {post : Option xa_V → xa_M → Prop} (hn : 0 ≤ M 1 9 ∧ M 1 9 ≤ 14) (hl : 0 ≤ M 43 4 ∧ M 43 4 ≤ 12) (k : post (some (0, 0, (-2147483648), 2147483647, br_b (br_no (M 44) (M 45) (M 46) (M 47) (M 5) (M 6) (M 4) (M 1 9)) (M 43 4).toNat)) M) : xa_C (xl_I b) A h0 (d + 5) 195 [(2, 43, 0, 0, 0), (2, 1, 0, 0, 0)] M post := by
  refine xa_C_arg [(2, 43, 0, 0, 0), (2, 1, 0, 0, 0)] (xa_svR (xa_svR (xa_sv0))) ?_
  refine xa_meth (Q0 := (4, 1, false, 0, 0, 5)) (by decide +kernel) ⟨rfl, rfl⟩ (full := s_c_195) rfl rfl ?_
  intro hM hv Q hgo
  have loop : ∀ (n : Nat) (i bb : Int), 0 ≤ i ∧ i ≤ M 43 4 → bb = br_b (br_no (M 44) (M 45) (M 46) (M 47) (M 5) (M 6) (M 4) (M 1 9)) i.toNat → 12 - i < (n : Int) → Q 4 [(3, (0, 0, 0, 12, i)), (2, (0, 0, (-2147483648), 2147483647, bb)), (0, (2, 43, 0, 0, 0)), (1, (2, 1, 0, 0, 0))] [] M := by
    intro n
    induction n with
    | zero => intro i bb i1 hb hms; omega
    | succ n ih =>
      intro i bb i1 hb hms
      have ei : ((i.toNat : Nat) : Int) = i := Int.toNat_of_nonneg i1.1
      have hr := br_b_r (P := (br_no (M 44) (M 45) (M 46) (M 47) (M 5) (M 6) (M 4) (M 1 9))) i.toNat
      rw [← hb] at hr
      refine hgo.1 24 [4] 4 _ _ _ ?_
      refine And.intro ?_ ?_
      · intro (c1 : (M 43 4) ≤ i)
        show post (some (0, 0, (-2147483648), 2147483647, bb)) M
        rw [hb, show i = M 43 4 by omega]
        exact k
      · intro (c1 : i < (M 43 4))
        show xa_C (xl_I b) A h0 _ 196 [(2, 43, 0, 0, 0), (2, 1, 0, 0, 0), (0, 0, 0, 12, i)] M _
        refine cx_196f (show 0 ≤ i ∧ i ≤ 11 by omega) hn ?_
        intro r101 (i2 : gg_P (br_is (M 44) (M 45) (M 46) (M 47) (M 5) (M 6) (M 4) i) (M 4) (M 1 9) r101) (i3 : -1 ≤ r101 ∧ r101 ≤ 13)
        refine And.intro ?_ ?_
        · intro (c4 : ¬ r101 = (-1))
          show Q 4 [(3, (0, 0, 1, 13, i + 1)), (2, (0, 0, (-2147483648), 2147483647, xa_ib 4 bb 0)), (0, (2, 43, 0, 0, 0)), (1, (2, 1, 0, 0, 0))] [] M
          have eb : xa_ib 4 bb 0 = br_b (br_no (M 44) (M 45) (M 46) (M 47) (M 5) (M 6) (M 4) (M 1 9)) (i + 1).toNat := by
            rw [show (i + 1).toNat = i.toNat + 1 by omega, br_b0 (show ¬ (br_no (M 44) (M 45) (M 46) (M 47) (M 5) (M 6) (M 4) (M 1 9)) ((i.toNat : Nat) : Int) by rw [ei]; exact (fun hh => absurd ((gg_none i2).mpr hh) (by omega))), ← hb, br_or0 hr.1 hr.2]
          refine hgo.2.1 4 _ [(3, (0, 0, 0, 12, i + 1)), (2, (0, 0, (-2147483648), 2147483647, xa_ib 4 bb 0)), (0, (2, 43, 0, 0, 0)), (1, (2, 1, 0, 0, 0))] _ _ (xa_subI rfl rfl (fun _ _ _ _ => by omega) (xa_subI rfl rfl (fun _ _ _ _ => by omega) (xa_subR rfl (xa_subR rfl (xa_sub0))))) ?_
          exact ih (i + 1) _ (by omega) eb (by omega)
        · intro (c4 : r101 = (-1))
          show Q 4 [(3, (0, 0, 1, 13, i + 1)), (2, (0, 0, (-2147483648), 2147483647, xa_ib 4 bb (xa_ib 6 1 i))), (0, (2, 43, 0, 0, 0)), (1, (2, 1, 0, 0, 0))] [] M
          have eb : xa_ib 4 bb (xa_ib 6 1 i) = br_b (br_no (M 44) (M 45) (M 46) (M 47) (M 5) (M 6) (M 4) (M 1 9)) (i + 1).toNat := by
            rw [show (i + 1).toNat = i.toNat + 1 by omega, br_b1 (show (br_no (M 44) (M 45) (M 46) (M 47) (M 5) (M 6) (M 4) (M 1 9)) ((i.toNat : Nat) : Int) by rw [ei]; exact (fun w w0 w1 => ((gg_none i2).mp (by omega)) w w0 w1)), ← hb, ei]
          refine hgo.2.1 4 _ [(3, (0, 0, 0, 12, i + 1)), (2, (0, 0, (-2147483648), 2147483647, xa_ib 4 bb (xa_ib 6 1 i))), (0, (2, 43, 0, 0, 0)), (1, (2, 1, 0, 0, 0))] _ _ (xa_subI rfl rfl (fun _ _ _ _ => by omega) (xa_subI rfl rfl (fun _ _ _ _ => by omega) (xa_subR rfl (xa_subR rfl (xa_sub0))))) ?_
          exact ih (i + 1) _ (by omega) eb (by omega)
  refine hgo.1 9 [4] 0 _ _ _ ?_
  show Q 4 [(3, (0, 0, 0, 0, 0)), (2, (0, 0, 0, 0, 0)), (0, (2, 43, 0, 0, 0)), (1, (2, 1, 0, 0, 0))] [] M
  refine hgo.2.1 4 _ [(3, (0, 0, 0, 12, 0)), (2, (0, 0, (-2147483648), 2147483647, 0)), (0, (2, 43, 0, 0, 0)), (1, (2, 1, 0, 0, 0))] _ _ (xa_subI rfl rfl (fun _ _ _ _ => by omega) (xa_subI rfl rfl (fun _ _ _ _ => by omega) (xa_subR rfl (xa_subR rfl (xa_sub0))))) ?_
  exact loop 13 0 0 (by omega) rfl (by omega)
theorem br_isM {M M1 : xa_M} (hc : xm_cor M M1) {i w : Int} : (M1 100 i = M1 64 w ∧ M1 101 i = M1 65 w ∧ M1 102 i ≤ M1 63 w ∧ M1 63 w ≤ M1 103 i) ↔ br_is (M 100) (M 101) (M 102) (M 103) (M 64) (M 65) (M 63) i w := by
  unfold br_is
  rw [xm_corq hc 100 rfl, xm_corq hc 101 rfl, xm_corq hc 102 rfl, xm_corq hc 103 rfl, xm_corq hc 64 rfl, xm_corq hc 65 rfl, xm_corq hc 63 rfl]
  constructor <;> (intro h; exact ⟨h.1.symm, h.2.1.symm, h.2.2.1, h.2.2.2⟩)

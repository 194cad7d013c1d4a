-- what is broken, on both sides (made by wip/u/mkbr.py)
set_option maxRecDepth 20000
/-- a wheel could be what is left -/
def br_is (ax lv lo hi wa wl wt : Int → Int) (i w : Int) : Prop := wa w = ax i ∧ wl w = lv i ∧ lo i ≤ wt w ∧ wt w ≤ hi i
/-- none of n wheels could -/
def br_no (ax lv lo hi wa wl wt : Int → Int) (n i : Int) : Prop := ∀ w, 0 ≤ w → w < n → ¬ br_is ax lv lo hi wa wl wt i w
/-- of the first n for which it holds the one with the most, or -1 -/
def gg_P (is : Int → Prop) (T : Int → Int) (n b : Int) : Prop := (b = -1 ∧ ∀ v, 0 ≤ v → v < n → ¬ is v) ∨ (0 ≤ b ∧ b < n ∧ is b ∧ ∀ v, 0 ≤ v → v < n → is v → T v ≤ T b)
theorem gg_0 {is : Int → Prop} {T : Int → Int} : gg_P is T 0 (-1) := Or.inl ⟨rfl, fun v h0 h1 => by omega⟩
theorem gg_no {is : Int → Prop} {T : Int → Int} {n b : Int} (hn : ¬ is n) (h : gg_P is T n b) : gg_P is T (n + 1) b := by
  rcases h with ⟨h1, h2⟩ | ⟨h1, h2, h3, h4⟩
  · refine Or.inl ⟨h1, fun v v0 v1 => ?_⟩
    by_cases e : v = n
    · rw [e]
      exact hn
    · exact h2 v v0 (by omega)
  · refine Or.inr ⟨h1, by omega, h3, fun v v0 v1 hv => ?_⟩
    by_cases e : v = n
    · rw [e] at hv
      exact absurd hv hn
    · exact h4 v v0 (by omega) hv
theorem gg_yes {is : Int → Prop} {T : Int → Int} {n b : Int} (h0 : 0 ≤ n) (hn : is n) (hb : b = -1 ∨ T b < T n) (h : gg_P is T n b) : gg_P is T (n + 1) n := by
  refine Or.inr ⟨h0, by omega, hn, fun v v0 v1 hv => ?_⟩
  by_cases e : v = n
  · rw [e]
    exact Int.le_refl _
  · rcases h with ⟨-, h2⟩ | ⟨h1, -, -, h4⟩
    · exact absurd hv (h2 v v0 (by omega))
    · have := h4 v v0 (by omega) hv
      omega
theorem gg_eq {is : Int → Prop} {T : Int → Int} {n b : Int} (hb : ¬ b = -1) (ht : T n ≤ T b) (h : gg_P is T n b) : gg_P is T (n + 1) b := by
  rcases h with ⟨h1, -⟩ | ⟨h1, h2, h3, h4⟩
  · exact absurd h1 hb
  · refine Or.inr ⟨h1, by omega, h3, fun v v0 v1 hv => ?_⟩
    by_cases e : v = n
    · rw [e]
      exact ht
    · exact h4 v v0 (by omega) hv
theorem gg_none {is : Int → Prop} {T : Int → Int} {n b : Int} (h : gg_P is T n b) : b = -1 ↔ ∀ v, 0 ≤ v → v < n → ¬ is v := by
  rcases h with ⟨h1, h2⟩ | ⟨h1, h2, h3, -⟩
  · exact ⟨fun _ => h2, fun _ => h1⟩
  · exact ⟨fun e => by omega, fun e => absurd h3 (e b h1 h2)⟩
/-- bits of those of the first for which it holds -/
noncomputable def br_b (P : Int → Prop) : Nat → Int
  | 0 => 0
  | k + 1 => @ite _ (P (k : Int)) (Classical.propDecidable _) (xa_ib 4 (br_b P k) (xa_ib 6 1 (k : Int))) (br_b P k)
theorem br_b1 {P : Int → Prop} {k : Nat} (h : P (k : Int)) : br_b P (k + 1) = xa_ib 4 (br_b P k) (xa_ib 6 1 (k : Int)) := by
  rw [br_b]
  exact if_pos h
theorem br_b0 {P : Int → Prop} {k : Nat} (h : ¬ P (k : Int)) : br_b P (k + 1) = br_b P k := by
  rw [br_b]
  exact if_neg h
theorem br_b_e {P P' : Int → Prop} : ∀ n : Nat, (∀ k : Nat, k < n → (P (k : Int) ↔ P' (k : Int))) → br_b P n = br_b P' n := by
  intro n
  induction n with
  | zero => intro _; rfl
  | succ k ih =>
    intro e
    have ih := ih (fun j hj => e j (by omega))
    by_cases h : P (k : Int)
    · rw [br_b1 h, br_b1 ((e k (by omega)).mp h), ih]
    · rw [br_b0 h, br_b0 (fun h' => h ((e k (by omega)).mpr h')), ih]
theorem br_b_r {P : Int → Prop} : ∀ n : Nat, -2147483648 ≤ br_b P n ∧ br_b P n ≤ 2147483647 := by
  intro n
  induction n with
  | zero => exact ⟨by show (-2147483648 : Int) ≤ 0; decide, by show (0 : Int) ≤ 2147483647; decide⟩
  | succ k ih =>
    by_cases h : P (k : Int)
    · rw [br_b1 h]
      generalize br_b P k = x
      generalize xa_ib 6 1 (k : Int) = y
      have h1 := Int32.le_toInt (s_fib 4 (Int32.ofInt x) (Int32.ofInt y))
      have h2 := Int32.toInt_lt (s_fib 4 (Int32.ofInt x) (Int32.ofInt y))
      unfold xa_ib
      exact ⟨h1, by omega⟩
    · rw [br_b0 h]
      exact ih
theorem br_or0 {a : Int} (h1 : -2147483648 ≤ a) (h2 : a ≤ 2147483647) : xa_ib 4 a 0 = a := by
  show (Int32.ofInt a ||| Int32.ofInt 0).toInt = a
  rw [show Int32.ofInt 0 = 0 from rfl, Int32.or_zero]
  exact Int32.toInt_ofInt_of_le (by omega) (by omega)
/-- of the first n it holds for some (1) or none (0) -/
def br_s (is : Int → Prop) (n x : Int) : Prop := x = 1 ↔ ∃ w, 0 ≤ w ∧ w < n ∧ is w
theorem br_s_0 {is : Int → Prop} : br_s is 0 0 := ⟨fun h => by omega, fun ⟨w, h1, h2, _⟩ => by omega⟩
theorem br_s_k {is : Int → Prop} {n x : Int} (h : br_s is n x) (hx : x = 1) : br_s is (n + 1) 1 := ⟨fun _ => by
  obtain ⟨w, h1, h2, h3⟩ := h.mp hx
  exact ⟨w, h1, by omega, h3⟩, fun _ => rfl⟩
theorem br_s_y {is : Int → Prop} {n : Int} (h0 : 0 ≤ n) (h : is n) : br_s is (n + 1) 1 := ⟨fun _ => ⟨n, h0, by omega, h⟩, fun _ => rfl⟩
theorem br_s_n {is : Int → Prop} {n x : Int} (h : br_s is n x) (hx : ¬ x = 1) (hn : ¬ is n) : br_s is (n + 1) 0 := ⟨fun e => by omega, fun ⟨w, h1, h2, h3⟩ => by
  by_cases e : w = n
  · rw [e] at h3
    exact absurd h3 hn
  · exact absurd (h.mpr ⟨w, h1, by omega, h3⟩) hx⟩
theorem br_s_no {is : Int → Prop} {n x : Int} (h : br_s is n x) (hx : ¬ x = 1) : ∀ w, 0 ≤ w → w < n → ¬ is w := fun w h1 h2 h3 => hx (h.mpr ⟨w, h1, h2, h3⟩)
theorem br_s_so {is : Int → Prop} {n x : Int} (h : br_s is n x) (hx : x = 1) (hn : ∀ w, 0 ≤ w → w < n → ¬ is w) : False := by
  obtain ⟨w, h1, h2, h3⟩ := h.mp hx
  exact hn w h1 h2 h3
theorem cx_23_44 {b : Bool} {A : Nat → Nat} {h0 : g_H} {d : Nat} {M : xa_M} {post : Option xa_V → xa_M → Prop} {l1 u1 : Int} {i : Int} (h1 : 0 ≤ i ∧ i < 12) (k1 : post (some (0, 0, (-2147483648), 2147483647, M 44 i)) M) : xa_C (xl_I b) A h0 (d + 1) 23 [(2, 44, 0, 0, 0), (0, 0, l1, u1, i)] M post := by
  refine xa_C_arg [(2, 44, 0, 0, 0), (0, 0, (-2147483648), 2147483647, i)] (xa_svR (xa_svI (fun _ _ _ _ => by omega) xa_sv0)) ?_
  refine xa_meth (Q0 := (2, 1, false, 0, 0, 11)) (by decide +kernel) ⟨rfl, rfl⟩ (full := s_c_23) rfl rfl ?_
  intro hM hv Q hgo
  refine hgo.1 15 [] 0 _ _ _ ?_
  refine And.intro ?_ ?_
  · intro (c1 : i < 0)
    show post (some (0, 0, 0, 0, 0)) M
    exact absurd h1 (by omega)
  · intro (c1 : 0 ≤ i)
    refine And.intro ?_ ?_
    · intro (c2 : 12 ≤ i)
      show post (some (0, 0, 0, 0, 0)) M
      exact absurd h1 (by omega)
    · intro (c2 : i < 12)
      refine And.intro (show 0 ≤ i ∧ i < 12 by omega) ?_
      show post (some (0, 0, (-2147483648), 2147483647, M 44 i)) M
      exact k1
theorem cx_23_6 {b : Bool} {A : Nat → Nat} {h0 : g_H} {d : Nat} {M : xa_M} {post : Option xa_V → xa_M → Prop} {l1 u1 : Int} {i : Int} (h1 : 0 ≤ i ∧ i < 14) (k1 : post (some (0, 0, (-2147483648), 2147483647, M 6 i)) M) : xa_C (xl_I b) A h0 (d + 1) 23 [(2, 6, 0, 0, 0), (0, 0, l1, u1, i)] M post := by
  refine xa_C_arg [(2, 6, 0, 0, 0), (0, 0, (-2147483648), 2147483647, i)] (xa_svR (xa_svI (fun _ _ _ _ => by omega) xa_sv0)) ?_
  refine xa_meth (Q0 := (2, 1, false, 0, 0, 11)) (by decide +kernel) ⟨rfl, rfl⟩ (full := s_c_23) rfl rfl ?_
  intro hM hv Q hgo
  refine hgo.1 15 [] 0 _ _ _ ?_
  refine And.intro ?_ ?_
  · intro (c1 : i < 0)
    show post (some (0, 0, 0, 0, 0)) M
    exact absurd h1 (by omega)
  · intro (c1 : 0 ≤ i)
    refine And.intro ?_ ?_
    · intro (c2 : 14 ≤ i)
      show post (some (0, 0, 0, 0, 0)) M
      exact absurd h1 (by omega)
    · intro (c2 : i < 14)
      refine And.intro (show 0 ≤ i ∧ i < 14 by omega) ?_
      show post (some (0, 0, (-2147483648), 2147483647, M 6 i)) M
      exact k1
theorem cx_142_1 {b : Bool} {A : Nat → Nat} {h0 : g_H} {d : Nat} {M : xa_M} {post : Option xa_V → xa_M → Prop} {l1 u1 : Int} {x1 : Int} (h1 : 0 ≤ x1 ∧ x1 < 14) (k1 : post (some (0, 0, (-2147483648), 2147483647, M 6 x1)) M) : xa_C (xl_I b) A h0 (d + 2) 142 [(2, 1, 0, 0, 0), (0, 0, l1, u1, x1)] M post := by
  refine xa_C_arg [(2, 1, 0, 0, 0), (0, 0, (-2147483648), 2147483647, x1)] (xa_svR (xa_svI (fun _ _ _ _ => by omega) (xa_sv0))) ?_
  refine xa_meth (Q0 := (2, 1, false, 0, 0, 1)) (by decide +kernel) ⟨rfl, rfl⟩ (full := s_c_142) rfl rfl ?_
  intro hM hv Q hgo
  refine hgo.1 9 [] 0 _ _ _ ?_
  show xa_C (xl_I b) A h0 _ 23 [(2, 6, 0, 0, 0), (0, 0, (-2147483648), 2147483647, x1)] M _
  refine cx_23_6 (show 0 ≤ x1 ∧ x1 < 14 by omega) ?_
  show post (some (0, 0, (-2147483648), 2147483647, M 6 x1)) M
  exact k1
theorem cx_23_45 {b : Bool} {A : Nat → Nat} {h0 : g_H} {d : Nat} {M : xa_M} {post : Option xa_V → xa_M → Prop} {l1 u1 : Int} {i : Int} (h1 : 0 ≤ i ∧ i < 12) (k1 : post (some (0, 0, (-2147483648), 2147483647, M 45 i)) M) : xa_C (xl_I b) A h0 (d + 1) 23 [(2, 45, 0, 0, 0), (0, 0, l1, u1, i)] M post := by
  refine xa_C_arg [(2, 45, 0, 0, 0), (0, 0, (-2147483648), 2147483647, i)] (xa_svR (xa_svI (fun _ _ _ _ => by omega) xa_sv0)) ?_
  refine xa_meth (Q0 := (2, 1, false, 0, 0, 11)) (by decide +kernel) ⟨rfl, rfl⟩ (full := s_c_23) rfl rfl ?_
  intro hM hv Q hgo
  refine hgo.1 15 [] 0 _ _ _ ?_
  refine And.intro ?_ ?_
  · intro (c1 : i < 0)
    show post (some (0, 0, 0, 0, 0)) M
    exact absurd h1 (by omega)
  · intro (c1 : 0 ≤ i)
    refine And.intro ?_ ?_
    · intro (c2 : 12 ≤ i)
      show post (some (0, 0, 0, 0, 0)) M
      exact absurd h1 (by omega)
    · intro (c2 : i < 12)
      refine And.intro (show 0 ≤ i ∧ i < 12 by omega) ?_
      show post (some (0, 0, (-2147483648), 2147483647, M 45 i)) M
      exact k1
theorem cx_23_46 {b : Bool} {A : Nat → Nat} {h0 : g_H} {d : Nat} {M : xa_M} {post : Option xa_V → xa_M → Prop} {l1 u1 : Int} {i : Int} (h1 : 0 ≤ i ∧ i < 12) (k1 : post (some (0, 0, (-2147483648), 2147483647, M 46 i)) M) : xa_C (xl_I b) A h0 (d + 1) 23 [(2, 46, 0, 0, 0), (0, 0, l1, u1, i)] M post := by
  refine xa_C_arg [(2, 46, 0, 0, 0), (0, 0, (-2147483648), 2147483647, i)] (xa_svR (xa_svI (fun _ _ _ _ => by omega) xa_sv0)) ?_
  refine xa_meth (Q0 := (2, 1, false, 0, 0, 11)) (by decide +kernel) ⟨rfl, rfl⟩ (full := s_c_23) rfl rfl ?_
  intro hM hv Q hgo
  refine hgo.1 15 [] 0 _ _ _ ?_
  refine And.intro ?_ ?_
  · intro (c1 : i < 0)
    show post (some (0, 0, 0, 0, 0)) M
    exact absurd h1 (by omega)
  · intro (c1 : 0 ≤ i)
    refine And.intro ?_ ?_
    · intro (c2 : 12 ≤ i)
      show post (some (0, 0, 0, 0, 0)) M
      exact absurd h1 (by omega)
    · intro (c2 : i < 12)
      refine And.intro (show 0 ≤ i ∧ i < 12 by omega) ?_
      show post (some (0, 0, (-2147483648), 2147483647, M 46 i)) M
      exact k1
theorem cx_23_47 {b : Bool} {A : Nat → Nat} {h0 : g_H} {d : Nat} {M : xa_M} {post : Option xa_V → xa_M → Prop} {l1 u1 : Int} {i : Int} (h1 : 0 ≤ i ∧ i < 12) (k1 : post (some (0, 0, (-2147483648), 2147483647, M 47 i)) M) : xa_C (xl_I b) A h0 (d + 1) 23 [(2, 47, 0, 0, 0), (0, 0, l1, u1, i)] M post := by
  refine xa_C_arg [(2, 47, 0, 0, 0), (0, 0, (-2147483648), 2147483647, i)] (xa_svR (xa_svI (fun _ _ _ _ => by omega) xa_sv0)) ?_
  refine xa_meth (Q0 := (2, 1, false, 0, 0, 11)) (by decide +kernel) ⟨rfl, rfl⟩ (full := s_c_23) rfl rfl ?_
  intro hM hv Q hgo
  refine hgo.1 15 [] 0 _ _ _ ?_
  refine And.intro ?_ ?_
  · intro (c1 : i < 0)
    show post (some (0, 0, 0, 0, 0)) M
    exact absurd h1 (by omega)
  · intro (c1 : 0 ≤ i)
    refine And.intro ?_ ?_
    · intro (c2 : 12 ≤ i)
      show post (some (0, 0, 0, 0, 0)) M
      exact absurd h1 (by omega)
    · intro (c2 : i < 12)
      refine And.intro (show 0 ≤ i ∧ i < 12 by omega) ?_
      show post (some (0, 0, (-2147483648), 2147483647, M 47 i)) M
      exact k1
theorem cx_197f {b : Bool} {A : Nat → Nat} {h0 : g_H} {d : Nat} {M : xa_M} {post : Option xa_V → xa_M → Prop} {l2 u2 l3 u3 x w : Int} (h1 : 0 ≤ x ∧ x ≤ 11) (h2 : 0 ≤ w ∧ w ≤ 13) (k1 : br_is (M 44) (M 45) (M 46) (M 47) (M 5) (M 6) (M 4) x w → post (some (0, 0, 1, 1, 1)) M) (k0 : ¬ br_is (M 44) (M 45) (M 46) (M 47) (M 5) (M 6) (M 4) x w → post (some (0, 0, 0, 0, 0)) M) : xa_C (xl_I b) A h0 (d + 3) 197 [(2, 43, 0, 0, 0), (2, 1, 0, 0, 0), (0, 0, l2, u2, x), (0, 0, l3, u3, w)] M post := by
  refine xa_C_arg [(2, 43, 0, 0, 0), (2, 1, 0, 0, 0), (0, 0, 0, 11, x), (0, 0, 0, 13, w)] (xa_svR (xa_svR (xa_svI (fun _ _ _ _ => by omega) (xa_svI (fun _ _ _ _ => by omega) (xa_sv0))))) ?_
  refine xa_meth (Q0 := (5, 2, false, 0, 0, 5)) (by decide +kernel) ⟨rfl, rfl⟩ (full := s_c_197) rfl rfl ?_
  intro hM hv Q hgo
  refine hgo.1 39 [] 0 _ _ _ ?_
  show xa_C (xl_I b) A h0 _ 28 [(2, 1, 0, 0, 0), (0, 0, 0, 13, w)] M _
  refine cx_28_1 (show 0 ≤ w ∧ w < 14 by omega) ?_
  show xa_C (xl_I b) A h0 _ 37 [(2, 1, 0, 0, 0), (0, 0, 0, 13, w)] M _
  refine cx_37_1 (show 0 ≤ w ∧ w < 14 by omega) ?_
  show xa_C (xl_I b) A h0 _ 23 [(2, 44, 0, 0, 0), (0, 0, 0, 11, x)] M _
  refine cx_23_44 (show 0 ≤ x ∧ x < 12 by omega) ?_
  refine And.intro ?_ ?_
  · intro (c1 : ¬ (M 5 w) = (M 44 x))
    show post (some (0, 0, 0, 0, 0)) M
    exact k0 (by unfold br_is; omega)
  · intro (c1 : (M 5 w) = (M 44 x))
    show xa_C (xl_I b) A h0 _ 142 [(2, 1, 0, 0, 0), (0, 0, 0, 13, w)] M _
    refine cx_142_1 (show 0 ≤ w ∧ w < 14 by omega) ?_
    show xa_C (xl_I b) A h0 _ 23 [(2, 45, 0, 0, 0), (0, 0, 0, 11, x)] M _
    refine cx_23_45 (show 0 ≤ x ∧ x < 12 by omega) ?_
    refine And.intro ?_ ?_
    · intro (c2 : ¬ (M 6 w) = (M 45 x))
      show post (some (0, 0, 0, 0, 0)) M
      exact k0 (by unfold br_is; omega)
    · intro (c2 : (M 6 w) = (M 45 x))
      show xa_C (xl_I b) A h0 _ 23 [(2, 46, 0, 0, 0), (0, 0, 0, 11, x)] M _
      refine cx_23_46 (show 0 ≤ x ∧ x < 12 by omega) ?_
      refine And.intro ?_ ?_
      · intro (c3 : (M 4 w) < (M 46 x))
        show post (some (0, 0, 0, 0, 0)) M
        exact k0 (by unfold br_is; omega)
      · intro (c3 : (M 46 x) ≤ (M 4 w))
        show xa_C (xl_I b) A h0 _ 23 [(2, 47, 0, 0, 0), (0, 0, 0, 11, x)] M _
        refine cx_23_47 (show 0 ≤ x ∧ x < 12 by omega) ?_
        refine And.intro ?_ ?_
        · intro (c4 : (M 47 x) < (M 4 w))
          show post (some (0, 0, 0, 0, 0)) M
          exact k0 (by unfold br_is; omega)
        · intro (c4 : (M 4 w) ≤ (M 47 x))
          show post (some (0, 0, 1, 1, 1)) M
          exact k1 (by unfold br_is; omega)
theorem cx_196f {b : Bool} {A : Nat → Nat} {h0 : g_H} {d : Nat} {M : xa_M} {post : Option xa_V → xa_M → Prop} {l2 u2 : Int} {x : Int} (h1 : 0 ≤ x ∧ x ≤ 11) (hn : 0 ≤ M 1 9 ∧ M 1 9 ≤ 14) (k : ∀ r : Int, gg_P (br_is (M 44) (M 45) (M 46) (M 47) (M 5) (M 6) (M 4) x) (M 4) (M 1 9) r → (-1 ≤ r ∧ r ≤ 13) → post (some (0, 0, (-1), 13, r)) M) : xa_C (xl_I b) A h0 (d + 4) 196 [(2, 43, 0, 0, 0), (2, 1, 0, 0, 0), (0, 0, l2, u2, x)] M post := by
  refine xa_C_arg [(2, 43, 0, 0, 0), (2, 1, 0, 0, 0), (0, 0, 0, 11, x)] (xa_svR (xa_svR (xa_svI (fun _ _ _ _ => by omega) (xa_sv0)))) ?_
  refine xa_meth (Q0 := (6, 1, false, 0, 0, 5)) (by decide +kernel) ⟨rfl, rfl⟩ (full := s_c_196) rfl rfl ?_
  intro hM hv Q hgo
  have loop : ∀ (n : Nat) (i bs : Int), 0 ≤ i ∧ i ≤ M 1 9 → -1 ≤ bs ∧ bs < i → gg_P (br_is (M 44) (M 45) (M 46) (M 47) (M 5) (M 6) (M 4) x) (M 4) i bs → 14 - i < (n : Int) → Q 5 [(4, (0, 0, 0, 14, i)), (3, (0, 0, (-1), 13, bs)), (0, (2, 43, 0, 0, 0)), (1, (2, 1, 0, 0, 0)), (2, (0, 0, 0, 11, x))] [] M := by
    intro n
    induction n with
    | zero => intro i bs i1 b1 hg hms; omega
    | succ n ih =>
      intro i bs i1 b1 hg hms
      refine hgo.1 35 [5] 5 _ _ _ ?_
      refine And.intro ?_ ?_
      · intro (c1 : (M 1 9) ≤ i)
        show post (some (0, 0, (-1), 13, bs)) M
        exact k _ (by rw [show M 1 9 = i by omega]; exact hg) (by omega)
      · intro (c1 : i < (M 1 9))
        refine And.intro ?_ ?_
        · intro (c2 : bs = (-1))
          show xa_C (xl_I b) A h0 _ 197 [(2, 43, 0, 0, 0), (2, 1, 0, 0, 0), (0, 0, 0, 11, x), (0, 0, 0, 14, i)] M _
          refine cx_197f (show 0 ≤ x ∧ x ≤ 11 by omega) (show 0 ≤ i ∧ i ≤ 13 by omega) ?_ ?_
          · intro (i3 : br_is (M 44) (M 45) (M 46) (M 47) (M 5) (M 6) (M 4) x i)
            show Q 5 [(4, (0, 0, 1, 15, i + 1)), (3, (0, 0, 0, 14, i)), (5, (0, 0, 1, 1, 1)), (0, (2, 43, 0, 0, 0)), (1, (2, 1, 0, 0, 0)), (2, (0, 0, 0, 11, x))] [] M
            refine hgo.2.1 5 _ [(4, (0, 0, 0, 14, i + 1)), (3, (0, 0, (-1), 13, i)), (0, (2, 43, 0, 0, 0)), (1, (2, 1, 0, 0, 0)), (2, (0, 0, 0, 11, x))] _ _ (xa_subI rfl rfl (fun _ _ _ _ => by omega) (xa_subI rfl rfl (fun _ _ _ _ => by omega) (xa_subR rfl (xa_subR rfl (xa_subI rfl rfl (fun _ _ _ _ => by omega) (xa_sub0)))))) ?_
            exact ih (i + 1) i (by omega) (by omega) (gg_yes (by omega) i3 (by omega) hg) (by omega)
          · intro (i4 : ¬ br_is (M 44) (M 45) (M 46) (M 47) (M 5) (M 6) (M 4) x i)
            show Q 5 [(4, (0, 0, 1, 15, i + 1)), (3, (0, 0, (-1), 13, bs)), (5, (0, 0, 1, 1, 1)), (0, (2, 43, 0, 0, 0)), (1, (2, 1, 0, 0, 0)), (2, (0, 0, 0, 11, x))] [] M
            refine hgo.2.1 5 _ [(4, (0, 0, 0, 14, i + 1)), (3, (0, 0, (-1), 13, bs)), (0, (2, 43, 0, 0, 0)), (1, (2, 1, 0, 0, 0)), (2, (0, 0, 0, 11, x))] _ _ (xa_subI rfl rfl (fun _ _ _ _ => by omega) (xa_subI rfl rfl (fun _ _ _ _ => by omega) (xa_subR rfl (xa_subR rfl (xa_subI rfl rfl (fun _ _ _ _ => by omega) (xa_sub0)))))) ?_
            exact ih (i + 1) bs (by omega) (by omega) (gg_no i4 hg) (by omega)
        · intro (c2 : ¬ bs = (-1))
          show xa_C (xl_I b) A h0 _ 28 [(2, 1, 0, 0, 0), (0, 0, 0, 14, i)] M _
          refine cx_28_1 (show 0 ≤ i ∧ i < 14 by omega) ?_
          show xa_C (xl_I b) A h0 _ 28 [(2, 1, 0, 0, 0), (0, 0, (-1), 13, bs)] M _
          refine cx_28_1 (show 0 ≤ bs ∧ bs < 14 by omega) ?_
          refine And.intro ?_ ?_
          · intro (c5 : (M 4 i) ≤ (M 4 bs))
            show xa_C (xl_I b) A h0 _ 197 [(2, 43, 0, 0, 0), (2, 1, 0, 0, 0), (0, 0, 0, 11, x), (0, 0, 0, 14, i)] M _
            refine cx_197f (show 0 ≤ x ∧ x ≤ 11 by omega) (show 0 ≤ i ∧ i ≤ 13 by omega) ?_ ?_
            · intro (i6 : br_is (M 44) (M 45) (M 46) (M 47) (M 5) (M 6) (M 4) x i)
              show Q 5 [(4, (0, 0, 1, 15, i + 1)), (3, (0, 0, (-1), 13, bs)), (5, (0, 0, 0, 0, 0)), (0, (2, 43, 0, 0, 0)), (1, (2, 1, 0, 0, 0)), (2, (0, 0, 0, 11, x))] [] M
              refine hgo.2.1 5 _ [(4, (0, 0, 0, 14, i + 1)), (3, (0, 0, (-1), 13, bs)), (0, (2, 43, 0, 0, 0)), (1, (2, 1, 0, 0, 0)), (2, (0, 0, 0, 11, x))] _ _ (xa_subI rfl rfl (fun _ _ _ _ => by omega) (xa_subI rfl rfl (fun _ _ _ _ => by omega) (xa_subR rfl (xa_subR rfl (xa_subI rfl rfl (fun _ _ _ _ => by omega) (xa_sub0)))))) ?_
              exact ih (i + 1) bs (by omega) (by omega) (gg_eq (by omega) (by omega) hg) (by omega)
            · intro (i7 : ¬ br_is (M 44) (M 45) (M 46) (M 47) (M 5) (M 6) (M 4) x i)
              show Q 5 [(4, (0, 0, 1, 15, i + 1)), (3, (0, 0, (-1), 13, bs)), (5, (0, 0, 0, 0, 0)), (0, (2, 43, 0, 0, 0)), (1, (2, 1, 0, 0, 0)), (2, (0, 0, 0, 11, x))] [] M
              refine hgo.2.1 5 _ [(4, (0, 0, 0, 14, i + 1)), (3, (0, 0, (-1), 13, bs)), (0, (2, 43, 0, 0, 0)), (1, (2, 1, 0, 0, 0)), (2, (0, 0, 0, 11, x))] _ _ (xa_subI rfl rfl (fun _ _ _ _ => by omega) (xa_subI rfl rfl (fun _ _ _ _ => by omega) (xa_subR rfl (xa_subR rfl (xa_subI rfl rfl (fun _ _ _ _ => by omega) (xa_sub0)))))) ?_
              exact ih (i + 1) bs (by omega) (by omega) (gg_no i7 hg) (by omega)
          · intro (c5 : (M 4 bs) < (M 4 i))
            show xa_C (xl_I b) A h0 _ 197 [(2, 43, 0, 0, 0), (2, 1, 0, 0, 0), (0, 0, 0, 11, x), (0, 0, 0, 14, i)] M _
            refine cx_197f (show 0 ≤ x ∧ x ≤ 11 by omega) (show 0 ≤ i ∧ i ≤ 13 by omega) ?_ ?_
            · intro (i8 : br_is (M 44) (M 45) (M 46) (M 47) (M 5) (M 6) (M 4) x i)
              show Q 5 [(4, (0, 0, 1, 15, i + 1)), (3, (0, 0, 0, 14, i)), (5, (0, 0, 1, 1, 1)), (0, (2, 43, 0, 0, 0)), (1, (2, 1, 0, 0, 0)), (2, (0, 0, 0, 11, x))] [] M
              refine hgo.2.1 5 _ [(4, (0, 0, 0, 14, i + 1)), (3, (0, 0, (-1), 13, i)), (0, (2, 43, 0, 0, 0)), (1, (2, 1, 0, 0, 0)), (2, (0, 0, 0, 11, x))] _ _ (xa_subI rfl rfl (fun _ _ _ _ => by omega) (xa_subI rfl rfl (fun _ _ _ _ => by omega) (xa_subR rfl (xa_subR rfl (xa_subI rfl rfl (fun _ _ _ _ => by omega) (xa_sub0)))))) ?_
              exact ih (i + 1) i (by omega) (by omega) (gg_yes (by omega) i8 (by omega) hg) (by omega)
            · intro (i9 : ¬ br_is (M 44) (M 45) (M 46) (M 47) (M 5) (M 6) (M 4) x i)
              show Q 5 [(4, (0, 0, 1, 15, i + 1)), (3, (0, 0, (-1), 13, bs)), (5, (0, 0, 1, 1, 1)), (0, (2, 43, 0, 0, 0)), (1, (2, 1, 0, 0, 0)), (2, (0, 0, 0, 11, x))] [] M
              refine hgo.2.1 5 _ [(4, (0, 0, 0, 14, i + 1)), (3, (0, 0, (-1), 13, bs)), (0, (2, 43, 0, 0, 0)), (1, (2, 1, 0, 0, 0)), (2, (0, 0, 0, 11, x))] _ _ (xa_subI rfl rfl (fun _ _ _ _ => by omega) (xa_subI rfl rfl (fun _ _ _ _ => by omega) (xa_subR rfl (xa_subR rfl (xa_subI rfl rfl (fun _ _ _ _ => by omega) (xa_sub0)))))) ?_
              exact ih (i + 1) bs (by omega) (by omega) (gg_no i9 hg) (by omega)
  refine hgo.1 9 [5] 0 _ _ _ ?_
  show Q 5 [(4, (0, 0, 0, 0, 0)), (3, (0, 0, (-1), (-1), (-1))), (0, (2, 43, 0, 0, 0)), (1, (2, 1, 0, 0, 0)), (2, (0, 0, 0, 11, x))] [] M
  refine hgo.2.1 5 _ [(4, (0, 0, 0, 14, 0)), (3, (0, 0, (-1), 13, (-1))), (0, (2, 43, 0, 0, 0)), (1, (2, 1, 0, 0, 0)), (2, (0, 0, 0, 11, x))] _ _ (xa_subI rfl rfl (fun _ _ _ _ => by omega) (xa_subI rfl rfl (fun _ _ _ _ => by omega) (xa_subR rfl (xa_subR rfl (xa_subI rfl rfl (fun _ _ _ _ => by omega) (xa_sub0)))))) ?_
  exact loop 15 0 (-1) (by omega) (by omega) gg_0 (by omega)
theorem cx_195f {b : Bool} {A : Nat → Nat} {h0 : g_H} {d : Nat} {M : xa_M} {post : Option xa_V → xa_M → Prop} (hn : 0 ≤ M 1 9 ∧ M 1 9 ≤ 14) (hl : 0 ≤ M 43 4 ∧ M 43 4 ≤ 12) (k : post (some (0, 0, (-2147483648), 2147483647, br_b (br_no (M 44) (M 45) (M 46) (M 47) (M 5) (M 6) (M 4) (M 1 9)) (M 43 4).toNat)) M) : xa_C (xl_I b) A h0 (d + 5) 195 [(2, 43, 0, 0, 0), (2, 1, 0, 0, 0)] M post := by
  refine xa_C_arg [(2, 43, 0, 0, 0), (2, 1, 0, 0, 0)] (xa_svR (xa_svR (xa_sv0))) ?_
  refine xa_meth (Q0 := (4, 1, false, 0, 0, 5)) (by decide +kernel) ⟨rfl, rfl⟩ (full := s_c_195) rfl rfl ?_
  intro hM hv Q hgo
  have loop : ∀ (n : Nat) (i bb : Int), 0 ≤ i ∧ i ≤ M 43 4 → bb = br_b (br_no (M 44) (M 45) (M 46) (M 47) (M 5) (M 6) (M 4) (M 1 9)) i.toNat → 12 - i < (n : Int) → Q 4 [(3, (0, 0, 0, 12, i)), (2, (0, 0, (-2147483648), 2147483647, bb)), (0, (2, 43, 0, 0, 0)), (1, (2, 1, 0, 0, 0))] [] M := by
    intro n
    induction n with
    | zero => intro i bb i1 hb hms; omega
    | succ n ih =>
      intro i bb i1 hb hms
      have ei : ((i.toNat : Nat) : Int) = i := Int.toNat_of_nonneg i1.1
      have hr := br_b_r (P := (br_no (M 44) (M 45) (M 46) (M 47) (M 5) (M 6) (M 4) (M 1 9))) i.toNat
      rw [← hb] at hr
      refine hgo.1 24 [4] 4 _ _ _ ?_
      refine And.intro ?_ ?_
      · intro (c1 : (M 43 4) ≤ i)
        show post (some (0, 0, (-2147483648), 2147483647, bb)) M
        rw [hb, show i = M 43 4 by omega]
        exact k
      · intro (c1 : i < (M 43 4))
        show xa_C (xl_I b) A h0 _ 196 [(2, 43, 0, 0, 0), (2, 1, 0, 0, 0), (0, 0, 0, 12, i)] M _
        refine cx_196f (show 0 ≤ i ∧ i ≤ 11 by omega) hn ?_
        intro r101 (i2 : gg_P (br_is (M 44) (M 45) (M 46) (M 47) (M 5) (M 6) (M 4) i) (M 4) (M 1 9) r101) (i3 : -1 ≤ r101 ∧ r101 ≤ 13)
        refine And.intro ?_ ?_
        · intro (c4 : ¬ r101 = (-1))
          show Q 4 [(3, (0, 0, 1, 13, i + 1)), (2, (0, 0, (-2147483648), 2147483647, xa_ib 4 bb 0)), (0, (2, 43, 0, 0, 0)), (1, (2, 1, 0, 0, 0))] [] M
          have eb : xa_ib 4 bb 0 = br_b (br_no (M 44) (M 45) (M 46) (M 47) (M 5) (M 6) (M 4) (M 1 9)) (i + 1).toNat := by
            rw [show (i + 1).toNat = i.toNat + 1 by omega, br_b0 (show ¬ (br_no (M 44) (M 45) (M 46) (M 47) (M 5) (M 6) (M 4) (M 1 9)) ((i.toNat : Nat) : Int) by rw [ei]; exact (fun hh => absurd ((gg_none i2).mpr hh) (by omega))), ← hb, br_or0 hr.1 hr.2]
          refine hgo.2.1 4 _ [(3, (0, 0, 0, 12, i + 1)), (2, (0, 0, (-2147483648), 2147483647, xa_ib 4 bb 0)), (0, (2, 43, 0, 0, 0)), (1, (2, 1, 0, 0, 0))] _ _ (xa_subI rfl rfl (fun _ _ _ _ => by omega) (xa_subI rfl rfl (fun _ _ _ _ => by omega) (xa_subR rfl (xa_subR rfl (xa_sub0))))) ?_
          exact ih (i + 1) _ (by omega) eb (by omega)
        · intro (c4 : r101 = (-1))
          show Q 4 [(3, (0, 0, 1, 13, i + 1)), (2, (0, 0, (-2147483648), 2147483647, xa_ib 4 bb (xa_ib 6 1 i))), (0, (2, 43, 0, 0, 0)), (1, (2, 1, 0, 0, 0))] [] M
          have eb : xa_ib 4 bb (xa_ib 6 1 i) = br_b (br_no (M 44) (M 45) (M 46) (M 47) (M 5) (M 6) (M 4) (M 1 9)) (i + 1).toNat := by
            rw [show (i + 1).toNat = i.toNat + 1 by omega, br_b1 (show (br_no (M 44) (M 45) (M 46) (M 47) (M 5) (M 6) (M 4) (M 1 9)) ((i.toNat : Nat) : Int) by rw [ei]; exact (fun w w0 w1 => ((gg_none i2).mp (by omega)) w w0 w1)), ← hb, ei]
          refine hgo.2.1 4 _ [(3, (0, 0, 0, 12, i + 1)), (2, (0, 0, (-2147483648), 2147483647, xa_ib 4 bb (xa_ib 6 1 i))), (0, (2, 43, 0, 0, 0)), (1, (2, 1, 0, 0, 0))] _ _ (xa_subI rfl rfl (fun _ _ _ _ => by omega) (xa_subI rfl rfl (fun _ _ _ _ => by omega) (xa_subR rfl (xa_subR rfl (xa_sub0))))) ?_
          exact ih (i + 1) _ (by omega) eb (by omega)
  refine hgo.1 9 [4] 0 _ _ _ ?_
  show Q 4 [(3, (0, 0, 0, 0, 0)), (2, (0, 0, 0, 0, 0)), (0, (2, 43, 0, 0, 0)), (1, (2, 1, 0, 0, 0))] [] M
  refine hgo.2.1 4 _ [(3, (0, 0, 0, 12, 0)), (2, (0, 0, (-2147483648), 2147483647, 0)), (0, (2, 43, 0, 0, 0)), (1, (2, 1, 0, 0, 0))] _ _ (xa_subI rfl rfl (fun _ _ _ _ => by omega) (xa_subI rfl rfl (fun _ _ _ _ => by omega) (xa_subR rfl (xa_subR rfl (xa_sub0))))) ?_
  exact loop 13 0 0 (by omega) rfl (by omega)
theorem cx_23a_44 {b : Bool} {A : Nat → Nat} {h0 : g_H} {d : Nat} {M : xa_M} {post : Option xa_V → xa_M → Prop} {l1 u1 : Int} {i : Int} (k : ∀ r : Int, post (some (0, 0, (-2147483648), 2147483647, r)) M) : xa_C (xl_I b) A h0 (d + 1) 23 [(2, 44, 0, 0, 0), (0, 0, l1, u1, i)] M post := by
  refine xa_C_wk ?_
  refine xa_C_arg [(2, 44, 0, 0, 0), (0, 0, (-2147483648), 2147483647, i)] (xa_svR (xa_svI (fun _ _ _ _ => by omega) (xa_sv0))) ?_
  refine xa_meth (Q0 := (2, 1, false, 0, 0, 11)) (by decide +kernel) ⟨rfl, rfl⟩ (full := s_c_23) rfl rfl ?_
  intro hM hv Q hgo
  refine hgo.1 15 [] 0 _ _ _ ?_
  refine And.intro ?_ ?_
  · intro (c1 : i < 0)
    show xa_wk post (some (0, 0, 0, 0, 0)) M
    exact xa_wkI 0 rfl (fun _ _ => by omega) (k _)
  · intro (c1 : 0 ≤ i)
    refine And.intro ?_ ?_
    · intro (c2 : 12 ≤ i)
      show xa_wk post (some (0, 0, 0, 0, 0)) M
      exact xa_wkI 0 rfl (fun _ _ => by omega) (k _)
    · intro (c2 : i < 12)
      refine And.intro (show 0 ≤ i ∧ i < 12 by omega) ?_
      show xa_wk post (some (0, 0, (-2147483648), 2147483647, M 44 i)) M
      exact xa_wkI (M 44 i) rfl (fun _ _ => by omega) (k _)
theorem cx_23a_45 {b : Bool} {A : Nat → Nat} {h0 : g_H} {d : Nat} {M : xa_M} {post : Option xa_V → xa_M → Prop} {l1 u1 : Int} {i : Int} (k : ∀ r : Int, post (some (0, 0, (-2147483648), 2147483647, r)) M) : xa_C (xl_I b) A h0 (d + 1) 23 [(2, 45, 0, 0, 0), (0, 0, l1, u1, i)] M post := by
  refine xa_C_wk ?_
  refine xa_C_arg [(2, 45, 0, 0, 0), (0, 0, (-2147483648), 2147483647, i)] (xa_svR (xa_svI (fun _ _ _ _ => by omega) (xa_sv0))) ?_
  refine xa_meth (Q0 := (2, 1, false, 0, 0, 11)) (by decide +kernel) ⟨rfl, rfl⟩ (full := s_c_23) rfl rfl ?_
  intro hM hv Q hgo
  refine hgo.1 15 [] 0 _ _ _ ?_
  refine And.intro ?_ ?_
  · intro (c1 : i < 0)
    show xa_wk post (some (0, 0, 0, 0, 0)) M
    exact xa_wkI 0 rfl (fun _ _ => by omega) (k _)
  · intro (c1 : 0 ≤ i)
    refine And.intro ?_ ?_
    · intro (c2 : 12 ≤ i)
      show xa_wk post (some (0, 0, 0, 0, 0)) M
      exact xa_wkI 0 rfl (fun _ _ => by omega) (k _)
    · intro (c2 : i < 12)
      refine And.intro (show 0 ≤ i ∧ i < 12 by omega) ?_
      show xa_wk post (some (0, 0, (-2147483648), 2147483647, M 45 i)) M
      exact xa_wkI (M 45 i) rfl (fun _ _ => by omega) (k _)
theorem cx_23a_46 {b : Bool} {A : Nat → Nat} {h0 : g_H} {d : Nat} {M : xa_M} {post : Option xa_V → xa_M → Prop} {l1 u1 : Int} {i : Int} (k : ∀ r : Int, post (some (0, 0, (-2147483648), 2147483647, r)) M) : xa_C (xl_I b) A h0 (d + 1) 23 [(2, 46, 0, 0, 0), (0, 0, l1, u1, i)] M post := by
  refine xa_C_wk ?_
  refine xa_C_arg [(2, 46, 0, 0, 0), (0, 0, (-2147483648), 2147483647, i)] (xa_svR (xa_svI (fun _ _ _ _ => by omega) (xa_sv0))) ?_
  refine xa_meth (Q0 := (2, 1, false, 0, 0, 11)) (by decide +kernel) ⟨rfl, rfl⟩ (full := s_c_23) rfl rfl ?_
  intro hM hv Q hgo
  refine hgo.1 15 [] 0 _ _ _ ?_
  refine And.intro ?_ ?_
  · intro (c1 : i < 0)
    show xa_wk post (some (0, 0, 0, 0, 0)) M
    exact xa_wkI 0 rfl (fun _ _ => by omega) (k _)
  · intro (c1 : 0 ≤ i)
    refine And.intro ?_ ?_
    · intro (c2 : 12 ≤ i)
      show xa_wk post (some (0, 0, 0, 0, 0)) M
      exact xa_wkI 0 rfl (fun _ _ => by omega) (k _)
    · intro (c2 : i < 12)
      refine And.intro (show 0 ≤ i ∧ i < 12 by omega) ?_
      show xa_wk post (some (0, 0, (-2147483648), 2147483647, M 46 i)) M
      exact xa_wkI (M 46 i) rfl (fun _ _ => by omega) (k _)
theorem cx_23a_47 {b : Bool} {A : Nat → Nat} {h0 : g_H} {d : Nat} {M : xa_M} {post : Option xa_V → xa_M → Prop} {l1 u1 : Int} {i : Int} (k : ∀ r : Int, post (some (0, 0, (-2147483648), 2147483647, r)) M) : xa_C (xl_I b) A h0 (d + 1) 23 [(2, 47, 0, 0, 0), (0, 0, l1, u1, i)] M post := by
  refine xa_C_wk ?_
  refine xa_C_arg [(2, 47, 0, 0, 0), (0, 0, (-2147483648), 2147483647, i)] (xa_svR (xa_svI (fun _ _ _ _ => by omega) (xa_sv0))) ?_
  refine xa_meth (Q0 := (2, 1, false, 0, 0, 11)) (by decide +kernel) ⟨rfl, rfl⟩ (full := s_c_23) rfl rfl ?_
  intro hM hv Q hgo
  refine hgo.1 15 [] 0 _ _ _ ?_
  refine And.intro ?_ ?_
  · intro (c1 : i < 0)
    show xa_wk post (some (0, 0, 0, 0, 0)) M
    exact xa_wkI 0 rfl (fun _ _ => by omega) (k _)
  · intro (c1 : 0 ≤ i)
    refine And.intro ?_ ?_
    · intro (c2 : 12 ≤ i)
      show xa_wk post (some (0, 0, 0, 0, 0)) M
      exact xa_wkI 0 rfl (fun _ _ => by omega) (k _)
    · intro (c2 : i < 12)
      refine And.intro (show 0 ≤ i ∧ i < 12 by omega) ?_
      show xa_wk post (some (0, 0, (-2147483648), 2147483647, M 47 i)) M
      exact xa_wkI (M 47 i) rfl (fun _ _ => by omega) (k _)
theorem cx_23a_4 {b : Bool} {A : Nat → Nat} {h0 : g_H} {d : Nat} {M : xa_M} {post : Option xa_V → xa_M → Prop} {l1 u1 : Int} {i : Int} (k : ∀ r : Int, post (some (0, 0, (-2147483648), 2147483647, r)) M) : xa_C (xl_I b) A h0 (d + 1) 23 [(2, 4, 0, 0, 0), (0, 0, l1, u1, i)] M post := by
  refine xa_C_wk ?_
  refine xa_C_arg [(2, 4, 0, 0, 0), (0, 0, (-2147483648), 2147483647, i)] (xa_svR (xa_svI (fun _ _ _ _ => by omega) (xa_sv0))) ?_
  refine xa_meth (Q0 := (2, 1, false, 0, 0, 11)) (by decide +kernel) ⟨rfl, rfl⟩ (full := s_c_23) rfl rfl ?_
  intro hM hv Q hgo
  refine hgo.1 15 [] 0 _ _ _ ?_
  refine And.intro ?_ ?_
  · intro (c1 : i < 0)
    show xa_wk post (some (0, 0, 0, 0, 0)) M
    exact xa_wkI 0 rfl (fun _ _ => by omega) (k _)
  · intro (c1 : 0 ≤ i)
    refine And.intro ?_ ?_
    · intro (c2 : 14 ≤ i)
      show xa_wk post (some (0, 0, 0, 0, 0)) M
      exact xa_wkI 0 rfl (fun _ _ => by omega) (k _)
    · intro (c2 : i < 14)
      refine And.intro (show 0 ≤ i ∧ i < 14 by omega) ?_
      show xa_wk post (some (0, 0, (-2147483648), 2147483647, M 4 i)) M
      exact xa_wkI (M 4 i) rfl (fun _ _ => by omega) (k _)
theorem cx_23a_5 {b : Bool} {A : Nat → Nat} {h0 : g_H} {d : Nat} {M : xa_M} {post : Option xa_V → xa_M → Prop} {l1 u1 : Int} {i : Int} (k : ∀ r : Int, post (some (0, 0, (-2147483648), 2147483647, r)) M) : xa_C (xl_I b) A h0 (d + 1) 23 [(2, 5, 0, 0, 0), (0, 0, l1, u1, i)] M post := by
  refine xa_C_wk ?_
  refine xa_C_arg [(2, 5, 0, 0, 0), (0, 0, (-2147483648), 2147483647, i)] (xa_svR (xa_svI (fun _ _ _ _ => by omega) (xa_sv0))) ?_
  refine xa_meth (Q0 := (2, 1, false, 0, 0, 11)) (by decide +kernel) ⟨rfl, rfl⟩ (full := s_c_23) rfl rfl ?_
  intro hM hv Q hgo
  refine hgo.1 15 [] 0 _ _ _ ?_
  refine And.intro ?_ ?_
  · intro (c1 : i < 0)
    show xa_wk post (some (0, 0, 0, 0, 0)) M
    exact xa_wkI 0 rfl (fun _ _ => by omega) (k _)
  · intro (c1 : 0 ≤ i)
    refine And.intro ?_ ?_
    · intro (c2 : 14 ≤ i)
      show xa_wk post (some (0, 0, 0, 0, 0)) M
      exact xa_wkI 0 rfl (fun _ _ => by omega) (k _)
    · intro (c2 : i < 14)
      refine And.intro (show 0 ≤ i ∧ i < 14 by omega) ?_
      show xa_wk post (some (0, 0, (-2147483648), 2147483647, M 5 i)) M
      exact xa_wkI (M 5 i) rfl (fun _ _ => by omega) (k _)
theorem cx_23a_6 {b : Bool} {A : Nat → Nat} {h0 : g_H} {d : Nat} {M : xa_M} {post : Option xa_V → xa_M → Prop} {l1 u1 : Int} {i : Int} (k : ∀ r : Int, post (some (0, 0, (-2147483648), 2147483647, r)) M) : xa_C (xl_I b) A h0 (d + 1) 23 [(2, 6, 0, 0, 0), (0, 0, l1, u1, i)] M post := by
  refine xa_C_wk ?_
  refine xa_C_arg [(2, 6, 0, 0, 0), (0, 0, (-2147483648), 2147483647, i)] (xa_svR (xa_svI (fun _ _ _ _ => by omega) (xa_sv0))) ?_
  refine xa_meth (Q0 := (2, 1, false, 0, 0, 11)) (by decide +kernel) ⟨rfl, rfl⟩ (full := s_c_23) rfl rfl ?_
  intro hM hv Q hgo
  refine hgo.1 15 [] 0 _ _ _ ?_
  refine And.intro ?_ ?_
  · intro (c1 : i < 0)
    show xa_wk post (some (0, 0, 0, 0, 0)) M
    exact xa_wkI 0 rfl (fun _ _ => by omega) (k _)
  · intro (c1 : 0 ≤ i)
    refine And.intro ?_ ?_
    · intro (c2 : 14 ≤ i)
      show xa_wk post (some (0, 0, 0, 0, 0)) M
      exact xa_wkI 0 rfl (fun _ _ => by omega) (k _)
    · intro (c2 : i < 14)
      refine And.intro (show 0 ≤ i ∧ i < 14 by omega) ?_
      show xa_wk post (some (0, 0, (-2147483648), 2147483647, M 6 i)) M
      exact xa_wkI (M 6 i) rfl (fun _ _ => by omega) (k _)
theorem cx_28a {b : Bool} {A : Nat → Nat} {h0 : g_H} {d : Nat} {M : xa_M} {post : Option xa_V → xa_M → Prop} {l1 u1 : Int} {i : Int} (k : ∀ r : Int, post (some (0, 0, (-2147483648), 2147483647, r)) M) : xa_C (xl_I b) A h0 (d + 2) 28 [(2, 1, 0, 0, 0), (0, 0, l1, u1, i)] M post := by
  refine xa_C_wk ?_
  refine xa_C_arg [(2, 1, 0, 0, 0), (0, 0, (-2147483648), 2147483647, i)] (xa_svR (xa_svI (fun _ _ _ _ => by omega) (xa_sv0))) ?_
  refine xa_meth (Q0 := (2, 1, false, 0, 0, 1)) (by decide +kernel) ⟨rfl, rfl⟩ (full := s_c_28) rfl rfl ?_
  intro hM hv Q hgo
  refine hgo.1 9 [] 0 _ _ _ ?_
  show xa_C (xl_I b) A h0 _ 23 [(2, 4, 0, 0, 0), (0, 0, (-2147483648), 2147483647, i)] M _
  refine cx_23a_4 ?_
  intro r102
  show xa_wk post (some (0, 0, (-2147483648), 2147483647, r102)) M
  exact xa_wkI r102 rfl (fun _ _ => by omega) (k _)
theorem cx_37a {b : Bool} {A : Nat → Nat} {h0 : g_H} {d : Nat} {M : xa_M} {post : Option xa_V → xa_M → Prop} {l1 u1 : Int} {i : Int} (k : ∀ r : Int, post (some (0, 0, (-2147483648), 2147483647, r)) M) : xa_C (xl_I b) A h0 (d + 2) 37 [(2, 1, 0, 0, 0), (0, 0, l1, u1, i)] M post := by
  refine xa_C_wk ?_
  refine xa_C_arg [(2, 1, 0, 0, 0), (0, 0, (-2147483648), 2147483647, i)] (xa_svR (xa_svI (fun _ _ _ _ => by omega) (xa_sv0))) ?_
  refine xa_meth (Q0 := (2, 1, false, 0, 0, 1)) (by decide +kernel) ⟨rfl, rfl⟩ (full := s_c_37) rfl rfl ?_
  intro hM hv Q hgo
  refine hgo.1 9 [] 0 _ _ _ ?_
  show xa_C (xl_I b) A h0 _ 23 [(2, 5, 0, 0, 0), (0, 0, (-2147483648), 2147483647, i)] M _
  refine cx_23a_5 ?_
  intro r103
  show xa_wk post (some (0, 0, (-2147483648), 2147483647, r103)) M
  exact xa_wkI r103 rfl (fun _ _ => by omega) (k _)
theorem cx_142a {b : Bool} {A : Nat → Nat} {h0 : g_H} {d : Nat} {M : xa_M} {post : Option xa_V → xa_M → Prop} {l1 u1 : Int} {i : Int} (k : ∀ r : Int, post (some (0, 0, (-2147483648), 2147483647, r)) M) : xa_C (xl_I b) A h0 (d + 2) 142 [(2, 1, 0, 0, 0), (0, 0, l1, u1, i)] M post := by
  refine xa_C_wk ?_
  refine xa_C_arg [(2, 1, 0, 0, 0), (0, 0, (-2147483648), 2147483647, i)] (xa_svR (xa_svI (fun _ _ _ _ => by omega) (xa_sv0))) ?_
  refine xa_meth (Q0 := (2, 1, false, 0, 0, 1)) (by decide +kernel) ⟨rfl, rfl⟩ (full := s_c_142) rfl rfl ?_
  intro hM hv Q hgo
  refine hgo.1 9 [] 0 _ _ _ ?_
  show xa_C (xl_I b) A h0 _ 23 [(2, 6, 0, 0, 0), (0, 0, (-2147483648), 2147483647, i)] M _
  refine cx_23a_6 ?_
  intro r104
  show xa_wk post (some (0, 0, (-2147483648), 2147483647, r104)) M
  exact xa_wkI r104 rfl (fun _ _ => by omega) (k _)
theorem cx_197a {b : Bool} {A : Nat → Nat} {h0 : g_H} {d : Nat} {M : xa_M} {post : Option xa_V → xa_M → Prop} {l2 u2 l3 u3 : Int} {x w : Int} (k : ∀ r : Int, 0 ≤ r ∧ r ≤ 1 → post (some (0, 0, 0, 1, r)) M) : xa_C (xl_I b) A h0 (d + 3) 197 [(2, 43, 0, 0, 0), (2, 1, 0, 0, 0), (0, 0, l2, u2, x), (0, 0, l3, u3, w)] M post := by
  refine xa_C_wk ?_
  refine xa_C_arg [(2, 43, 0, 0, 0), (2, 1, 0, 0, 0), (0, 0, (-2147483648), 2147483647, x), (0, 0, (-2147483648), 2147483647, w)] (xa_svR (xa_svR (xa_svI (fun _ _ _ _ => by omega) (xa_svI (fun _ _ _ _ => by omega) (xa_sv0))))) ?_
  refine xa_meth (Q0 := (5, 2, false, 0, 0, 5)) (by decide +kernel) ⟨rfl, rfl⟩ (full := s_c_197) rfl rfl ?_
  intro hM hv Q hgo
  refine hgo.1 39 [] 0 _ _ _ ?_
  show xa_C (xl_I b) A h0 _ 28 [(2, 1, 0, 0, 0), (0, 0, (-2147483648), 2147483647, w)] M _
  refine cx_28a ?_
  intro r105
  show xa_C (xl_I b) A h0 _ 37 [(2, 1, 0, 0, 0), (0, 0, (-2147483648), 2147483647, w)] M _
  refine cx_37a ?_
  intro r106
  show xa_C (xl_I b) A h0 _ 23 [(2, 44, 0, 0, 0), (0, 0, (-2147483648), 2147483647, x)] M _
  refine cx_23a_44 ?_
  intro r107
  refine And.intro ?_ ?_
  · intro (c1 : ¬ r106 = r107)
    show xa_wk post (some (0, 0, 0, 0, 0)) M
    exact xa_wkI 0 rfl (fun _ _ => by omega) (k _ (by omega))
  · intro (c1 : r106 = r107)
    show xa_C (xl_I b) A h0 _ 142 [(2, 1, 0, 0, 0), (0, 0, (-2147483648), 2147483647, w)] M _
    refine cx_142a ?_
    intro r108
    show xa_C (xl_I b) A h0 _ 23 [(2, 45, 0, 0, 0), (0, 0, (-2147483648), 2147483647, x)] M _
    refine cx_23a_45 ?_
    intro r109
    refine And.intro ?_ ?_
    · intro (c2 : ¬ r108 = r109)
      show xa_wk post (some (0, 0, 0, 0, 0)) M
      exact xa_wkI 0 rfl (fun _ _ => by omega) (k _ (by omega))
    · intro (c2 : r108 = r109)
      show xa_C (xl_I b) A h0 _ 23 [(2, 46, 0, 0, 0), (0, 0, (-2147483648), 2147483647, x)] M _
      refine cx_23a_46 ?_
      intro r110
      refine And.intro ?_ ?_
      · intro (c3 : r105 < r110)
        show xa_wk post (some (0, 0, 0, 0, 0)) M
        exact xa_wkI 0 rfl (fun _ _ => by omega) (k _ (by omega))
      · intro (c3 : r110 ≤ r105)
        show xa_C (xl_I b) A h0 _ 23 [(2, 47, 0, 0, 0), (0, 0, (-2147483648), 2147483647, x)] M _
        refine cx_23a_47 ?_
        intro r111
        refine And.intro ?_ ?_
        · intro (c4 : r111 < r105)
          show xa_wk post (some (0, 0, 0, 0, 0)) M
          exact xa_wkI 0 rfl (fun _ _ => by omega) (k _ (by omega))
        · intro (c4 : r105 ≤ r111)
          show xa_wk post (some (0, 0, 1, 1, 1)) M
          exact xa_wkI 1 rfl (fun _ _ => by omega) (k _ (by omega))
theorem cx_196a {b : Bool} {A : Nat → Nat} {h0 : g_H} {d : Nat} {M : xa_M} {post : Option xa_V → xa_M → Prop} {l2 u2 : Int} {x : Int} (hn : 0 ≤ M 1 9 ∧ M 1 9 ≤ 14) (k : ∀ r : Int, -1 ≤ r ∧ r ≤ 13 → post (some (0, 0, (-1), 13, r)) M) : xa_C (xl_I b) A h0 (d + 4) 196 [(2, 43, 0, 0, 0), (2, 1, 0, 0, 0), (0, 0, l2, u2, x)] M post := by
  refine xa_C_arg [(2, 43, 0, 0, 0), (2, 1, 0, 0, 0), (0, 0, (-2147483648), 2147483647, x)] (xa_svR (xa_svR (xa_svI (fun _ _ _ _ => by omega) (xa_sv0)))) ?_
  refine xa_meth (Q0 := (6, 1, false, 0, 0, 5)) (by decide +kernel) ⟨rfl, rfl⟩ (full := s_c_196) rfl rfl ?_
  intro hM hv Q hgo
  have loop : ∀ (n : Nat) (i bs : Int), 0 ≤ i ∧ i ≤ M 1 9 → -1 ≤ bs ∧ bs ≤ 13 → 14 - i < (n : Int) → Q 5 [(4, (0, 0, 0, 14, i)), (3, (0, 0, (-1), 13, bs)), (0, (2, 43, 0, 0, 0)), (1, (2, 1, 0, 0, 0)), (2, (0, 0, (-2147483648), 2147483647, x))] [] M := by
    intro n
    induction n with
    | zero => intro i bs i1 b1 hms; omega
    | succ n ih =>
      intro i bs i1 b1 hms
      refine hgo.1 35 [5] 5 _ _ _ ?_
      refine And.intro ?_ ?_
      · intro (c1 : (M 1 9) ≤ i)
        show post (some (0, 0, (-1), 13, bs)) M
        exact k _ b1
      · intro (c1 : i < (M 1 9))
        refine And.intro ?_ ?_
        · intro (c2 : bs = (-1))
          show xa_C (xl_I b) A h0 _ 197 [(2, 43, 0, 0, 0), (2, 1, 0, 0, 0), (0, 0, (-2147483648), 2147483647, x), (0, 0, 0, 14, i)] M _
          refine cx_197a ?_
          intro r112 (i3 : 0 ≤ r112 ∧ r112 ≤ 1)
          refine And.intro ?_ ?_
          · intro (c4 : r112 = 0)
            show Q 5 [(4, (0, 0, 1, 15, i + 1)), (3, (0, 0, (-1), 13, bs)), (5, (0, 0, 1, 1, 1)), (0, (2, 43, 0, 0, 0)), (1, (2, 1, 0, 0, 0)), (2, (0, 0, (-2147483648), 2147483647, x))] [] M
            refine hgo.2.1 5 _ [(4, (0, 0, 0, 14, i + 1)), (3, (0, 0, (-1), 13, bs)), (0, (2, 43, 0, 0, 0)), (1, (2, 1, 0, 0, 0)), (2, (0, 0, (-2147483648), 2147483647, x))] _ _ (xa_subI rfl rfl (fun _ _ _ _ => by omega) (xa_subI rfl rfl (fun _ _ _ _ => by omega) (xa_subR rfl (xa_subR rfl (xa_subI rfl rfl (fun _ _ _ _ => by omega) (xa_sub0)))))) ?_
            exact ih (i + 1) bs (by omega) (by omega) (by omega)
          · intro (c4 : ¬ r112 = 0)
            show Q 5 [(4, (0, 0, 1, 15, i + 1)), (3, (0, 0, 0, 14, i)), (5, (0, 0, 1, 1, 1)), (0, (2, 43, 0, 0, 0)), (1, (2, 1, 0, 0, 0)), (2, (0, 0, (-2147483648), 2147483647, x))] [] M
            refine hgo.2.1 5 _ [(4, (0, 0, 0, 14, i + 1)), (3, (0, 0, (-1), 13, i)), (0, (2, 43, 0, 0, 0)), (1, (2, 1, 0, 0, 0)), (2, (0, 0, (-2147483648), 2147483647, x))] _ _ (xa_subI rfl rfl (fun _ _ _ _ => by omega) (xa_subI rfl rfl (fun _ _ _ _ => by omega) (xa_subR rfl (xa_subR rfl (xa_subI rfl rfl (fun _ _ _ _ => by omega) (xa_sub0)))))) ?_
            exact ih (i + 1) i (by omega) (by omega) (by omega)
        · intro (c2 : ¬ bs = (-1))
          show xa_C (xl_I b) A h0 _ 28 [(2, 1, 0, 0, 0), (0, 0, 0, 14, i)] M _
          refine cx_28a ?_
          intro r113
          show xa_C (xl_I b) A h0 _ 28 [(2, 1, 0, 0, 0), (0, 0, (-1), 13, bs)] M _
          refine cx_28a ?_
          intro r114
          refine And.intro ?_ ?_
          · intro (c5 : r113 ≤ r114)
            show xa_C (xl_I b) A h0 _ 197 [(2, 43, 0, 0, 0), (2, 1, 0, 0, 0), (0, 0, (-2147483648), 2147483647, x), (0, 0, 0, 14, i)] M _
            refine cx_197a ?_
            intro r115 (i6 : 0 ≤ r115 ∧ r115 ≤ 1)
            refine And.intro ?_ ?_
            · intro (c7 : r115 = 0)
              show Q 5 [(4, (0, 0, 1, 15, i + 1)), (3, (0, 0, (-1), 13, bs)), (5, (0, 0, 0, 0, 0)), (0, (2, 43, 0, 0, 0)), (1, (2, 1, 0, 0, 0)), (2, (0, 0, (-2147483648), 2147483647, x))] [] M
              refine hgo.2.1 5 _ [(4, (0, 0, 0, 14, i + 1)), (3, (0, 0, (-1), 13, bs)), (0, (2, 43, 0, 0, 0)), (1, (2, 1, 0, 0, 0)), (2, (0, 0, (-2147483648), 2147483647, x))] _ _ (xa_subI rfl rfl (fun _ _ _ _ => by omega) (xa_subI rfl rfl (fun _ _ _ _ => by omega) (xa_subR rfl (xa_subR rfl (xa_subI rfl rfl (fun _ _ _ _ => by omega) (xa_sub0)))))) ?_
              exact ih (i + 1) bs (by omega) (by omega) (by omega)
            · intro (c7 : ¬ r115 = 0)
              show Q 5 [(4, (0, 0, 1, 15, i + 1)), (3, (0, 0, (-1), 13, bs)), (5, (0, 0, 0, 0, 0)), (0, (2, 43, 0, 0, 0)), (1, (2, 1, 0, 0, 0)), (2, (0, 0, (-2147483648), 2147483647, x))] [] M
              refine hgo.2.1 5 _ [(4, (0, 0, 0, 14, i + 1)), (3, (0, 0, (-1), 13, bs)), (0, (2, 43, 0, 0, 0)), (1, (2, 1, 0, 0, 0)), (2, (0, 0, (-2147483648), 2147483647, x))] _ _ (xa_subI rfl rfl (fun _ _ _ _ => by omega) (xa_subI rfl rfl (fun _ _ _ _ => by omega) (xa_subR rfl (xa_subR rfl (xa_subI rfl rfl (fun _ _ _ _ => by omega) (xa_sub0)))))) ?_
              exact ih (i + 1) bs (by omega) (by omega) (by omega)
          · intro (c5 : r114 < r113)
            show xa_C (xl_I b) A h0 _ 197 [(2, 43, 0, 0, 0), (2, 1, 0, 0, 0), (0, 0, (-2147483648), 2147483647, x), (0, 0, 0, 14, i)] M _
            refine cx_197a ?_
            intro r116 (i8 : 0 ≤ r116 ∧ r116 ≤ 1)
            refine And.intro ?_ ?_
            · intro (c9 : r116 = 0)
              show Q 5 [(4, (0, 0, 1, 15, i + 1)), (3, (0, 0, (-1), 13, bs)), (5, (0, 0, 1, 1, 1)), (0, (2, 43, 0, 0, 0)), (1, (2, 1, 0, 0, 0)), (2, (0, 0, (-2147483648), 2147483647, x))] [] M
              refine hgo.2.1 5 _ [(4, (0, 0, 0, 14, i + 1)), (3, (0, 0, (-1), 13, bs)), (0, (2, 43, 0, 0, 0)), (1, (2, 1, 0, 0, 0)), (2, (0, 0, (-2147483648), 2147483647, x))] _ _ (xa_subI rfl rfl (fun _ _ _ _ => by omega) (xa_subI rfl rfl (fun _ _ _ _ => by omega) (xa_subR rfl (xa_subR rfl (xa_subI rfl rfl (fun _ _ _ _ => by omega) (xa_sub0)))))) ?_
              exact ih (i + 1) bs (by omega) (by omega) (by omega)
            · intro (c9 : ¬ r116 = 0)
              show Q 5 [(4, (0, 0, 1, 15, i + 1)), (3, (0, 0, 0, 14, i)), (5, (0, 0, 1, 1, 1)), (0, (2, 43, 0, 0, 0)), (1, (2, 1, 0, 0, 0)), (2, (0, 0, (-2147483648), 2147483647, x))] [] M
              refine hgo.2.1 5 _ [(4, (0, 0, 0, 14, i + 1)), (3, (0, 0, (-1), 13, i)), (0, (2, 43, 0, 0, 0)), (1, (2, 1, 0, 0, 0)), (2, (0, 0, (-2147483648), 2147483647, x))] _ _ (xa_subI rfl rfl (fun _ _ _ _ => by omega) (xa_subI rfl rfl (fun _ _ _ _ => by omega) (xa_subR rfl (xa_subR rfl (xa_subI rfl rfl (fun _ _ _ _ => by omega) (xa_sub0)))))) ?_
              exact ih (i + 1) i (by omega) (by omega) (by omega)
  refine hgo.1 9 [5] 0 _ _ _ ?_
  show Q 5 [(4, (0, 0, 0, 0, 0)), (3, (0, 0, (-1), (-1), (-1))), (0, (2, 43, 0, 0, 0)), (1, (2, 1, 0, 0, 0)), (2, (0, 0, (-2147483648), 2147483647, x))] [] M
  refine hgo.2.1 5 _ [(4, (0, 0, 0, 14, 0)), (3, (0, 0, (-1), 13, (-1))), (0, (2, 43, 0, 0, 0)), (1, (2, 1, 0, 0, 0)), (2, (0, 0, (-2147483648), 2147483647, x))] _ _ (xa_subI rfl rfl (fun _ _ _ _ => by omega) (xa_subI rfl rfl (fun _ _ _ _ => by omega) (xa_subR rfl (xa_subR rfl (xa_subI rfl rfl (fun _ _ _ _ => by omega) (xa_sub0)))))) ?_
  exact loop 15 0 (-1) (by omega) (by omega) (by omega)
theorem cx_199a {b : Bool} {A : Nat → Nat} {h0 : g_H} {d : Nat} {M : xa_M} {post : Option xa_V → xa_M → Prop} {l1 u1 : Int} {x : Int} (hl : 0 ≤ M 43 4 ∧ M 43 4 ≤ 12) (k : ∀ r : Int, -1 ≤ r ∧ r ≤ 11 → post (some (0, 0, (-1), 11, r)) M) : xa_C (xl_I b) A h0 (d + 2) 199 [(2, 43, 0, 0, 0), (0, 0, l1, u1, x)] M post := by
  refine xa_C_arg [(2, 43, 0, 0, 0), (0, 0, (-2147483648), 2147483647, x)] (xa_svR (xa_svI (fun _ _ _ _ => by omega) (xa_sv0))) ?_
  refine xa_meth (Q0 := (5, 1, false, 0, 0, 5)) (by decide +kernel) ⟨rfl, rfl⟩ (full := s_c_199) rfl rfl ?_
  intro hM hv Q hgo
  have loop : ∀ (n : Nat) (i bs : Int), 0 ≤ i ∧ i ≤ M 43 4 → -1 ≤ bs ∧ bs ≤ 11 → 12 - i < (n : Int) → Q 4 [(3, (0, 0, 0, 12, i)), (2, (0, 0, (-1), 11, bs)), (0, (2, 43, 0, 0, 0)), (1, (0, 0, (-2147483648), 2147483647, x))] [] M := by
    intro n
    induction n with
    | zero => intro i bs i1 b1 hms; omega
    | succ n ih =>
      intro i bs i1 b1 hms
      refine hgo.1 38 [4] 4 _ _ _ ?_
      refine And.intro ?_ ?_
      · intro (c1 : (M 43 4) ≤ i)
        show post (some (0, 0, (-1), 11, bs)) M
        exact k _ b1
      · intro (c1 : i < (M 43 4))
        refine And.intro ?_ ?_
        · intro (c2 : bs = (-1))
          refine And.intro ?_ ?_
          · intro (c3 : ¬ (xa_ib 3 (xa_ib 7 x i) 1) = 1)
            show Q 4 [(3, (0, 0, 1, 13, i + 1)), (2, (0, 0, (-1), 11, bs)), (4, (0, 0, 1, 1, 1)), (0, (2, 43, 0, 0, 0)), (1, (0, 0, (-2147483648), 2147483647, x))] [] M
            refine hgo.2.1 4 _ [(3, (0, 0, 0, 12, i + 1)), (2, (0, 0, (-1), 11, bs)), (0, (2, 43, 0, 0, 0)), (1, (0, 0, (-2147483648), 2147483647, x))] _ _ (xa_subI rfl rfl (fun _ _ _ _ => by omega) (xa_subI rfl rfl (fun _ _ _ _ => by omega) (xa_subR rfl (xa_subI rfl rfl (fun _ _ _ _ => by omega) (xa_sub0))))) ?_
            exact ih (i + 1) bs (by omega) (by omega) (by omega)
          · intro (c3 : (xa_ib 3 (xa_ib 7 x i) 1) = 1)
            show Q 4 [(3, (0, 0, 1, 13, i + 1)), (2, (0, 0, 0, 12, i)), (4, (0, 0, 1, 1, 1)), (0, (2, 43, 0, 0, 0)), (1, (0, 0, (-2147483648), 2147483647, x))] [] M
            refine hgo.2.1 4 _ [(3, (0, 0, 0, 12, i + 1)), (2, (0, 0, (-1), 11, i)), (0, (2, 43, 0, 0, 0)), (1, (0, 0, (-2147483648), 2147483647, x))] _ _ (xa_subI rfl rfl (fun _ _ _ _ => by omega) (xa_subI rfl rfl (fun _ _ _ _ => by omega) (xa_subR rfl (xa_subI rfl rfl (fun _ _ _ _ => by omega) (xa_sub0))))) ?_
            exact ih (i + 1) i (by omega) (by omega) (by omega)
        · intro (c2 : ¬ bs = (-1))
          show xa_C (xl_I b) A h0 _ 23 [(2, 47, 0, 0, 0), (0, 0, 0, 12, i)] M _
          refine cx_23a_47 ?_
          intro r117
          show xa_C (xl_I b) A h0 _ 23 [(2, 47, 0, 0, 0), (0, 0, (-1), 11, bs)] M _
          refine cx_23a_47 ?_
          intro r118
          refine And.intro ?_ ?_
          · intro (c4 : r118 ≤ r117)
            refine And.intro ?_ ?_
            · intro (c5 : ¬ (xa_ib 3 (xa_ib 7 x i) 1) = 1)
              show Q 4 [(3, (0, 0, 1, 13, i + 1)), (2, (0, 0, (-1), 11, bs)), (4, (0, 0, 0, 0, 0)), (0, (2, 43, 0, 0, 0)), (1, (0, 0, (-2147483648), 2147483647, x))] [] M
              refine hgo.2.1 4 _ [(3, (0, 0, 0, 12, i + 1)), (2, (0, 0, (-1), 11, bs)), (0, (2, 43, 0, 0, 0)), (1, (0, 0, (-2147483648), 2147483647, x))] _ _ (xa_subI rfl rfl (fun _ _ _ _ => by omega) (xa_subI rfl rfl (fun _ _ _ _ => by omega) (xa_subR rfl (xa_subI rfl rfl (fun _ _ _ _ => by omega) (xa_sub0))))) ?_
              exact ih (i + 1) bs (by omega) (by omega) (by omega)
            · intro (c5 : (xa_ib 3 (xa_ib 7 x i) 1) = 1)
              show Q 4 [(3, (0, 0, 1, 13, i + 1)), (2, (0, 0, (-1), 11, bs)), (4, (0, 0, 0, 0, 0)), (0, (2, 43, 0, 0, 0)), (1, (0, 0, (-2147483648), 2147483647, x))] [] M
              refine hgo.2.1 4 _ [(3, (0, 0, 0, 12, i + 1)), (2, (0, 0, (-1), 11, bs)), (0, (2, 43, 0, 0, 0)), (1, (0, 0, (-2147483648), 2147483647, x))] _ _ (xa_subI rfl rfl (fun _ _ _ _ => by omega) (xa_subI rfl rfl (fun _ _ _ _ => by omega) (xa_subR rfl (xa_subI rfl rfl (fun _ _ _ _ => by omega) (xa_sub0))))) ?_
              exact ih (i + 1) bs (by omega) (by omega) (by omega)
          · intro (c4 : r117 < r118)
            refine And.intro ?_ ?_
            · intro (c6 : ¬ (xa_ib 3 (xa_ib 7 x i) 1) = 1)
              show Q 4 [(3, (0, 0, 1, 13, i + 1)), (2, (0, 0, (-1), 11, bs)), (4, (0, 0, 1, 1, 1)), (0, (2, 43, 0, 0, 0)), (1, (0, 0, (-2147483648), 2147483647, x))] [] M
              refine hgo.2.1 4 _ [(3, (0, 0, 0, 12, i + 1)), (2, (0, 0, (-1), 11, bs)), (0, (2, 43, 0, 0, 0)), (1, (0, 0, (-2147483648), 2147483647, x))] _ _ (xa_subI rfl rfl (fun _ _ _ _ => by omega) (xa_subI rfl rfl (fun _ _ _ _ => by omega) (xa_subR rfl (xa_subI rfl rfl (fun _ _ _ _ => by omega) (xa_sub0))))) ?_
              exact ih (i + 1) bs (by omega) (by omega) (by omega)
            · intro (c6 : (xa_ib 3 (xa_ib 7 x i) 1) = 1)
              show Q 4 [(3, (0, 0, 1, 13, i + 1)), (2, (0, 0, 0, 12, i)), (4, (0, 0, 1, 1, 1)), (0, (2, 43, 0, 0, 0)), (1, (0, 0, (-2147483648), 2147483647, x))] [] M
              refine hgo.2.1 4 _ [(3, (0, 0, 0, 12, i + 1)), (2, (0, 0, (-1), 11, i)), (0, (2, 43, 0, 0, 0)), (1, (0, 0, (-2147483648), 2147483647, x))] _ _ (xa_subI rfl rfl (fun _ _ _ _ => by omega) (xa_subI rfl rfl (fun _ _ _ _ => by omega) (xa_subR rfl (xa_subI rfl rfl (fun _ _ _ _ => by omega) (xa_sub0))))) ?_
              exact ih (i + 1) i (by omega) (by omega) (by omega)
  refine hgo.1 9 [4] 0 _ _ _ ?_
  show Q 4 [(3, (0, 0, 0, 0, 0)), (2, (0, 0, (-1), (-1), (-1))), (0, (2, 43, 0, 0, 0)), (1, (0, 0, (-2147483648), 2147483647, x))] [] M
  refine hgo.2.1 4 _ [(3, (0, 0, 0, 12, 0)), (2, (0, 0, (-1), 11, (-1))), (0, (2, 43, 0, 0, 0)), (1, (0, 0, (-2147483648), 2147483647, x))] _ _ (xa_subI rfl rfl (fun _ _ _ _ => by omega) (xa_subI rfl rfl (fun _ _ _ _ => by omega) (xa_subR rfl (xa_subI rfl rfl (fun _ _ _ _ => by omega) (xa_sub0))))) ?_
  exact loop 13 0 (-1) (by omega) (by omega) (by omega)
theorem cx_198a {b : Bool} {A : Nat → Nat} {h0 : g_H} {d : Nat} {M : xa_M} {post : Option xa_V → xa_M → Prop} (hn : 0 ≤ M 1 9 ∧ M 1 9 ≤ 14) (hl : 0 ≤ M 43 4 ∧ M 43 4 ≤ 12) (k : ∀ r : Int, 0 ≤ r ∧ r ≤ 12 → post (some (0, 0, 0, 12, r)) M) : xa_C (xl_I b) A h0 (d + 5) 198 [(2, 43, 0, 0, 0), (2, 1, 0, 0, 0)] M post := by
  refine xa_C_arg [(2, 43, 0, 0, 0), (2, 1, 0, 0, 0)] (xa_svR (xa_svR (xa_sv0))) ?_
  refine xa_meth (Q0 := (7, 1, false, 0, 0, 5)) (by decide +kernel) ⟨rfl, rfl⟩ (full := s_c_198) rfl rfl ?_
  intro hM hv Q hgo
  have inner : ∀ (w kk nn : Int), -1 ≤ w ∧ w ≤ 13 → 0 ≤ kk ∧ kk ≤ 11 → 0 ≤ nn ∧ nn ≤ 11 → (∀ op : Int, Q 14 [(4, (0, 0, 0, 12, kk + 1)), (3, (0, 0, 0, 12, nn + 1)), (2, (0, 0, (-2147483648), 2147483647, op)), (0, (2, 43, 0, 0, 0)), (1, (2, 1, 0, 0, 0))] [] M) → ∀ (n : Nat) (i op : Int), 0 ≤ i ∧ i ≤ M 43 4 → 12 - i < (n : Int) → Q 40 [(6, (0, 0, 0, 12, i)), (5, (0, 0, (-1), 13, w)), (4, (0, 0, 0, 11, kk)), (3, (0, 0, 0, 11, nn)), (2, (0, 0, (-2147483648), 2147483647, op)), (0, (2, 43, 0, 0, 0)), (1, (2, 1, 0, 0, 0))] [] M := by
    intro w kk nn hw hk hn2 kx n
    induction n with
    | zero => intro i op i1 hms; omega
    | succ n ih2 =>
      intro i op i1 hms
      refine hgo.1 26 [14, 40] 40 _ _ _ ?_
      refine And.intro ?_ ?_
      · intro (c1 : (M 43 4) ≤ i)
        show Q 14 [(4, (0, 0, 1, 12, kk + 1)), (3, (0, 0, 1, 12, nn + 1)), (6, (0, 0, 0, 12, i)), (5, (0, 0, (-1), 13, w)), (2, (0, 0, (-2147483648), 2147483647, op)), (0, (2, 43, 0, 0, 0)), (1, (2, 1, 0, 0, 0))] [] M
        refine hgo.2.1 14 _ [(4, (0, 0, 0, 12, kk + 1)), (3, (0, 0, 0, 12, nn + 1)), (2, (0, 0, (-2147483648), 2147483647, op)), (0, (2, 43, 0, 0, 0)), (1, (2, 1, 0, 0, 0))] _ _ (xa_subI rfl rfl (fun _ _ _ _ => by omega) (xa_subI rfl rfl (fun _ _ _ _ => by omega) (xa_subI rfl rfl (fun _ _ _ _ => by omega) (xa_subR rfl (xa_subR rfl (xa_sub0)))))) ?_
        exact kx op
      · intro (c1 : i < (M 43 4))
        show xa_C (xl_I b) A h0 _ 197 [(2, 43, 0, 0, 0), (2, 1, 0, 0, 0), (0, 0, 0, 12, i), (0, 0, (-1), 13, w)] M _
        refine cx_197a ?_
        intro r119 (i2 : 0 ≤ r119 ∧ r119 ≤ 1)
        refine And.intro ?_ ?_
        · intro (c3 : r119 = 0)
          show Q 40 [(6, (0, 0, 1, 13, i + 1)), (2, (0, 0, (-2147483648), 2147483647, xa_ib 3 op (-1))), (5, (0, 0, (-1), 13, w)), (4, (0, 0, 0, 11, kk)), (3, (0, 0, 0, 11, nn)), (0, (2, 43, 0, 0, 0)), (1, (2, 1, 0, 0, 0))] [] M
          refine hgo.2.1 40 _ [(6, (0, 0, 0, 12, i + 1)), (5, (0, 0, (-1), 13, w)), (4, (0, 0, 0, 11, kk)), (3, (0, 0, 0, 11, nn)), (2, (0, 0, (-2147483648), 2147483647, xa_ib 3 op (-1))), (0, (2, 43, 0, 0, 0)), (1, (2, 1, 0, 0, 0))] _ _ (xa_subI rfl rfl (fun _ _ _ _ => by omega) (xa_subI rfl rfl (fun _ _ _ _ => by omega) (xa_subI rfl rfl (fun _ _ _ _ => by omega) (xa_subI rfl rfl (fun _ _ _ _ => by omega) (xa_subI rfl rfl (fun _ _ _ _ => by omega) (xa_subR rfl (xa_subR rfl (xa_sub0)))))))) ?_
          exact ih2 (i + 1) (xa_ib 3 op (-1)) (by omega) (by omega)
        · intro (c3 : ¬ r119 = 0)
          show Q 40 [(6, (0, 0, 1, 13, i + 1)), (2, (0, 0, (-2147483648), 2147483647, xa_ib 3 op (xa_ib 5 (xa_ib 6 1 i) (-1)))), (5, (0, 0, (-1), 13, w)), (4, (0, 0, 0, 11, kk)), (3, (0, 0, 0, 11, nn)), (0, (2, 43, 0, 0, 0)), (1, (2, 1, 0, 0, 0))] [] M
          refine hgo.2.1 40 _ [(6, (0, 0, 0, 12, i + 1)), (5, (0, 0, (-1), 13, w)), (4, (0, 0, 0, 11, kk)), (3, (0, 0, 0, 11, nn)), (2, (0, 0, (-2147483648), 2147483647, xa_ib 3 op (xa_ib 5 (xa_ib 6 1 i) (-1)))), (0, (2, 43, 0, 0, 0)), (1, (2, 1, 0, 0, 0))] _ _ (xa_subI rfl rfl (fun _ _ _ _ => by omega) (xa_subI rfl rfl (fun _ _ _ _ => by omega) (xa_subI rfl rfl (fun _ _ _ _ => by omega) (xa_subI rfl rfl (fun _ _ _ _ => by omega) (xa_subI rfl rfl (fun _ _ _ _ => by omega) (xa_subR rfl (xa_subR rfl (xa_sub0)))))))) ?_
          exact ih2 (i + 1) (xa_ib 3 op (xa_ib 5 (xa_ib 6 1 i) (-1))) (by omega) (by omega)
  have loop : ∀ (n : Nat) (kk nn op : Int), 0 ≤ kk ∧ kk ≤ 12 → 0 ≤ nn ∧ nn ≤ kk → 12 - kk < (n : Int) → Q 14 [(4, (0, 0, 0, 12, kk)), (3, (0, 0, 0, 12, nn)), (2, (0, 0, (-2147483648), 2147483647, op)), (0, (2, 43, 0, 0, 0)), (1, (2, 1, 0, 0, 0))] [] M := by
    intro n
    induction n with
    | zero => intro kk nn op k1 n1 hms; omega
    | succ n ih =>
      intro kk nn op k1 n1 hms
      refine hgo.1 19 [14, 40] 14 _ _ _ ?_
      refine And.intro ?_ ?_
      · intro (c1 : 12 ≤ kk)
        show post (some (0, 0, 0, 12, nn)) M
        exact k _ (by omega)
      · intro (c1 : kk < 12)
        refine And.intro ?_ ?_
        · intro (c2 : op = 0)
          show post (some (0, 0, 0, 12, nn)) M
          exact k _ (by omega)
        · intro (c2 : ¬ op = 0)
          show xa_C (xl_I b) A h0 _ 199 [(2, 43, 0, 0, 0), (0, 0, (-2147483648), 2147483647, op)] M _
          refine cx_199a hl ?_
          intro r120 (i3 : -1 ≤ r120 ∧ r120 ≤ 11)
          show xa_C (xl_I b) A h0 _ 196 [(2, 43, 0, 0, 0), (2, 1, 0, 0, 0), (0, 0, (-1), 11, r120)] M _
          refine cx_196a hn ?_
          intro r121 (i4 : -1 ≤ r121 ∧ r121 ≤ 13)
          show Q 40 [(6, (0, 0, 0, 0, 0)), (5, (0, 0, (-1), 13, r121)), (4, (0, 0, 0, 12, kk)), (3, (0, 0, 0, 12, nn)), (2, (0, 0, (-2147483648), 2147483647, op)), (0, (2, 43, 0, 0, 0)), (1, (2, 1, 0, 0, 0))] [] M
          refine hgo.2.1 40 _ [(6, (0, 0, 0, 12, 0)), (5, (0, 0, (-1), 13, r121)), (4, (0, 0, 0, 11, kk)), (3, (0, 0, 0, 11, nn)), (2, (0, 0, (-2147483648), 2147483647, op)), (0, (2, 43, 0, 0, 0)), (1, (2, 1, 0, 0, 0))] _ _ (xa_subI rfl rfl (fun _ _ _ _ => by omega) (xa_subI rfl rfl (fun _ _ _ _ => by omega) (xa_subI rfl rfl (fun _ _ _ _ => by omega) (xa_subI rfl rfl (fun _ _ _ _ => by omega) (xa_subI rfl rfl (fun _ _ _ _ => by omega) (xa_subR rfl (xa_subR rfl (xa_sub0)))))))) ?_
          exact inner r121 kk nn (by omega) (by omega) (by omega) (fun op2 => ih (kk + 1) (nn + 1) op2 (by omega) (by omega) (by omega)) 13 0 op (by omega) (by omega)
  refine hgo.1 16 [14, 40] 0 _ _ _ ?_
  show Q 14 [(4, (0, 0, 0, 0, 0)), (3, (0, 0, 0, 0, 0)), (2, (0, 0, (-2147483648), 2147483647, xa_w32 ((xa_ib 6 1 (M 43 4)) - 1))), (0, (2, 43, 0, 0, 0)), (1, (2, 1, 0, 0, 0))] [] M
  refine hgo.2.1 14 _ [(4, (0, 0, 0, 12, 0)), (3, (0, 0, 0, 12, 0)), (2, (0, 0, (-2147483648), 2147483647, xa_w32 ((xa_ib 6 1 (M 43 4)) - 1))), (0, (2, 43, 0, 0, 0)), (1, (2, 1, 0, 0, 0))] _ _ (xa_subI rfl rfl (fun _ _ _ _ => by omega) (xa_subI rfl rfl (fun _ _ _ _ => by omega) (xa_subI rfl rfl (fun _ _ _ _ => by omega) (xa_subR rfl (xa_subR rfl (xa_sub0)))))) ?_
  exact loop 13 0 0 (xa_w32 ((xa_ib 6 1 (M 43 4)) - 1)) (by omega) (by omega) (by omega)
theorem cw_194 {b : Bool} {A : Nat → Nat} {h0 : g_H} {d : Nat} {M : xa_M} {post : Option xa_V → xa_M → Prop} (hn : 0 ≤ M 1 9 ∧ M 1 9 ≤ 14) (hl : 0 ≤ M 43 4 ∧ M 43 4 ≤ 12) (k : ∀ (r : Int) (M1 : xa_M), r = br_b (br_no (M 44) (M 45) (M 46) (M 47) (M 5) (M 6) (M 4) (M 1 9)) (M 43 4).toNat → (∀ q j, ¬ q = 48 → ¬ q = 49 → M1 q j = M q j) → post (some (0, 0, (-2147483648), 2147483647, r)) M1) : xa_C (xl_I b) A h0 (d + 6) 194 [(2, 0, 0, 0, 0)] M post := by
  refine xa_C_arg [(2, 0, 0, 0, 0)] (xa_svR (xa_sv0)) ?_
  refine xa_meth (Q0 := (2, 1, false, 0, 0, 11)) (by decide +kernel) ⟨rfl, rfl⟩ (full := s_c_194) rfl rfl ?_
  intro hM hv Q hgo
  refine hgo.1 27 [] 0 _ _ _ ?_
  show xa_C (xl_I b) A h0 _ 195 [(2, 43, 0, 0, 0), (2, 1, 0, 0, 0)] M _
  refine cx_195f hn hl ?_
  show xa_C (xl_I b) A h0 _ 59 [(2, 48, 0, 0, 0)] M _
  refine cx_59_48 ?_
  refine And.intro ?_ ?_
  · intro (c1 : ¬ (br_b (br_no (M 44) (M 45) (M 46) (M 47) (M 5) (M 6) (M 4) (M 1 9)) (M 43 4).toNat) = 0)
    show xa_C (xl_I b) A h0 _ 60 [(2, 48, 0, 0, 0), (1, 0, (-1), (-1), (-1))] (xa_up M 48 1 0) _
    refine cx_60_48 (show (0 : Int) ≤ 0 by omega) ?_ ?_
    · intro (i2 : 16 ≤ 0)
      show post (some (0, 0, (-2147483648), 2147483647, br_b (br_no (M 44) (M 45) (M 46) (M 47) (M 5) (M 6) (M 4) (M 1 9)) (M 43 4).toNat)) (xa_up M 48 1 0)
      exact k _ _ rfl (fun q j h1 h2 => by simp [xa_up, h1, h2])
    · intro (i3 : 0 < 16)
      show post (some (0, 0, (-2147483648), 2147483647, br_b (br_no (M 44) (M 45) (M 46) (M 47) (M 5) (M 6) (M 4) (M 1 9)) (M 43 4).toNat)) (xa_up (xa_up (xa_up M 48 1 0) 49 0 (-1)) 48 1 (xa_w32 (0 + 1)))
      exact k _ _ rfl (fun q j h1 h2 => by simp [xa_up, h1, h2])
  · intro (c1 : (br_b (br_no (M 44) (M 45) (M 46) (M 47) (M 5) (M 6) (M 4) (M 1 9)) (M 43 4).toNat) = 0)
    show xa_C (xl_I b) A h0 _ 198 [(2, 43, 0, 0, 0), (2, 1, 0, 0, 0)] (xa_up M 48 1 0) _
    refine cx_198a (show 0 ≤ (M 1 9) ∧ (M 1 9) ≤ 14 by omega) (show 0 ≤ (M 43 4) ∧ (M 43 4) ≤ 12 by omega) ?_
    intro r122 (i4 : 0 ≤ r122 ∧ r122 ≤ 12)
    show xa_C (xl_I b) A h0 _ 60 [(2, 48, 0, 0, 0), (1, 0, 0, 12, r122)] (xa_up M 48 1 0) _
    refine cx_60_48 (show (0 : Int) ≤ 0 by omega) ?_ ?_
    · intro (i5 : 16 ≤ 0)
      show post (some (0, 0, (-2147483648), 2147483647, br_b (br_no (M 44) (M 45) (M 46) (M 47) (M 5) (M 6) (M 4) (M 1 9)) (M 43 4).toNat)) (xa_up M 48 1 0)
      exact k _ _ rfl (fun q j h1 h2 => by simp [xa_up, h1, h2])
    · intro (i6 : 0 < 16)
      show post (some (0, 0, (-2147483648), 2147483647, br_b (br_no (M 44) (M 45) (M 46) (M 47) (M 5) (M 6) (M 4) (M 1 9)) (M 43 4).toNat)) (xa_up (xa_up (xa_up M 48 1 0) 49 0 r122) 48 1 (xa_w32 (0 + 1)))
      exact k _ _ rfl (fun q j h1 h2 => by simp [xa_up, h1, h2])
theorem br_isM {M M1 : xa_M} (hc : xm_cor M M1) {i w : Int} : (M1 100 i = M1 64 w ∧ M1 101 i = M1 65 w ∧ M1 102 i ≤ M1 63 w ∧ M1 63 w ≤ M1 103 i) ↔ br_is (M 100) (M 101) (M 102) (M 103) (M 64) (M 65) (M 63) i w := by
  unfold br_is
  rw [xm_corq hc 100 rfl, xm_corq hc 101 rfl, xm_corq hc 102 rfl, xm_corq hc 103 rfl, xm_corq hc 64 rfl, xm_corq hc 65 rfl, xm_corq hc 63 rfl]
  constructor <;> (intro h; exact ⟨h.1.symm, h.2.1.symm, h.2.2.1, h.2.2.2⟩)
theorem ms_breaksF {A : Nat → Nat} {h0 : g_H} {d : Nat} {M : xa_M} {post : Option xa_V → xa_M → Prop} (hI : xm_Inv M) (k : ∀ (lo hi r : Int) (M1 : xa_M), r = br_b (br_no (M 100) (M 101) (M 102) (M 103) (M 64) (M 65) (M 63) (M 60 0)) (M 60 61).toNat → xm_cor M M1 → post (some (0, 0, lo, hi, r)) M1) : xa_C xm_I A h0 (d + 3) 291 [(2, 60, 0, 0, 0)] M post := by
  refine xa_meth (Q0 := (8, 1, false, 0, 0, 12)) (by decide +kernel) ⟨rfl, rfl⟩ (full := s_c_291) rfl rfl ?_
  intro hM hv Q hgo
  have b0 := xm_f0 hM
  have b6 := xm_f6 hM
  have b61 := xm_f61 hM
  have b11 := xm_f11 hM
  have b15 := xm_f15 hM
  have b16 := xm_f16 hM
  have hlh := hI.2.2.2.1
  have loop2 : ∀ (n : Nat) (x3 x2 x1 : Int) (M1 : xa_M), 0 ≤ x3 ∧ x3 ≤ 2147483647 → xm_cor M M1 → x1 = br_b (br_no (M 100) (M 101) (M 102) (M 103) (M 64) (M 65) (M 63) (M 60 0)) (M 60 61).toNat → ((xa_ib 6 1 (M 60 0) - x3).toNat : Int) < (n : Int) → Q 100 [(3, (0, 0, 0, 2147483647, x3)), (2, (0, 0, (-2147483648), 2147483647, x2)), (1, (0, 0, (-2147483648), 2147483647, x1)), (0, (2, 60, 0, 0, 0))] [] M1 := by
    intro n
    induction n with
    | zero => intro x3 x2 x1 M1 b3 hc hx1 hms; omega
    | succ n ih2 =>
      intro x3 x2 x1 M1 b3 hc hx1 hms2
      have e0 := xm_corf hc 0 (by omega)
      have e6 := xm_corf hc 6 (by omega)
      have e61 := xm_corf hc 61 (by omega)
      have e11 := xm_corf hc 11 (by omega)
      have e15 := xm_corf hc 15 (by omega)
      have e16 := xm_corf hc 16 (by omega)
      have rT := xa_ib_rg 6 1 (M 60 0)
      have eT : xa_ib 6 1 (M1 60 0) = xa_ib 6 1 (M 60 0) := by rw [e0]
      have w3 : x3 < xa_ib 6 1 (M 60 0) → xa_w32 (x3 + 1) = x3 + 1 := fun h => xa_w32_id (by omega) (by omega)
      have loop3 : ∀ (n : Nat) (x5 x4 : Int) (M1 : xa_M), 0 ≤ x5 ∧ x5 ≤ 12 → 0 ≤ x4 ∧ x4 ≤ 1 → 0 ≤ x3 ∧ x3 ≤ 2147483646 → xm_cor M M1 → x3 < xa_ib 6 1 (M 60 0) → 12 - x5 < (n : Int) → Q 136 [(5, (0, 0, 0, 12, x5)), (4, (0, 0, 0, 1, x4)), (3, (0, 0, 0, 2147483646, x3)), (2, (0, 0, (-2147483648), 2147483647, x2)), (1, (0, 0, (-2147483648), 2147483647, x1)), (0, (2, 60, 0, 0, 0))] [] M1 := by
        intro n
        induction n with
        | zero => intro x5 x4 M1 b5 b4 f3 hc h3T hms; omega
        | succ n ih3 =>
          intro x5 x4 M1 b5 b4 f3 hc h3T hms3
          have e0 := xm_corf hc 0 (by omega)
          have e6 := xm_corf hc 6 (by omega)
          have e61 := xm_corf hc 61 (by omega)
          have e11 := xm_corf hc 11 (by omega)
          have e15 := xm_corf hc 15 (by omega)
          have e16 := xm_corf hc 16 (by omega)
          have rT := xa_ib_rg 6 1 (M 60 0)
          have loop4 : ∀ (n : Nat) (x7 x6 : Int) (M1 : xa_M), 0 ≤ x7 ∧ x7 ≤ 14 → 0 ≤ x6 ∧ x6 ≤ 1 → 0 ≤ x5 ∧ x5 ≤ 11 → 0 ≤ x4 ∧ x4 ≤ 1 → 0 ≤ x3 ∧ x3 ≤ 2147483646 → xm_cor M M1 → x3 < xa_ib 6 1 (M 60 0) → 14 - x7 < (n : Int) → Q 156 [(7, (0, 0, 0, 14, x7)), (6, (0, 0, 0, 1, x6)), (5, (0, 0, 0, 11, x5)), (4, (0, 0, 0, 1, x4)), (3, (0, 0, 0, 2147483646, x3)), (2, (0, 0, (-2147483648), 2147483647, x2)), (1, (0, 0, (-2147483648), 2147483647, x1)), (0, (2, 60, 0, 0, 0))] [] M1 := by
            intro n
            induction n with
            | zero => intro x7 x6 M1 b7 b6 f5 f4 f3 hc h3T hms; omega
            | succ n ih4 =>
              intro x7 x6 M1 b7 b6 f5 f4 f3 hc h3T hms4
              have e0 := xm_corf hc 0 (by omega)
              have e6 := xm_corf hc 6 (by omega)
              have e61 := xm_corf hc 61 (by omega)
              have e11 := xm_corf hc 11 (by omega)
              have e15 := xm_corf hc 15 (by omega)
              have e16 := xm_corf hc 16 (by omega)
              have rT := xa_ib_rg 6 1 (M 60 0)
              refine hgo.1 36 [9, 22, 100, 136, 156] 156 _ _ _ ?_
              refine And.intro ?_ ?_
              · intro (c1 : (M1 60 0) ≤ x7)
                show Q 136 [(5, (0, 0, 1, 12, x5 + 1)), (4, (0, 0, 0, 1, x6)), (7, (0, 0, 0, 14, x7)), (6, (0, 0, 0, 1, x6)), (3, (0, 0, 0, 2147483646, x3)), (2, (0, 0, (-2147483648), 2147483647, x2)), (1, (0, 0, (-2147483648), 2147483647, x1)), (0, (2, 60, 0, 0, 0))] [] M1
                refine hgo.2.1 136 _ [(5, (0, 0, 0, 12, x5 + 1)), (4, (0, 0, 0, 1, x6)), (3, (0, 0, 0, 2147483646, x3)), (2, (0, 0, (-2147483648), 2147483647, x2)), (1, (0, 0, (-2147483648), 2147483647, x1)), (0, (2, 60, 0, 0, 0))] _ _ (xa_subI rfl rfl (fun _ _ _ _ => by omega) (xa_subI rfl rfl (fun _ _ _ _ => by omega) (xa_subI rfl rfl (fun _ _ _ _ => by omega) (xa_subI rfl rfl (fun _ _ _ _ => by omega) (xa_subI rfl rfl (fun _ _ _ _ => by omega) (xa_subR rfl xa_sub0)))))) ?_
                exact ih3 (x5 + 1) x6 M1 (by omega) (by omega) (by omega) hc (by omega) (by omega)
              · intro (c1 : x7 < (M1 60 0))
                refine And.intro ?_ ?_
                · intro (c2 : ¬ x6 = 0)
                  show Q 156 [(7, (0, 0, 1, 15, x7 + 1)), (6, (0, 0, 1, 1, 1)), (5, (0, 0, 0, 11, x5)), (4, (0, 0, 0, 1, x4)), (3, (0, 0, 0, 2147483646, x3)), (2, (0, 0, (-2147483648), 2147483647, x2)), (1, (0, 0, (-2147483648), 2147483647, x1)), (0, (2, 60, 0, 0, 0))] [] M1
                  refine hgo.2.1 156 _ [(7, (0, 0, 0, 14, x7 + 1)), (6, (0, 0, 0, 1, 1)), (5, (0, 0, 0, 11, x5)), (4, (0, 0, 0, 1, x4)), (3, (0, 0, 0, 2147483646, x3)), (2, (0, 0, (-2147483648), 2147483647, x2)), (1, (0, 0, (-2147483648), 2147483647, x1)), (0, (2, 60, 0, 0, 0))] _ _ (xa_subI rfl rfl (fun _ _ _ _ => by omega) (xa_subI rfl rfl (fun _ _ _ _ => by omega) (xa_subI rfl rfl (fun _ _ _ _ => by omega) (xa_subI rfl rfl (fun _ _ _ _ => by omega) (xa_subI rfl rfl (fun _ _ _ _ => by omega) (xa_subI rfl rfl (fun _ _ _ _ => by omega) (xa_subI rfl rfl (fun _ _ _ _ => by omega) (xa_subR rfl xa_sub0)))))))) ?_
                  exact ih4 (x7 + 1) 1 M1 (by omega) (by omega) (by omega) (by omega) (by omega) hc (by omega) (by omega)
                · intro (c2 : x6 = 0)
                  show xa_C xm_I A h0 _ 248 [(0, 0, 0, 2147483646, x3), (0, 0, 0, 14, x7)] M1 _
                  refine ct_has (fun r3 zr3 er3 => ?_)
                  refine And.intro ?_ ?_
                  · intro (c4 : r3 = 0)
                    show Q 156 [(7, (0, 0, 1, 15, x7 + 1)), (6, (0, 0, 0, 0, 0)), (5, (0, 0, 0, 11, x5)), (4, (0, 0, 0, 1, x4)), (3, (0, 0, 0, 2147483646, x3)), (2, (0, 0, (-2147483648), 2147483647, x2)), (1, (0, 0, (-2147483648), 2147483647, x1)), (0, (2, 60, 0, 0, 0))] [] M1
                    refine hgo.2.1 156 _ [(7, (0, 0, 0, 14, x7 + 1)), (6, (0, 0, 0, 1, 0)), (5, (0, 0, 0, 11, x5)), (4, (0, 0, 0, 1, x4)), (3, (0, 0, 0, 2147483646, x3)), (2, (0, 0, (-2147483648), 2147483647, x2)), (1, (0, 0, (-2147483648), 2147483647, x1)), (0, (2, 60, 0, 0, 0))] _ _ (xa_subI rfl rfl (fun _ _ _ _ => by omega) (xa_subI rfl rfl (fun _ _ _ _ => by omega) (xa_subI rfl rfl (fun _ _ _ _ => by omega) (xa_subI rfl rfl (fun _ _ _ _ => by omega) (xa_subI rfl rfl (fun _ _ _ _ => by omega) (xa_subI rfl rfl (fun _ _ _ _ => by omega) (xa_subI rfl rfl (fun _ _ _ _ => by omega) (xa_subR rfl xa_sub0)))))))) ?_
                    exact ih4 (x7 + 1) 0 M1 (by omega) (by omega) (by omega) (by omega) (by omega) hc (by omega) (by omega)
                  · intro (c4 : ¬ r3 = 0)
                    refine And.intro (show 0 ≤ x7 ∧ x7 < 14 by omega) ?_
                    refine And.intro (show 0 ≤ x7 ∧ x7 < 14 by omega) ?_
                    refine And.intro (show 0 ≤ x7 ∧ x7 < 14 by omega) ?_
                    show xa_C xm_I A h0 _ 292 [(2, 60, 0, 0, 0), (0, 0, 0, 11, x5), (0, 0, 0, 9, M1 64 x7), (0, 0, 0, 9, M1 65 x7), (0, 0, 0, 400, M1 63 x7)] M1 _
                    refine ct_isLeft (by omega) (by omega) (fun r5 zr5 er5 => ?_)
                    refine And.intro ?_ ?_
                    · intro (c6 : r5 = 0)
                      show Q 156 [(7, (0, 0, 1, 15, x7 + 1)), (6, (0, 0, 0, 0, 0)), (5, (0, 0, 0, 11, x5)), (4, (0, 0, 0, 1, x4)), (3, (0, 0, 0, 2147483646, x3)), (2, (0, 0, (-2147483648), 2147483647, x2)), (1, (0, 0, (-2147483648), 2147483647, x1)), (0, (2, 60, 0, 0, 0))] [] M1
                      refine hgo.2.1 156 _ [(7, (0, 0, 0, 14, x7 + 1)), (6, (0, 0, 0, 1, 0)), (5, (0, 0, 0, 11, x5)), (4, (0, 0, 0, 1, x4)), (3, (0, 0, 0, 2147483646, x3)), (2, (0, 0, (-2147483648), 2147483647, x2)), (1, (0, 0, (-2147483648), 2147483647, x1)), (0, (2, 60, 0, 0, 0))] _ _ (xa_subI rfl rfl (fun _ _ _ _ => by omega) (xa_subI rfl rfl (fun _ _ _ _ => by omega) (xa_subI rfl rfl (fun _ _ _ _ => by omega) (xa_subI rfl rfl (fun _ _ _ _ => by omega) (xa_subI rfl rfl (fun _ _ _ _ => by omega) (xa_subI rfl rfl (fun _ _ _ _ => by omega) (xa_subI rfl rfl (fun _ _ _ _ => by omega) (xa_subR rfl xa_sub0)))))))) ?_
                      exact ih4 (x7 + 1) 0 M1 (by omega) (by omega) (by omega) (by omega) (by omega) hc (by omega) (by omega)
                    · intro (c6 : ¬ r5 = 0)
                      show Q 156 [(7, (0, 0, 1, 15, x7 + 1)), (6, (0, 0, 1, 1, 1)), (5, (0, 0, 0, 11, x5)), (4, (0, 0, 0, 1, x4)), (3, (0, 0, 0, 2147483646, x3)), (2, (0, 0, (-2147483648), 2147483647, x2)), (1, (0, 0, (-2147483648), 2147483647, x1)), (0, (2, 60, 0, 0, 0))] [] M1
                      refine hgo.2.1 156 _ [(7, (0, 0, 0, 14, x7 + 1)), (6, (0, 0, 0, 1, 1)), (5, (0, 0, 0, 11, x5)), (4, (0, 0, 0, 1, x4)), (3, (0, 0, 0, 2147483646, x3)), (2, (0, 0, (-2147483648), 2147483647, x2)), (1, (0, 0, (-2147483648), 2147483647, x1)), (0, (2, 60, 0, 0, 0))] _ _ (xa_subI rfl rfl (fun _ _ _ _ => by omega) (xa_subI rfl rfl (fun _ _ _ _ => by omega) (xa_subI rfl rfl (fun _ _ _ _ => by omega) (xa_subI rfl rfl (fun _ _ _ _ => by omega) (xa_subI rfl rfl (fun _ _ _ _ => by omega) (xa_subI rfl rfl (fun _ _ _ _ => by omega) (xa_subI rfl rfl (fun _ _ _ _ => by omega) (xa_subR rfl xa_sub0)))))))) ?_
                      exact ih4 (x7 + 1) 1 M1 (by omega) (by omega) (by omega) (by omega) (by omega) hc (by omega) (by omega)
          refine hgo.1 18 [9, 22, 100, 136, 156] 136 _ _ _ ?_
          refine And.intro ?_ ?_
          · intro (c1 : (M1 60 61) ≤ x5)
            refine And.intro ?_ ?_
            · intro (c2 : x4 = 0)
              show Q 100 [(3, (0, 0, 1, 2147483647, x3 + 1)), (5, (0, 0, 0, 12, x5)), (4, (0, 0, 0, 1, x4)), (2, (0, 0, (-2147483648), 2147483647, x2)), (1, (0, 0, (-2147483648), 2147483647, x1)), (0, (2, 60, 0, 0, 0))] [] M1
              refine hgo.2.1 100 _ [(3, (0, 0, 0, 2147483647, x3 + 1)), (2, (0, 0, (-2147483648), 2147483647, x2)), (1, (0, 0, (-2147483648), 2147483647, x1)), (0, (2, 60, 0, 0, 0))] _ _ (xa_subI rfl rfl (fun _ _ _ _ => by omega) (xa_subI rfl rfl (fun _ _ _ _ => by omega) (xa_subI rfl rfl (fun _ _ _ _ => by omega) (xa_subR rfl xa_sub0)))) ?_
              exact ih2 (x3 + 1) x2 x1 M1 (by omega) hc hx1 (by omega)
            · intro (c2 : ¬ x4 = 0)
              show xa_C xm_I A h0 _ 136 [(0, 0, 0, 2147483646, x3)] M1 _
              refine ct_bitCount ?_
              show Q 100 [(3, (0, 0, 1, 2147483647, x3 + 1)), (2, (0, 0, (-2147483648), 2147483647, xa_bc x3)), (5, (0, 0, 0, 12, x5)), (4, (0, 0, 0, 1, x4)), (1, (0, 0, (-2147483648), 2147483647, x1)), (0, (2, 60, 0, 0, 0))] [] M1
              refine hgo.2.1 100 _ [(3, (0, 0, 0, 2147483647, x3 + 1)), (2, (0, 0, (-2147483648), 2147483647, xa_bc x3)), (1, (0, 0, (-2147483648), 2147483647, x1)), (0, (2, 60, 0, 0, 0))] _ _ (xa_subI rfl rfl (fun _ _ _ _ => by omega) (xa_subI rfl rfl (fun _ _ _ _ => by omega) (xa_subI rfl rfl (fun _ _ _ _ => by omega) (xa_subR rfl xa_sub0)))) ?_
              exact ih2 (x3 + 1) (xa_bc x3) x1 M1 (by omega) hc hx1 (by omega)
          · intro (c1 : x5 < (M1 60 61))
            refine And.intro ?_ ?_
            · intro (c3 : x4 = 0)
              refine And.intro ?_ ?_
              · intro (c4 : x4 = 0)
                show Q 100 [(3, (0, 0, 1, 2147483647, x3 + 1)), (5, (0, 0, 0, 12, x5)), (4, (0, 0, 0, 1, x4)), (2, (0, 0, (-2147483648), 2147483647, x2)), (1, (0, 0, (-2147483648), 2147483647, x1)), (0, (2, 60, 0, 0, 0))] [] M1
                refine hgo.2.1 100 _ [(3, (0, 0, 0, 2147483647, x3 + 1)), (2, (0, 0, (-2147483648), 2147483647, x2)), (1, (0, 0, (-2147483648), 2147483647, x1)), (0, (2, 60, 0, 0, 0))] _ _ (xa_subI rfl rfl (fun _ _ _ _ => by omega) (xa_subI rfl rfl (fun _ _ _ _ => by omega) (xa_subI rfl rfl (fun _ _ _ _ => by omega) (xa_subR rfl xa_sub0)))) ?_
                exact ih2 (x3 + 1) x2 x1 M1 (by omega) hc hx1 (by omega)
              · intro (c4 : ¬ x4 = 0)
                show xa_C xm_I A h0 _ 136 [(0, 0, 0, 2147483646, x3)] M1 _
                refine ct_bitCount ?_
                show Q 100 [(3, (0, 0, 1, 2147483647, x3 + 1)), (2, (0, 0, (-2147483648), 2147483647, xa_bc x3)), (5, (0, 0, 0, 12, x5)), (4, (0, 0, 0, 1, x4)), (1, (0, 0, (-2147483648), 2147483647, x1)), (0, (2, 60, 0, 0, 0))] [] M1
                refine hgo.2.1 100 _ [(3, (0, 0, 0, 2147483647, x3 + 1)), (2, (0, 0, (-2147483648), 2147483647, xa_bc x3)), (1, (0, 0, (-2147483648), 2147483647, x1)), (0, (2, 60, 0, 0, 0))] _ _ (xa_subI rfl rfl (fun _ _ _ _ => by omega) (xa_subI rfl rfl (fun _ _ _ _ => by omega) (xa_subI rfl rfl (fun _ _ _ _ => by omega) (xa_subR rfl xa_sub0)))) ?_
                exact ih2 (x3 + 1) (xa_bc x3) x1 M1 (by omega) hc hx1 (by omega)
            · intro (c3 : ¬ x4 = 0)
              show Q 156 [(7, (0, 0, 0, 0, 0)), (6, (0, 0, 0, 0, 0)), (5, (0, 0, 0, 12, x5)), (4, (0, 0, 0, 1, x4)), (3, (0, 0, 0, 2147483646, x3)), (2, (0, 0, (-2147483648), 2147483647, x2)), (1, (0, 0, (-2147483648), 2147483647, x1)), (0, (2, 60, 0, 0, 0))] [] M1
              refine hgo.2.1 156 _ [(7, (0, 0, 0, 14, 0)), (6, (0, 0, 0, 1, 0)), (5, (0, 0, 0, 11, x5)), (4, (0, 0, 0, 1, x4)), (3, (0, 0, 0, 2147483646, x3)), (2, (0, 0, (-2147483648), 2147483647, x2)), (1, (0, 0, (-2147483648), 2147483647, x1)), (0, (2, 60, 0, 0, 0))] _ _ (xa_subI rfl rfl (fun _ _ _ _ => by omega) (xa_subI rfl rfl (fun _ _ _ _ => by omega) (xa_subI rfl rfl (fun _ _ _ _ => by omega) (xa_subI rfl rfl (fun _ _ _ _ => by omega) (xa_subI rfl rfl (fun _ _ _ _ => by omega) (xa_subI rfl rfl (fun _ _ _ _ => by omega) (xa_subI rfl rfl (fun _ _ _ _ => by omega) (xa_subR rfl xa_sub0)))))))) ?_
              exact loop4 15 0 0 M1 (by omega) (by omega) (by omega) (by omega) (by omega) hc (by omega) (by omega)
      refine hgo.1 24 [9, 22, 100, 136, 156] 100 _ _ _ ?_
      refine And.intro ?_ ?_
      · intro (c1 : (xa_ib 6 1 (M1 60 0)) ≤ x3)
        show xa_C xm_I A h0 _ 231 [(2, 60, 0, 0, 0), (1, 0, (-2147483648), 2147483647, x2)] (xa_up M1 60 20 0) _
        refine ct_tell (n := 0) (by first | rfl | (simp [xa_up]; done) | omega) (by omega) (by omega) ?_
        show post (some (0, 0, (-2147483648), 2147483647, x1)) (xa_up (xa_up (xa_up M1 60 20 0) 74 0 x2) 60 20 1)
        exact k _ _ _ _ hx1 (xm_cor_f (by omega) (xm_cor_a rfl (xm_cor_f (by omega) hc)))
      · intro (c1 : x3 < (xa_ib 6 1 (M1 60 0)))
        refine And.intro ?_ ?_
        · intro (c2 : ¬ x1 = 0)
          show xa_C xm_I A h0 _ 231 [(2, 60, 0, 0, 0), (1, 0, (-2147483648), 2147483647, x2)] (xa_up M1 60 20 0) _
          refine ct_tell (n := 0) (by first | rfl | (simp [xa_up]; done) | omega) (by omega) (by omega) ?_
          show post (some (0, 0, (-2147483648), 2147483647, x1)) (xa_up (xa_up (xa_up M1 60 20 0) 74 0 x2) 60 20 1)
          exact k _ _ _ _ hx1 (xm_cor_f (by omega) (xm_cor_a rfl (xm_cor_f (by omega) hc)))
        · intro (c2 : x1 = 0)
          refine And.intro ?_ ?_
          · intro (c3 : x2 = (-1))
            show Q 136 [(5, (0, 0, 0, 0, 0)), (4, (0, 0, 1, 1, 1)), (3, (0, 0, 0, 2147483647, x3)), (2, (0, 0, (-2147483648), 2147483647, x2)), (1, (0, 0, (-2147483648), 2147483647, x1)), (0, (2, 60, 0, 0, 0))] [] M1
            refine hgo.2.1 136 _ [(5, (0, 0, 0, 12, 0)), (4, (0, 0, 0, 1, 1)), (3, (0, 0, 0, 2147483646, x3)), (2, (0, 0, (-2147483648), 2147483647, x2)), (1, (0, 0, (-2147483648), 2147483647, x1)), (0, (2, 60, 0, 0, 0))] _ _ (xa_subI rfl rfl (fun _ _ _ _ => by omega) (xa_subI rfl rfl (fun _ _ _ _ => by omega) (xa_subI rfl rfl (fun _ _ _ _ => by omega) (xa_subI rfl rfl (fun _ _ _ _ => by omega) (xa_subI rfl rfl (fun _ _ _ _ => by omega) (xa_subR rfl xa_sub0)))))) ?_
            exact loop3 13 0 1 M1 (by omega) (by omega) (by omega) hc (by omega) (by omega)
          · intro (c3 : ¬ x2 = (-1))
            show xa_C xm_I A h0 _ 136 [(0, 0, 0, 2147483647, x3)] M1 _
            refine ct_bitCount ?_
            refine And.intro ?_ ?_
            · intro (c4 : (xa_bc x3) < x2)
              show Q 136 [(5, (0, 0, 0, 0, 0)), (4, (0, 0, 1, 1, 1)), (3, (0, 0, 0, 2147483647, x3)), (2, (0, 0, (-2147483648), 2147483647, x2)), (1, (0, 0, (-2147483648), 2147483647, x1)), (0, (2, 60, 0, 0, 0))] [] M1
              refine hgo.2.1 136 _ [(5, (0, 0, 0, 12, 0)), (4, (0, 0, 0, 1, 1)), (3, (0, 0, 0, 2147483646, x3)), (2, (0, 0, (-2147483648), 2147483647, x2)), (1, (0, 0, (-2147483648), 2147483647, x1)), (0, (2, 60, 0, 0, 0))] _ _ (xa_subI rfl rfl (fun _ _ _ _ => by omega) (xa_subI rfl rfl (fun _ _ _ _ => by omega) (xa_subI rfl rfl (fun _ _ _ _ => by omega) (xa_subI rfl rfl (fun _ _ _ _ => by omega) (xa_subI rfl rfl (fun _ _ _ _ => by omega) (xa_subR rfl xa_sub0)))))) ?_
              exact loop3 13 0 1 M1 (by omega) (by omega) (by omega) hc (by omega) (by omega)
            · intro (c4 : x2 ≤ (xa_bc x3))
              show Q 100 [(3, (0, 0, (-2147483648), 2147483647, xa_w32 (x3 + 1))), (2, (0, 0, (-2147483648), 2147483647, x2)), (1, (0, 0, (-2147483648), 2147483647, x1)), (0, (2, 60, 0, 0, 0))] [] M1
              refine hgo.2.1 100 _ [(3, (0, 0, 0, 2147483647, xa_w32 (x3 + 1))), (2, (0, 0, (-2147483648), 2147483647, x2)), (1, (0, 0, (-2147483648), 2147483647, x1)), (0, (2, 60, 0, 0, 0))] _ _ (xa_subI rfl rfl (fun _ _ _ _ => by omega) (xa_subI rfl rfl (fun _ _ _ _ => by omega) (xa_subI rfl rfl (fun _ _ _ _ => by omega) (xa_subR rfl xa_sub0)))) ?_
              exact ih2 (xa_w32 (x3 + 1)) x2 x1 M1 (by omega) hc hx1 (by omega)
  have loop0 : ∀ (n : Nat) (x2 x1 : Int) (M1 : xa_M), 0 ≤ x2 ∧ x2 ≤ M 60 61 → xm_cor M M1 → x1 = br_b (br_no (M 100) (M 101) (M 102) (M 103) (M 64) (M 65) (M 63) (M 60 0)) x2.toNat → 12 - x2 < (n : Int) → Q 9 [(2, (0, 0, 0, 12, x2)), (1, (0, 0, (-2147483648), 2147483647, x1)), (0, (2, 60, 0, 0, 0))] [] M1 := by
    intro n
    induction n with
    | zero => intro x2 x1 M1 b2 hc hb hms; omega
    | succ n ih0 =>
      intro x2 x1 M1 b2 hc hb hms0
      have ei : ((x2.toNat : Nat) : Int) = x2 := Int.toNat_of_nonneg b2.1
      have hr := br_b_r (P := (br_no (M 100) (M 101) (M 102) (M 103) (M 64) (M 65) (M 63) (M 60 0))) x2.toNat
      rw [← hb] at hr
      have e0 := xm_corf hc 0 (by omega)
      have e6 := xm_corf hc 6 (by omega)
      have e61 := xm_corf hc 61 (by omega)
      have e11 := xm_corf hc 11 (by omega)
      have e15 := xm_corf hc 15 (by omega)
      have e16 := xm_corf hc 16 (by omega)
      have loop1 : ∀ (n : Nat) (x4 x3 : Int) (M1 : xa_M), 0 ≤ x4 ∧ x4 ≤ 14 → 0 ≤ x3 ∧ x3 ≤ 1 → (0 ≤ x2 ∧ x2 ≤ 11) ∧ x2 < M 60 61 → xm_cor M M1 → br_s (br_is (M 100) (M 101) (M 102) (M 103) (M 64) (M 65) (M 63) x2) x4 x3 → x4 ≤ M 60 0 → 14 - x4 < (n : Int) → Q 22 [(4, (0, 0, 0, 14, x4)), (3, (0, 0, 0, 1, x3)), (2, (0, 0, 0, 11, x2)), (1, (0, 0, (-2147483648), 2147483647, x1)), (0, (2, 60, 0, 0, 0))] [] M1 := by
        intro n
        induction n with
        | zero => intro x4 x3 M1 b4 b3 f2 hc hs h4 hms; omega
        | succ n ih1 =>
          intro x4 x3 M1 b4 b3 f2 hc hs h4 hms1
          have e0 := xm_corf hc 0 (by omega)
          have e6 := xm_corf hc 6 (by omega)
          have e61 := xm_corf hc 61 (by omega)
          have e11 := xm_corf hc 11 (by omega)
          have e15 := xm_corf hc 15 (by omega)
          have e16 := xm_corf hc 16 (by omega)
          refine hgo.1 32 [9, 22, 100, 136, 156] 22 _ _ _ ?_
          refine And.intro ?_ ?_
          · intro (c1 : (M1 60 0) ≤ x4)
            refine And.intro ?_ ?_
            · intro (c2 : x3 = 0)
              show Q 9 [(2, (0, 0, 1, 12, x2 + 1)), (1, (0, 0, (-2147483648), 2147483647, xa_ib 4 x1 (xa_ib 6 1 x2))), (4, (0, 0, 0, 14, x4)), (3, (0, 0, 0, 1, x3)), (0, (2, 60, 0, 0, 0))] [] M1
              refine hgo.2.1 9 _ [(2, (0, 0, 0, 12, x2 + 1)), (1, (0, 0, (-2147483648), 2147483647, xa_ib 4 x1 (xa_ib 6 1 x2))), (0, (2, 60, 0, 0, 0))] _ _ (xa_subI rfl rfl (fun _ _ _ _ => by omega) (xa_subI rfl rfl (fun _ _ _ _ => by omega) (xa_subR rfl xa_sub0))) ?_
              have eb : xa_ib 4 x1 (xa_ib 6 1 x2) = br_b (br_no (M 100) (M 101) (M 102) (M 103) (M 64) (M 65) (M 63) (M 60 0)) (x2 + 1).toNat := by
                rw [show (x2 + 1).toNat = x2.toNat + 1 by omega, br_b1 (show (br_no (M 100) (M 101) (M 102) (M 103) (M 64) (M 65) (M 63) (M 60 0)) ((x2.toNat : Nat) : Int) by rw [ei]; exact fun w w0 w1 => br_s_no hs (by omega) w w0 (by omega)), ← hb, ei]
              exact ih0 (x2 + 1) _ M1 (by omega) hc eb (by omega)
            · intro (c2 : ¬ x3 = 0)
              show Q 9 [(2, (0, 0, 1, 12, x2 + 1)), (1, (0, 0, (-2147483648), 2147483647, xa_ib 4 x1 0)), (4, (0, 0, 0, 14, x4)), (3, (0, 0, 0, 1, x3)), (0, (2, 60, 0, 0, 0))] [] M1
              refine hgo.2.1 9 _ [(2, (0, 0, 0, 12, x2 + 1)), (1, (0, 0, (-2147483648), 2147483647, xa_ib 4 x1 0)), (0, (2, 60, 0, 0, 0))] _ _ (xa_subI rfl rfl (fun _ _ _ _ => by omega) (xa_subI rfl rfl (fun _ _ _ _ => by omega) (xa_subR rfl xa_sub0))) ?_
              have eb : xa_ib 4 x1 0 = br_b (br_no (M 100) (M 101) (M 102) (M 103) (M 64) (M 65) (M 63) (M 60 0)) (x2 + 1).toNat := by
                rw [show (x2 + 1).toNat = x2.toNat + 1 by omega, br_b0 (show ¬ (br_no (M 100) (M 101) (M 102) (M 103) (M 64) (M 65) (M 63) (M 60 0)) ((x2.toNat : Nat) : Int) by rw [ei]; exact fun hh => br_s_so hs (by omega) (fun w w0 w1 => hh w w0 (by omega))), ← hb, br_or0 hr.1 hr.2]
              exact ih0 (x2 + 1) _ M1 (by omega) hc eb (by omega)
          · intro (c1 : x4 < (M1 60 0))
            refine And.intro ?_ ?_
            · intro (c3 : ¬ x3 = 0)
              show Q 22 [(4, (0, 0, 1, 15, x4 + 1)), (3, (0, 0, 1, 1, 1)), (2, (0, 0, 0, 11, x2)), (1, (0, 0, (-2147483648), 2147483647, x1)), (0, (2, 60, 0, 0, 0))] [] M1
              refine hgo.2.1 22 _ [(4, (0, 0, 0, 14, x4 + 1)), (3, (0, 0, 0, 1, 1)), (2, (0, 0, 0, 11, x2)), (1, (0, 0, (-2147483648), 2147483647, x1)), (0, (2, 60, 0, 0, 0))] _ _ (xa_subI rfl rfl (fun _ _ _ _ => by omega) (xa_subI rfl rfl (fun _ _ _ _ => by omega) (xa_subI rfl rfl (fun _ _ _ _ => by omega) (xa_subI rfl rfl (fun _ _ _ _ => by omega) (xa_subR rfl xa_sub0))))) ?_
              exact ih1 (x4 + 1) 1 M1 (by omega) (by omega) (by omega) hc (br_s_k hs (by omega)) (by omega) (by omega)
            · intro (c3 : x3 = 0)
              refine And.intro (show 0 ≤ x4 ∧ x4 < 14 by omega) ?_
              refine And.intro (show 0 ≤ x4 ∧ x4 < 14 by omega) ?_
              refine And.intro (show 0 ≤ x4 ∧ x4 < 14 by omega) ?_
              show xa_C xm_I A h0 _ 292 [(2, 60, 0, 0, 0), (0, 0, 0, 11, x2), (0, 0, 0, 9, M1 64 x4), (0, 0, 0, 9, M1 65 x4), (0, 0, 0, 400, M1 63 x4)] M1 _
              refine ct_isLeft (by omega) (by omega) (fun r4 zr4 er4 => ?_)
              refine And.intro ?_ ?_
              · intro (c5 : r4 = 0)
                show Q 22 [(4, (0, 0, 1, 15, x4 + 1)), (3, (0, 0, 0, 0, 0)), (2, (0, 0, 0, 11, x2)), (1, (0, 0, (-2147483648), 2147483647, x1)), (0, (2, 60, 0, 0, 0))] [] M1
                refine hgo.2.1 22 _ [(4, (0, 0, 0, 14, x4 + 1)), (3, (0, 0, 0, 1, 0)), (2, (0, 0, 0, 11, x2)), (1, (0, 0, (-2147483648), 2147483647, x1)), (0, (2, 60, 0, 0, 0))] _ _ (xa_subI rfl rfl (fun _ _ _ _ => by omega) (xa_subI rfl rfl (fun _ _ _ _ => by omega) (xa_subI rfl rfl (fun _ _ _ _ => by omega) (xa_subI rfl rfl (fun _ _ _ _ => by omega) (xa_subR rfl xa_sub0))))) ?_
                exact ih1 (x4 + 1) 0 M1 (by omega) (by omega) (by omega) hc (br_s_n hs (by omega) (fun hh => by have := er4.mpr ((br_isM hc).mpr hh); omega)) (by omega) (by omega)
              · intro (c5 : ¬ r4 = 0)
                show Q 22 [(4, (0, 0, 1, 15, x4 + 1)), (3, (0, 0, 1, 1, 1)), (2, (0, 0, 0, 11, x2)), (1, (0, 0, (-2147483648), 2147483647, x1)), (0, (2, 60, 0, 0, 0))] [] M1
                refine hgo.2.1 22 _ [(4, (0, 0, 0, 14, x4 + 1)), (3, (0, 0, 0, 1, 1)), (2, (0, 0, 0, 11, x2)), (1, (0, 0, (-2147483648), 2147483647, x1)), (0, (2, 60, 0, 0, 0))] _ _ (xa_subI rfl rfl (fun _ _ _ _ => by omega) (xa_subI rfl rfl (fun _ _ _ _ => by omega) (xa_subI rfl rfl (fun _ _ _ _ => by omega) (xa_subI rfl rfl (fun _ _ _ _ => by omega) (xa_subR rfl xa_sub0))))) ?_
                exact ih1 (x4 + 1) 1 M1 (by omega) (by omega) (by omega) hc (br_s_y (by omega) ((br_isM hc).mp (er4.mp (by omega)))) (by omega) (by omega)
      refine hgo.1 13 [9, 22, 100, 136, 156] 9 _ _ _ ?_
      refine And.intro ?_ ?_
      · intro (c1 : (M1 60 61) ≤ x2)
        show Q 100 [(3, (0, 0, 0, 0, 0)), (2, (0, 0, (-1), (-1), (-1))), (1, (0, 0, (-2147483648), 2147483647, x1)), (0, (2, 60, 0, 0, 0))] [] M1
        refine hgo.2.1 100 _ [(3, (0, 0, 0, 2147483647, 0)), (2, (0, 0, (-2147483648), 2147483647, (-1))), (1, (0, 0, (-2147483648), 2147483647, x1)), (0, (2, 60, 0, 0, 0))] _ _ (xa_subI rfl rfl (fun _ _ _ _ => by omega) (xa_subI rfl rfl (fun _ _ _ _ => by omega) (xa_subI rfl rfl (fun _ _ _ _ => by omega) (xa_subR rfl xa_sub0)))) ?_
        exact loop2 ((xa_ib 6 1 (M 60 0)).toNat + 1) 0 (-1) x1 M1 (by omega) hc (by rw [hb, show x2 = M 60 61 by omega]) (by omega)
      · intro (c1 : x2 < (M1 60 61))
        show Q 22 [(4, (0, 0, 0, 0, 0)), (3, (0, 0, 0, 0, 0)), (2, (0, 0, 0, 12, x2)), (1, (0, 0, (-2147483648), 2147483647, x1)), (0, (2, 60, 0, 0, 0))] [] M1
        refine hgo.2.1 22 _ [(4, (0, 0, 0, 14, 0)), (3, (0, 0, 0, 1, 0)), (2, (0, 0, 0, 11, x2)), (1, (0, 0, (-2147483648), 2147483647, x1)), (0, (2, 60, 0, 0, 0))] _ _ (xa_subI rfl rfl (fun _ _ _ _ => by omega) (xa_subI rfl rfl (fun _ _ _ _ => by omega) (xa_subI rfl rfl (fun _ _ _ _ => by omega) (xa_subI rfl rfl (fun _ _ _ _ => by omega) (xa_subR rfl xa_sub0))))) ?_
        exact loop1 15 0 0 M1 (by omega) (by omega) (by omega) hc br_s_0 (by omega) (by omega)
  refine hgo.1 12 [9, 22, 100, 136, 156] 0 _ _ _ ?_
  show Q 9 [(2, (0, 0, 0, 0, 0)), (1, (0, 0, 0, 0, 0)), (0, (2, 60, 0, 0, 0))] [] (xa_up M 60 21 0)
  refine hgo.2.1 9 _ [(2, (0, 0, 0, 12, 0)), (1, (0, 0, (-2147483648), 2147483647, 0)), (0, (2, 60, 0, 0, 0))] _ _ (xa_subI rfl rfl (fun _ _ _ _ => by omega) (xa_subI rfl rfl (fun _ _ _ _ => by omega) (xa_subR rfl xa_sub0))) ?_
  exact loop0 13 0 0 (xa_up M 60 21 0) (by omega) (xm_cor_f (by omega) xm_cor_r) rfl (by omega)

-- the search of fittings (class)
set_option maxRecDepth 20000
/-- no product of teeth is too great -/
def fb_B (R : Int → Int) (s : Int) : Prop := ∀ (V : Int → Int) (n : Nat), (n : Int) ≤ s → (∀ i : Int, 0 ≤ i → i < n → 0 ≤ V i ∧ V i ≤ 400) → (0 ≤ fs_u R V n ∧ fs_u R V n ≤ 1638400000000000000) ∧ (0 ≤ fs_d R V n ∧ fs_d R V n ≤ 1638400000000000000)
/-- the products up to place n are what they should be -/
def fb_P (M : xa_M) (n : Int) : Prop := ∀ j : Int, 0 ≤ j → j ≤ n → M 26 j = fs_u (M 22) (M 25) j.toNat ∧ M 27 j = fs_d (M 22) (M 25) j.toNat
theorem fb_u1 {R V : Int → Int} {i : Int} (h : 0 ≤ i) : fs_u R V (i + 1).toNat = fs_u R V i.toNat * (if 0 < R i then V i else 1) := by
  have ei : ((i.toNat : Nat) : Int) = i := Int.toNat_of_nonneg h
  rw [show (i + 1).toNat = i.toNat + 1 by omega, fs_u1, ei]
theorem fb_d1 {R V : Int → Int} {i : Int} (h : 0 ≤ i) : fs_d R V (i + 1).toNat = fs_d R V i.toNat * (if R i < 0 then V i else 1) := by
  have ei : ((i.toNat : Nat) : Int) = i := Int.toNat_of_nonneg h
  rw [show (i + 1).toNat = i.toNat + 1 by omega, fs_d1, ei]
theorem fb_ue {R V V' : Int → Int} {n : Int} (h : ∀ i : Int, 0 ≤ i → i < n → V' i = V i) : fs_u R V' n.toNat = fs_u R V n.toNat := fs_u_e n.toNat (fun i i0 i1 => h i i0 (by omega))
theorem fb_de {R V V' : Int → Int} {n : Int} (h : ∀ i : Int, 0 ≤ i → i < n → V' i = V i) : fs_d R V' n.toNat = fs_d R V n.toNat := fs_d_e n.toNat (fun i i0 i1 => h i i0 (by omega))
theorem fb_us {M : xa_M} {i v : Int} (h0 : 0 ≤ i) (hp : fb_P M i) : (xa_up M 25 i v) 26 i = fs_u ((xa_up M 25 i v) 22) ((xa_up M 25 i v) 25) i.toNat ∧ (xa_up M 25 i v) 27 i = fs_d ((xa_up M 25 i v) 22) ((xa_up M 25 i v) 25) i.toNat := by
  have z22 : (xa_up M 25 i v) 22 = M 22 := funext (fun j => xa_up_ne (by omega))
  have zV : ∀ j : Int, 0 ≤ j → j < i → (xa_up M 25 i v) 25 j = M 25 j := fun j j0 j1 => xa_up_ne (by omega)
  have g := hp i h0 (Int.le_refl _)
  rw [fb_ue zV, fb_de zV, z22]
  exact ⟨(xa_up_ne (by omega)).trans g.1, (xa_up_ne (by omega)).trans g.2⟩
theorem fb_bs {M : xa_M} {i v l : Int} (h0 : 0 ≤ i) (h1 : i < l) (hB : fb_B (M 22) l) (hV : ∀ j : Int, 0 ≤ j → j < i → 0 ≤ M 25 j ∧ M 25 j ≤ 400) (hv : 0 ≤ v ∧ v ≤ 400) : ((0 ≤ fs_u ((xa_up M 25 i v) 22) ((xa_up M 25 i v) 25) i.toNat ∧ fs_u ((xa_up M 25 i v) 22) ((xa_up M 25 i v) 25) i.toNat ≤ 1638400000000000000) ∧ (0 ≤ fs_d ((xa_up M 25 i v) 22) ((xa_up M 25 i v) 25) i.toNat ∧ fs_d ((xa_up M 25 i v) 22) ((xa_up M 25 i v) 25) i.toNat ≤ 1638400000000000000)) ∧ (0 ≤ fs_u ((xa_up M 25 i v) 22) ((xa_up M 25 i v) 25) (i + 1).toNat ∧ fs_u ((xa_up M 25 i v) 22) ((xa_up M 25 i v) 25) (i + 1).toNat ≤ 1638400000000000000) ∧ (0 ≤ fs_d ((xa_up M 25 i v) 22) ((xa_up M 25 i v) 25) (i + 1).toNat ∧ fs_d ((xa_up M 25 i v) 22) ((xa_up M 25 i v) 25) (i + 1).toNat ≤ 1638400000000000000) := by
  have z22 : (xa_up M 25 i v) 22 = M 22 := funext (fun j => xa_up_ne (by omega))
  have zB : ∀ j : Int, 0 ≤ j → j < i + 1 → 0 ≤ (xa_up M 25 i v) 25 j ∧ (xa_up M 25 i v) 25 j ≤ 400 := fun j j0 j1 => by
    by_cases e : j = i
    · rw [e, xa_up_eq]
      exact hv
    · rw [xa_up_ne (by omega)]
      exact hV j j0 (by omega)
  rw [z22]
  exact ⟨hB _ i.toNat (by omega) (fun j j0 j1 => zB j j0 (by omega)), hB _ (i + 1).toNat (by omega) (fun j j0 j1 => zB j j0 (by omega))⟩
/-- the memory behind new teeth and their products -/
def fb_M (M : xa_M) (i v : Int) : xa_M := xa_up (xa_up (xa_up M 25 i v) 26 (i + 1) (fs_u ((xa_up M 25 i v) 22) ((xa_up M 25 i v) 25) (i + 1).toNat)) 27 (i + 1) (fs_d ((xa_up M 25 i v) 22) ((xa_up M 25 i v) 25) (i + 1).toNat)
theorem fb_Mk {M : xa_M} {i v : Int} {q : Nat} {j : Int} (h1 : ¬ q = 25) (h2 : ¬ q = 26) (h3 : ¬ q = 27) : fb_M M i v q j = M q j := (xa_up_ne (by omega)).trans ((xa_up_ne (by omega)).trans (xa_up_ne (by omega)))
theorem fb_Mj {M : xa_M} {i v : Int} {j : Int} (h : ¬ j = i) : fb_M M i v 25 j = M 25 j := (xa_up_ne (by omega)).trans ((xa_up_ne (by omega)).trans (xa_up_ne (by omega)))
theorem fb_Mi {M : xa_M} {i v : Int} : fb_M M i v 25 i = v := (xa_up_ne (by omega)).trans ((xa_up_ne (by omega)).trans xa_up_eq)
theorem fb_MP {M : xa_M} {i v : Int} (h0 : 0 ≤ i) (hp : fb_P M i) : fb_P (fb_M M i v) (i + 1) := by
  have gR : fb_M M i v 22 = M 22 := funext (fun j => fb_Mk (by decide) (by decide) (by decide))
  have g2R : (xa_up M 25 i v) 22 = M 22 := funext (fun j => xa_up_ne (by omega))
  have gV : fb_M M i v 25 = (xa_up M 25 i v) 25 := funext (fun j => (xa_up_ne (by omega)).trans (xa_up_ne (by omega)))
  intro j j0 j1
  rw [gR, gV]
  by_cases e : j = i + 1
  · rw [e]
    exact ⟨(xa_up_ne (by omega)).trans (xa_up_eq.trans (by rw [g2R])), xa_up_eq.trans (by rw [g2R])⟩
  · have g := hp j j0 (by omega)
    have g5 : ∀ k : Int, 0 ≤ k → k < j → (xa_up M 25 i v) 25 k = M 25 k := fun k k0 k1 => xa_up_ne (by omega)
    rw [fb_ue g5, fb_de g5]
    exact ⟨(xa_up_ne (by omega)).trans ((xa_up_ne (by omega)).trans ((xa_up_ne (by omega)).trans g.1)), (xa_up_ne (by omega)).trans ((xa_up_ne (by omega)).trans ((xa_up_ne (by omega)).trans g.2))⟩
theorem cx_23_22 {b : Bool} {A : Nat → Nat} {h0 : g_H} {d : Nat} {M : xa_M} {post : Option xa_V → xa_M → Prop} {l1 u1 : Int} {i : Int} (h1 : 0 ≤ i ∧ i < 14) (k1 : post (some (0, 0, (-2147483648), 2147483647, M 22 i)) M) : xa_C (xl_I b) A h0 (d + 1) 23 [(2, 22, 0, 0, 0), (0, 0, l1, u1, i)] M post := by
  refine xa_C_arg [(2, 22, 0, 0, 0), (0, 0, (-2147483648), 2147483647, i)] (xa_svR (xa_svI (fun _ _ _ _ => by omega) xa_sv0)) ?_
  refine xa_meth (Q0 := (2, 1, false, 0, 0, 11)) (by decide +kernel) ⟨rfl, rfl⟩ (full := s_c_23) rfl rfl ?_
  intro hM hv Q hgo
  refine hgo.1 15 [] 0 _ _ _ ?_
  refine And.intro ?_ ?_
  · intro (c1 : i < 0)
    show post (some (0, 0, 0, 0, 0)) M
    exact absurd h1 (by omega)
  · intro (c1 : 0 ≤ i)
    refine And.intro ?_ ?_
    · intro (c2 : 14 ≤ i)
      show post (some (0, 0, 0, 0, 0)) M
      exact absurd h1 (by omega)
    · intro (c2 : i < 14)
      refine And.intro (show 0 ≤ i ∧ i < 14 by omega) ?_
      show post (some (0, 0, (-2147483648), 2147483647, M 22 i)) M
      exact k1
theorem cx_23_25 {b : Bool} {A : Nat → Nat} {h0 : g_H} {d : Nat} {M : xa_M} {post : Option xa_V → xa_M → Prop} {l1 u1 : Int} {i : Int} (h1 : 0 ≤ i ∧ i < 14) (k1 : post (some (0, 0, (-2147483648), 2147483647, M 25 i)) M) : xa_C (xl_I b) A h0 (d + 1) 23 [(2, 25, 0, 0, 0), (0, 0, l1, u1, i)] M post := by
  refine xa_C_arg [(2, 25, 0, 0, 0), (0, 0, (-2147483648), 2147483647, i)] (xa_svR (xa_svI (fun _ _ _ _ => by omega) xa_sv0)) ?_
  refine xa_meth (Q0 := (2, 1, false, 0, 0, 11)) (by decide +kernel) ⟨rfl, rfl⟩ (full := s_c_23) rfl rfl ?_
  intro hM hv Q hgo
  refine hgo.1 15 [] 0 _ _ _ ?_
  refine And.intro ?_ ?_
  · intro (c1 : i < 0)
    show post (some (0, 0, 0, 0, 0)) M
    exact absurd h1 (by omega)
  · intro (c1 : 0 ≤ i)
    refine And.intro ?_ ?_
    · intro (c2 : 14 ≤ i)
      show post (some (0, 0, 0, 0, 0)) M
      exact absurd h1 (by omega)
    · intro (c2 : i < 14)
      refine And.intro (show 0 ≤ i ∧ i < 14 by omega) ?_
      show post (some (0, 0, (-2147483648), 2147483647, M 25 i)) M
      exact k1
theorem cx_52_26 {b : Bool} {A : Nat → Nat} {h0 : g_H} {d : Nat} {M : xa_M} {post : Option xa_V → xa_M → Prop} {l1 u1 : Int} {i : Int} (h1 : 0 ≤ i ∧ i < 14) (k1 : post (some (1, 0, (-9223372036854775808), 9223372036854775807, M 26 i)) M) : xa_C (xl_I b) A h0 (d + 1) 52 [(2, 26, 0, 0, 0), (0, 0, l1, u1, i)] M post := by
  refine xa_C_arg [(2, 26, 0, 0, 0), (0, 0, (-2147483648), 2147483647, i)] (xa_svR (xa_svI (fun _ _ _ _ => by omega) xa_sv0)) ?_
  refine xa_meth (Q0 := (2, 3, false, 0, 0, 11)) (by decide +kernel) ⟨rfl, rfl⟩ (full := s_c_52) rfl rfl ?_
  intro hM hv Q hgo
  refine hgo.1 15 [] 0 _ _ _ ?_
  refine And.intro ?_ ?_
  · intro (c1 : i < 0)
    show post (some (1, 0, 0, 0, 0)) M
    exact absurd h1 (by omega)
  · intro (c1 : 0 ≤ i)
    refine And.intro ?_ ?_
    · intro (c2 : 14 ≤ i)
      show post (some (1, 0, 0, 0, 0)) M
      exact absurd h1 (by omega)
    · intro (c2 : i < 14)
      refine And.intro (show 0 ≤ i ∧ i < 14 by omega) ?_
      show post (some (1, 0, (-9223372036854775808), 9223372036854775807, M 26 i)) M
      exact k1
theorem cx_48_26 {b : Bool} {A : Nat → Nat} {h0 : g_H} {d : Nat} {M : xa_M} {post : Option xa_V → xa_M → Prop} {l1 u1 l2 u2 : Int} {i v : Int} (h1 : 0 ≤ i ∧ i < 14) (k1 : post none (xa_up M 26 i v)) : xa_C (xl_I b) A h0 (d + 1) 48 [(2, 26, 0, 0, 0), (0, 0, l1, u1, i), (1, 0, l2, u2, v)] M post := by
  refine xa_C_arg [(2, 26, 0, 0, 0), (0, 0, (-2147483648), 2147483647, i), (1, 0, (-9223372036854775808), 9223372036854775807, v)] (xa_svR (xa_svI (fun _ _ _ _ => by omega) (xa_svL (fun _ _ _ _ => by omega) xa_sv0))) ?_
  refine xa_meth (Q0 := (4, 0, false, 0, 0, 11)) (by decide +kernel) ⟨rfl, rfl⟩ (full := s_c_48) rfl rfl ?_
  intro hM hv Q hgo
  refine hgo.1 15 [] 0 _ _ _ ?_
  refine And.intro ?_ ?_
  · intro (c1 : i < 0)
    show post none M
    exact absurd h1 (by omega)
  · intro (c1 : 0 ≤ i)
    refine And.intro ?_ ?_
    · intro (c2 : 14 ≤ i)
      show post none M
      exact absurd h1 (by omega)
    · intro (c2 : i < 14)
      refine And.intro (show 0 ≤ i ∧ i < 14 by omega) ?_
      show post none (xa_up M 26 i v)
      exact k1
theorem cx_52_27 {b : Bool} {A : Nat → Nat} {h0 : g_H} {d : Nat} {M : xa_M} {post : Option xa_V → xa_M → Prop} {l1 u1 : Int} {i : Int} (h1 : 0 ≤ i ∧ i < 14) (k1 : post (some (1, 0, (-9223372036854775808), 9223372036854775807, M 27 i)) M) : xa_C (xl_I b) A h0 (d + 1) 52 [(2, 27, 0, 0, 0), (0, 0, l1, u1, i)] M post := by
  refine xa_C_arg [(2, 27, 0, 0, 0), (0, 0, (-2147483648), 2147483647, i)] (xa_svR (xa_svI (fun _ _ _ _ => by omega) xa_sv0)) ?_
  refine xa_meth (Q0 := (2, 3, false, 0, 0, 11)) (by decide +kernel) ⟨rfl, rfl⟩ (full := s_c_52) rfl rfl ?_
  intro hM hv Q hgo
  refine hgo.1 15 [] 0 _ _ _ ?_
  refine And.intro ?_ ?_
  · intro (c1 : i < 0)
    show post (some (1, 0, 0, 0, 0)) M
    exact absurd h1 (by omega)
  · intro (c1 : 0 ≤ i)
    refine And.intro ?_ ?_
    · intro (c2 : 14 ≤ i)
      show post (some (1, 0, 0, 0, 0)) M
      exact absurd h1 (by omega)
    · intro (c2 : i < 14)
      refine And.intro (show 0 ≤ i ∧ i < 14 by omega) ?_
      show post (some (1, 0, (-9223372036854775808), 9223372036854775807, M 27 i)) M
      exact k1
theorem cx_48_27 {b : Bool} {A : Nat → Nat} {h0 : g_H} {d : Nat} {M : xa_M} {post : Option xa_V → xa_M → Prop} {l1 u1 l2 u2 : Int} {i v : Int} (h1 : 0 ≤ i ∧ i < 14) (k1 : post none (xa_up M 27 i v)) : xa_C (xl_I b) A h0 (d + 1) 48 [(2, 27, 0, 0, 0), (0, 0, l1, u1, i), (1, 0, l2, u2, v)] M post := by
  refine xa_C_arg [(2, 27, 0, 0, 0), (0, 0, (-2147483648), 2147483647, i), (1, 0, (-9223372036854775808), 9223372036854775807, v)] (xa_svR (xa_svI (fun _ _ _ _ => by omega) (xa_svL (fun _ _ _ _ => by omega) xa_sv0))) ?_
  refine xa_meth (Q0 := (4, 0, false, 0, 0, 11)) (by decide +kernel) ⟨rfl, rfl⟩ (full := s_c_48) rfl rfl ?_
  intro hM hv Q hgo
  refine hgo.1 15 [] 0 _ _ _ ?_
  refine And.intro ?_ ?_
  · intro (c1 : i < 0)
    show post none M
    exact absurd h1 (by omega)
  · intro (c1 : 0 ≤ i)
    refine And.intro ?_ ?_
    · intro (c2 : 14 ≤ i)
      show post none M
      exact absurd h1 (by omega)
    · intro (c2 : i < 14)
      refine And.intro (show 0 ≤ i ∧ i < 14 by omega) ?_
      show post none (xa_up M 27 i v)
      exact k1
theorem cx_94f {b : Bool} {A : Nat → Nat} {h0 : g_H} {d : Nat} {M : xa_M} {post : Option xa_V → xa_M → Prop} {l1 u1 i : Int} (hi : 0 ≤ i ∧ i ≤ 12) (hu : M 26 i = fs_u (M 22) (M 25) i.toNat ∧ M 27 i = fs_d (M 22) (M 25) i.toNat) (hB : ((0 ≤ fs_u (M 22) (M 25) i.toNat ∧ fs_u (M 22) (M 25) i.toNat ≤ 1638400000000000000) ∧ (0 ≤ fs_d (M 22) (M 25) i.toNat ∧ fs_d (M 22) (M 25) i.toNat ≤ 1638400000000000000)) ∧ (0 ≤ fs_u (M 22) (M 25) (i + 1).toNat ∧ fs_u (M 22) (M 25) (i + 1).toNat ≤ 1638400000000000000) ∧ (0 ≤ fs_d (M 22) (M 25) (i + 1).toNat ∧ fs_d (M 22) (M 25) (i + 1).toNat ≤ 1638400000000000000)) (k : post none (xa_up (xa_up M 26 (i + 1) (fs_u (M 22) (M 25) (i + 1).toNat)) 27 (i + 1) (fs_d (M 22) (M 25) (i + 1).toNat))) : xa_C (xl_I b) A h0 (d + 2) 94 [(2, 15, 0, 0, 0), (0, 0, l1, u1, i)] M post := by
  refine xa_C_arg [(2, 15, 0, 0, 0), (0, 0, 0, 12, i)] (xa_svR (xa_svI (fun _ _ _ _ => by omega) xa_sv0)) ?_
  refine xa_meth (Q0 := (5, 0, false, 0, 0, 3)) (by decide +kernel) ⟨rfl, rfl⟩ (full := s_c_94) rfl rfl ?_
  intro hM hv Q hgo
  refine hgo.1 46 [] 0 _ _ _ ?_
  show xa_C (xl_I b) A h0 _ 23 [(2, 22, 0, 0, 0), (0, 0, 0, 12, i)] M _
  refine cx_23_22 (show 0 ≤ i ∧ i < 14 by omega) ?_
  show xa_C (xl_I b) A h0 _ 23 [(2, 25, 0, 0, 0), (0, 0, 0, 12, i)] M _
  refine cx_23_25 (show 0 ≤ i ∧ i < 14 by omega) ?_
  show xa_C (xl_I b) A h0 _ 52 [(2, 26, 0, 0, 0), (0, 0, 0, 12, i)] M _
  refine cx_52_26 (show 0 ≤ i ∧ i < 14 by omega) ?_
  refine And.intro ?_ ?_
  · intro (c1 : (M 22 i) ≤ 0)
    show xa_C (xl_I b) A h0 _ 48 [(2, 26, 0, 0, 0), (0, 0, 1, 13, i + 1), (1, 0, (-9223372036854775808), 9223372036854775807, (M 26 i) * 1)] M _
    refine cx_48_26 (show 0 ≤ (i + 1) ∧ (i + 1) < 14 by omega) ?_
    show xa_C (xl_I b) A h0 _ 52 [(2, 27, 0, 0, 0), (0, 0, 0, 12, i)] (xa_up M 26 (i + 1) ((M 26 i) * 1)) _
    refine cx_52_27 (show 0 ≤ i ∧ i < 14 by omega) ?_
    refine And.intro ?_ ?_
    · intro (c2 : 0 ≤ (M 22 i))
      show xa_C (xl_I b) A h0 _ 48 [(2, 27, 0, 0, 0), (0, 0, 1, 13, i + 1), (1, 0, (-9223372036854775808), 9223372036854775807, (M 27 i) * 1)] (xa_up M 26 (i + 1) ((M 26 i) * 1)) _
      refine cx_48_27 (show 0 ≤ (i + 1) ∧ (i + 1) < 14 by omega) ?_
      show post none (xa_up (xa_up M 26 (i + 1) ((M 26 i) * 1)) 27 (i + 1) ((M 27 i) * 1))
      have e1 : (M 26 i) * 1 = fs_u (M 22) (M 25) (i + 1).toNat := by
        rw [fb_u1 hi.1, if_neg (by omega), ← hu.1, Int.mul_one]
      have e2 : (M 27 i) * 1 = fs_d (M 22) (M 25) (i + 1).toNat := by
        rw [fb_d1 hi.1, if_neg (by omega), ← hu.2, Int.mul_one]
      rw [e1, e2]
      exact k
    · intro (c2 : (M 22 i) < 0)
      show xa_C (xl_I b) A h0 _ 48 [(2, 27, 0, 0, 0), (0, 0, 1, 13, i + 1), (1, 0, (-9223372036854775808), 9223372036854775807, xa_w64 ((M 27 i) * (M 25 i)))] (xa_up M 26 (i + 1) ((M 26 i) * 1)) _
      refine cx_48_27 (show 0 ≤ (i + 1) ∧ (i + 1) < 14 by omega) ?_
      show post none (xa_up (xa_up M 26 (i + 1) ((M 26 i) * 1)) 27 (i + 1) (xa_w64 ((M 27 i) * (M 25 i))))
      have e1 : (M 26 i) * 1 = fs_u (M 22) (M 25) (i + 1).toNat := by
        rw [fb_u1 hi.1, if_neg (by omega), ← hu.1, Int.mul_one]
      have e2 : xa_w64 ((M 27 i) * (M 25 i)) = fs_d (M 22) (M 25) (i + 1).toNat := by
        rw [fb_d1 hi.1, if_pos c2, ← hu.2] at hB
        rw [fb_d1 hi.1, if_pos c2, ← hu.2]
        exact xa_w64_id (by omega) (by omega)
      rw [e1, e2]
      exact k
  · intro (c1 : 0 < (M 22 i))
    show xa_C (xl_I b) A h0 _ 48 [(2, 26, 0, 0, 0), (0, 0, 1, 13, i + 1), (1, 0, (-9223372036854775808), 9223372036854775807, xa_w64 ((M 26 i) * (M 25 i)))] M _
    refine cx_48_26 (show 0 ≤ (i + 1) ∧ (i + 1) < 14 by omega) ?_
    show xa_C (xl_I b) A h0 _ 52 [(2, 27, 0, 0, 0), (0, 0, 0, 12, i)] (xa_up M 26 (i + 1) (xa_w64 ((M 26 i) * (M 25 i)))) _
    refine cx_52_27 (show 0 ≤ i ∧ i < 14 by omega) ?_
    refine And.intro ?_ ?_
    · intro (c3 : 0 ≤ (M 22 i))
      show xa_C (xl_I b) A h0 _ 48 [(2, 27, 0, 0, 0), (0, 0, 1, 13, i + 1), (1, 0, (-9223372036854775808), 9223372036854775807, (M 27 i) * 1)] (xa_up M 26 (i + 1) (xa_w64 ((M 26 i) * (M 25 i)))) _
      refine cx_48_27 (show 0 ≤ (i + 1) ∧ (i + 1) < 14 by omega) ?_
      show post none (xa_up (xa_up M 26 (i + 1) (xa_w64 ((M 26 i) * (M 25 i)))) 27 (i + 1) ((M 27 i) * 1))
      have e1 : xa_w64 ((M 26 i) * (M 25 i)) = fs_u (M 22) (M 25) (i + 1).toNat := by
        rw [fb_u1 hi.1, if_pos c1, ← hu.1] at hB
        rw [fb_u1 hi.1, if_pos c1, ← hu.1]
        exact xa_w64_id (by omega) (by omega)
      have e2 : (M 27 i) * 1 = fs_d (M 22) (M 25) (i + 1).toNat := by
        rw [fb_d1 hi.1, if_neg (by omega), ← hu.2, Int.mul_one]
      rw [e1, e2]
      exact k
    · intro (c3 : (M 22 i) < 0)
      show xa_C (xl_I b) A h0 _ 48 [(2, 27, 0, 0, 0), (0, 0, 1, 13, i + 1), (1, 0, (-9223372036854775808), 9223372036854775807, xa_w64 ((M 27 i) * (M 25 i)))] (xa_up M 26 (i + 1) (xa_w64 ((M 26 i) * (M 25 i)))) _
      refine cx_48_27 (show 0 ≤ (i + 1) ∧ (i + 1) < 14 by omega) ?_
      show post none (xa_up (xa_up M 26 (i + 1) (xa_w64 ((M 26 i) * (M 25 i)))) 27 (i + 1) (xa_w64 ((M 27 i) * (M 25 i))))
      have e1 : xa_w64 ((M 26 i) * (M 25 i)) = fs_u (M 22) (M 25) (i + 1).toNat := by
        rw [fb_u1 hi.1, if_pos c1, ← hu.1] at hB
        rw [fb_u1 hi.1, if_pos c1, ← hu.1]
        exact xa_w64_id (by omega) (by omega)
      have e2 : xa_w64 ((M 27 i) * (M 25 i)) = fs_d (M 22) (M 25) (i + 1).toNat := by
        rw [fb_d1 hi.1, if_pos c3, ← hu.2] at hB
        rw [fb_d1 hi.1, if_pos c3, ← hu.2]
        exact xa_w64_id (by omega) (by omega)
      rw [e1, e2]
      exact k
theorem cx_23_23 {b : Bool} {A : Nat → Nat} {h0 : g_H} {d : Nat} {M : xa_M} {post : Option xa_V → xa_M → Prop} {l1 u1 : Int} {i : Int} (h1 : 0 ≤ i ∧ i < 14) (k1 : post (some (0, 0, (-2147483648), 2147483647, M 23 i)) M) : xa_C (xl_I b) A h0 (d + 1) 23 [(2, 23, 0, 0, 0), (0, 0, l1, u1, i)] M post := by
  refine xa_C_arg [(2, 23, 0, 0, 0), (0, 0, (-2147483648), 2147483647, i)] (xa_svR (xa_svI (fun _ _ _ _ => by omega) xa_sv0)) ?_
  refine xa_meth (Q0 := (2, 1, false, 0, 0, 11)) (by decide +kernel) ⟨rfl, rfl⟩ (full := s_c_23) rfl rfl ?_
  intro hM hv Q hgo
  refine hgo.1 15 [] 0 _ _ _ ?_
  refine And.intro ?_ ?_
  · intro (c1 : i < 0)
    show post (some (0, 0, 0, 0, 0)) M
    exact absurd h1 (by omega)
  · intro (c1 : 0 ≤ i)
    refine And.intro ?_ ?_
    · intro (c2 : 14 ≤ i)
      show post (some (0, 0, 0, 0, 0)) M
      exact absurd h1 (by omega)
    · intro (c2 : i < 14)
      refine And.intro (show 0 ≤ i ∧ i < 14 by omega) ?_
      show post (some (0, 0, (-2147483648), 2147483647, M 23 i)) M
      exact k1
theorem cx_18_25 {b : Bool} {A : Nat → Nat} {h0 : g_H} {d : Nat} {M : xa_M} {post : Option xa_V → xa_M → Prop} {l1 u1 l2 u2 : Int} {i v : Int} (h1 : 0 ≤ i ∧ i < 14) (k1 : post none (xa_up M 25 i v)) : xa_C (xl_I b) A h0 (d + 1) 18 [(2, 25, 0, 0, 0), (0, 0, l1, u1, i), (0, 0, l2, u2, v)] M post := by
  refine xa_C_arg [(2, 25, 0, 0, 0), (0, 0, (-2147483648), 2147483647, i), (0, 0, (-2147483648), 2147483647, v)] (xa_svR (xa_svI (fun _ _ _ _ => by omega) (xa_svI (fun _ _ _ _ => by omega) xa_sv0))) ?_
  refine xa_meth (Q0 := (3, 0, false, 0, 0, 11)) (by decide +kernel) ⟨rfl, rfl⟩ (full := s_c_18) rfl rfl ?_
  intro hM hv Q hgo
  refine hgo.1 15 [] 0 _ _ _ ?_
  refine And.intro ?_ ?_
  · intro (c1 : i < 0)
    show post none M
    exact absurd h1 (by omega)
  · intro (c1 : 0 ≤ i)
    refine And.intro ?_ ?_
    · intro (c2 : 14 ≤ i)
      show post none M
      exact absurd h1 (by omega)
    · intro (c2 : i < 14)
      refine And.intro (show 0 ≤ i ∧ i < 14 by omega) ?_
      show post none (xa_up M 25 i v)
      exact k1
theorem cx_93f {b : Bool} {A : Nat → Nat} {h0 : g_H} {d : Nat} {M : xa_M} {post : Option xa_V → xa_M → Prop} {l1 u1 l2 u2 f l : Int} (hf : 0 ≤ f ∧ f ≤ l) (hl : l ≤ 13) (hB : fb_B (M 22) l) (hL : ∀ i : Int, 0 ≤ i → i < l → 0 ≤ M 23 i ∧ M 23 i ≤ 400) (hV : ∀ i : Int, 0 ≤ i → i < f → 0 ≤ M 25 i ∧ M 25 i ≤ 400) (hP : fb_P M f) (k : ∀ M1 : xa_M, (∀ q j, ¬ q = 25 → ¬ q = 26 → ¬ q = 27 → M1 q j = M q j) → (∀ j : Int, f ≤ j → j < l → M1 25 j = M 23 j) → (∀ j : Int, (j < f ∨ l ≤ j) → M1 25 j = M 25 j) → fb_P M1 l → post none M1) : xa_C (xl_I b) A h0 (d + 3) 93 [(2, 15, 0, 0, 0), (0, 0, l1, u1, f), (0, 0, l2, u2, l)] M post := by
  refine xa_C_arg [(2, 15, 0, 0, 0), (0, 0, 0, 13, f), (0, 0, 0, 13, l)] (xa_svR (xa_svI (fun _ _ _ _ => by omega) (xa_svI (fun _ _ _ _ => by omega) xa_sv0))) ?_
  refine xa_meth (Q0 := (4, 0, false, 0, 0, 3)) (by decide +kernel) ⟨rfl, rfl⟩ (full := s_c_93) rfl rfl ?_
  intro hM hv Q hgo
  have loop : ∀ (n : Nat) (x : Int) (M1 : xa_M), f ≤ x → x ≤ l → (∀ q j, ¬ q = 25 → ¬ q = 26 → ¬ q = 27 → M1 q j = M q j) → (∀ j : Int, f ≤ j → j < x → M1 25 j = M 23 j) → (∀ j : Int, (j < f ∨ x ≤ j) → M1 25 j = M 25 j) → fb_P M1 x → 13 - x < (n : Int) → Q 2 [(3, (0, 0, 0, 13, x)), (0, (2, 15, 0, 0, 0)), (2, (0, 0, 0, 13, l))] [] M1 := by
    intro n
    induction n with
    | zero => intro x M1 x0 x1 hk hlo hst hp hms; omega
    | succ n ih =>
      intro x M1 x0 x1 hk hlo hst hp hms
      have r22 : M1 22 = M 22 := funext (fun j => hk 22 j (by decide) (by decide) (by decide))
      refine hgo.1 21 [2] 2 _ _ _ ?_
      refine And.intro ?_ ?_
      · intro (c1 : l ≤ x)
        show post none M1
        exact k M1 hk (fun j j0 j1 => hlo j j0 (by omega)) (fun j hj => hst j (by omega)) (fun j j0 j1 => hp j j0 (by omega))
      · intro (c1 : x < l)
        show xa_C (xl_I b) A h0 _ 23 [(2, 23, 0, 0, 0), (0, 0, 0, 13, x)] M1 _
        refine cx_23_23 (show 0 ≤ x ∧ x < 14 by omega) ?_
        show xa_C (xl_I b) A h0 _ 18 [(2, 25, 0, 0, 0), (0, 0, 0, 13, x), (0, 0, (-2147483648), 2147483647, M1 23 x)] M1 _
        refine cx_18_25 (show 0 ≤ x ∧ x < 14 by omega) ?_
        have hu2 := fb_us (v := M1 23 x) (show 0 ≤ x by omega) hp
        have hB2 := fb_bs (v := M1 23 x) (show 0 ≤ x by omega) (show x < l by omega) (show fb_B (M1 22) l by rw [r22]; exact hB) (fun i i0 i1 => by
          by_cases e2 : i < f
          · rw [hst i (Or.inl e2)]
            exact hV i i0 e2
          · rw [hlo i (by omega) (by omega)]
            exact hL i i0 (by omega)) (by rw [hk 23 x (by decide) (by decide) (by decide)]; exact hL x (by omega) (by omega))
        show xa_C (xl_I b) A h0 _ 94 [(2, 15, 0, 0, 0), (0, 0, 0, 13, x)] (xa_up M1 25 x (M1 23 x)) _
        refine cx_94f (show 0 ≤ x ∧ x ≤ 12 by omega) hu2 hB2 ?_
        show Q 2 [(3, (0, 0, 1, 14, x + 1)), (0, (2, 15, 0, 0, 0)), (2, (0, 0, 0, 13, l))] [] (xa_up (xa_up (xa_up M1 25 x (M1 23 x)) 26 (x + 1) (fs_u ((xa_up M1 25 x (M1 23 x)) 22) ((xa_up M1 25 x (M1 23 x)) 25) (x + 1).toNat)) 27 (x + 1) (fs_d ((xa_up M1 25 x (M1 23 x)) 22) ((xa_up M1 25 x (M1 23 x)) 25) (x + 1).toNat))
        refine hgo.2.1 2 _ [(3, (0, 0, 0, 13, x + 1)), (0, (2, 15, 0, 0, 0)), (2, (0, 0, 0, 13, l))] _ _ (xa_subI rfl rfl (fun _ _ _ _ => by omega) (xa_subR rfl (xa_subI rfl rfl (fun _ _ _ _ => by omega) (xa_sub0)))) ?_
        exact ih (x + 1) (fb_M M1 x (M1 23 x)) (by omega) (by omega) (fun q j h1 h2 h3 => (fb_Mk h1 h2 h3).trans (hk q j h1 h2 h3)) (fun j j0 j1 => by
          by_cases e : j = x
          · rw [e, fb_Mi]
            exact hk 23 x (by decide) (by decide) (by decide)
          · rw [fb_Mj e]
            exact hlo j j0 (by omega)) (fun j hj => (fb_Mj (by omega)).trans (hst j (by omega))) (fb_MP (by omega) hp) (by omega)
  refine hgo.1 7 [2] 0 _ _ _ ?_
  show Q 2 [(3, (0, 0, 0, 13, f)), (0, (2, 15, 0, 0, 0)), (1, (0, 0, 0, 13, f)), (2, (0, 0, 0, 13, l))] [] M
  refine hgo.2.1 2 _ [(3, (0, 0, 0, 13, f)), (0, (2, 15, 0, 0, 0)), (2, (0, 0, 0, 13, l))] _ _ (xa_subI rfl rfl (fun _ _ _ _ => by omega) (xa_subR rfl (xa_subI rfl rfl (fun _ _ _ _ => by omega) (xa_sub0)))) ?_
  exact loop 14 f M (by omega) (by omega) (fun _ _ _ _ _ => rfl) (fun j j0 j1 => by omega) (fun _ _ => rfl) hP (by omega)
theorem cx_23_24 {b : Bool} {A : Nat → Nat} {h0 : g_H} {d : Nat} {M : xa_M} {post : Option xa_V → xa_M → Prop} {l1 u1 : Int} {i : Int} (h1 : 0 ≤ i ∧ i < 14) (k1 : post (some (0, 0, 0, 400, M 24 i)) M) : xa_C (xl_I b) A h0 (d + 1) 23 [(2, 24, 0, 0, 0), (0, 0, l1, u1, i)] M post := by
  refine xa_C_arg [(2, 24, 0, 0, 0), (0, 0, (-2147483648), 2147483647, i)] (xa_svR (xa_svI (fun _ _ _ _ => by omega) xa_sv0)) ?_
  refine xa_meth (Q0 := (2, 1, false, 0, 0, 11)) (by decide +kernel) ⟨rfl, rfl⟩ (full := s_c_23) rfl rfl ?_
  intro hM hv Q hgo
  refine hgo.1 15 [] 0 _ _ _ ?_
  refine And.intro ?_ ?_
  · intro (c1 : i < 0)
    show post (some (0, 0, 0, 0, 0)) M
    exact absurd h1 (by omega)
  · intro (c1 : 0 ≤ i)
    refine And.intro ?_ ?_
    · intro (c2 : 14 ≤ i)
      show post (some (0, 0, 0, 0, 0)) M
      exact absurd h1 (by omega)
    · intro (c2 : i < 14)
      refine And.intro (show 0 ≤ i ∧ i < 14 by omega) ?_
      show post (some (0, 0, 0, 400, M 24 i)) M
      exact k1
theorem cx_92f {b : Bool} {A : Nat → Nat} {h0 : g_H} {d : Nat} {M : xa_M} {post : Option xa_V → xa_M → Prop} {l1 u1 l : Int} (hl : 0 ≤ l ∧ l ≤ 13) (hB : fb_B (M 22) l) (hL : ∀ i : Int, 0 ≤ i → i < l → 0 ≤ M 23 i ∧ M 23 i ≤ M 24 i ∧ M 24 i ≤ 400) (h01 : M 15 13 = 0 ∨ M 15 13 = 1) (hV : M 15 13 = 1 → ∀ i : Int, 0 ≤ i → i < l → M 23 i ≤ M 25 i ∧ M 25 i ≤ M 24 i) (hP : M 15 13 = 1 → fb_P M l) (k1 : ∀ M1 : xa_M, M 15 13 = 0 → (∀ q j, ¬ q = 25 → ¬ q = 26 → ¬ q = 27 → ¬ (q = 15 ∧ j = 13) → M1 q j = M q j) → M1 15 13 = 1 → (∀ j : Int, 0 ≤ j → j < l → M1 25 j = M 23 j) → (∀ j : Int, l ≤ j → M1 25 j = M 25 j) → fb_P M1 l → post (some (0, 0, 0, 1, 1)) M1) (k2 : ∀ M1 : xa_M, M 15 13 = 1 → (∀ q j, ¬ q = 25 → ¬ q = 26 → ¬ q = 27 → ¬ (q = 15 ∧ j = 13) → M1 q j = M q j) → M1 15 13 = 1 → (∃ x : Int, 0 ≤ x ∧ x < l ∧ (∀ j : Int, 0 ≤ j → j < x → M1 25 j = M 25 j) ∧ M 25 x < M 24 x ∧ M1 25 x = M 25 x + 1 ∧ ∀ j : Int, x < j → j < l → M 25 j = M 24 j ∧ M1 25 j = M 23 j) → (∀ j : Int, l ≤ j → M1 25 j = M 25 j) → fb_P M1 l → post (some (0, 0, 0, 1, 1)) M1) (k0 : M 15 13 = 1 → (∀ j : Int, 0 ≤ j → j < l → M 25 j = M 24 j) → post (some (0, 0, 0, 1, 0)) M) : xa_C (xl_I b) A h0 (d + 4) 92 [(2, 15, 0, 0, 0), (0, 0, l1, u1, l)] M post := by
  refine xa_C_wk ?_
  refine xa_C_arg [(2, 15, 0, 0, 0), (0, 0, 0, 13, l)] (xa_svR (xa_svI (fun _ _ _ _ => by omega) xa_sv0)) ?_
  refine xa_meth (Q0 := (3, 2, false, 0, 0, 3)) (by decide +kernel) ⟨rfl, rfl⟩ (full := s_c_92) rfl rfl ?_
  intro hM hv Q hgo
  have loop : M 15 13 = 1 → ∀ (n : Nat) (i : Int), -1 ≤ i → i < l → (∀ j : Int, i < j → j < l → M 25 j = M 24 j) → i + 1 < (n : Int) → Q 42 [(2, (0, 0, (-1), 12, i)), (0, (2, 15, 0, 0, 0)), (1, (0, 0, 0, 13, l))] [] M := by
    intro c9 n
    have h13 := c9
    have hV := hV c9
    have hP := hP c9
    induction n with
    | zero => intro i i0 i1 hH hms; omega
    | succ n ih =>
      intro i i0 i1 hH hms
      refine hgo.1 36 [42] 42 _ _ _ ?_
      refine And.intro ?_ ?_
      · intro (c1 : i < 0)
        show xa_wk post (some (0, 0, 0, 0, 0)) M
        exact xa_wkI 0 rfl (fun _ _ => by omega) (k0 c9 (fun j j0 j1 => hH j (by omega) (by omega)))
      · intro (c1 : 0 ≤ i)
        have y8 := hV i (by omega) (by omega)
        have y9 := hL i (by omega) (by omega)
        show xa_C (xl_I b) A h0 _ 23 [(2, 25, 0, 0, 0), (0, 0, (-1), 12, i)] M _
        refine cx_23_25 (show 0 ≤ i ∧ i < 14 by omega) ?_
        show xa_C (xl_I b) A h0 _ 23 [(2, 24, 0, 0, 0), (0, 0, (-1), 12, i)] M _
        refine cx_23_24 (show 0 ≤ i ∧ i < 14 by omega) ?_
        refine And.intro ?_ ?_
        · intro (c2 : (M 24 i) ≤ (M 25 i))
          show Q 42 [(2, (0, 0, (-2), 11, i + (-1))), (0, (2, 15, 0, 0, 0)), (1, (0, 0, 0, 13, l))] [] M
          have y1 := hV i (by omega) (by omega)
          refine hgo.2.1 42 _ [(2, (0, 0, (-1), 12, i + (-1))), (0, (2, 15, 0, 0, 0)), (1, (0, 0, 0, 13, l))] _ _ (xa_subI rfl rfl (fun _ _ _ _ => by omega) (xa_subR rfl (xa_subI rfl rfl (fun _ _ _ _ => by omega) (xa_sub0)))) ?_
          exact ih (i + (-1)) (by omega) (by omega) (fun j j0 j1 => by
            by_cases e : j = i
            · rw [e]
              omega
            · exact hH j (by omega) j1) (by omega)
        · intro (c2 : (M 25 i) < (M 24 i))
          show xa_C (xl_I b) A h0 _ 23 [(2, 25, 0, 0, 0), (0, 0, (-1), 12, i)] M _
          refine cx_23_25 (show 0 ≤ i ∧ i < 14 by omega) ?_
          show xa_C (xl_I b) A h0 _ 18 [(2, 25, 0, 0, 0), (0, 0, (-1), 12, i), (0, 0, (-2147483648), 2147483647, xa_w32 ((M 25 i) + 1))] M _
          refine cx_18_25 (show 0 ≤ i ∧ i < 14 by omega) ?_
          have w9 : xa_w32 ((M 25 i) + 1) = M 25 i + 1 := xa_w32_id (by omega) (by omega)
          have hu2 := fb_us (v := xa_w32 ((M 25 i) + 1)) (show 0 ≤ i by omega) (fun j j0 j1 => hP j j0 (by omega))
          have hB2 := fb_bs (v := xa_w32 ((M 25 i) + 1)) (show 0 ≤ i by omega) (show i < l by omega) hB (fun j j0 j1 => by have := hV j j0 (by omega); have := hL j j0 (by omega); omega) (by omega)
          show xa_C (xl_I b) A h0 _ 94 [(2, 15, 0, 0, 0), (0, 0, (-1), 12, i)] (xa_up M 25 i (xa_w32 ((M 25 i) + 1))) _
          refine cx_94f (show 0 ≤ i ∧ i ≤ 12 by omega) hu2 hB2 ?_
          have z22 : (fb_M M i (xa_w32 ((M 25 i) + 1))) 22 = M 22 := funext (fun j => fb_Mk (by decide) (by decide) (by decide))
          have z23 : (fb_M M i (xa_w32 ((M 25 i) + 1))) 23 = M 23 := funext (fun j => fb_Mk (by decide) (by decide) (by decide))
          have hB3 : fb_B ((fb_M M i (xa_w32 ((M 25 i) + 1))) 22) l := by rw [z22]; exact hB
          have hL3 : ∀ j : Int, 0 ≤ j → j < l → 0 ≤ (fb_M M i (xa_w32 ((M 25 i) + 1))) 23 j ∧ (fb_M M i (xa_w32 ((M 25 i) + 1))) 23 j ≤ 400 := by rw [z23]; exact fun j j0 j1 => ⟨(hL j j0 j1).1, by have := hL j j0 j1; omega⟩
          have hV3 : ∀ j : Int, 0 ≤ j → j < i + 1 → 0 ≤ (fb_M M i (xa_w32 ((M 25 i) + 1))) 25 j ∧ (fb_M M i (xa_w32 ((M 25 i) + 1))) 25 j ≤ 400 := fun j j0 j1 => by
            have y1 := hV j j0 (by omega)
            have y2 := hL j j0 (by omega)
            by_cases e : j = i
            · rw [e, fb_Mi]
              rw [e] at y1 y2
              omega
            · rw [fb_Mj e]
              omega
          have hP3 : fb_P (fb_M M i (xa_w32 ((M 25 i) + 1))) (i + 1) := fb_MP (by omega) (fun j j0 j1 => hP j j0 (by omega))
          show xa_C (xl_I b) A h0 _ 93 [(2, 15, 0, 0, 0), (0, 0, 0, 13, i + 1), (0, 0, 0, 13, l)] (xa_up (xa_up (xa_up M 25 i (xa_w32 ((M 25 i) + 1))) 26 (i + 1) (fs_u ((xa_up M 25 i (xa_w32 ((M 25 i) + 1))) 22) ((xa_up M 25 i (xa_w32 ((M 25 i) + 1))) 25) (i + 1).toNat)) 27 (i + 1) (fs_d ((xa_up M 25 i (xa_w32 ((M 25 i) + 1))) 22) ((xa_up M 25 i (xa_w32 ((M 25 i) + 1))) 25) (i + 1).toNat)) _
          refine cx_93f (show 0 ≤ (i + 1) ∧ (i + 1) ≤ l by omega) (by omega) hB3 hL3 hV3 hP3 ?_
          intro M101 (i3 : ∀ q j, ¬ q = 25 → ¬ q = 26 → ¬ q = 27 → M101 q j = (xa_up (xa_up (xa_up M 25 i (xa_w32 ((M 25 i) + 1))) 26 (i + 1) (fs_u ((xa_up M 25 i (xa_w32 ((M 25 i) + 1))) 22) ((xa_up M 25 i (xa_w32 ((M 25 i) + 1))) 25) (i + 1).toNat)) 27 (i + 1) (fs_d ((xa_up M 25 i (xa_w32 ((M 25 i) + 1))) 22) ((xa_up M 25 i (xa_w32 ((M 25 i) + 1))) 25) (i + 1).toNat)) q j) (i4 : ∀ j : Int, (i + 1) ≤ j → j < l → M101 25 j = (xa_up (xa_up (xa_up M 25 i (xa_w32 ((M 25 i) + 1))) 26 (i + 1) (fs_u ((xa_up M 25 i (xa_w32 ((M 25 i) + 1))) 22) ((xa_up M 25 i (xa_w32 ((M 25 i) + 1))) 25) (i + 1).toNat)) 27 (i + 1) (fs_d ((xa_up M 25 i (xa_w32 ((M 25 i) + 1))) 22) ((xa_up M 25 i (xa_w32 ((M 25 i) + 1))) 25) (i + 1).toNat)) 23 j) (i5 : ∀ j : Int, (j < (i + 1) ∨ l ≤ j) → M101 25 j = (xa_up (xa_up (xa_up M 25 i (xa_w32 ((M 25 i) + 1))) 26 (i + 1) (fs_u ((xa_up M 25 i (xa_w32 ((M 25 i) + 1))) 22) ((xa_up M 25 i (xa_w32 ((M 25 i) + 1))) 25) (i + 1).toNat)) 27 (i + 1) (fs_d ((xa_up M 25 i (xa_w32 ((M 25 i) + 1))) 22) ((xa_up M 25 i (xa_w32 ((M 25 i) + 1))) 25) (i + 1).toNat)) 25 j) (i6 : fb_P M101 l)
          show xa_wk post (some (0, 0, 1, 1, 1)) M101
          exact xa_wkI 1 rfl (fun _ _ => by omega) (k2 M101 c9 (fun q j h1 h2 h3 h4 => (i3 q j h1 h2 h3).trans (fb_Mk h1 h2 h3)) ((i3 15 13 (by decide) (by decide) (by decide)).trans ((fb_Mk (by decide) (by decide) (by decide)).trans h13)) ⟨i, by omega, by omega, fun j j0 j1 => (i5 j (Or.inl (by omega))).trans (fb_Mj (by omega)), by omega, (i5 i (Or.inl (by omega))).trans (fb_Mi.trans w9), fun j j0 j1 => ⟨hH j (by omega) j1, (i4 j (by omega) j1).trans (fb_Mk (by decide) (by decide) (by decide))⟩⟩ (fun j hj => (i5 j (Or.inr hj)).trans (fb_Mj (by omega))) i6)
  refine hgo.1 26 [42] 0 _ _ _ ?_
  refine And.intro ?_ ?_
  · intro (c1 : ¬ (M 15 13) = 0)
    show Q 42 [(2, (0, 0, (-1), 12, l - 1)), (0, (2, 15, 0, 0, 0)), (1, (0, 0, 0, 13, l))] [] M
    refine hgo.2.1 42 _ [(2, (0, 0, (-1), 12, l - 1)), (0, (2, 15, 0, 0, 0)), (1, (0, 0, 0, 13, l))] _ _ (xa_subI rfl rfl (fun _ _ _ _ => by omega) (xa_subR rfl (xa_subI rfl rfl (fun _ _ _ _ => by omega) (xa_sub0)))) ?_
    exact loop (by omega) 14 _ (by omega) (by omega) (fun j j0 j1 => by omega) (by omega)
  · intro (c1 : (M 15 13) = 0)
    have c9 : M 15 13 = 0 := c1
    show xa_C (xl_I b) A h0 _ 48 [(2, 26, 0, 0, 0), (0, 0, 0, 0, 0), (1, 0, 1, 1, 1)] (xa_up M 15 13 1) _
    refine cx_48_26 (show 0 ≤ 0 ∧ 0 < 14 by omega) ?_
    show xa_C (xl_I b) A h0 _ 48 [(2, 27, 0, 0, 0), (0, 0, 0, 0, 0), (1, 0, 1, 1, 1)] (xa_up (xa_up M 15 13 1) 26 0 1) _
    refine cx_48_27 (show 0 ≤ 0 ∧ 0 < 14 by omega) ?_
    have z22 : (xa_up (xa_up (xa_up M 15 13 1) 26 0 1) 27 0 1) 22 = M 22 := funext (fun j => (xa_up_ne (by omega)).trans ((xa_up_ne (by omega)).trans (xa_up_ne (by omega))))
    have z23 : (xa_up (xa_up (xa_up M 15 13 1) 26 0 1) 27 0 1) 23 = M 23 := funext (fun j => (xa_up_ne (by omega)).trans ((xa_up_ne (by omega)).trans (xa_up_ne (by omega))))
    have hB3 : fb_B ((xa_up (xa_up (xa_up M 15 13 1) 26 0 1) 27 0 1) 22) l := by rw [z22]; exact hB
    have hL3 : ∀ i : Int, 0 ≤ i → i < l → 0 ≤ (xa_up (xa_up (xa_up M 15 13 1) 26 0 1) 27 0 1) 23 i ∧ (xa_up (xa_up (xa_up M 15 13 1) 26 0 1) 27 0 1) 23 i ≤ 400 := by rw [z23]; exact fun i i0 i1 => ⟨(hL i i0 i1).1, by have := hL i i0 i1; omega⟩
    have hV3 : ∀ i : Int, 0 ≤ i → i < 0 → 0 ≤ (xa_up (xa_up (xa_up M 15 13 1) 26 0 1) 27 0 1) 25 i ∧ (xa_up (xa_up (xa_up M 15 13 1) 26 0 1) 27 0 1) 25 i ≤ 400 := fun i i0 i1 => by omega
    have hP3 : fb_P (xa_up (xa_up (xa_up M 15 13 1) 26 0 1) 27 0 1) 0 := fun j j0 j1 => by
      have e : j = 0 := by omega
      rw [e]
      exact ⟨(xa_up_ne (by omega)).trans xa_up_eq, xa_up_eq⟩
    show xa_C (xl_I b) A h0 _ 93 [(2, 15, 0, 0, 0), (0, 0, 0, 0, 0), (0, 0, 0, 13, l)] (xa_up (xa_up (xa_up M 15 13 1) 26 0 1) 27 0 1) _
    refine cx_93f (show 0 ≤ 0 ∧ 0 ≤ l by omega) (by omega) hB3 hL3 hV3 hP3 ?_
    intro M102 (i2 : ∀ q j, ¬ q = 25 → ¬ q = 26 → ¬ q = 27 → M102 q j = (xa_up (xa_up (xa_up M 15 13 1) 26 0 1) 27 0 1) q j) (i3 : ∀ j : Int, 0 ≤ j → j < l → M102 25 j = (xa_up (xa_up (xa_up M 15 13 1) 26 0 1) 27 0 1) 23 j) (i4 : ∀ j : Int, (j < 0 ∨ l ≤ j) → M102 25 j = (xa_up (xa_up (xa_up M 15 13 1) 26 0 1) 27 0 1) 25 j) (i5 : fb_P M102 l)
    show xa_wk post (some (0, 0, 1, 1, 1)) M102
    exact xa_wkI 1 rfl (fun _ _ => by omega) (k1 M102 c9 (fun q j h1 h2 h3 h4 => (i2 q j h1 h2 h3).trans ((xa_up_ne (by omega)).trans ((xa_up_ne (by omega)).trans (xa_up_ne (by omega))))) ((i2 15 13 (by decide) (by decide) (by decide)).trans ((xa_up_ne (by omega)).trans ((xa_up_ne (by omega)).trans xa_up_eq))) (fun j j0 j1 => (i3 j j0 j1).trans ((xa_up_ne (by omega)).trans ((xa_up_ne (by omega)).trans (xa_up_ne (by omega))))) (fun j hj => (i4 j (Or.inr hj)).trans ((xa_up_ne (by omega)).trans ((xa_up_ne (by omega)).trans (xa_up_ne (by omega))))) i5)
theorem cx_97f {b : Bool} {A : Nat → Nat} {h0 : g_H} {d : Nat} {M : xa_M} {post : Option xa_V → xa_M → Prop} {l1 u1 l2 u2 x y : Int} (hx : 1 ≤ x ∧ x ≤ 9223372036854775807) (hy : 0 ≤ y ∧ y ≤ 9223372036854775807) (k1 : x ∣ y → post (some (0, 0, 1, 1, 1)) M) (k2 : ¬ x ∣ y → post (some (0, 0, 0, 0, 0)) M) : xa_C (xl_I b) A h0 (d + 1) 97 [(1, 0, l1, u1, x), (1, 0, l2, u2, y)] M post := by
  refine xa_C_arg [(1, 0, 1, 9223372036854775807, x), (1, 0, 0, 9223372036854775807, y)] (xa_svL (fun _ _ _ _ => by omega) (xa_svL (fun _ _ _ _ => by omega) xa_sv0)) ?_
  refine xa_meth (Q0 := (4, 2, false, 0, 0, 11)) (by decide +kernel) ⟨rfl, rfl⟩ (full := s_c_97) rfl rfl ?_
  intro hM hv Q hgo
  refine hgo.1 15 [] 0 _ _ _ ?_
  refine And.intro ?_ ?_
  · intro (c1 : ¬ (y % x) = 0)
    show post (some (0, 0, 0, 0, 0)) M
    exact k2 (fun h => by have := Int.emod_eq_zero_of_dvd h; omega)
  · intro (c1 : (y % x) = 0)
    show post (some (0, 0, 1, 1, 1)) M
    exact k1 (Int.dvd_of_emod_eq_zero (by omega))
theorem cx_21g {b : Bool} {A : Nat → Nat} {h0 : g_H} {d : Nat} {M : xa_M} {post : Option xa_V → xa_M → Prop} {l1 u1 l2 u2 x y : Int} (hx : 0 ≤ x ∧ x ≤ 1638400000000000000) (hy : 1 ≤ y ∧ y ≤ 9223372036854775807) (k : post (some (1, 0, 0, 1638400000000000000, x / y)) M) : xa_C (xl_I b) A h0 (d + 1) 21 [(1, 0, l1, u1, x), (1, 0, l2, u2, y)] M post := by
  refine xa_C_wk ?_
  refine xa_C_arg [(1, 0, 0, 1638400000000000000, x), (1, 0, 1, 9223372036854775807, y)] (xa_svL (fun _ _ _ _ => by omega) (xa_svL (fun _ _ _ _ => by omega) xa_sv0)) ?_
  refine xa_meth (Q0 := (4, 3, false, 0, 0, 11)) (by decide +kernel) ⟨rfl, rfl⟩ (full := s_c_21) rfl rfl ?_
  intro hM hv Q hgo
  have q0 := Int.ediv_nonneg (show 0 ≤ x by omega) (show 0 ≤ y by omega)
  have q1 := Int.ediv_le_self y (show 0 ≤ x by omega)
  refine hgo.1 11 [] 0 _ _ _ ?_
  show xa_wk post (some (1, 0, 0, 1638400000000000000, x / y)) M
  exact xa_wkL (x / y) rfl (fun _ _ => by omega) k
theorem cx_96f {b0 : Bool} {A : Nat → Nat} {h0 : g_H} {d : Nat} {M : xa_M} {post : Option xa_V → xa_M → Prop} {l1 u1 l2 u2 l3 u3 l4 u4 a b c d9 : Int} (ha : 0 ≤ a ∧ a ≤ 1638400000000000000) (hb : 1 ≤ b ∧ b ≤ 2000) (hc : 1 ≤ c ∧ c ≤ 2000) (hd : 1 ≤ d9 ∧ d9 ≤ 1638400000000000000) (k : ∀ r : Int, (¬ b ∣ a ∧ r = 0) ∨ (b ∣ a ∧ 1638400000000000000 / c < a / b ∧ r = 0) ∨ (b ∣ a ∧ a / b ≤ 1638400000000000000 / c ∧ ¬ d9 ∣ a / b * c ∧ r = 0) ∨ (b ∣ a ∧ a / b ≤ 1638400000000000000 / c ∧ d9 ∣ a / b * c ∧ r = a / b * c / d9) → (0 ≤ r ∧ r ≤ 1638400000000000000) → post (some (1, 0, 0, 1638400000000000000, r)) M) : xa_C (xl_I b0) A h0 (d + 2) 96 [(1, 0, l1, u1, a), (1, 0, l2, u2, b), (1, 0, l3, u3, c), (1, 0, l4, u4, d9)] M post := by
  refine xa_C_wk ?_
  refine xa_C_arg [(1, 0, 0, 1638400000000000000, a), (1, 0, 1, 2000, b), (1, 0, 1, 2000, c), (1, 0, 1, 1638400000000000000, d9)] (xa_svL (fun _ _ _ _ => by omega) (xa_svL (fun _ _ _ _ => by omega) (xa_svL (fun _ _ _ _ => by omega) (xa_svL (fun _ _ _ _ => by omega) xa_sv0)))) ?_
  refine xa_meth (Q0 := (10, 3, false, 0, 0, 3)) (by decide +kernel) ⟨rfl, rfl⟩ (full := s_c_96) rfl rfl ?_
  intro hM hv Q hgo
  have p0 := Int.ediv_nonneg (show 0 ≤ a by omega) (show 0 ≤ b by omega)
  have p1 := Int.ediv_le_self b (show 0 ≤ a by omega)
  have p2 := Int.ediv_nonneg (show (0 : Int) ≤ 1638400000000000000 by decide) (show 0 ≤ c by omega)
  have p3 := Int.ediv_le_self c (show (0 : Int) ≤ 1638400000000000000 by decide)
  refine hgo.1 30 [] 0 _ _ _ ?_
  show xa_C (xl_I b0) A h0 _ 97 [(1, 0, 1, 2000, b), (1, 0, 0, 1638400000000000000, a)] M _
  refine cx_97f (by omega) (by omega) ?_ ?_
  · intro (i1 : b ∣ a)
    show xa_C (xl_I b0) A h0 _ 21 [(1, 0, 0, 1638400000000000000, a), (1, 0, 1, 2000, b)] M _
    refine cx_21g (by omega) (by omega) ?_
    show xa_C (xl_I b0) A h0 _ 21 [(1, 0, 1638400000000000000, 1638400000000000000, 1638400000000000000), (1, 0, 1, 2000, c)] M _
    refine cx_21g (by omega) (by omega) ?_
    refine And.intro ?_ ?_
    · intro (c2 : (a / b) ≤ (1638400000000000000 / c))
      have m1 := Int.ediv_mul_le 1638400000000000000 (show c ≠ 0 by omega)
      have m2 := Int.mul_le_mul_of_nonneg_right (show a / b ≤ 1638400000000000000 / c by omega) (show 0 ≤ c by omega)
      have m3 := Int.mul_nonneg (show 0 ≤ a / b by omega) (show 0 ≤ c by omega)
      have e9 : xa_w64 ((a / b) * c) = a / b * c := xa_w64_id (by omega) (by omega)
      show xa_C (xl_I b0) A h0 _ 97 [(1, 0, 1, 1638400000000000000, d9), (1, 0, (-9223372036854775808), 9223372036854775807, xa_w64 ((a / b) * c))] M _
      refine cx_97f (by omega) (by omega) ?_ ?_
      · intro (i3 : d9 ∣ (xa_w64 ((a / b) * c)))
        show xa_C (xl_I b0) A h0 _ 21 [(1, 0, (-9223372036854775808), 9223372036854775807, xa_w64 ((a / b) * c)), (1, 0, 1, 1638400000000000000, d9)] M _
        refine cx_21g (by omega) (by omega) ?_
        show xa_wk post (some (1, 0, 0, 1638400000000000000, (xa_w64 ((a / b) * c)) / d9)) M
        rw [e9] at i3
        have q0 := Int.ediv_nonneg (show 0 ≤ a / b * c by omega) (show 0 ≤ d9 by omega)
        have q1 := Int.ediv_le_self d9 (show 0 ≤ a / b * c by omega)
        exact xa_wkL (a / b * c / d9) (by rw [e9]) (fun _ _ => by omega) (k _ (Or.inr (Or.inr (Or.inr ⟨i1, by omega, i3, rfl⟩))) (by omega))
      · intro (i4 : ¬ d9 ∣ (xa_w64 ((a / b) * c)))
        show xa_wk post (some (1, 0, 0, 0, 0)) M
        rw [e9] at i4
        exact xa_wkL 0 rfl (fun _ _ => by omega) (k 0 (Or.inr (Or.inr (Or.inl ⟨i1, by omega, i4, rfl⟩))) (by omega))
    · intro (c2 : (1638400000000000000 / c) < (a / b))
      show xa_wk post (some (1, 0, 0, 0, 0)) M
      exact xa_wkL 0 rfl (fun _ _ => by omega) (k 0 (Or.inr (Or.inl ⟨i1, by omega, rfl⟩)) (by omega))
  · intro (i5 : ¬ b ∣ a)
    show xa_wk post (some (1, 0, 0, 0, 0)) M
    exact xa_wkL 0 rfl (fun _ _ => by omega) (k 0 (Or.inl ⟨i5, rfl⟩) (by omega))
/-- teeth t of the last wheel fit -/
def fb_T (U D ρ dn up t : Int) : Prop := U * (if 0 < ρ then t else 1) * dn = D * (if ρ < 0 then t else 1) * up
theorem fb_T0 {U D ρ dn up t : Int} (h : ρ = 0) : fb_T U D ρ dn up t ↔ U * 1 * dn = D * up := by
  unfold fb_T
  rw [if_neg (by omega), if_neg (by omega), Int.mul_one D]
theorem fb_Tp {U D ρ dn up t : Int} (h : 0 < ρ) : fb_T U D ρ dn up t ↔ U * t * dn = D * up := by
  unfold fb_T
  rw [if_pos h, if_neg (by omega), Int.mul_one D]
theorem fb_Tn {U D ρ dn up t : Int} (h : ρ < 0) : fb_T U D ρ dn up t ↔ D * t * up = U * dn := by
  unfold fb_T
  rw [if_neg (by omega), if_pos h, Int.mul_one U]
  exact ⟨Eq.symm, Eq.symm⟩
theorem cx_95f {b : Bool} {A : Nat → Nat} {h0 : g_H} {d : Nat} {M : xa_M} {post : Option xa_V → xa_M → Prop} {l1 u1 l : Int} (hl : 0 ≤ l ∧ l ≤ 13) (hU : 1 ≤ M 26 l ∧ M 26 l ≤ 1638400000000000000) (hD : 1 ≤ M 27 l ∧ M 27 l ≤ 1638400000000000000) (hup : 1 ≤ M 15 11 ∧ M 15 11 ≤ 2000) (hdn : 1 ≤ M 15 12 ∧ M 15 12 ≤ 2000) (hg : Int.gcd (M 15 12) (M 15 11) = 1) (hL : 1 ≤ M 23 l ∧ M 23 l ≤ M 24 l ∧ M 24 l ≤ 400) (hUt : 0 < M 22 l → ∀ t : Int, 0 ≤ t → t ≤ 400 → M 26 l * t ≤ 1638400000000000000) (hDt : M 22 l < 0 → ∀ t : Int, 0 ≤ t → t ≤ 400 → M 27 l * t ≤ 1638400000000000000) (k1 : ∀ t : Int, (M 23 l ≤ t ∧ t ≤ M 24 l) → fb_T (M 26 l) (M 27 l) (M 22 l) (M 15 12) (M 15 11) t → (M 22 l = 0 → t = M 23 l) → (¬ M 22 l = 0 → ∀ t' : Int, (M 23 l ≤ t' ∧ t' ≤ M 24 l) → fb_T (M 26 l) (M 27 l) (M 22 l) (M 15 12) (M 15 11) t' → t' = t) → post (some (0, 0, 1, 1, 1)) (xa_up M 25 l t)) (k0 : ∀ M1 : xa_M, (∀ q j, ¬ (q = 25 ∧ j = l) → M1 q j = M q j) → (∀ t : Int, (M 23 l ≤ t ∧ t ≤ M 24 l) → ¬ fb_T (M 26 l) (M 27 l) (M 22 l) (M 15 12) (M 15 11) t) → post (some (0, 0, 0, 0, 0)) M1) : xa_C (xl_I b) A h0 (d + 3) 95 [(2, 15, 0, 0, 0), (0, 0, l1, u1, l)] M post := by
  refine xa_C_arg [(2, 15, 0, 0, 0), (0, 0, 0, 13, l)] (xa_svR (xa_svI (fun _ _ _ _ => by omega) xa_sv0)) ?_
  refine xa_meth (Q0 := (9, 2, false, 0, 0, 3)) (by decide +kernel) ⟨rfl, rfl⟩ (full := s_c_95) rfl rfl ?_
  intro hM hv Q hgo
  refine hgo.1 54 [] 0 _ _ _ ?_
  show xa_C (xl_I b) A h0 _ 52 [(2, 26, 0, 0, 0), (0, 0, 0, 13, l)] M _
  refine cx_52_26 (show 0 ≤ l ∧ l < 14 by omega) ?_
  show xa_C (xl_I b) A h0 _ 52 [(2, 27, 0, 0, 0), (0, 0, 0, 13, l)] M _
  refine cx_52_27 (show 0 ≤ l ∧ l < 14 by omega) ?_
  show xa_C (xl_I b) A h0 _ 23 [(2, 22, 0, 0, 0), (0, 0, 0, 13, l)] M _
  refine cx_23_22 (show 0 ≤ l ∧ l < 14 by omega) ?_
  refine And.intro ?_ ?_
  · intro (c1 : ¬ (M 22 l) = 0)
    refine And.intro ?_ ?_
    · intro (c2 : (M 22 l) ≤ 0)
      show xa_C (xl_I b) A h0 _ 96 [(1, 0, (-9223372036854775808), 9223372036854775807, M 26 l), (1, 0, (-9223372036854775808), 9223372036854775807, M 15 11), (1, 0, (-9223372036854775808), 9223372036854775807, M 15 12), (1, 0, (-9223372036854775808), 9223372036854775807, M 27 l)] M _
      refine cx_96f (by omega) (by omega) (by omega) (by omega) ?_
      intro r103 (i3 : (¬ (M 15 11) ∣ (M 26 l) ∧ r103 = 0) ∨ ((M 15 11) ∣ (M 26 l) ∧ 1638400000000000000 / (M 15 12) < (M 26 l) / (M 15 11) ∧ r103 = 0) ∨ ((M 15 11) ∣ (M 26 l) ∧ (M 26 l) / (M 15 11) ≤ 1638400000000000000 / (M 15 12) ∧ ¬ (M 27 l) ∣ (M 26 l) / (M 15 11) * (M 15 12) ∧ r103 = 0) ∨ ((M 15 11) ∣ (M 26 l) ∧ (M 26 l) / (M 15 11) ≤ 1638400000000000000 / (M 15 12) ∧ (M 27 l) ∣ (M 26 l) / (M 15 11) * (M 15 12) ∧ r103 = (M 26 l) / (M 15 11) * (M 15 12) / (M 27 l))) (i4 : 0 ≤ r103 ∧ r103 ≤ 1638400000000000000)
      show xa_C (xl_I b) A h0 _ 23 [(2, 23, 0, 0, 0), (0, 0, 0, 13, l)] M _
      refine cx_23_23 (show 0 ≤ l ∧ l < 14 by omega) ?_
      refine And.intro ?_ ?_
      · intro (c5 : r103 < (M 23 l))
        show post (some (0, 0, 0, 0, 0)) M
        have c8 : (M 22 l) < 0 := by omega
        have z9 := fun (t : Int) (t0 : 1 ≤ t) (t1 : t ≤ 400) => fs_mi (t := t) (m := 1638400000000000000) hU.1 hup.1 hdn.1 hD.1 (by rw [Int.gcd_comm]; exact hg) t0 (hDt c8 t (by omega) t1) i3
        exact k0 _ (fun q j h => rfl) (fun t t9 h => by
          have e := (z9 t (by omega) (by omega)).mp ((fb_Tn c8).mp h)
          omega)
      · intro (c5 : (M 23 l) ≤ r103)
        show xa_C (xl_I b) A h0 _ 23 [(2, 24, 0, 0, 0), (0, 0, 0, 13, l)] M _
        refine cx_23_24 (show 0 ≤ l ∧ l < 14 by omega) ?_
        refine And.intro ?_ ?_
        · intro (c6 : r103 ≤ (M 24 l))
          show xa_C (xl_I b) A h0 _ 18 [(2, 25, 0, 0, 0), (0, 0, 0, 13, l), (0, 0, (-2147483648), 2147483647, xa_w32 r103)] M _
          refine cx_18_25 (show 0 ≤ l ∧ l < 14 by omega) ?_
          show post (some (0, 0, 1, 1, 1)) (xa_up M 25 l (xa_w32 r103))
          have c8 : (M 22 l) < 0 := by omega
          have z9 := fun (t : Int) (t0 : 1 ≤ t) (t1 : t ≤ 400) => fs_mi (t := t) (m := 1638400000000000000) hU.1 hup.1 hdn.1 hD.1 (by rw [Int.gcd_comm]; exact hg) t0 (hDt c8 t (by omega) t1) i3
          have w9 : xa_w32 r103 = r103 := xa_w32_id (by omega) (by omega)
          rw [w9]
          exact k1 r103 (by omega) ((fb_Tn c8).mpr ((z9 r103 (by omega) (by omega)).mpr rfl)) (fun h => by omega) (fun _ t t9 h => ((z9 t (by omega) (by omega)).mp ((fb_Tn c8).mp h)).symm)
        · intro (c6 : (M 24 l) < r103)
          show post (some (0, 0, 0, 0, 0)) M
          have c8 : (M 22 l) < 0 := by omega
          have z9 := fun (t : Int) (t0 : 1 ≤ t) (t1 : t ≤ 400) => fs_mi (t := t) (m := 1638400000000000000) hU.1 hup.1 hdn.1 hD.1 (by rw [Int.gcd_comm]; exact hg) t0 (hDt c8 t (by omega) t1) i3
          exact k0 _ (fun q j h => rfl) (fun t t9 h => by
            have e := (z9 t (by omega) (by omega)).mp ((fb_Tn c8).mp h)
            omega)
    · intro (c2 : 0 < (M 22 l))
      show xa_C (xl_I b) A h0 _ 96 [(1, 0, (-9223372036854775808), 9223372036854775807, M 27 l), (1, 0, (-9223372036854775808), 9223372036854775807, M 15 12), (1, 0, (-9223372036854775808), 9223372036854775807, M 15 11), (1, 0, (-9223372036854775808), 9223372036854775807, M 26 l)] M _
      refine cx_96f (by omega) (by omega) (by omega) (by omega) ?_
      intro r104 (i7 : (¬ (M 15 12) ∣ (M 27 l) ∧ r104 = 0) ∨ ((M 15 12) ∣ (M 27 l) ∧ 1638400000000000000 / (M 15 11) < (M 27 l) / (M 15 12) ∧ r104 = 0) ∨ ((M 15 12) ∣ (M 27 l) ∧ (M 27 l) / (M 15 12) ≤ 1638400000000000000 / (M 15 11) ∧ ¬ (M 26 l) ∣ (M 27 l) / (M 15 12) * (M 15 11) ∧ r104 = 0) ∨ ((M 15 12) ∣ (M 27 l) ∧ (M 27 l) / (M 15 12) ≤ 1638400000000000000 / (M 15 11) ∧ (M 26 l) ∣ (M 27 l) / (M 15 12) * (M 15 11) ∧ r104 = (M 27 l) / (M 15 12) * (M 15 11) / (M 26 l))) (i8 : 0 ≤ r104 ∧ r104 ≤ 1638400000000000000)
      show xa_C (xl_I b) A h0 _ 23 [(2, 23, 0, 0, 0), (0, 0, 0, 13, l)] M _
      refine cx_23_23 (show 0 ≤ l ∧ l < 14 by omega) ?_
      refine And.intro ?_ ?_
      · intro (c9 : r104 < (M 23 l))
        show post (some (0, 0, 0, 0, 0)) M
        have c8 : 0 < (M 22 l) := by omega
        have z9 := fun (t : Int) (t0 : 1 ≤ t) (t1 : t ≤ 400) => fs_mi (t := t) (m := 1638400000000000000) hD.1 hdn.1 hup.1 hU.1 hg t0 (hUt c8 t (by omega) t1) i7
        exact k0 _ (fun q j h => rfl) (fun t t9 h => by
          have e := (z9 t (by omega) (by omega)).mp ((fb_Tp c8).mp h)
          omega)
      · intro (c9 : (M 23 l) ≤ r104)
        show xa_C (xl_I b) A h0 _ 23 [(2, 24, 0, 0, 0), (0, 0, 0, 13, l)] M _
        refine cx_23_24 (show 0 ≤ l ∧ l < 14 by omega) ?_
        refine And.intro ?_ ?_
        · intro (c10 : r104 ≤ (M 24 l))
          show xa_C (xl_I b) A h0 _ 18 [(2, 25, 0, 0, 0), (0, 0, 0, 13, l), (0, 0, (-2147483648), 2147483647, xa_w32 r104)] M _
          refine cx_18_25 (show 0 ≤ l ∧ l < 14 by omega) ?_
          show post (some (0, 0, 1, 1, 1)) (xa_up M 25 l (xa_w32 r104))
          have c8 : 0 < (M 22 l) := by omega
          have z9 := fun (t : Int) (t0 : 1 ≤ t) (t1 : t ≤ 400) => fs_mi (t := t) (m := 1638400000000000000) hD.1 hdn.1 hup.1 hU.1 hg t0 (hUt c8 t (by omega) t1) i7
          have w9 : xa_w32 r104 = r104 := xa_w32_id (by omega) (by omega)
          rw [w9]
          exact k1 r104 (by omega) ((fb_Tp c8).mpr ((z9 r104 (by omega) (by omega)).mpr rfl)) (fun h => by omega) (fun _ t t9 h => ((z9 t (by omega) (by omega)).mp ((fb_Tp c8).mp h)).symm)
        · intro (c10 : (M 24 l) < r104)
          show post (some (0, 0, 0, 0, 0)) M
          have c8 : 0 < (M 22 l) := by omega
          have z9 := fun (t : Int) (t0 : 1 ≤ t) (t1 : t ≤ 400) => fs_mi (t := t) (m := 1638400000000000000) hD.1 hdn.1 hup.1 hU.1 hg t0 (hUt c8 t (by omega) t1) i7
          exact k0 _ (fun q j h => rfl) (fun t t9 h => by
            have e := (z9 t (by omega) (by omega)).mp ((fb_Tp c8).mp h)
            omega)
  · intro (c1 : (M 22 l) = 0)
    show xa_C (xl_I b) A h0 _ 96 [(1, 0, (-9223372036854775808), 9223372036854775807, M 27 l), (1, 0, (-9223372036854775808), 9223372036854775807, M 15 12), (1, 0, (-9223372036854775808), 9223372036854775807, M 15 11), (1, 0, (-9223372036854775808), 9223372036854775807, M 26 l)] M _
    refine cx_96f (by omega) (by omega) (by omega) (by omega) ?_
    intro r105 (i11 : (¬ (M 15 12) ∣ (M 27 l) ∧ r105 = 0) ∨ ((M 15 12) ∣ (M 27 l) ∧ 1638400000000000000 / (M 15 11) < (M 27 l) / (M 15 12) ∧ r105 = 0) ∨ ((M 15 12) ∣ (M 27 l) ∧ (M 27 l) / (M 15 12) ≤ 1638400000000000000 / (M 15 11) ∧ ¬ (M 26 l) ∣ (M 27 l) / (M 15 12) * (M 15 11) ∧ r105 = 0) ∨ ((M 15 12) ∣ (M 27 l) ∧ (M 27 l) / (M 15 12) ≤ 1638400000000000000 / (M 15 11) ∧ (M 26 l) ∣ (M 27 l) / (M 15 12) * (M 15 11) ∧ r105 = (M 27 l) / (M 15 12) * (M 15 11) / (M 26 l))) (i12 : 0 ≤ r105 ∧ r105 ≤ 1638400000000000000)
    refine And.intro ?_ ?_
    · intro (c13 : ¬ r105 = 1)
      show xa_C (xl_I b) A h0 _ 23 [(2, 24, 0, 0, 0), (0, 0, 0, 13, l)] M _
      refine cx_23_24 (show 0 ≤ l ∧ l < 14 by omega) ?_
      show xa_C (xl_I b) A h0 _ 18 [(2, 25, 0, 0, 0), (0, 0, 0, 13, l), (0, 0, 0, 400, M 24 l)] M _
      refine cx_18_25 (show 0 ≤ l ∧ l < 14 by omega) ?_
      show post (some (0, 0, 0, 0, 0)) (xa_up M 25 l (M 24 l))
      have z9 := fs_mi (t := 1) (m := 1638400000000000000) hD.1 hdn.1 hup.1 hU.1 hg (by decide) (by omega) i11
      exact k0 _ (fun q j h => xa_up_ne h) (fun t t9 h => c13 (z9.mp ((fb_T0 c1).mp h)))
    · intro (c13 : r105 = 1)
      show xa_C (xl_I b) A h0 _ 23 [(2, 23, 0, 0, 0), (0, 0, 0, 13, l)] M _
      refine cx_23_23 (show 0 ≤ l ∧ l < 14 by omega) ?_
      show xa_C (xl_I b) A h0 _ 18 [(2, 25, 0, 0, 0), (0, 0, 0, 13, l), (0, 0, (-2147483648), 2147483647, M 23 l)] M _
      refine cx_18_25 (show 0 ≤ l ∧ l < 14 by omega) ?_
      show post (some (0, 0, 1, 1, 1)) (xa_up M 25 l (M 23 l))
      have z9 := fs_mi (t := 1) (m := 1638400000000000000) hD.1 hdn.1 hup.1 hU.1 hg (by decide) (by omega) i11
      exact k1 (M 23 l) (by omega) ((fb_T0 c1).mpr (z9.mpr c13)) (fun _ => rfl) (fun h => absurd c1 h)
theorem fb_Bm {R : Int → Int} {s s' : Int} (h : fb_B R s) (hs : s' ≤ s) : fb_B R s' := fun V n hn hV => h V n (by omega) hV
theorem fa_bl {L H R V : Int → Int} {z a b t : Int} (hz : 0 ≤ z) (hV : fs_in L H V z.toNat) (ht : L z ≤ t ∧ t ≤ H z) : fs_F L H R (z + 1).toNat a b (fs_rk L H V z.toNat * (H z - L z + 1) + (t - L z)) ↔ fb_T (fs_u R V z.toNat) (fs_d R V z.toNat) (R z) a b t := by
  have ez : ((z.toNat : Nat) : Int) = z := Int.toNat_of_nonneg hz
  have h := fs_bl (R := R) (l := z.toNat) (a := a) (b := b) (t := t) hV (by rw [ez]; exact ht)
  rw [ez] at h
  rw [show (z + 1).toNat = z.toNat + 1 by omega]
  exact h
theorem fa_rk {L H V : Int → Int} {z : Int} (hz : 0 ≤ z) : fs_rk L H V (z + 1).toNat = fs_rk L H V z.toNat * (H z - L z + 1) + (V z - L z) := by
  have ez : ((z.toNat : Nat) : Int) = z := Int.toNat_of_nonneg hz
  rw [show (z + 1).toNat = z.toNat + 1 by omega]
  show fs_rk L H V z.toNat * (H ((z.toNat : Nat) : Int) - L ((z.toNat : Nat) : Int) + 1) + (V ((z.toNat : Nat) : Int) - L ((z.toNat : Nat) : Int)) = _
  rw [ez]
theorem fa_pr {L H : Int → Int} {z : Int} (hz : 0 ≤ z) : fs_pr L H (z + 1).toNat = fs_pr L H z.toNat * (H z - L z + 1) := by
  have ez : ((z.toNat : Nat) : Int) = z := Int.toNat_of_nonneg hz
  rw [show (z + 1).toNat = z.toNat + 1 by omega]
  show fs_pr L H z.toNat * (H ((z.toNat : Nat) : Int) - L ((z.toNat : Nat) : Int) + 1) = _
  rw [ez]
theorem fa_c {F : Int → Prop} {a b : Int} (h0 : 0 ≤ a) (h1 : a ≤ b) (h : ∀ k : Int, a ≤ k → k < b → ¬ F k) : fs_c F b.toNat = fs_c F a.toNat := by
  rw [show b.toNat = a.toNat + (b.toNat - a.toNat) by omega]
  exact fs_cn _ (fun k k0 k1 => h k (by omega) (by omega))
theorem fa_c1 {F : Int → Prop} {a : Int} (h0 : 0 ≤ a) (h : F a) : fs_c F (a + 1).toNat = fs_c F a.toNat + 1 := by
  rw [show (a + 1).toNat = a.toNat + 1 by omega]
  exact fs_c1 (by rw [Int.toNat_of_nonneg h0]; exact h)
/-- nothing of a block fits -/
theorem fa_none {F : Int → Prop} {q lo hi n : Int} (hq : 0 ≤ q * (hi - lo + 1)) (hh : lo ≤ hi) (hn : fs_c F (q * (hi - lo + 1)).toNat = n) (h : ∀ t : Int, lo ≤ t ∧ t ≤ hi → ¬ F (q * (hi - lo + 1) + (t - lo))) : fs_c F ((q + 1) * (hi - lo + 1)).toNat = n := by
  rw [Int.add_mul, Int.one_mul, ← hn]
  refine fa_c hq (by omega) (fun k k0 k1 => ?_)
  have g := h (k - q * (hi - lo + 1) + lo) (by omega)
  rw [show q * (hi - lo + 1) + (k - q * (hi - lo + 1) + lo - lo) = k by omega] at g
  exact g
/-- the first of a block that fits -/
theorem fa_some {F : Int → Prop} {q lo hi n t : Int} (hq : 0 ≤ q * (hi - lo + 1)) (ht : lo ≤ t ∧ t ≤ hi) (hn : fs_c F (q * (hi - lo + 1)).toNat = n) (h : ∀ t' : Int, lo ≤ t' ∧ t' < t → ¬ F (q * (hi - lo + 1) + (t' - lo))) : fs_c F (q * (hi - lo + 1) + (t - lo)).toNat = n := by
  rw [← hn]
  refine fa_c hq (by omega) (fun k k0 k1 => ?_)
  have g := h (k - q * (hi - lo + 1) + lo) (by omega)
  rw [show q * (hi - lo + 1) + (k - q * (hi - lo + 1) + lo - lo) = k by omega] at g
  exact g
/-- behind it nothing fits -/
theorem fa_rest {F : Int → Prop} {q lo hi n t : Int} (hq : 0 ≤ q * (hi - lo + 1)) (ht : lo ≤ t ∧ t ≤ hi) (hn : fs_c F (q * (hi - lo + 1) + (t - lo) + 1).toNat = n) (h : ∀ t' : Int, t < t' ∧ t' ≤ hi → ¬ F (q * (hi - lo + 1) + (t' - lo))) : fs_c F ((q + 1) * (hi - lo + 1)).toNat = n := by
  rw [Int.add_mul, Int.one_mul, ← hn]
  refine fa_c (by omega) (by omega) (fun k k0 k1 => ?_)
  have g := h (k - q * (hi - lo + 1) + lo) (by omega)
  rw [show q * (hi - lo + 1) + (k - q * (hi - lo + 1) + lo - lo) = k by omega] at g
  exact g
/-- n have been found; z: the last wheel's place; F: what fits -/
def fa_S (L H R : Int → Int) (dn up : Int) (F : Int → Prop) (M : xa_M) (z n : Int) : Prop := (M 15 13 = 0 ∧ n = 0) ∨ (M 15 13 = 1 ∧ fs_in L H (M 25) z.toNat ∧ fb_P M z ∧ ((R z = 0 ∧ M 25 z < H z ∧ L z ≤ M 25 z ∧ fb_T (fs_u R (M 25) z.toNat) (fs_d R (M 25) z.toNat) (R z) dn up (L z) ∧ fs_c F (fs_rk L H (M 25) z.toNat * (H z - L z + 1) + (M 25 z - L z) + 1).toNat = n) ∨ (¬ (R z = 0 ∧ M 25 z < H z) ∧ fs_c F ((fs_rk L H (M 25) z.toNat + 1) * (H z - L z + 1)).toNat = n)))
/-- so many steps on, what lies behind has no more -/
def fa_U (L H : Int → Int) (F : Int → Prop) (M : xa_M) (z n x : Int) : Prop := (M 15 13 = 0 ∧ n = 0 ∧ x = 0) ∨ (M 15 13 = 1 ∧ fs_in L H (M 25) z.toNat ∧ fb_P M z ∧ x ≤ fs_rk L H (M 25) z.toNat + 1 ∧ fs_c F ((fs_rk L H (M 25) z.toNat + 1) * (H z - L z + 1)).toNat = n)
theorem fb_pos {R V : Int → Int} (n : Nat) (h : ∀ i : Int, 0 ≤ i → i < n → 1 ≤ V i ∧ V i ≤ 400) : 1 ≤ fs_u R V n ∧ 1 ≤ fs_d R V n := by
  induction n with
  | zero => exact ⟨Int.le_refl 1, Int.le_refl 1⟩
  | succ n ih =>
    obtain ⟨a, b⟩ := ih (fun i i0 i1 => h i i0 (by omega))
    have c := h n (by omega) (by omega)
    rw [fs_u1, fs_d1]
    have m1 := Int.mul_le_mul a (show (1 : Int) ≤ (if 0 < R n then V n else 1) by split <;> omega) (by decide) (by omega)
    have m2 := Int.mul_le_mul b (show (1 : Int) ≤ (if R n < 0 then V n else 1) by split <;> omega) (by decide) (by omega)
    rw [Int.one_mul] at m1 m2
    exact ⟨m1, m2⟩
theorem fb_last {R V : Int → Int} {z t : Int} (hz : 0 ≤ z) (hB : fb_B R (z + 1)) (bV : ∀ i : Int, 0 ≤ i → i < z.toNat → 1 ≤ V i ∧ V i ≤ 400) (t0 : 0 ≤ t) (t1 : t ≤ 400) : (0 < R z → fs_u R V z.toNat * t ≤ 1638400000000000000) ∧ (R z < 0 → fs_d R V z.toNat * t ≤ 1638400000000000000) := by
  obtain ⟨V1, hv, hl⟩ : ∃ V1 : Int → Int, (∀ i : Int, 0 ≤ i → i < z → V1 i = V i) ∧ V1 z = t := ⟨fun i => if i = z then t else V i, fun i i0 i1 => if_neg (by omega), if_pos rfl⟩
  have g := hB V1 (z + 1).toNat (by omega) (fun i i0 i1 => by
    by_cases e : i = z
    · rw [e, hl]
      exact ⟨t0, t1⟩
    · rw [hv i i0 (by omega)]
      have := bV i i0 (by omega)
      omega)
  rw [fb_u1 hz, fb_d1 hz, fb_ue hv, fb_de hv, hl] at g
  refine ⟨fun c => ?_, fun c => ?_⟩
  · rw [if_pos c] at g
    exact g.1.2
  · rw [if_pos c] at g
    exact g.2.2
theorem fb_Pz {X Y : xa_M} {z : Int} (h : ∀ q j, ¬ (q = 25 ∧ j = z) → Y q j = X q j) (hp : fb_P X z) : fb_P Y z := fun j j0 j1 => by
  have e22 : Y 22 = X 22 := funext (fun i => h 22 i (fun e => absurd e.1 (by decide)))
  have eV : ∀ i : Int, 0 ≤ i → i < j → Y 25 i = X 25 i := fun i i0 i1 => h 25 i (by omega)
  rw [fb_ue eV, fb_de eV, e22, h 26 j (fun e => absurd e.1 (by decide)), h 27 j (fun e => absurd e.1 (by decide))]
  exact hp j j0 j1
theorem fa_fnd {M X : xa_M} {z n t : Int} {F : Int → Prop} (hz : 0 ≤ z) (hF : F = fs_F (M 23) (M 24) (M 22) (z + 1).toNat (M 15 12) (M 15 11)) (h13 : X 15 13 = 1) (inX : fs_in (M 23) (M 24) (X 25) z.toNat) (pX : fb_P X z) (ht : M 23 z ≤ t ∧ t ≤ M 24 z) (hT : fb_T (fs_u (M 22) (X 25) z.toNat) (fs_d (M 22) (X 25) z.toNat) (M 22 z) (M 15 12) (M 15 11) t) (cn : fs_c F (fs_rk (M 23) (M 24) (X 25) z.toNat * (M 24 z - M 23 z + 1) + (t - M 23 z)).toNat = n) (hrest : ¬ (M 22 z = 0 ∧ t < M 24 z) → ∀ t' : Int, t < t' ∧ t' ≤ M 24 z → ¬ F (fs_rk (M 23) (M 24) (X 25) z.toNat * (M 24 z - M 23 z + 1) + (t' - M 23 z))) : fs_in (M 23) (M 24) ((xa_up X 25 z t) 25) (z + 1).toNat ∧ F (fs_rk (M 23) (M 24) ((xa_up X 25 z t) 25) (z + 1).toNat) ∧ fs_c F (fs_rk (M 23) (M 24) ((xa_up X 25 z t) 25) (z + 1).toNat).toNat = n ∧ fa_S (M 23) (M 24) (M 22) (M 15 12) (M 15 11) F (xa_up X 25 z t) z (n + 1) := by
  have v25 : (xa_up X 25 z t) 25 z = t := xa_up_eq
  have vlo : ∀ j : Int, 0 ≤ j → j < z.toNat → (xa_up X 25 z t) 25 j = X 25 j := fun j j0 j1 => xa_up_ne (by omega)
  have rkl := fs_rk_e (L := M 23) (H := M 24) _ vlo
  have eu := fs_u_e (R := M 22) _ vlo
  have ed := fs_d_e (R := M 22) _ vlo
  have q0 := (fs_rk_b _ inX).1
  have q2 : 0 ≤ fs_rk (M 23) (M 24) (X 25) z.toNat * (M 24 z - M 23 z + 1) := Int.mul_nonneg q0 (by omega)
  have rk1 : fs_rk (M 23) (M 24) ((xa_up X 25 z t) 25) (z + 1).toNat = fs_rk (M 23) (M 24) (X 25) z.toNat * (M 24 z - M 23 z + 1) + (t - M 23 z) := by rw [fa_rk hz, rkl, v25]
  have ft : F (fs_rk (M 23) (M 24) (X 25) z.toNat * (M 24 z - M 23 z + 1) + (t - M 23 z)) := by
    rw [hF]
    exact (fa_bl hz inX ht).mpr hT
  have c1 : fs_c F (fs_rk (M 23) (M 24) (X 25) z.toNat * (M 24 z - M 23 z + 1) + (t - M 23 z) + 1).toNat = n + 1 := (fa_c1 (by omega) ft).trans (by rw [cn])
  have in1 : fs_in (M 23) (M 24) ((xa_up X 25 z t) 25) z.toNat := fun j j0 j1 => by
    rw [vlo j j0 j1]
    exact inX j j0 j1
  refine ⟨fun j j0 j1 => ?_, by rw [rk1]; exact ft, by rw [rk1]; exact cn, Or.inr ⟨(xa_up_ne (by omega)).trans h13, in1, fb_Pz (fun q j h => xa_up_ne h) pX, ?_⟩⟩
  · by_cases e : j = z
    · rw [e, v25]
      exact ht
    · rw [vlo j j0 (by omega)]
      exact inX j j0 (by omega)
  · by_cases c : M 22 z = 0 ∧ t < M 24 z
    · refine Or.inl ⟨c.1, by rw [v25]; exact c.2, by rw [v25]; exact ht.1, ?_, by rw [rkl, v25]; exact c1⟩
      rw [eu, ed]
      exact (fb_T0 c.1).mpr ((fb_T0 c.1).mp hT)
    · refine Or.inr ⟨by rw [v25]; exact c, ?_⟩
      rw [rkl]
      exact fa_rest q2 ht c1 (hrest c)
def fa_K (M M1 : xa_M) : Prop := ∀ q j, ¬ q = 25 → ¬ q = 26 → ¬ q = 27 → ¬ (q = 15 ∧ j = 13) → M1 q j = M q j
theorem cx_91f {b : Bool} {A : Nat → Nat} {h0 : g_H} {d : Nat} {M : xa_M} {post : Option xa_V → xa_M → Prop} {z n : Int} {F : Int → Prop} (hz : 0 ≤ z ∧ z ≤ 13) (hs : M 15 10 = z + 1) (hF : F = fs_F (M 23) (M 24) (M 22) (z + 1).toNat (M 15 12) (M 15 11)) (hB : fb_B (M 22) (z + 1)) (hL : ∀ i : Int, 0 ≤ i → i < z + 1 → 1 ≤ M 23 i ∧ M 23 i ≤ M 24 i ∧ M 24 i ≤ 400) (hup : 1 ≤ M 15 11 ∧ M 15 11 ≤ 2000) (hdn : 1 ≤ M 15 12 ∧ M 15 12 ≤ 2000) (hg : Int.gcd (M 15 12) (M 15 11) = 1) (hPr : fs_pr (M 23) (M 24) (z + 1).toNat ≤ 200000) (hS : fa_S (M 23) (M 24) (M 22) (M 15 12) (M 15 11) F M z n) (k1 : ∀ M1 : xa_M, fa_K M M1 → fs_in (M 23) (M 24) (M1 25) (z + 1).toNat → F (fs_rk (M 23) (M 24) (M1 25) (z + 1).toNat) → fs_c F (fs_rk (M 23) (M 24) (M1 25) (z + 1).toNat).toNat = n → fa_S (M 23) (M 24) (M 22) (M 15 12) (M 15 11) F M1 z (n + 1) → post (some (0, 0, 0, 1, 1)) M1) (k0 : ∀ M1 : xa_M, fa_K M M1 → fs_c F (fs_pr (M 23) (M 24) (z + 1).toNat).toNat = n → post (some (0, 0, 0, 1, 0)) M1) : xa_C (xl_I b) A h0 (d + 5) 91 [(2, 15, 0, 0, 0)] M post := by
  refine xa_C_wk ?_
  refine xa_meth (Q0 := (3, 2, false, 0, 0, 3)) (by decide +kernel) ⟨rfl, rfl⟩ (full := s_c_91) rfl rfl ?_
  intro hM hv Q hgo
  have e9 : xa_w32 ((M 15 10) - 1) = z := by
    rw [hs, xa_w32_id (by omega) (by omega)]
    omega
  have hPl : fs_pr (M 23) (M 24) z.toNat ≤ 200000 := by
    have b1 := fs_pr_b (L := M 23) (H := M 24) z.toNat (fun i i0 i1 => by have := hL i i0 (by omega); omega)
    have b2 := hL z hz.1 (by omega)
    have m := Int.mul_le_mul_of_nonneg_left (show (1 : Int) ≤ M 24 z - M 23 z + 1 by omega) (show 0 ≤ fs_pr (M 23) (M 24) z.toNat by omega)
    rw [fa_pr hz.1] at hPr
    rw [Int.mul_one] at m
    omega
  have loop : ∀ (f : Nat) (x : Int) (M1 : xa_M), 0 ≤ x → fa_K M M1 → fa_U (M 23) (M 24) F M1 z n x → 200001 - x < (f : Int) → Q 66 [(2, (0, 0, 0, 200001, x)), (1, (0, 0, 0, 13, z)), (0, (2, 15, 0, 0, 0))] [] M1 := by
    intro f
    induction f with
    | zero =>
      intro x M1 x0 hk hU hms
      exfalso
      rcases hU with ⟨-, -, a⟩ | ⟨-, a, -, c, -⟩
      · omega
      · have := (fs_rk_b _ a).2
        omega
    | succ f ih =>
      intro x M1 x0 hk hU hms
      have hLz := hL z hz.1 (by omega)
      have hx9 : x ≤ 200000 := by
        rcases hU with ⟨-, -, a⟩ | ⟨-, a, -, c, -⟩
        · omega
        · have := (fs_rk_b _ a).2
          omega
      have r22 : M1 22 = M 22 := funext (fun j => hk 22 j (by decide) (by decide) (by decide) (fun e => absurd e.1 (by decide)))
      have r23 : M1 23 = M 23 := funext (fun j => hk 23 j (by decide) (by decide) (by decide) (fun e => absurd e.1 (by decide)))
      have r24 : M1 24 = M 24 := funext (fun j => hk 24 j (by decide) (by decide) (by decide) (fun e => absurd e.1 (by decide)))
      refine hgo.1 18 [66] 66 _ _ _ ?_
      refine And.intro ?_ ?_
      · intro (c1 : 200000 < x)
        show xa_wk post (some (0, 0, 0, 0, 0)) M1
        exfalso
        omega
      · intro (c1 : x ≤ 200000)
        have hB2 : fb_B (M1 22) z := by rw [r22]; exact fb_Bm hB (by omega)
        have hL2 : ∀ i : Int, 0 ≤ i → i < z → 0 ≤ M1 23 i ∧ M1 23 i ≤ M1 24 i ∧ M1 24 i ≤ 400 := by
          rw [r23, r24]
          intro i i0 i1
          have := hL i i0 (by omega)
          omega
        have h01 : M1 15 13 = 0 ∨ M1 15 13 = 1 := by
          rcases hU with ⟨a, -⟩ | ⟨a, -⟩
          · exact Or.inl a
          · exact Or.inr a
        have hW2 : M1 15 13 = 1 → fs_in (M 23) (M 24) (M1 25) z.toNat ∧ fb_P M1 z ∧ x ≤ fs_rk (M 23) (M 24) (M1 25) z.toNat + 1 ∧ fs_c F ((fs_rk (M 23) (M 24) (M1 25) z.toNat + 1) * (M 24 z - M 23 z + 1)).toNat = n := fun h => by
          rcases hU with ⟨a, -⟩ | ⟨-, a⟩
          · omega
          · exact a
        have hV2 : M1 15 13 = 1 → ∀ i : Int, 0 ≤ i → i < z → M1 23 i ≤ M1 25 i ∧ M1 25 i ≤ M1 24 i := fun h i i0 i1 => by
          rw [r23, r24]
          exact (hW2 h).1 i i0 (by omega)
        have hP2 : M1 15 13 = 1 → fb_P M1 z := fun h => (hW2 h).2.1
        show xa_C (xl_I b) A h0 _ 92 [(2, 15, 0, 0, 0), (0, 0, 0, 13, z)] M1 _
        refine cx_92f (by omega) hB2 hL2 h01 hV2 hP2 ?_ ?_ ?_
        · intro M106 (i2 : M1 15 13 = 0) (i3 : ∀ q j, ¬ q = 25 → ¬ q = 26 → ¬ q = 27 → ¬ (q = 15 ∧ j = 13) → M106 q j = M1 q j) (i4 : M106 15 13 = 1) (i5 : ∀ j : Int, 0 ≤ j → j < z → M106 25 j = M1 23 j) (i6 : ∀ j : Int, z ≤ j → M106 25 j = M1 25 j) (i7 : fb_P M106 z)
          have kX : fa_K M M106 := fun q j h1 h2 h3 h4 => (i3 q j h1 h2 h3 h4).trans (hk q j h1 h2 h3 h4)
          have vX : ∀ j : Int, 0 ≤ j → j < z.toNat → M106 25 j = M 23 j := fun j j0 j1 => (i5 j j0 (by omega)).trans (by rw [r23])
          have inX : fs_in (M 23) (M 24) (M106 25) z.toNat := fun j j0 j1 => by
            rw [vX j j0 j1]
            have := hL j j0 (by omega)
            omega
          have qX : fs_rk (M 23) (M 24) (M106 25) z.toNat = 0 := fs_first _ vX
          have xX : x ≤ fs_rk (M 23) (M 24) (M106 25) z.toNat ∧ fs_c F (fs_rk (M 23) (M 24) (M106 25) z.toNat * (M 24 z - M 23 z + 1)).toNat = n := by
            rcases hU with ⟨-, a1, a2⟩ | ⟨a, -⟩
            · rw [qX, Int.zero_mul, a1]
              exact ⟨by omega, rfl⟩
            · omega
          have q0 := (fs_rk_b _ inX).1
          have q2 : 0 ≤ fs_rk (M 23) (M 24) (M106 25) z.toNat * (M 24 z - M 23 z + 1) := Int.mul_nonneg q0 (by omega)
          have s22 : M106 22 = M 22 := funext (fun j => kX 22 j (by decide) (by decide) (by decide) (fun e => absurd e.1 (by decide)))
          have s23 : M106 23 = M 23 := funext (fun j => kX 23 j (by decide) (by decide) (by decide) (fun e => absurd e.1 (by decide)))
          have s24 : M106 24 = M 24 := funext (fun j => kX 24 j (by decide) (by decide) (by decide) (fun e => absurd e.1 (by decide)))
          have s11 : M106 15 11 = M 15 11 := kX 15 11 (by decide) (by decide) (by decide) (by decide)
          have s12 : M106 15 12 = M 15 12 := kX 15 12 (by decide) (by decide) (by decide) (by decide)
          have pz := i7 z hz.1 (Int.le_refl _)
          rw [s22] at pz
          have bV : ∀ i : Int, 0 ≤ i → i < z.toNat → 1 ≤ M106 25 i ∧ M106 25 i ≤ 400 := fun i i0 i1 => by
            have g := inX i i0 i1
            have g2 := hL i i0 (by omega)
            omega
          have bU := fb_pos (R := M 22) _ bV
          have bb := hB (M106 25) z.toNat (by omega) (fun i i0 i1 => by have := bV i i0 i1; omega)
          have hU3 : 1 ≤ M106 26 z ∧ M106 26 z ≤ 1638400000000000000 := by rw [pz.1]; exact ⟨bU.1, bb.1.2⟩
          have hD3 : 1 ≤ M106 27 z ∧ M106 27 z ≤ 1638400000000000000 := by rw [pz.2]; exact ⟨bU.2, bb.2.2⟩
          have hup3 : 1 ≤ M106 15 11 ∧ M106 15 11 ≤ 2000 := by rw [s11]; exact hup
          have hdn3 : 1 ≤ M106 15 12 ∧ M106 15 12 ≤ 2000 := by rw [s12]; exact hdn
          have hg3 : Int.gcd (M106 15 12) (M106 15 11) = 1 := by rw [s11, s12]; exact hg
          have hL3 : 1 ≤ M106 23 z ∧ M106 23 z ≤ M106 24 z ∧ M106 24 z ≤ 400 := by rw [s23, s24]; exact hL z hz.1 (by omega)
          have hUt3 : 0 < M106 22 z → ∀ t : Int, 0 ≤ t → t ≤ 400 → M106 26 z * t ≤ 1638400000000000000 := fun c t t0 t1 => by
            rw [pz.1]
            rw [s22] at c
            exact (fb_last hz.1 hB bV t0 t1).1 c
          have hDt3 : M106 22 z < 0 → ∀ t : Int, 0 ≤ t → t ≤ 400 → M106 27 z * t ≤ 1638400000000000000 := fun c t t0 t1 => by
            rw [pz.2]
            rw [s22] at c
            exact (fb_last hz.1 hB bV t0 t1).2 c
          have hFT : ∀ t : Int, M 23 z ≤ t ∧ t ≤ M 24 z → (F (fs_rk (M 23) (M 24) (M106 25) z.toNat * (M 24 z - M 23 z + 1) + (t - M 23 z)) ↔ fb_T (M106 26 z) (M106 27 z) (M106 22 z) (M106 15 12) (M106 15 11) t) := fun t ht => by
            rw [hF, pz.1, pz.2, s22, s11, s12]
            exact fa_bl hz.1 inX ht
          have hLz := hL z hz.1 (by omega)
          clear bb
          refine And.intro ?_ ?_
          · intro (c8 : ¬ 1 = 0)
            show xa_C (xl_I b) A h0 _ 95 [(2, 15, 0, 0, 0), (0, 0, 0, 13, z)] M106 _
            refine cx_95f (by omega) hU3 hD3 hup3 hdn3 hg3 hL3 hUt3 hDt3 ?_ ?_
            · intro t109 (i9 : (M106 23 z ≤ t109 ∧ t109 ≤ M106 24 z)) (i10 : fb_T (M106 26 z) (M106 27 z) (M106 22 z) (M106 15 12) (M106 15 11) t109) (i11 : M106 22 z = 0 → t109 = M106 23 z) (i12 : ¬ M106 22 z = 0 → ∀ t' : Int, (M106 23 z ≤ t' ∧ t' ≤ M106 24 z) → fb_T (M106 26 z) (M106 27 z) (M106 22 z) (M106 15 12) (M106 15 11) t' → t' = t109)
              show xa_wk post (some (0, 0, 1, 1, 1)) (xa_up M106 25 z t109)
              rw [s23, s24] at i9
              rw [s22] at i11 i12
              have cn : fs_c F (fs_rk (M 23) (M 24) (M106 25) z.toNat * (M 24 z - M 23 z + 1) + (t109 - M 23 z)).toNat = n := fa_some q2 i9 xX.2 (fun t' ht' h9 => by
                by_cases c : M 22 z = 0
                · have := i11 c
                  rw [s23] at this
                  omega
                · have := i12 c t' (by rw [s23, s24]; omega) (by have g := (hFT t' (by omega)).mp h9; rw [s22] at g; exact g)
                  omega)
              have hT9 := i10
              rw [pz.1, pz.2, s22, s11, s12] at hT9
              obtain ⟨f1, f2, f3, f4⟩ := fa_fnd hz.1 hF i4 inX i7 i9 hT9 cn (fun hc t' ht' h9 => by
                by_cases c : M 22 z = 0
                · omega
                · have := i12 c t' (by rw [s23, s24]; omega) (by have g := (hFT t' (by omega)).mp h9; rw [s22] at g; exact g)
                  omega)
              exact xa_wkI 1 rfl (fun _ _ => by omega) (k1 _ (fun q j h1 h2 h3 h4 => (xa_up_ne (by omega)).trans (kX q j h1 h2 h3 h4)) f1 f2 f3 f4)
            · intro M108 (i13 : ∀ q j, ¬ (q = 25 ∧ j = z) → M108 q j = M106 q j) (i14 : ∀ t : Int, (M106 23 z ≤ t ∧ t ≤ M106 24 z) → ¬ fb_T (M106 26 z) (M106 27 z) (M106 22 z) (M106 15 12) (M106 15 11) t)
              show Q 66 [(2, (0, 0, 1, 200002, x + 1)), (1, (0, 0, 0, 13, z)), (0, (2, 15, 0, 0, 0))] [] M108
              have vlo : ∀ j : Int, 0 ≤ j → j < z.toNat → M108 25 j = M106 25 j := fun j j0 j1 => i13 25 j (by omega)
              have rkl := fs_rk_e (L := M 23) (H := M 24) _ vlo
              have q1 := (fs_rk_b _ inX).2
              have cn : fs_c F ((fs_rk (M 23) (M 24) (M108 25) z.toNat + 1) * (M 24 z - M 23 z + 1)).toNat = n := by
                rw [rkl]
                exact fa_none q2 (by omega) xX.2 (fun t ht h9 => i14 t (by rw [s23, s24]; exact ht) ((hFT t ht).mp h9))
              refine hgo.2.1 66 _ [(2, (0, 0, 0, 200001, x + 1)), (1, (0, 0, 0, 13, z)), (0, (2, 15, 0, 0, 0))] _ _ (xa_subI rfl rfl (fun _ _ _ _ => by omega) (xa_subI rfl rfl (fun _ _ _ _ => by omega) (xa_subR rfl (xa_sub0)))) ?_
              exact ih (x + 1) M108 (by omega) (fun q j h1 h2 h3 h4 => (i13 q j (fun e => h1 e.1)).trans (kX q j h1 h2 h3 h4)) (Or.inr ⟨(i13 15 13 (fun e => absurd e.1 (by decide))).trans i4, fun j j0 j1 => by rw [vlo j j0 j1]; exact inX j j0 j1, fb_Pz i13 i7, by rw [rkl]; omega, cn⟩) (by omega)
          · intro (c8 : 1 = 0)
            exfalso
            omega
        · intro M107 (i15 : M1 15 13 = 1) (i16 : ∀ q j, ¬ q = 25 → ¬ q = 26 → ¬ q = 27 → ¬ (q = 15 ∧ j = 13) → M107 q j = M1 q j) (i17 : M107 15 13 = 1) (i18 : ∃ x : Int, 0 ≤ x ∧ x < z ∧ (∀ j : Int, 0 ≤ j → j < x → M107 25 j = M1 25 j) ∧ M1 25 x < M1 24 x ∧ M107 25 x = M1 25 x + 1 ∧ ∀ j : Int, x < j → j < z → M1 25 j = M1 24 j ∧ M107 25 j = M1 23 j) (i19 : ∀ j : Int, z ≤ j → M107 25 j = M1 25 j) (i20 : fb_P M107 z)
          have kX : fa_K M M107 := fun q j h1 h2 h3 h4 => (i16 q j h1 h2 h3 h4).trans (hk q j h1 h2 h3 h4)
          obtain ⟨w1, w2, w3, w4⟩ := hW2 i15
          obtain ⟨y, y0, y1, y2, y5, y3, y4⟩ := i18
          rw [r23, r24] at y4
          rw [r24] at y5
          have ey : ((y.toNat : Nat) : Int) = y := Int.toNat_of_nonneg y0
          have inX : fs_in (M 23) (M 24) (M107 25) z.toNat := fun j j0 j1 => by
            have g := w1 j j0 j1
            have g2 := hL j j0 (by omega)
            rcases Int.lt_or_le j y with c | c
            · rw [y2 j j0 c]
              exact g
            · by_cases e : j = y
              · rw [e, y3]
                rw [e] at g g2
                omega
              · rw [(y4 j (by omega) (by omega)).2]
                omega
          have qX : fs_rk (M 23) (M 24) (M107 25) z.toNat = fs_rk (M 23) (M 24) (M1 25) z.toNat + 1 := fs_succ (x := y.toNat) (fun j j0 j1 => y2 j j0 (by omega)) (by rw [ey]; exact y3) z.toNat (by omega) (fun j j0 j1 => y4 j (by omega) (by omega))
          have xX : x ≤ fs_rk (M 23) (M 24) (M107 25) z.toNat ∧ fs_c F (fs_rk (M 23) (M 24) (M107 25) z.toNat * (M 24 z - M 23 z + 1)).toNat = n := by
            rw [qX]
            exact ⟨w3, w4⟩
          have q0 := (fs_rk_b _ inX).1
          have q2 : 0 ≤ fs_rk (M 23) (M 24) (M107 25) z.toNat * (M 24 z - M 23 z + 1) := Int.mul_nonneg q0 (by omega)
          have s22 : M107 22 = M 22 := funext (fun j => kX 22 j (by decide) (by decide) (by decide) (fun e => absurd e.1 (by decide)))
          have s23 : M107 23 = M 23 := funext (fun j => kX 23 j (by decide) (by decide) (by decide) (fun e => absurd e.1 (by decide)))
          have s24 : M107 24 = M 24 := funext (fun j => kX 24 j (by decide) (by decide) (by decide) (fun e => absurd e.1 (by decide)))
          have s11 : M107 15 11 = M 15 11 := kX 15 11 (by decide) (by decide) (by decide) (by decide)
          have s12 : M107 15 12 = M 15 12 := kX 15 12 (by decide) (by decide) (by decide) (by decide)
          have pz := i20 z hz.1 (Int.le_refl _)
          rw [s22] at pz
          have bV : ∀ i : Int, 0 ≤ i → i < z.toNat → 1 ≤ M107 25 i ∧ M107 25 i ≤ 400 := fun i i0 i1 => by
            have g := inX i i0 i1
            have g2 := hL i i0 (by omega)
            omega
          have bU := fb_pos (R := M 22) _ bV
          have bb := hB (M107 25) z.toNat (by omega) (fun i i0 i1 => by have := bV i i0 i1; omega)
          have hU3 : 1 ≤ M107 26 z ∧ M107 26 z ≤ 1638400000000000000 := by rw [pz.1]; exact ⟨bU.1, bb.1.2⟩
          have hD3 : 1 ≤ M107 27 z ∧ M107 27 z ≤ 1638400000000000000 := by rw [pz.2]; exact ⟨bU.2, bb.2.2⟩
          have hup3 : 1 ≤ M107 15 11 ∧ M107 15 11 ≤ 2000 := by rw [s11]; exact hup
          have hdn3 : 1 ≤ M107 15 12 ∧ M107 15 12 ≤ 2000 := by rw [s12]; exact hdn
          have hg3 : Int.gcd (M107 15 12) (M107 15 11) = 1 := by rw [s11, s12]; exact hg
          have hL3 : 1 ≤ M107 23 z ∧ M107 23 z ≤ M107 24 z ∧ M107 24 z ≤ 400 := by rw [s23, s24]; exact hL z hz.1 (by omega)
          have hUt3 : 0 < M107 22 z → ∀ t : Int, 0 ≤ t → t ≤ 400 → M107 26 z * t ≤ 1638400000000000000 := fun c t t0 t1 => by
            rw [pz.1]
            rw [s22] at c
            exact (fb_last hz.1 hB bV t0 t1).1 c
          have hDt3 : M107 22 z < 0 → ∀ t : Int, 0 ≤ t → t ≤ 400 → M107 27 z * t ≤ 1638400000000000000 := fun c t t0 t1 => by
            rw [pz.2]
            rw [s22] at c
            exact (fb_last hz.1 hB bV t0 t1).2 c
          have hFT : ∀ t : Int, M 23 z ≤ t ∧ t ≤ M 24 z → (F (fs_rk (M 23) (M 24) (M107 25) z.toNat * (M 24 z - M 23 z + 1) + (t - M 23 z)) ↔ fb_T (M107 26 z) (M107 27 z) (M107 22 z) (M107 15 12) (M107 15 11) t) := fun t ht => by
            rw [hF, pz.1, pz.2, s22, s11, s12]
            exact fa_bl hz.1 inX ht
          have hLz := hL z hz.1 (by omega)
          clear bb
          refine And.intro ?_ ?_
          · intro (c21 : ¬ 1 = 0)
            show xa_C (xl_I b) A h0 _ 95 [(2, 15, 0, 0, 0), (0, 0, 0, 13, z)] M107 _
            refine cx_95f (by omega) hU3 hD3 hup3 hdn3 hg3 hL3 hUt3 hDt3 ?_ ?_
            · intro t111 (i22 : (M107 23 z ≤ t111 ∧ t111 ≤ M107 24 z)) (i23 : fb_T (M107 26 z) (M107 27 z) (M107 22 z) (M107 15 12) (M107 15 11) t111) (i24 : M107 22 z = 0 → t111 = M107 23 z) (i25 : ¬ M107 22 z = 0 → ∀ t' : Int, (M107 23 z ≤ t' ∧ t' ≤ M107 24 z) → fb_T (M107 26 z) (M107 27 z) (M107 22 z) (M107 15 12) (M107 15 11) t' → t' = t111)
              show xa_wk post (some (0, 0, 1, 1, 1)) (xa_up M107 25 z t111)
              rw [s23, s24] at i22
              rw [s22] at i24 i25
              have cn : fs_c F (fs_rk (M 23) (M 24) (M107 25) z.toNat * (M 24 z - M 23 z + 1) + (t111 - M 23 z)).toNat = n := fa_some q2 i22 xX.2 (fun t' ht' h9 => by
                by_cases c : M 22 z = 0
                · have := i24 c
                  rw [s23] at this
                  omega
                · have := i25 c t' (by rw [s23, s24]; omega) (by have g := (hFT t' (by omega)).mp h9; rw [s22] at g; exact g)
                  omega)
              have hT9 := i23
              rw [pz.1, pz.2, s22, s11, s12] at hT9
              obtain ⟨f1, f2, f3, f4⟩ := fa_fnd hz.1 hF i17 inX i20 i22 hT9 cn (fun hc t' ht' h9 => by
                by_cases c : M 22 z = 0
                · omega
                · have := i25 c t' (by rw [s23, s24]; omega) (by have g := (hFT t' (by omega)).mp h9; rw [s22] at g; exact g)
                  omega)
              exact xa_wkI 1 rfl (fun _ _ => by omega) (k1 _ (fun q j h1 h2 h3 h4 => (xa_up_ne (by omega)).trans (kX q j h1 h2 h3 h4)) f1 f2 f3 f4)
            · intro M110 (i26 : ∀ q j, ¬ (q = 25 ∧ j = z) → M110 q j = M107 q j) (i27 : ∀ t : Int, (M107 23 z ≤ t ∧ t ≤ M107 24 z) → ¬ fb_T (M107 26 z) (M107 27 z) (M107 22 z) (M107 15 12) (M107 15 11) t)
              show Q 66 [(2, (0, 0, 1, 200002, x + 1)), (1, (0, 0, 0, 13, z)), (0, (2, 15, 0, 0, 0))] [] M110
              have vlo : ∀ j : Int, 0 ≤ j → j < z.toNat → M110 25 j = M107 25 j := fun j j0 j1 => i26 25 j (by omega)
              have rkl := fs_rk_e (L := M 23) (H := M 24) _ vlo
              have q1 := (fs_rk_b _ inX).2
              have cn : fs_c F ((fs_rk (M 23) (M 24) (M110 25) z.toNat + 1) * (M 24 z - M 23 z + 1)).toNat = n := by
                rw [rkl]
                exact fa_none q2 (by omega) xX.2 (fun t ht h9 => i27 t (by rw [s23, s24]; exact ht) ((hFT t ht).mp h9))
              refine hgo.2.1 66 _ [(2, (0, 0, 0, 200001, x + 1)), (1, (0, 0, 0, 13, z)), (0, (2, 15, 0, 0, 0))] _ _ (xa_subI rfl rfl (fun _ _ _ _ => by omega) (xa_subI rfl rfl (fun _ _ _ _ => by omega) (xa_subR rfl (xa_sub0)))) ?_
              exact ih (x + 1) M110 (by omega) (fun q j h1 h2 h3 h4 => (i26 q j (fun e => h1 e.1)).trans (kX q j h1 h2 h3 h4)) (Or.inr ⟨(i26 15 13 (fun e => absurd e.1 (by decide))).trans i17, fun j j0 j1 => by rw [vlo j j0 j1]; exact inX j j0 j1, fb_Pz i26 i20, by rw [rkl]; omega, cn⟩) (by omega)
          · intro (c21 : 1 = 0)
            exfalso
            omega
        · intro (i28 : M1 15 13 = 1) (i29 : ∀ j : Int, 0 ≤ j → j < z → M1 25 j = M1 24 j)
          refine And.intro ?_ ?_
          · intro (c30 : ¬ 0 = 0)
            exfalso
            omega
          · intro (c30 : 0 = 0)
            show xa_wk post (some (0, 0, 0, 0, 0)) M1
            have e9 := fs_last (L := M 23) (H := M 24) (V := M1 25) z.toNat (fun j j0 j1 => (i29 j j0 (by omega)).trans (by rw [r24]))
            exact xa_wkI 0 rfl (fun _ _ => by omega) (k0 M1 hk (by rw [fa_pr hz.1, ← e9]; exact (hW2 i28).2.2.2))
  refine hgo.1 38 [66] 0 _ _ _ ?_
  refine And.intro ?_ ?_
  · intro (c1 : (M 15 13) = 0)
    show Q 66 [(2, (0, 0, 0, 0, 0)), (1, (0, 0, (-2147483648), 2147483647, xa_w32 ((M 15 10) - 1))), (0, (2, 15, 0, 0, 0))] [] M
    rw [e9]
    have hU : fa_U (M 23) (M 24) F M z n 0 := by
      rcases hS with ⟨a, b⟩ | ⟨a0, a1, a2, a3⟩
      · exact Or.inl ⟨a, b, rfl⟩
      · rcases a3 with ⟨b1, b2, -, -, -⟩ | ⟨b1, b2⟩
        · exfalso
          omega
        · have q0 := (fs_rk_b _ a1).1
          exact Or.inr ⟨a0, a1, a2, by omega, b2⟩
    refine hgo.2.1 66 _ [(2, (0, 0, 0, 200001, 0)), (1, (0, 0, 0, 13, z)), (0, (2, 15, 0, 0, 0))] _ _ (xa_subI rfl rfl (fun _ _ _ _ => by omega) (xa_subI rfl rfl (fun _ _ _ _ => by omega) (xa_subR rfl (xa_sub0)))) ?_
    exact loop 200002 0 M (by omega) (fun _ _ _ _ _ _ => rfl) hU (by omega)
  · intro (c1 : ¬ (M 15 13) = 0)
    show xa_C (xl_I b) A h0 _ 23 [(2, 22, 0, 0, 0), (0, 0, (-2147483648), 2147483647, xa_w32 ((M 15 10) - 1))] M _
    refine cx_23_22 (show 0 ≤ (xa_w32 ((M 15 10) - 1)) ∧ (xa_w32 ((M 15 10) - 1)) < 14 by omega) ?_
    refine And.intro ?_ ?_
    · intro (c2 : ¬ (M 22 (xa_w32 ((M 15 10) - 1))) = 0)
      show Q 66 [(2, (0, 0, 0, 0, 0)), (1, (0, 0, (-2147483648), 2147483647, xa_w32 ((M 15 10) - 1))), (0, (2, 15, 0, 0, 0))] [] M
      rw [e9]
      have hU : fa_U (M 23) (M 24) F M z n 0 := by
        rcases hS with ⟨a, b⟩ | ⟨a0, a1, a2, a3⟩
        · exact Or.inl ⟨a, b, rfl⟩
        · rcases a3 with ⟨b1, b2, -, -, -⟩ | ⟨b1, b2⟩
          · exfalso
            rw [e9] at c2
            omega
          · have q0 := (fs_rk_b _ a1).1
            exact Or.inr ⟨a0, a1, a2, by omega, b2⟩
      refine hgo.2.1 66 _ [(2, (0, 0, 0, 200001, 0)), (1, (0, 0, 0, 13, z)), (0, (2, 15, 0, 0, 0))] _ _ (xa_subI rfl rfl (fun _ _ _ _ => by omega) (xa_subI rfl rfl (fun _ _ _ _ => by omega) (xa_subR rfl (xa_sub0)))) ?_
      exact loop 200002 0 M (by omega) (fun _ _ _ _ _ _ => rfl) hU (by omega)
    · intro (c2 : (M 22 (xa_w32 ((M 15 10) - 1))) = 0)
      show xa_C (xl_I b) A h0 _ 23 [(2, 25, 0, 0, 0), (0, 0, (-2147483648), 2147483647, xa_w32 ((M 15 10) - 1))] M _
      refine cx_23_25 (show 0 ≤ (xa_w32 ((M 15 10) - 1)) ∧ (xa_w32 ((M 15 10) - 1)) < 14 by omega) ?_
      show xa_C (xl_I b) A h0 _ 23 [(2, 24, 0, 0, 0), (0, 0, (-2147483648), 2147483647, xa_w32 ((M 15 10) - 1))] M _
      refine cx_23_24 (show 0 ≤ (xa_w32 ((M 15 10) - 1)) ∧ (xa_w32 ((M 15 10) - 1)) < 14 by omega) ?_
      refine And.intro ?_ ?_
      · intro (c3 : (M 24 (xa_w32 ((M 15 10) - 1))) ≤ (M 25 (xa_w32 ((M 15 10) - 1))))
        show Q 66 [(2, (0, 0, 0, 0, 0)), (1, (0, 0, (-2147483648), 2147483647, xa_w32 ((M 15 10) - 1))), (0, (2, 15, 0, 0, 0))] [] M
        rw [e9]
        have hU : fa_U (M 23) (M 24) F M z n 0 := by
          rcases hS with ⟨a, b⟩ | ⟨a0, a1, a2, a3⟩
          · exact Or.inl ⟨a, b, rfl⟩
          · rcases a3 with ⟨b1, b2, -, -, -⟩ | ⟨b1, b2⟩
            · exfalso
              rw [e9] at c2 c3
              omega
            · have q0 := (fs_rk_b _ a1).1
              exact Or.inr ⟨a0, a1, a2, by omega, b2⟩
        refine hgo.2.1 66 _ [(2, (0, 0, 0, 200001, 0)), (1, (0, 0, 0, 13, z)), (0, (2, 15, 0, 0, 0))] _ _ (xa_subI rfl rfl (fun _ _ _ _ => by omega) (xa_subI rfl rfl (fun _ _ _ _ => by omega) (xa_subR rfl (xa_sub0)))) ?_
        exact loop 200002 0 M (by omega) (fun _ _ _ _ _ _ => rfl) hU (by omega)
      · intro (c3 : (M 25 (xa_w32 ((M 15 10) - 1))) < (M 24 (xa_w32 ((M 15 10) - 1))))
        show xa_C (xl_I b) A h0 _ 23 [(2, 25, 0, 0, 0), (0, 0, (-2147483648), 2147483647, xa_w32 ((M 15 10) - 1))] M _
        refine cx_23_25 (show 0 ≤ (xa_w32 ((M 15 10) - 1)) ∧ (xa_w32 ((M 15 10) - 1)) < 14 by omega) ?_
        show xa_C (xl_I b) A h0 _ 18 [(2, 25, 0, 0, 0), (0, 0, (-2147483648), 2147483647, xa_w32 ((M 15 10) - 1)), (0, 0, (-2147483648), 2147483647, xa_w32 ((M 25 (xa_w32 ((M 15 10) - 1))) + 1))] M _
        refine cx_18_25 (show 0 ≤ (xa_w32 ((M 15 10) - 1)) ∧ (xa_w32 ((M 15 10) - 1)) < 14 by omega) ?_
        show xa_wk post (some (0, 0, 1, 1, 1)) (xa_up M 25 (xa_w32 ((M 15 10) - 1)) (xa_w32 ((M 25 (xa_w32 ((M 15 10) - 1))) + 1)))
        rw [e9] at c2 c3
        rcases hS with ⟨a, -⟩ | ⟨a0, a1, a2, a3⟩
        · omega
        rcases a3 with ⟨b1, b2, b3, b4, b5⟩ | ⟨b1, -⟩
        · have hLz := hL z hz.1 (by omega)
          have w9 : xa_w32 ((M 25 z) + 1) = M 25 z + 1 := xa_w32_id (by omega) (by omega)
          rw [e9, w9]
          have hT9 : fb_T (fs_u (M 22) (M 25) z.toNat) (fs_d (M 22) (M 25) z.toNat) (M 22 z) (M 15 12) (M 15 11) (M 25 z + 1) := (fb_T0 b1).mpr ((fb_T0 b1).mp b4)
          have cn : fs_c F (fs_rk (M 23) (M 24) (M 25) z.toNat * (M 24 z - M 23 z + 1) + ((M 25 z + 1) - M 23 z)).toNat = n := by
            rw [show (fs_rk (M 23) (M 24) (M 25) z.toNat * (M 24 z - M 23 z + 1) + ((M 25 z + 1) - M 23 z)) = fs_rk (M 23) (M 24) (M 25) z.toNat * (M 24 z - M 23 z + 1) + (M 25 z - M 23 z) + 1 by omega]
            exact b5
          obtain ⟨f1, f2, f3, f4⟩ := fa_fnd (t := M 25 z + 1) hz.1 hF a0 a1 a2 (by omega) hT9 cn (fun hc t' ht' h9 => by omega)
          exact xa_wkI 1 rfl (fun _ _ => by omega) (k1 _ (fun q j h1 h2 h3 h4 => xa_up_ne (by omega)) f1 f2 f3 f4)
        · exact absurd ⟨c2, c3⟩ b1
theorem cx_89f {b : Bool} {A : Nat → Nat} {h0 : g_H} {d : Nat} {M : xa_M} {post : Option xa_V → xa_M → Prop} {l1 u1 i : Int} (hi : 0 ≤ i ∧ i ≤ 13) (hL : 1 ≤ M 23 i ∧ M 23 i ≤ M 24 i ∧ M 24 i ≤ 400) (k : post (some (0, 0, 1, 400, (M 24 i) - (M 23 i) + 1)) M) : xa_C (xl_I b) A h0 (d + 2) 89 [(2, 15, 0, 0, 0), (0, 0, l1, u1, i)] M post := by
  refine xa_C_wk ?_
  refine xa_C_arg [(2, 15, 0, 0, 0), (0, 0, 0, 13, i)] (xa_svR (xa_svI (fun _ _ _ _ => by omega) xa_sv0)) ?_
  refine xa_meth (Q0 := (2, 1, false, 0, 0, 3)) (by decide +kernel) ⟨rfl, rfl⟩ (full := s_c_89) rfl rfl ?_
  intro hM hv Q hgo
  refine hgo.1 16 [] 0 _ _ _ ?_
  show xa_C (xl_I b) A h0 _ 23 [(2, 24, 0, 0, 0), (0, 0, 0, 13, i)] M _
  refine cx_23_24 (show 0 ≤ i ∧ i < 14 by omega) ?_
  show xa_C (xl_I b) A h0 _ 23 [(2, 23, 0, 0, 0), (0, 0, 0, 13, i)] M _
  refine cx_23_23 (show 0 ≤ i ∧ i < 14 by omega) ?_
  show xa_wk post (some (0, 0, (-2147483648), 2147483647, xa_w32 ((xa_w32 ((M 24 i) - (M 23 i))) + 1))) M
  have w1 : xa_w32 ((M 24 i) - (M 23 i)) = M 24 i - M 23 i := xa_w32_id (by omega) (by omega)
  exact xa_wkI ((M 24 i) - (M 23 i) + 1) (by first | omega | (rw [w1]; exact xa_w32_id (by omega) (by omega))) (fun _ _ => by omega) k
theorem fs_prm {L H : Int → Int} {a b : Nat} (hab : a ≤ b) (h : ∀ i : Int, 0 ≤ i → i < b → L i ≤ H i) : fs_pr L H a ≤ fs_pr L H b := by
  obtain ⟨d, rfl⟩ := Nat.exists_eq_add_of_le hab
  induction d with
  | zero => exact Int.le_refl _
  | succ d ih =>
    have g := ih (by omega) (fun i i0 i1 => h i i0 (by omega))
    have p := fs_pr_b (L := L) (H := H) (a + d) (fun i i0 i1 => h i i0 (by omega))
    have q := h ((a + d : Nat) : Int) (by omega) (by omega)
    have m := Int.mul_le_mul_of_nonneg_left (show (1 : Int) ≤ H ((a + d : Nat) : Int) - L ((a + d : Nat) : Int) + 1 by omega) (show 0 ≤ fs_pr L H (a + d) by omega)
    rw [Int.mul_one] at m
    exact Int.le_trans g m
theorem cx_88f {b : Bool} {A : Nat → Nat} {h0 : g_H} {d : Nat} {M : xa_M} {post : Option xa_V → xa_M → Prop} (hs : 0 ≤ M 15 10 ∧ M 15 10 ≤ 14) (hL : ∀ i : Int, 0 ≤ i → i < M 15 10 → 1 ≤ M 23 i ∧ M 23 i ≤ M 24 i ∧ M 24 i ≤ 400) (k : ∀ r : Int, (r = 0 ∨ r = 1) → (r = 1 ↔ fs_pr (M 23) (M 24) (M 15 10).toNat ≤ 200000) → post (some (0, 0, 0, 1, r)) M) : xa_C (xl_I b) A h0 (d + 3) 88 [(2, 15, 0, 0, 0)] M post := by
  refine xa_C_wk ?_
  refine xa_meth (Q0 := (4, 2, false, 0, 0, 3)) (by decide +kernel) ⟨rfl, rfl⟩ (full := s_c_88) rfl rfl ?_
  intro hM hv Q hgo
  have loop : ∀ (f : Nat) (i w : Int), 0 ≤ i ∧ i ≤ M 15 10 → 1 ≤ w ∧ w ≤ 80000000 → w = fs_pr (M 23) (M 24) i.toNat → 14 - i < (f : Int) → Q 4 [(3, (0, 0, 0, 14, i)), (1, (1, 0, 1, 80000000, w)), (0, (2, 15, 0, 0, 0))] [] M := by
    intro f
    induction f with
    | zero => intro i w i1 w1 hw hms; omega
    | succ f ih =>
      intro i w i1 w1 hw hms
      refine hgo.1 21 [4] 4 _ _ _ ?_
      refine And.intro ?_ ?_
      · intro (c1 : (M 15 10) ≤ i)
        refine And.intro ?_ ?_
        · intro (c2 : 200000 < w)
          show xa_wk post (some (0, 0, 0, 0, 0)) M
          have hm := fs_prm (L := M 23) (H := M 24) (a := i.toNat) (b := (M 15 10).toNat) (by omega) (fun j j0 j1 => by have := hL j j0 (by omega); omega)
          exact xa_wkI 0 rfl (fun _ _ => by omega) (k 0 (Or.inl rfl) ⟨fun h => absurd h (by decide), fun h => by omega⟩)
        · intro (c2 : w ≤ 200000)
          show xa_wk post (some (0, 0, 1, 1, 1)) M
          exact xa_wkI 1 rfl (fun _ _ => by omega) (k 1 (Or.inr rfl) ⟨fun _ => by rw [← show i = M 15 10 by omega, ← hw]; omega, fun _ => rfl⟩)
      · intro (c1 : i < (M 15 10))
        refine And.intro ?_ ?_
        · intro (c3 : 200000 < w)
          refine And.intro ?_ ?_
          · intro (c4 : 200000 < w)
            show xa_wk post (some (0, 0, 0, 0, 0)) M
            have hm := fs_prm (L := M 23) (H := M 24) (a := i.toNat) (b := (M 15 10).toNat) (by omega) (fun j j0 j1 => by have := hL j j0 (by omega); omega)
            exact xa_wkI 0 rfl (fun _ _ => by omega) (k 0 (Or.inl rfl) ⟨fun h => absurd h (by decide), fun h => by omega⟩)
          · intro (c4 : w ≤ 200000)
            exfalso
            omega
        · intro (c3 : w ≤ 200000)
          show xa_C (xl_I b) A h0 _ 89 [(2, 15, 0, 0, 0), (0, 0, 0, 14, i)] M _
          refine cx_89f (by omega) (hL _ (by omega) (by omega)) ?_
          show Q 4 [(3, (0, 0, 1, 15, i + 1)), (1, (1, 0, 1, 32000000000, w * ((M 24 i) - (M 23 i) + 1))), (0, (2, 15, 0, 0, 0))] [] M
          have h9 := hL i (by omega) (by omega)
          have m1 := Int.mul_le_mul_of_nonneg_right (show w ≤ 200000 by omega) (show 0 ≤ (M 24 i) - (M 23 i) + 1 by omega)
          have m2 := Int.mul_le_mul (show (1 : Int) ≤ w by omega) (show (1 : Int) ≤ (M 24 i) - (M 23 i) + 1 by omega) (by decide) (by omega)
          refine hgo.2.1 4 _ [(3, (0, 0, 0, 14, i + 1)), (1, (1, 0, 1, 80000000, w * ((M 24 i) - (M 23 i) + 1))), (0, (2, 15, 0, 0, 0))] _ _ (xa_subI rfl rfl (fun _ _ _ _ => by omega) (xa_subL rfl rfl (fun _ _ _ _ => by omega) (xa_subR rfl (xa_sub0)))) ?_
          exact ih (i + 1) _ (by omega) (by omega) (by rw [fa_pr i1.1, ← hw]) (by omega)
  refine hgo.1 9 [4] 0 _ _ _ ?_
  show Q 4 [(3, (0, 0, 0, 0, 0)), (1, (1, 0, 1, 1, 1)), (0, (2, 15, 0, 0, 0))] [] M
  refine hgo.2.1 4 _ [(3, (0, 0, 0, 14, 0)), (1, (1, 0, 1, 80000000, 1)), (0, (2, 15, 0, 0, 0))] _ _ (xa_subI rfl rfl (fun _ _ _ _ => by omega) (xa_subL rfl rfl (fun _ _ _ _ => by omega) (xa_subR rfl (xa_sub0)))) ?_
  exact loop 15 0 1 (by omega) (by omega) rfl (by omega)
theorem cx_90f {b : Bool} {A : Nat → Nat} {h0 : g_H} {d : Nat} {M : xa_M} {post : Option xa_V → xa_M → Prop} {l1 u1 l2 u2 up dn : Int} (hu : 1 ≤ up ∧ up ≤ 2000) (hd : 1 ≤ dn ∧ dn ≤ 2000) (k : ∀ g : Int, g = (Int.gcd up dn : Int) → 1 ≤ g → g ≤ up → g ≤ dn → post none (xa_up (xa_up (xa_up M 15 11 (up / g)) 15 12 (dn / g)) 15 13 0)) : xa_C (xl_I b) A h0 (d + 3) 90 [(2, 15, 0, 0, 0), (1, 0, l1, u1, up), (1, 0, l2, u2, dn)] M post := by
  refine xa_C_arg [(2, 15, 0, 0, 0), (1, 0, 1, 2000, up), (1, 0, 1, 2000, dn)] (xa_svR (xa_svL (fun _ _ _ _ => by omega) (xa_svL (fun _ _ _ _ => by omega) xa_sv0))) ?_
  refine xa_meth (Q0 := (7, 0, false, 0, 0, 3)) (by decide +kernel) ⟨rfl, rfl⟩ (full := s_c_90) rfl rfl ?_
  intro hM hv Q hgo
  refine hgo.1 22 [] 0 _ _ _ ?_
  show xa_C (xl_I b) A h0 _ 55 [(1, 0, 1, 2000, up), (1, 0, 1, 2000, dn)] M _
  refine cx_55p (by omega) (by omega) ?_
  intro g112 (i1 : g112 = (Int.gcd up dn : Int)) (i2 : 1 ≤ g112) (i3 : g112 ≤ up) (i4 : g112 ≤ dn)
  have dup := Int.ediv_nonneg (show 0 ≤ up by omega) (show 0 ≤ g112 by omega)
  have eup := Int.ediv_le_self g112 (show 0 ≤ up by omega)
  have ddn := Int.ediv_nonneg (show 0 ≤ dn by omega) (show 0 ≤ g112 by omega)
  have edn := Int.ediv_le_self g112 (show 0 ≤ dn by omega)
  show xa_C (xl_I b) A h0 _ 21 [(1, 0, 1, 2000, up), (1, 0, 0, 4294967296, g112)] M _
  refine cx_21f 0 2000 (by omega) (by omega) (by omega) ?_
  show xa_C (xl_I b) A h0 _ 21 [(1, 0, 1, 2000, dn), (1, 0, 0, 4294967296, g112)] (xa_up M 15 11 (up / g112)) _
  refine cx_21f 0 2000 (by omega) (by omega) (by omega) ?_
  show post none (xa_up (xa_up (xa_up M 15 11 (up / g112)) 15 12 (dn / g112)) 15 13 0)
  exact k g112 i1 (by omega) (by omega) (by omega)

set_option maxRecDepth 20000
/-- the row behind trains: none, a pair's two or two pairs' four numbers, or as it was -/
def rz_t (y r s s' : Int) : Prop := (r < 0 ∧ s' = s) ∨ (r = 0 ∧ s' = 0) ∨ (0 < r ∧ s' = 2 * y)
theorem rz_tu {y r r' s s' t t' : Int} (e : r = r') (h : rz_t y r s s') (h' : rz_t y r' t t') (hs : s = t) : s' = t' := by
  unfold rz_t at h h'
  omega
def rz_z (w n s : Int) : Prop := (n = 0 → s = 0) ∧ (¬ n = 0 → s = w)
theorem rz_z0 {w s : Int} (h : s = 0) : rz_z w 0 s := ⟨fun _ => h, fun e => absurd rfl e⟩
theorem rz_z1 {w n s : Int} (h : s = w) (hn : ¬ n = 0) : rz_z w n s := ⟨fun e => absurd e hn, fun _ => h⟩
theorem rz_z2 {w n m s : Int} (h : rz_z w n s) (hn : ¬ n = 0) (hm : ¬ m = 0) : rz_z w m s := rz_z1 (h.2 hn) hm
theorem rz_tz {w y r s s' : Int} (h : rz_z w r s') (h0 : 0 ≤ r) (hw : w = 2 * y) : rz_t y r s s' := by
  unfold rz_t
  by_cases c : r = 0
  · exact Or.inr (Or.inl ⟨c, h.1 c⟩)
  · exact Or.inr (Or.inr ⟨by omega, (h.2 c).trans hw⟩)
theorem rz_59n {b : Bool} {A : Nat → Nat} {h0 : g_H} {d : Nat} {M : xa_M} {post : Option xa_V → xa_M → Prop} {N : xa_M} (hk : ∀ (q : Nat) (j : Int), ¬ (q = 48 ∨ q = 49) → M q j = N q j) (k : ∀ M1 : xa_M, (∀ (q : Nat) (j : Int), ¬ (q = 48 ∨ q = 49) → M1 q j = N q j) → M1 48 1 = 0 → post none M1) : xa_C (xl_I b) A h0 (d + 1) 59 [(2, 48, 0, 0, 0)] M post :=
  cx_59_48 (k _ (fun q j hq => (xa_up_ne (by omega)).trans (hk q j hq)) xa_up_eq)
theorem rz_60n {b : Bool} {A : Nat → Nat} {h0 : g_H} {d : Nat} {M : xa_M} {post : Option xa_V → xa_M → Prop} {N : xa_M} {l1 u1 x1 : Int} {c e : Int} (hk : ∀ (q : Nat) (j : Int), ¬ (q = 48 ∨ q = 49) → M q j = N q j) (h1 : M 48 1 = c) (hce : 0 ≤ c ∧ c < 16 ∧ e = c + 1) (k : ∀ M1 : xa_M, (∀ (q : Nat) (j : Int), ¬ (q = 48 ∨ q = 49) → M1 q j = N q j) → M1 48 1 = e → post none M1) : xa_C (xl_I b) A h0 (d + 2) 60 [(2, 48, 0, 0, 0), (1, 0, l1, u1, x1)] M post :=
  cx_60_48 (by omega) (fun h => absurd h (by omega)) (fun h => k _ (fun q j hq => (xa_up_ne (by omega)).trans ((xa_up_ne (by omega)).trans (hk q j hq))) (by
    rw [xa_up_eq, xa_w32_id (by omega) (by omega)]
    omega))
theorem rz_126 {b : Bool} {A : Nat → Nat} {h0 : g_H} {d : Nat} {M : xa_M} {post : Option xa_V → xa_M → Prop} {l1 u1 l2 u2 uu vv : Int} (hL : 10 ≤ M 32 0 ∧ M 32 0 ≤ M 32 1 ∧ M 32 1 ≤ 400) (hW : M 32 1 - M 32 0 ≤ 60) (hU : 1 ≤ uu ∧ uu ≤ 2000) (hV : 1 ≤ vv ∧ vv ≤ 2000) (k : ∀ M1 : xa_M, (∀ (q : Nat) (j : Int), ¬ (q = 48 ∨ q = 49) → M1 q j = M q j) → 0 ≤ sh_t2 (M 32 0) (M 32 1) uu vv → rz_z 4 (sh_t2 (M 32 0) (M 32 1) uu vv) (M1 48 1) → post (some (0, 0, 0, 300000, sh_t2 (M 32 0) (M 32 1) uu vv)) M1) : xa_C (xl_I b) A h0 (d + 3) 126 [(2, 32, 0, 0, 0), (1, 0, l1, u1, uu), (1, 0, l2, u2, vv), (2, 48, 0, 0, 0)] M post := by
  refine xa_C_wk ?_
  refine xa_C_arg [(2, 32, 0, 0, 0), (1, 0, 1, 2000, uu), (1, 0, 1, 2000, vv), (2, 48, 0, 0, 0)] (xa_svR (xa_svL (fun _ _ _ _ => by omega) (xa_svL (fun _ _ _ _ => by omega) (xa_svR xa_sv0)))) ?_
  refine xa_meth (Q0 := (17, 1, false, 0, 0, 7)) (by decide +kernel) ⟨rfl, rfl⟩ (full := s_c_126) rfl rfl ?_
  intro hM hv Q hgo
  have hkr : ∀ (q : Nat) (j : Int), ¬ (q = 48 ∨ q = 49) → M q j = M q j := fun _ _ _ => rfl
  have loop17 : ∀ (f : Nat) (ta tn tw : Int) (M1 : xa_M), (∀ (q : Nat) (j : Int), ¬ (q = 48 ∨ q = 49) → M1 q j = M q j) → rz_z 4 tn (M1 48 1) → M 32 0 ≤ ta ∧ ta ≤ M 32 1 + 1 → 0 ≤ tn ∧ tn ≤ (ta - M 32 0) * 3721 → tn = sh_s (sh_ta (M 32 0) (M 32 1) uu vv) (M 32 0) (ta - M 32 0).toNat → 401 - ta < (f : Int) → Q 17 [(9, (0, 0, 10, 401, ta)), (6, (0, 0, 0, 300000, tn)), (7, (1, 0, (-9223372036854775808), 9223372036854775807, tw)), (0, (2, 32, 0, 0, 0)), (1, (1, 0, 1, 2000, uu)), (3, (1, 0, 1, 2000, vv)), (5, (2, 48, 0, 0, 0))] [] M1 := by
    intro f
    induction f with
    | zero => intro ta tn tw M1 hk h48 ha hb hn hms; omega
    | succ f ih17 =>
      intro ta tn tw M1 hk h48 ha hb hn hms
      have e0 : M1 32 0 = M 32 0 := hk 32 0 (by decide)
      have e1 : M1 32 1 = M 32 1 := hk 32 1 (by decide)
      have loop30 : ta ≤ M 32 1 → ∀ (f : Nat) (tb tn tw : Int) (M1 : xa_M), (∀ (q : Nat) (j : Int), ¬ (q = 48 ∨ q = 49) → M1 q j = M q j) → rz_z 4 tn (M1 48 1) → ta ≤ tb ∧ tb ≤ M 32 1 + 1 → 0 ≤ tn ∧ tn ≤ (ta - M 32 0) * 3721 + (tb - ta) * 61 → tn = sh_s (sh_ta (M 32 0) (M 32 1) uu vv) (M 32 0) (ta - M 32 0).toNat + sh_s (sh_tb (M 32 0) (M 32 1) uu vv ta) ta (tb - ta).toNat → 401 - tb < (f : Int) → Q 30 [(10, (0, 0, 10, 401, tb)), (9, (0, 0, 10, 400, ta)), (6, (0, 0, 0, 300000, tn)), (7, (1, 0, (-9223372036854775808), 9223372036854775807, tw)), (0, (2, 32, 0, 0, 0)), (1, (1, 0, 1, 2000, uu)), (3, (1, 0, 1, 2000, vv)), (5, (2, 48, 0, 0, 0))] [] M1 := by
        intro ha2 f
        induction f with
        | zero => intro tb tn tw M1 hk h48 hb hb2 hn hms; omega
        | succ f ih30 =>
          intro tb tn tw M1 hk h48 hb hb2 hn hms
          have e0 : M1 32 0 = M 32 0 := hk 32 0 (by decide)
          have e1 : M1 32 1 = M 32 1 := hk 32 1 (by decide)
          have loop66 : tb ≤ M 32 1 → ∀ (f : Nat) (tk tc tn tw : Int) (M1 : xa_M), (∀ (q : Nat) (j : Int), ¬ (q = 48 ∨ q = 49) → M1 q j = M q j) → rz_z 4 tn (M1 48 1) → 0 ≤ tk ∧ tk ≤ 61 → (tc = -1 ∨ (M 32 0 ≤ tc ∧ tc ≤ M 32 1 ∧ tk ≤ tc - M 32 0)) → (0 ≤ tn ∧ tn ≤ (ta - M 32 0) * 3721 + (tb - ta) * 61 + 61 ∧ (¬ tc = -1 → tn ≤ (ta - M 32 0) * 3721 + (tb - ta) * 61 + (tc - M 32 0))) → ((tc = -1 → tn = sh_s (sh_ta (M 32 0) (M 32 1) uu vv) (M 32 0) (ta - M 32 0).toNat + sh_s (sh_tb (M 32 0) (M 32 1) uu vv ta) ta (tb - ta).toNat + sh_s (sh_i (M 32 0) (M 32 1) (sh_d uu vv ta tb)) (M 32 0) (M 32 1 + 1 - M 32 0).toNat) ∧ (¬ tc = -1 → sh_f (M 32 0) (M 32 1) (sh_d uu vv ta tb) tc ∧ tn = sh_s (sh_ta (M 32 0) (M 32 1) uu vv) (M 32 0) (ta - M 32 0).toNat + sh_s (sh_tb (M 32 0) (M 32 1) uu vv ta) ta (tb - ta).toNat + sh_s (sh_i (M 32 0) (M 32 1) (sh_d uu vv ta tb)) (M 32 0) (tc - M 32 0).toNat)) → 61 - tk < (f : Int) → Q 66 [(14, (0, 0, 0, 61, tk)), (13, (0, 0, (-1), 400, tc)), (11, (1, 0, 0, 320000000, sh_d uu vv ta tb)), (10, (0, 0, 10, 400, tb)), (9, (0, 0, 10, 400, ta)), (6, (0, 0, 0, 300000, tn)), (7, (1, 0, (-9223372036854775808), 9223372036854775807, tw)), (0, (2, 32, 0, 0, 0)), (1, (1, 0, 1, 2000, uu)), (3, (1, 0, 1, 2000, vv)), (5, (2, 48, 0, 0, 0))] [] M1 := by
            intro hb3 f
            have hdb := sh_db (u := uu) (v := vv) (a := ta) (b := tb) hU.1 (by omega) (by omega) (by omega)
            induction f with
            | zero => intro tk tc tn tw M1 hk h48 h1 hc h2 hs hms; omega
            | succ f ih66 =>
              intro tk tc tn tw M1 hk h48 h1 hc h2 hs hms
              refine hgo.1 64 [17, 30, 66] 66 _ _ _ ?_
              refine And.intro ?_ ?_
              · intro (c1 : 60 < tk)
                show Q 30 [(10, (0, 0, 11, 401, tb + 1)), (14, (0, 0, 0, 61, tk)), (13, (0, 0, (-1), 400, tc)), (11, (1, 0, 0, 320000000, sh_d uu vv ta tb)), (9, (0, 0, 10, 400, ta)), (6, (0, 0, 0, 300000, tn)), (7, (1, 0, (-9223372036854775808), 9223372036854775807, tw)), (0, (2, 32, 0, 0, 0)), (1, (1, 0, 1, 2000, uu)), (3, (1, 0, 1, 2000, vv)), (5, (2, 48, 0, 0, 0))] [] M1
                refine hgo.2.1 30 _ [(10, (0, 0, 10, 401, tb + 1)), (9, (0, 0, 10, 400, ta)), (6, (0, 0, 0, 300000, tn)), (7, (1, 0, (-9223372036854775808), 9223372036854775807, tw)), (0, (2, 32, 0, 0, 0)), (1, (1, 0, 1, 2000, uu)), (3, (1, 0, 1, 2000, vv)), (5, (2, 48, 0, 0, 0))] _ _ (xa_subI rfl rfl (fun _ _ _ _ => by omega) (xa_subI rfl rfl (fun _ _ _ _ => by omega) (xa_subI rfl rfl (fun _ _ _ _ => by omega) (xa_subL rfl rfl (fun _ _ _ _ => by omega) (xa_subR rfl (xa_subL rfl rfl (fun _ _ _ _ => by omega) (xa_subL rfl rfl (fun _ _ _ _ => by omega) (xa_subR rfl (xa_sub0))))))))) ?_
                have hz : tc = -1 := by omega
                have q1 := hs.1 hz
                exact ih30 (tb + 1) tn tw M1 hk h48 (by omega) (by omega) (by rw [sh_p (show ta ≤ tb by omega)]; show _ = _ + (_ + sh_s (sh_i (M 32 0) (M 32 1) (sh_d uu vv ta tb)) (M 32 0) (M 32 1 + 1 - M 32 0).toNat); omega) (by omega)
              · intro (c1 : tk ≤ 60)
                refine And.intro ?_ ?_
                · intro (c2 : tc = (-1))
                  show Q 30 [(10, (0, 0, 11, 401, tb + 1)), (14, (0, 0, 0, 61, tk)), (13, (0, 0, (-1), 400, tc)), (11, (1, 0, 0, 320000000, sh_d uu vv ta tb)), (9, (0, 0, 10, 400, ta)), (6, (0, 0, 0, 300000, tn)), (7, (1, 0, (-9223372036854775808), 9223372036854775807, tw)), (0, (2, 32, 0, 0, 0)), (1, (1, 0, 1, 2000, uu)), (3, (1, 0, 1, 2000, vv)), (5, (2, 48, 0, 0, 0))] [] M1
                  refine hgo.2.1 30 _ [(10, (0, 0, 10, 401, tb + 1)), (9, (0, 0, 10, 400, ta)), (6, (0, 0, 0, 300000, tn)), (7, (1, 0, (-9223372036854775808), 9223372036854775807, tw)), (0, (2, 32, 0, 0, 0)), (1, (1, 0, 1, 2000, uu)), (3, (1, 0, 1, 2000, vv)), (5, (2, 48, 0, 0, 0))] _ _ (xa_subI rfl rfl (fun _ _ _ _ => by omega) (xa_subI rfl rfl (fun _ _ _ _ => by omega) (xa_subI rfl rfl (fun _ _ _ _ => by omega) (xa_subL rfl rfl (fun _ _ _ _ => by omega) (xa_subR rfl (xa_subL rfl rfl (fun _ _ _ _ => by omega) (xa_subL rfl rfl (fun _ _ _ _ => by omega) (xa_subR rfl (xa_sub0))))))))) ?_
                  have hz : tc = -1 := by omega
                  have q1 := hs.1 hz
                  exact ih30 (tb + 1) tn tw M1 hk h48 (by omega) (by omega) (by rw [sh_p (show ta ≤ tb by omega)]; show _ = _ + (_ + sh_s (sh_i (M 32 0) (M 32 1) (sh_d uu vv ta tb)) (M 32 0) (M 32 1 + 1 - M 32 0).toNat); omega) (by omega)
                · intro (c2 : ¬ tc = (-1))
                  show xa_C (xl_I b) A h0 _ 21 [(1, 0, 0, 320000000, sh_d uu vv ta tb), (1, 0, (-1), 400, tc)] M1 _
                  refine cx_21h (by omega) (by omega) ?_
                  refine And.intro ?_ ?_
                  · intro (c3 : tn = 0)
                    show xa_C (xl_I b) A h0 _ 59 [(2, 48, 0, 0, 0)] M1 _
                    refine rz_59n (N := M) (by assumption) ?_
                    intro M101 (i4 : ∀ (q : Nat) (j : Int), ¬ (q = 48 ∨ q = 49) → M101 q j = M q j) (i5 : M101 48 1 = 0)
                    show xa_C (xl_I b) A h0 _ 60 [(2, 48, 0, 0, 0), (1, 0, 10, 400, ta)] M101 _
                    refine rz_60n (N := M) (c := 0) (e := 1) (by assumption) (by assumption) (by decide) ?_
                    intro M102 (i6 : ∀ (q : Nat) (j : Int), ¬ (q = 48 ∨ q = 49) → M102 q j = M q j) (i7 : M102 48 1 = 1)
                    show xa_C (xl_I b) A h0 _ 60 [(2, 48, 0, 0, 0), (1, 0, 10, 400, tb)] M102 _
                    refine rz_60n (N := M) (c := 1) (e := 2) (by assumption) (by assumption) (by decide) ?_
                    intro M103 (i8 : ∀ (q : Nat) (j : Int), ¬ (q = 48 ∨ q = 49) → M103 q j = M q j) (i9 : M103 48 1 = 2)
                    show xa_C (xl_I b) A h0 _ 60 [(2, 48, 0, 0, 0), (1, 0, (-1), 400, tc)] M103 _
                    refine rz_60n (N := M) (c := 2) (e := 3) (by assumption) (by assumption) (by decide) ?_
                    intro M104 (i10 : ∀ (q : Nat) (j : Int), ¬ (q = 48 ∨ q = 49) → M104 q j = M q j) (i11 : M104 48 1 = 3)
                    show xa_C (xl_I b) A h0 _ 60 [(2, 48, 0, 0, 0), (1, 0, 0, 320000000, (sh_d uu vv ta tb) / tc)] M104 _
                    refine rz_60n (N := M) (c := 3) (e := 4) (by assumption) (by assumption) (by decide) ?_
                    intro M105 (i12 : ∀ (q : Nat) (j : Int), ¬ (q = 48 ∨ q = 49) → M105 q j = M q j) (i13 : M105 48 1 = 4)
                    show xa_C (xl_I b) A h0 _ 128 [(2, 32, 0, 0, 0), (0, 0, 0, 401, tc + 1), (1, 0, 0, 320000000, sh_d uu vv ta tb)] M105 _
                    refine cx_128n (N := M) (by assumption) hL (by omega) (by omega) ?_
                    intro r106 (i14 : sh_n (M 32 0) (M 32 1) (sh_d uu vv ta tb) (tc + 1) r106) (i15 : -1 ≤ r106 ∧ r106 ≤ 400)
                    show Q 66 [(14, (0, 0, 1, 62, tk + 1)), (13, (0, 0, (-1), 400, r106)), (6, (0, 0, 1, 300001, tn + 1)), (7, (1, 0, 19, 320001200, ((ta + tb) + tc) + ((sh_d uu vv ta tb) / tc))), (15, (1, 0, 0, 320000000, (sh_d uu vv ta tb) / tc)), (11, (1, 0, 0, 320000000, sh_d uu vv ta tb)), (10, (0, 0, 10, 400, tb)), (9, (0, 0, 10, 400, ta)), (0, (2, 32, 0, 0, 0)), (1, (1, 0, 1, 2000, uu)), (3, (1, 0, 1, 2000, vv)), (5, (2, 48, 0, 0, 0))] [] M105
                    refine hgo.2.1 66 _ [(14, (0, 0, 0, 61, tk + 1)), (13, (0, 0, (-1), 400, r106)), (11, (1, 0, 0, 320000000, sh_d uu vv ta tb)), (10, (0, 0, 10, 400, tb)), (9, (0, 0, 10, 400, ta)), (6, (0, 0, 0, 300000, tn + 1)), (7, (1, 0, (-9223372036854775808), 9223372036854775807, ((ta + tb) + tc) + ((sh_d uu vv ta tb) / tc))), (0, (2, 32, 0, 0, 0)), (1, (1, 0, 1, 2000, uu)), (3, (1, 0, 1, 2000, vv)), (5, (2, 48, 0, 0, 0))] _ _ (xa_subI rfl rfl (fun _ _ _ _ => by omega) (xa_subI rfl rfl (fun _ _ _ _ => by omega) (xa_subL rfl rfl (fun _ _ _ _ => by omega) (xa_subI rfl rfl (fun _ _ _ _ => by omega) (xa_subI rfl rfl (fun _ _ _ _ => by omega) (xa_subI rfl rfl (fun _ _ _ _ => by omega) (xa_subL rfl rfl (fun _ _ _ _ => by omega) (xa_subR rfl (xa_subL rfl rfl (fun _ _ _ _ => by omega) (xa_subL rfl rfl (fun _ _ _ _ => by omega) (xa_subR rfl (xa_sub0)))))))))))) ?_
                    have hne : ¬ tc = -1 := by omega
                    have q1 := (hs.2 hne).2
                    have q2 : sh_s (sh_i (M 32 0) (M 32 1) (sh_d uu vv ta tb)) (M 32 0) (tc + 1 - M 32 0).toNat = sh_s (sh_i (M 32 0) (M 32 1) (sh_d uu vv ta tb)) (M 32 0) (tc - M 32 0).toNat + 1 := by
                      rw [sh_p (by omega), sh_i1 (hs.2 hne).1]
                    rcases sh_ns (by omega) (by omega) i14 with ⟨g1, g2⟩ | ⟨g1, g2, g3, g4⟩
                    · exact ih66 (tk + 1) r106 (tn + 1) _ M105 i12 (rz_z1 i13 (by omega)) (by omega) (Or.inl g1) (by omega) ⟨fun _ => by omega, fun h => absurd g1 h⟩ (by omega)
                    · exact ih66 (tk + 1) r106 (tn + 1) _ M105 i12 (rz_z1 i13 (by omega)) (by omega) (Or.inr (by omega)) (by omega) ⟨fun h => by omega, fun _ => ⟨g3, by omega⟩⟩ (by omega)
                  · intro (c3 : ¬ tn = 0)
                    refine And.intro ?_ ?_
                    · intro (c16 : tw ≤ (((ta + tb) + tc) + ((sh_d uu vv ta tb) / tc)))
                      show xa_C (xl_I b) A h0 _ 128 [(2, 32, 0, 0, 0), (0, 0, 0, 401, tc + 1), (1, 0, 0, 320000000, sh_d uu vv ta tb)] M1 _
                      refine cx_128n (N := M) (by assumption) hL (by omega) (by omega) ?_
                      intro r107 (i17 : sh_n (M 32 0) (M 32 1) (sh_d uu vv ta tb) (tc + 1) r107) (i18 : -1 ≤ r107 ∧ r107 ≤ 400)
                      show Q 66 [(14, (0, 0, 1, 62, tk + 1)), (13, (0, 0, (-1), 400, r107)), (6, (0, 0, 1, 300001, tn + 1)), (15, (1, 0, 0, 320000000, (sh_d uu vv ta tb) / tc)), (11, (1, 0, 0, 320000000, sh_d uu vv ta tb)), (10, (0, 0, 10, 400, tb)), (9, (0, 0, 10, 400, ta)), (7, (1, 0, (-9223372036854775808), 9223372036854775807, tw)), (0, (2, 32, 0, 0, 0)), (1, (1, 0, 1, 2000, uu)), (3, (1, 0, 1, 2000, vv)), (5, (2, 48, 0, 0, 0))] [] M1
                      refine hgo.2.1 66 _ [(14, (0, 0, 0, 61, tk + 1)), (13, (0, 0, (-1), 400, r107)), (11, (1, 0, 0, 320000000, sh_d uu vv ta tb)), (10, (0, 0, 10, 400, tb)), (9, (0, 0, 10, 400, ta)), (6, (0, 0, 0, 300000, tn + 1)), (7, (1, 0, (-9223372036854775808), 9223372036854775807, tw)), (0, (2, 32, 0, 0, 0)), (1, (1, 0, 1, 2000, uu)), (3, (1, 0, 1, 2000, vv)), (5, (2, 48, 0, 0, 0))] _ _ (xa_subI rfl rfl (fun _ _ _ _ => by omega) (xa_subI rfl rfl (fun _ _ _ _ => by omega) (xa_subL rfl rfl (fun _ _ _ _ => by omega) (xa_subI rfl rfl (fun _ _ _ _ => by omega) (xa_subI rfl rfl (fun _ _ _ _ => by omega) (xa_subI rfl rfl (fun _ _ _ _ => by omega) (xa_subL rfl rfl (fun _ _ _ _ => by omega) (xa_subR rfl (xa_subL rfl rfl (fun _ _ _ _ => by omega) (xa_subL rfl rfl (fun _ _ _ _ => by omega) (xa_subR rfl (xa_sub0)))))))))))) ?_
                      have hne : ¬ tc = -1 := by omega
                      have q1 := (hs.2 hne).2
                      have q2 : sh_s (sh_i (M 32 0) (M 32 1) (sh_d uu vv ta tb)) (M 32 0) (tc + 1 - M 32 0).toNat = sh_s (sh_i (M 32 0) (M 32 1) (sh_d uu vv ta tb)) (M 32 0) (tc - M 32 0).toNat + 1 := by
                        rw [sh_p (by omega), sh_i1 (hs.2 hne).1]
                      rcases sh_ns (by omega) (by omega) i17 with ⟨g1, g2⟩ | ⟨g1, g2, g3, g4⟩
                      · exact ih66 (tk + 1) r107 (tn + 1) _ M1 hk (rz_z2 h48 c3 (by omega)) (by omega) (Or.inl g1) (by omega) ⟨fun _ => by omega, fun h => absurd g1 h⟩ (by omega)
                      · exact ih66 (tk + 1) r107 (tn + 1) _ M1 hk (rz_z2 h48 c3 (by omega)) (by omega) (Or.inr (by omega)) (by omega) ⟨fun h => by omega, fun _ => ⟨g3, by omega⟩⟩ (by omega)
                    · intro (c16 : (((ta + tb) + tc) + ((sh_d uu vv ta tb) / tc)) < tw)
                      show xa_C (xl_I b) A h0 _ 59 [(2, 48, 0, 0, 0)] M1 _
                      refine rz_59n (N := M) (by assumption) ?_
                      intro M108 (i19 : ∀ (q : Nat) (j : Int), ¬ (q = 48 ∨ q = 49) → M108 q j = M q j) (i20 : M108 48 1 = 0)
                      show xa_C (xl_I b) A h0 _ 60 [(2, 48, 0, 0, 0), (1, 0, 10, 400, ta)] M108 _
                      refine rz_60n (N := M) (c := 0) (e := 1) (by assumption) (by assumption) (by decide) ?_
                      intro M109 (i21 : ∀ (q : Nat) (j : Int), ¬ (q = 48 ∨ q = 49) → M109 q j = M q j) (i22 : M109 48 1 = 1)
                      show xa_C (xl_I b) A h0 _ 60 [(2, 48, 0, 0, 0), (1, 0, 10, 400, tb)] M109 _
                      refine rz_60n (N := M) (c := 1) (e := 2) (by assumption) (by assumption) (by decide) ?_
                      intro M110 (i23 : ∀ (q : Nat) (j : Int), ¬ (q = 48 ∨ q = 49) → M110 q j = M q j) (i24 : M110 48 1 = 2)
                      show xa_C (xl_I b) A h0 _ 60 [(2, 48, 0, 0, 0), (1, 0, (-1), 400, tc)] M110 _
                      refine rz_60n (N := M) (c := 2) (e := 3) (by assumption) (by assumption) (by decide) ?_
                      intro M111 (i25 : ∀ (q : Nat) (j : Int), ¬ (q = 48 ∨ q = 49) → M111 q j = M q j) (i26 : M111 48 1 = 3)
                      show xa_C (xl_I b) A h0 _ 60 [(2, 48, 0, 0, 0), (1, 0, 0, 320000000, (sh_d uu vv ta tb) / tc)] M111 _
                      refine rz_60n (N := M) (c := 3) (e := 4) (by assumption) (by assumption) (by decide) ?_
                      intro M112 (i27 : ∀ (q : Nat) (j : Int), ¬ (q = 48 ∨ q = 49) → M112 q j = M q j) (i28 : M112 48 1 = 4)
                      show xa_C (xl_I b) A h0 _ 128 [(2, 32, 0, 0, 0), (0, 0, 0, 401, tc + 1), (1, 0, 0, 320000000, sh_d uu vv ta tb)] M112 _
                      refine cx_128n (N := M) (by assumption) hL (by omega) (by omega) ?_
                      intro r113 (i29 : sh_n (M 32 0) (M 32 1) (sh_d uu vv ta tb) (tc + 1) r113) (i30 : -1 ≤ r113 ∧ r113 ≤ 400)
                      show Q 66 [(14, (0, 0, 1, 62, tk + 1)), (13, (0, 0, (-1), 400, r113)), (6, (0, 0, 1, 300001, tn + 1)), (7, (1, 0, 19, 320001200, ((ta + tb) + tc) + ((sh_d uu vv ta tb) / tc))), (15, (1, 0, 0, 320000000, (sh_d uu vv ta tb) / tc)), (11, (1, 0, 0, 320000000, sh_d uu vv ta tb)), (10, (0, 0, 10, 400, tb)), (9, (0, 0, 10, 400, ta)), (0, (2, 32, 0, 0, 0)), (1, (1, 0, 1, 2000, uu)), (3, (1, 0, 1, 2000, vv)), (5, (2, 48, 0, 0, 0))] [] M112
                      refine hgo.2.1 66 _ [(14, (0, 0, 0, 61, tk + 1)), (13, (0, 0, (-1), 400, r113)), (11, (1, 0, 0, 320000000, sh_d uu vv ta tb)), (10, (0, 0, 10, 400, tb)), (9, (0, 0, 10, 400, ta)), (6, (0, 0, 0, 300000, tn + 1)), (7, (1, 0, (-9223372036854775808), 9223372036854775807, ((ta + tb) + tc) + ((sh_d uu vv ta tb) / tc))), (0, (2, 32, 0, 0, 0)), (1, (1, 0, 1, 2000, uu)), (3, (1, 0, 1, 2000, vv)), (5, (2, 48, 0, 0, 0))] _ _ (xa_subI rfl rfl (fun _ _ _ _ => by omega) (xa_subI rfl rfl (fun _ _ _ _ => by omega) (xa_subL rfl rfl (fun _ _ _ _ => by omega) (xa_subI rfl rfl (fun _ _ _ _ => by omega) (xa_subI rfl rfl (fun _ _ _ _ => by omega) (xa_subI rfl rfl (fun _ _ _ _ => by omega) (xa_subL rfl rfl (fun _ _ _ _ => by omega) (xa_subR rfl (xa_subL rfl rfl (fun _ _ _ _ => by omega) (xa_subL rfl rfl (fun _ _ _ _ => by omega) (xa_subR rfl (xa_sub0)))))))))))) ?_
                      have hne : ¬ tc = -1 := by omega
                      have q1 := (hs.2 hne).2
                      have q2 : sh_s (sh_i (M 32 0) (M 32 1) (sh_d uu vv ta tb)) (M 32 0) (tc + 1 - M 32 0).toNat = sh_s (sh_i (M 32 0) (M 32 1) (sh_d uu vv ta tb)) (M 32 0) (tc - M 32 0).toNat + 1 := by
                        rw [sh_p (by omega), sh_i1 (hs.2 hne).1]
                      rcases sh_ns (by omega) (by omega) i29 with ⟨g1, g2⟩ | ⟨g1, g2, g3, g4⟩
                      · exact ih66 (tk + 1) r113 (tn + 1) _ M112 i27 (rz_z1 i28 (by omega)) (by omega) (Or.inl g1) (by omega) ⟨fun _ => by omega, fun h => absurd g1 h⟩ (by omega)
                      · exact ih66 (tk + 1) r113 (tn + 1) _ M112 i27 (rz_z1 i28 (by omega)) (by omega) (Or.inr (by omega)) (by omega) ⟨fun h => by omega, fun _ => ⟨g3, by omega⟩⟩ (by omega)
          refine hgo.1 24 [17, 30, 66] 30 _ _ _ ?_
          refine And.intro ?_ ?_
          · intro (c1 : (M1 32 1) < tb)
            show Q 17 [(9, (0, 0, 11, 401, ta + 1)), (10, (0, 0, 10, 401, tb)), (6, (0, 0, 0, 300000, tn)), (7, (1, 0, (-9223372036854775808), 9223372036854775807, tw)), (0, (2, 32, 0, 0, 0)), (1, (1, 0, 1, 2000, uu)), (3, (1, 0, 1, 2000, vv)), (5, (2, 48, 0, 0, 0))] [] M1
            refine hgo.2.1 17 _ [(9, (0, 0, 10, 401, ta + 1)), (6, (0, 0, 0, 300000, tn)), (7, (1, 0, (-9223372036854775808), 9223372036854775807, tw)), (0, (2, 32, 0, 0, 0)), (1, (1, 0, 1, 2000, uu)), (3, (1, 0, 1, 2000, vv)), (5, (2, 48, 0, 0, 0))] _ _ (xa_subI rfl rfl (fun _ _ _ _ => by omega) (xa_subI rfl rfl (fun _ _ _ _ => by omega) (xa_subL rfl rfl (fun _ _ _ _ => by omega) (xa_subR rfl (xa_subL rfl rfl (fun _ _ _ _ => by omega) (xa_subL rfl rfl (fun _ _ _ _ => by omega) (xa_subR rfl (xa_sub0)))))))) ?_
            exact ih17 (ta + 1) tn tw M1 hk h48 (by omega) (by omega) (by
              rw [sh_p (show M 32 0 ≤ ta by omega)]
              have e : tb = M 32 1 + 1 := by omega
              rw [e] at hn
              show _ = _ + sh_s (sh_tb (M 32 0) (M 32 1) uu vv ta) ta (M 32 1 + 1 - ta).toNat
              omega) (by omega)
          · intro (c1 : tb ≤ (M1 32 1))
            have hdb := sh_db (u := uu) (v := vv) (a := ta) (b := tb) hU.1 (by omega) (by omega) (by omega)
            show xa_C (xl_I b) A h0 _ 127 [(2, 32, 0, 0, 0), (0, 0, 10, 400, ta), (0, 0, 10, 401, tb), (1, 0, 1, 2000, uu), (1, 0, 1, 2000, vv)] M1 _
            refine cx_127f (by omega) (by omega) hU hV ?_
            show xa_C (xl_I b) A h0 _ 128 [(2, 32, 0, 0, 0), (0, 0, 10, 400, M1 32 0), (1, 0, 0, 320000000, sh_d uu vv ta tb)] M1 _
            refine cx_128n (N := M) (by assumption) hL (by omega) (by omega) ?_
            intro r114 (i2 : sh_n (M 32 0) (M 32 1) (sh_d uu vv ta tb) (M1 32 0) r114) (i3 : -1 ≤ r114 ∧ r114 ≤ 400)
            show Q 66 [(14, (0, 0, 0, 0, 0)), (13, (0, 0, (-1), 400, r114)), (11, (1, 0, 0, 320000000, sh_d uu vv ta tb)), (10, (0, 0, 10, 401, tb)), (9, (0, 0, 10, 400, ta)), (6, (0, 0, 0, 300000, tn)), (7, (1, 0, (-9223372036854775808), 9223372036854775807, tw)), (0, (2, 32, 0, 0, 0)), (1, (1, 0, 1, 2000, uu)), (3, (1, 0, 1, 2000, vv)), (5, (2, 48, 0, 0, 0))] [] M1
            refine hgo.2.1 66 _ [(14, (0, 0, 0, 61, 0)), (13, (0, 0, (-1), 400, r114)), (11, (1, 0, 0, 320000000, sh_d uu vv ta tb)), (10, (0, 0, 10, 400, tb)), (9, (0, 0, 10, 400, ta)), (6, (0, 0, 0, 300000, tn)), (7, (1, 0, (-9223372036854775808), 9223372036854775807, tw)), (0, (2, 32, 0, 0, 0)), (1, (1, 0, 1, 2000, uu)), (3, (1, 0, 1, 2000, vv)), (5, (2, 48, 0, 0, 0))] _ _ (xa_subI rfl rfl (fun _ _ _ _ => by omega) (xa_subI rfl rfl (fun _ _ _ _ => by omega) (xa_subL rfl rfl (fun _ _ _ _ => by omega) (xa_subI rfl rfl (fun _ _ _ _ => by omega) (xa_subI rfl rfl (fun _ _ _ _ => by omega) (xa_subI rfl rfl (fun _ _ _ _ => by omega) (xa_subL rfl rfl (fun _ _ _ _ => by omega) (xa_subR rfl (xa_subL rfl rfl (fun _ _ _ _ => by omega) (xa_subL rfl rfl (fun _ _ _ _ => by omega) (xa_subR rfl (xa_sub0)))))))))))) ?_
            rcases sh_ns (by omega) (by omega) i2 with ⟨g1, g2⟩ | ⟨g1, g2, g3, g4⟩
            · have g5 : sh_s (sh_i (M 32 0) (M 32 1) (sh_d uu vv ta tb)) (M 32 0) (M 32 1 + 1 - M 32 0).toNat = 0 := by
                rw [g2]
                exact sh_0 (fun c q0 q1 => by omega)
              exact loop66 (by omega) 62 0 r114 tn tw M1 hk h48 (by omega) (Or.inl g1) (by omega) ⟨fun _ => by omega, fun h => absurd g1 h⟩ (by omega)
            · have g5 : sh_s (sh_i (M 32 0) (M 32 1) (sh_d uu vv ta tb)) (M 32 0) (r114 - M 32 0).toNat = 0 := by
                rw [g4]
                exact sh_0 (fun c q0 q1 => by omega)
              exact loop66 (by omega) 62 0 r114 tn tw M1 hk h48 (by omega) (Or.inr (by omega)) (by omega) ⟨fun h => by omega, fun _ => ⟨g3, by omega⟩⟩ (by omega)
      refine hgo.1 11 [17, 30, 66] 17 _ _ _ ?_
      refine And.intro ?_ ?_
      · intro (c1 : (M1 32 1) < ta)
        show xa_wk post (some (0, 0, 0, 300000, tn)) M1
        have e : ta = M 32 1 + 1 := by omega
        rw [e] at hn
        exact xa_wkI (sh_t2 (M 32 0) (M 32 1) uu vv) hn (fun _ _ => by have : sh_t2 (M 32 0) (M 32 1) uu vv = tn := hn.symm; omega) (k M1 hk (by have q9 : sh_t2 (M 32 0) (M 32 1) uu vv = tn := hn.symm; omega) (by have q9 : sh_t2 (M 32 0) (M 32 1) uu vv = tn := hn.symm; rw [q9]; exact h48))
      · intro (c1 : ta ≤ (M1 32 1))
        show Q 30 [(10, (0, 0, 10, 401, ta)), (9, (0, 0, 10, 401, ta)), (6, (0, 0, 0, 300000, tn)), (7, (1, 0, (-9223372036854775808), 9223372036854775807, tw)), (0, (2, 32, 0, 0, 0)), (1, (1, 0, 1, 2000, uu)), (3, (1, 0, 1, 2000, vv)), (5, (2, 48, 0, 0, 0))] [] M1
        refine hgo.2.1 30 _ [(10, (0, 0, 10, 401, ta)), (9, (0, 0, 10, 400, ta)), (6, (0, 0, 0, 300000, tn)), (7, (1, 0, (-9223372036854775808), 9223372036854775807, tw)), (0, (2, 32, 0, 0, 0)), (1, (1, 0, 1, 2000, uu)), (3, (1, 0, 1, 2000, vv)), (5, (2, 48, 0, 0, 0))] _ _ (xa_subI rfl rfl (fun _ _ _ _ => by omega) (xa_subI rfl rfl (fun _ _ _ _ => by omega) (xa_subI rfl rfl (fun _ _ _ _ => by omega) (xa_subL rfl rfl (fun _ _ _ _ => by omega) (xa_subR rfl (xa_subL rfl rfl (fun _ _ _ _ => by omega) (xa_subL rfl rfl (fun _ _ _ _ => by omega) (xa_subR rfl (xa_sub0))))))))) ?_
        exact loop30 (by omega) 402 ta tn tw M1 hk h48 (by omega) (by omega) (by rw [show (ta - ta).toNat = 0 by omega]; show _ = _ + 0; omega) (by omega)
  refine hgo.1 14 [17, 30, 66] 0 _ _ _ ?_
  show xa_C (xl_I b) A h0 _ 59 [(2, 48, 0, 0, 0)] M _
  refine rz_59n (N := M) (by assumption) ?_
  intro M115 (i1 : ∀ (q : Nat) (j : Int), ¬ (q = 48 ∨ q = 49) → M115 q j = M q j) (i2 : M115 48 1 = 0)
  show Q 17 [(9, (0, 0, 10, 400, M115 32 0)), (7, (1, 0, 0, 0, 0)), (6, (0, 0, 0, 0, 0)), (0, (2, 32, 0, 0, 0)), (1, (1, 0, 1, 2000, uu)), (3, (1, 0, 1, 2000, vv)), (5, (2, 48, 0, 0, 0))] [] M115
  refine hgo.2.1 17 _ [(9, (0, 0, 10, 401, M115 32 0)), (6, (0, 0, 0, 300000, 0)), (7, (1, 0, (-9223372036854775808), 9223372036854775807, 0)), (0, (2, 32, 0, 0, 0)), (1, (1, 0, 1, 2000, uu)), (3, (1, 0, 1, 2000, vv)), (5, (2, 48, 0, 0, 0))] _ _ (xa_subI rfl rfl (fun _ _ _ _ => by omega) (xa_subI rfl rfl (fun _ _ _ _ => by omega) (xa_subL rfl rfl (fun _ _ _ _ => by omega) (xa_subR rfl (xa_subL rfl rfl (fun _ _ _ _ => by omega) (xa_subL rfl rfl (fun _ _ _ _ => by omega) (xa_subR rfl (xa_sub0)))))))) ?_
  have e0 : M115 32 0 = M 32 0 := i1 32 0 (by decide)
  rw [e0]
  exact loop17 402 (M 32 0) 0 0 M115 i1 (rz_z0 i2) (by omega) (by omega) (by rw [show (M 32 0 - M 32 0).toNat = 0 by omega]; rfl) (by omega)
theorem rz_123 {b : Bool} {A : Nat → Nat} {h0 : g_H} {d : Nat} {M : xa_M} {post : Option xa_V → xa_M → Prop} {l1 u1 l2 u2 uu vv : Int} (hL : 10 ≤ M 32 0 ∧ M 32 0 ≤ M 32 1 ∧ M 32 1 ≤ 400) (hU : 1 ≤ uu ∧ uu ≤ 2000) (hV : 1 ≤ vv ∧ vv ≤ 2000) (k : ∀ M1 : xa_M, (∀ (q : Nat) (j : Int), ¬ (q = 48 ∨ q = 49) → M1 q j = M q j) → 0 ≤ sh_t1 (M 32 0) (M 32 1) uu vv → rz_z 2 (sh_t1 (M 32 0) (M 32 1) uu vv) (M1 48 1) → post (some (0, 0, 0, 400, sh_t1 (M 32 0) (M 32 1) uu vv)) M1) : xa_C (xl_I b) A h0 (d + 3) 123 [(2, 32, 0, 0, 0), (1, 0, l1, u1, uu), (1, 0, l2, u2, vv), (2, 48, 0, 0, 0)] M post := by
  refine xa_C_wk ?_
  refine xa_C_arg [(2, 32, 0, 0, 0), (1, 0, 1, 2000, uu), (1, 0, 1, 2000, vv), (2, 48, 0, 0, 0)] (xa_svR (xa_svL (fun _ _ _ _ => by omega) (xa_svL (fun _ _ _ _ => by omega) (xa_svR xa_sv0)))) ?_
  refine xa_meth (Q0 := (8, 1, false, 0, 0, 7)) (by decide +kernel) ⟨rfl, rfl⟩ (full := s_c_123) rfl rfl ?_
  intro hM hv Q hgo
  have hkr : ∀ (q : Nat) (j : Int), ¬ (q = 48 ∨ q = 49) → M q j = M q j := fun _ _ _ => rfl
  have loop : ∀ (f : Nat) (ta tn : Int) (M1 : xa_M), (∀ (q : Nat) (j : Int), ¬ (q = 48 ∨ q = 49) → M1 q j = M q j) → rz_z 2 tn (M1 48 1) → M 32 0 ≤ ta ∧ ta ≤ M 32 1 + 1 → 0 ≤ tn ∧ tn ≤ ta - M 32 0 → tn = sh_s (sh_g (M 32 0) (M 32 1) uu vv) (M 32 0) (ta - M 32 0).toNat → 401 - ta < (f : Int) → Q 14 [(7, (0, 0, 10, 401, ta)), (6, (0, 0, 0, 400, tn)), (0, (2, 32, 0, 0, 0)), (1, (1, 0, 1, 2000, uu)), (3, (1, 0, 1, 2000, vv)), (5, (2, 48, 0, 0, 0))] [] M1 := by
    intro f
    induction f with
    | zero => intro ta tn M1 hk h48 ha hb hn hms; omega
    | succ f ih =>
      intro ta tn M1 hk h48 ha hb hn hms
      have e0 : M1 32 0 = M 32 0 := hk 32 0 (by decide)
      have e1 : M1 32 1 = M 32 1 := hk 32 1 (by decide)
      refine hgo.1 42 [14] 14 _ _ _ ?_
      refine And.intro ?_ ?_
      · intro (c1 : (M1 32 1) < ta)
        show xa_wk post (some (0, 0, 0, 400, tn)) M1
        have e : ta = M 32 1 + 1 := by omega
        rw [e] at hn
        exact xa_wkI (sh_t1 (M 32 0) (M 32 1) uu vv) hn (fun _ _ => by have : sh_t1 (M 32 0) (M 32 1) uu vv = tn := hn.symm; omega) (k M1 hk (by have q9 : sh_t1 (M 32 0) (M 32 1) uu vv = tn := hn.symm; omega) (by have q9 : sh_t1 (M 32 0) (M 32 1) uu vv = tn := hn.symm; rw [q9]; exact h48))
      · intro (c1 : ta ≤ (M1 32 1))
        have hdb := sh_db (u := uu) (v := vv) (a := ta) (b := 1) hU.1 (by omega) (by omega) (by omega)
        rw [Int.mul_one] at hdb
        show xa_C (xl_I b) A h0 _ 97 [(1, 0, 1, 2000, uu), (1, 0, 10, 802000, ta * vv)] M1 _
        refine cx_97f (by omega) (by omega) ?_ ?_
        · intro (i2 : uu ∣ (ta * vv))
          show xa_C (xl_I b) A h0 _ 21 [(1, 0, 10, 802000, ta * vv), (1, 0, 1, 2000, uu)] M1 _
          refine cx_21h (by omega) (by omega) ?_
          show xa_C (xl_I b) A h0 _ 124 [(2, 32, 0, 0, 0), (1, 0, 0, 320000000, (ta * vv) / uu)] M1 _
          refine cx_124_32 ?_ ?_ ?_
          · intro (i3 : ((ta * vv) / uu) < (M1 32 0))
            show Q 14 [(7, (0, 0, 11, 402, ta + 1)), (6, (0, 0, 0, 400, tn)), (0, (2, 32, 0, 0, 0)), (1, (1, 0, 1, 2000, uu)), (3, (1, 0, 1, 2000, vv)), (5, (2, 48, 0, 0, 0))] [] M1
            refine hgo.2.1 14 _ [(7, (0, 0, 10, 401, ta + 1)), (6, (0, 0, 0, 400, tn)), (0, (2, 32, 0, 0, 0)), (1, (1, 0, 1, 2000, uu)), (3, (1, 0, 1, 2000, vv)), (5, (2, 48, 0, 0, 0))] _ _ (xa_subI rfl rfl (fun _ _ _ _ => by omega) (xa_subI rfl rfl (fun _ _ _ _ => by omega) (xa_subR rfl (xa_subL rfl rfl (fun _ _ _ _ => by omega) (xa_subL rfl rfl (fun _ _ _ _ => by omega) (xa_subR rfl (xa_sub0))))))) ?_
            have q1 : sh_g (M 32 0) (M 32 1) uu vv ta = 0 := if_neg (fun g => by have g2 := g.2.1; have g3 := g.2.2; omega)
            exact ih (ta + 1) (tn) M1 hk h48 (by omega) (by omega) (by rw [sh_p (show M 32 0 ≤ ta by omega), q1]; omega) (by omega)
          · intro (i4 : (M1 32 0) ≤ ((ta * vv) / uu)) (i5 : (M1 32 1) < ((ta * vv) / uu))
            show Q 14 [(7, (0, 0, 11, 402, ta + 1)), (6, (0, 0, 0, 400, tn)), (0, (2, 32, 0, 0, 0)), (1, (1, 0, 1, 2000, uu)), (3, (1, 0, 1, 2000, vv)), (5, (2, 48, 0, 0, 0))] [] M1
            refine hgo.2.1 14 _ [(7, (0, 0, 10, 401, ta + 1)), (6, (0, 0, 0, 400, tn)), (0, (2, 32, 0, 0, 0)), (1, (1, 0, 1, 2000, uu)), (3, (1, 0, 1, 2000, vv)), (5, (2, 48, 0, 0, 0))] _ _ (xa_subI rfl rfl (fun _ _ _ _ => by omega) (xa_subI rfl rfl (fun _ _ _ _ => by omega) (xa_subR rfl (xa_subL rfl rfl (fun _ _ _ _ => by omega) (xa_subL rfl rfl (fun _ _ _ _ => by omega) (xa_subR rfl (xa_sub0))))))) ?_
            have q1 : sh_g (M 32 0) (M 32 1) uu vv ta = 0 := if_neg (fun g => by have g2 := g.2.1; have g3 := g.2.2; omega)
            exact ih (ta + 1) (tn) M1 hk h48 (by omega) (by omega) (by rw [sh_p (show M 32 0 ≤ ta by omega), q1]; omega) (by omega)
          · intro (i6 : (M1 32 0) ≤ ((ta * vv) / uu)) (i7 : ((ta * vv) / uu) ≤ (M1 32 1))
            refine And.intro ?_ ?_
            · intro (c8 : ¬ tn = 0)
              show Q 14 [(7, (0, 0, 11, 402, ta + 1)), (6, (0, 0, 1, 401, tn + 1)), (0, (2, 32, 0, 0, 0)), (1, (1, 0, 1, 2000, uu)), (3, (1, 0, 1, 2000, vv)), (5, (2, 48, 0, 0, 0))] [] M1
              refine hgo.2.1 14 _ [(7, (0, 0, 10, 401, ta + 1)), (6, (0, 0, 0, 400, tn + 1)), (0, (2, 32, 0, 0, 0)), (1, (1, 0, 1, 2000, uu)), (3, (1, 0, 1, 2000, vv)), (5, (2, 48, 0, 0, 0))] _ _ (xa_subI rfl rfl (fun _ _ _ _ => by omega) (xa_subI rfl rfl (fun _ _ _ _ => by omega) (xa_subR rfl (xa_subL rfl rfl (fun _ _ _ _ => by omega) (xa_subL rfl rfl (fun _ _ _ _ => by omega) (xa_subR rfl (xa_sub0))))))) ?_
              have q1 : sh_g (M 32 0) (M 32 1) uu vv ta = 1 := if_pos ⟨i2, by omega, by omega⟩
              exact ih (ta + 1) (tn + 1) M1 hk (rz_z2 h48 c8 (by omega)) (by omega) (by omega) (by rw [sh_p (show M 32 0 ≤ ta by omega), q1]; omega) (by omega)
            · intro (c8 : tn = 0)
              show xa_C (xl_I b) A h0 _ 60 [(2, 48, 0, 0, 0), (1, 0, 10, 401, ta)] M1 _
              refine rz_60n (N := M) (c := 0) (e := 1) (by assumption) (h48.1 c8) (by decide) ?_
              intro M116 (i9 : ∀ (q : Nat) (j : Int), ¬ (q = 48 ∨ q = 49) → M116 q j = M q j) (i10 : M116 48 1 = 1)
              show xa_C (xl_I b) A h0 _ 21 [(1, 0, 10, 802000, ta * vv), (1, 0, 1, 2000, uu)] M116 _
              refine cx_21h (by omega) (by omega) ?_
              show xa_C (xl_I b) A h0 _ 60 [(2, 48, 0, 0, 0), (1, 0, 0, 320000000, (ta * vv) / uu)] M116 _
              refine rz_60n (N := M) (c := 1) (e := 2) (by assumption) (by assumption) (by decide) ?_
              intro M117 (i11 : ∀ (q : Nat) (j : Int), ¬ (q = 48 ∨ q = 49) → M117 q j = M q j) (i12 : M117 48 1 = 2)
              show Q 14 [(7, (0, 0, 11, 402, ta + 1)), (6, (0, 0, 1, 401, tn + 1)), (0, (2, 32, 0, 0, 0)), (1, (1, 0, 1, 2000, uu)), (3, (1, 0, 1, 2000, vv)), (5, (2, 48, 0, 0, 0))] [] M117
              refine hgo.2.1 14 _ [(7, (0, 0, 10, 401, ta + 1)), (6, (0, 0, 0, 400, tn + 1)), (0, (2, 32, 0, 0, 0)), (1, (1, 0, 1, 2000, uu)), (3, (1, 0, 1, 2000, vv)), (5, (2, 48, 0, 0, 0))] _ _ (xa_subI rfl rfl (fun _ _ _ _ => by omega) (xa_subI rfl rfl (fun _ _ _ _ => by omega) (xa_subR rfl (xa_subL rfl rfl (fun _ _ _ _ => by omega) (xa_subL rfl rfl (fun _ _ _ _ => by omega) (xa_subR rfl (xa_sub0))))))) ?_
              have q1 : sh_g (M 32 0) (M 32 1) uu vv ta = 1 := if_pos ⟨i2, by omega, by omega⟩
              exact ih (ta + 1) (tn + 1) M117 i11 (rz_z1 i12 (by omega)) (by omega) (by omega) (by rw [sh_p (show M 32 0 ≤ ta by omega), q1]; omega) (by omega)
        · intro (i13 : ¬ uu ∣ (ta * vv))
          show Q 14 [(7, (0, 0, 11, 402, ta + 1)), (6, (0, 0, 0, 400, tn)), (0, (2, 32, 0, 0, 0)), (1, (1, 0, 1, 2000, uu)), (3, (1, 0, 1, 2000, vv)), (5, (2, 48, 0, 0, 0))] [] M1
          refine hgo.2.1 14 _ [(7, (0, 0, 10, 401, ta + 1)), (6, (0, 0, 0, 400, tn)), (0, (2, 32, 0, 0, 0)), (1, (1, 0, 1, 2000, uu)), (3, (1, 0, 1, 2000, vv)), (5, (2, 48, 0, 0, 0))] _ _ (xa_subI rfl rfl (fun _ _ _ _ => by omega) (xa_subI rfl rfl (fun _ _ _ _ => by omega) (xa_subR rfl (xa_subL rfl rfl (fun _ _ _ _ => by omega) (xa_subL rfl rfl (fun _ _ _ _ => by omega) (xa_subR rfl (xa_sub0))))))) ?_
          have q1 : sh_g (M 32 0) (M 32 1) uu vv ta = 0 := if_neg (fun g => i13 g.1)
          exact ih (ta + 1) (tn) M1 hk h48 (by omega) (by omega) (by rw [sh_p (show M 32 0 ≤ ta by omega), q1]; omega) (by omega)
  refine hgo.1 12 [14] 0 _ _ _ ?_
  show xa_C (xl_I b) A h0 _ 59 [(2, 48, 0, 0, 0)] M _
  refine rz_59n (N := M) (by assumption) ?_
  intro M118 (i1 : ∀ (q : Nat) (j : Int), ¬ (q = 48 ∨ q = 49) → M118 q j = M q j) (i2 : M118 48 1 = 0)
  show Q 14 [(7, (0, 0, 10, 400, M118 32 0)), (6, (0, 0, 0, 0, 0)), (0, (2, 32, 0, 0, 0)), (1, (1, 0, 1, 2000, uu)), (3, (1, 0, 1, 2000, vv)), (5, (2, 48, 0, 0, 0))] [] M118
  refine hgo.2.1 14 _ [(7, (0, 0, 10, 401, M118 32 0)), (6, (0, 0, 0, 400, 0)), (0, (2, 32, 0, 0, 0)), (1, (1, 0, 1, 2000, uu)), (3, (1, 0, 1, 2000, vv)), (5, (2, 48, 0, 0, 0))] _ _ (xa_subI rfl rfl (fun _ _ _ _ => by omega) (xa_subI rfl rfl (fun _ _ _ _ => by omega) (xa_subR rfl (xa_subL rfl rfl (fun _ _ _ _ => by omega) (xa_subL rfl rfl (fun _ _ _ _ => by omega) (xa_subR rfl (xa_sub0))))))) ?_
  have e0 : M118 32 0 = M 32 0 := i1 32 0 (by decide)
  rw [e0]
  exact loop 402 (M 32 0) 0 M118 i1 (rz_z0 i2) (by omega) (by omega) (by rw [show (M 32 0 - M 32 0).toNat = 0 by omega]; rfl) (by omega)
theorem rx_122_50 {A : Nat → Nat} {h0 : g_H} {d : Nat} {M : xa_M} {post : Option xa_V → xa_M → Prop} {l1 u1 l2 u2 x1 x2 : Int} (hL : 10 ≤ M 32 0 ∧ M 32 0 ≤ M 32 1 ∧ M 32 1 ≤ 400) (hp : 0 ≤ M 50 4 ∧ M 50 4 ≤ 8) (hUU : ∀ i : Int, 0 ≤ i → i < M 50 4 → (1 ≤ M 51 i ∧ M 51 i ≤ 2000) ∧ (1 ≤ M 52 i ∧ M 52 i ≤ 2000)) (k : ∀ (r : Int) (M1 : xa_M), tr_P (M 32 0) (M 32 1) (M 50 4) (M 51 x1) (M 52 x1) x1 x2 r → (∀ (q : Nat) (j : Int), ¬ (q = 48 ∨ q = 49) → M1 q j = M q j) → rz_t x2 r (M 48 1) (M1 48 1) → post (some (0, 0, (-4), 300000, r)) M1) : xa_C (xl_I false) A h0 (d + 4) 122 [(2, 0, 0, 0, 0), (0, 0, l1, u1, x1), (0, 0, l2, u2, x2)] M post := by
  refine xa_C_wk ?_
  refine xa_C_arg [(2, 0, 0, 0, 0), (0, 0, (-2147483648), 2147483647, x1), (0, 0, (-2147483648), 2147483647, x2)] (xa_svR (xa_svI (fun _ _ _ _ => by omega) (xa_svI (fun _ _ _ _ => by omega) xa_sv0))) ?_
  refine xa_meth (Q0 := (7, 1, false, 0, 0, 11)) (by decide +kernel) ⟨rfl, rfl⟩ (full := s_c_122) rfl rfl ?_
  intro hM hv Q hgo
  have hu := hUU x1
  refine hgo.1 40 [] 0 _ _ _ ?_
  show xa_C (xl_I false) A h0 _ 87 [(2, 50, 0, 0, 0), (0, 0, (-2147483648), 2147483647, x1)] M _
  refine cx_87_50 ?_ ?_ ?_
  · intro (i1 : x1 < 0)
    show xa_wk post (some (0, 0, (-1), (-1), (-1))) M
    exact xa_wkI (-1) rfl (fun _ _ => by omega) (k _ _ (by unfold tr_P; omega) (fun _ _ _ => rfl) (by unfold rz_t; omega))
  · intro (i2 : 0 ≤ x1) (i3 : (M 50 4) ≤ x1)
    show xa_wk post (some (0, 0, (-1), (-1), (-1))) M
    exact xa_wkI (-1) rfl (fun _ _ => by omega) (k _ _ (by unfold tr_P; omega) (fun _ _ _ => rfl) (by unfold rz_t; omega))
  · intro (i4 : 0 ≤ x1) (i5 : x1 < (M 50 4))
    refine And.intro ?_ ?_
    · intro (c6 : x2 < 1)
      show xa_wk post (some (0, 0, (-1), (-1), (-1))) M
      exact xa_wkI (-1) rfl (fun _ _ => by omega) (k _ _ (by unfold tr_P; omega) (fun _ _ _ => rfl) (by unfold rz_t; omega))
    · intro (c6 : 1 ≤ x2)
      refine And.intro ?_ ?_
      · intro (c7 : x2 ≤ 2)
        show xa_C (xl_I false) A h0 _ 65 [(2, 50, 0, 0, 0), (0, 0, (-2147483648), 2147483647, x1)] M _
        refine cx_65_50 (show 0 ≤ x1 ∧ x1 < 8 by omega) ?_
        show xa_C (xl_I false) A h0 _ 64 [(2, 50, 0, 0, 0), (0, 0, (-2147483648), 2147483647, x1)] M _
        refine cx_64_50 (show 0 ≤ x1 ∧ x1 < 8 by omega) ?_
        refine And.intro ?_ ?_
        · intro (c8 : ¬ x2 = 1)
          show xa_C (xl_I false) A h0 _ 125 [(2, 32, 0, 0, 0)] M _
          refine cx_125_32 ?_ ?_
          · intro (i9 : ((M 32 1) - (M 32 0)) ≤ 60)
            show xa_C (xl_I false) A h0 _ 126 [(2, 32, 0, 0, 0), (1, 0, (-2147483648), 2147483647, M 51 x1), (1, 0, (-2147483648), 2147483647, M 52 x1), (2, 48, 0, 0, 0)] M _
            refine rz_126 hL (by omega) (by omega) (by omega) ?_
            intro M119 (i10 : ∀ (q : Nat) (j : Int), ¬ (q = 48 ∨ q = 49) → M119 q j = M q j) (nM119 : 0 ≤ sh_t2 (M 32 0) (M 32 1) (M 51 x1) (M 52 x1)) (zM119 : rz_z 4 (sh_t2 (M 32 0) (M 32 1) (M 51 x1) (M 52 x1)) (M119 48 1))
            show xa_wk post (some (0, 0, 0, 300000, sh_t2 (M 32 0) (M 32 1) (M 51 x1) (M 52 x1))) M119
            exact xa_wkI _ rfl (fun _ _ => by omega) (k _ _ (Or.inr ⟨by omega, by omega, Or.inr ⟨by omega, Or.inr ⟨by omega, rfl⟩⟩⟩) i10 (rz_tz zM119 nM119 (by omega)))
          · intro (i11 : 60 < ((M 32 1) - (M 32 0)))
            show xa_wk post (some (0, 0, (-4), (-4), (-4))) M
            exact xa_wkI (-4) rfl (fun _ _ => by omega) (k _ _ (by unfold tr_P; omega) (fun _ _ _ => rfl) (by unfold rz_t; omega))
        · intro (c8 : x2 = 1)
          show xa_C (xl_I false) A h0 _ 123 [(2, 32, 0, 0, 0), (1, 0, (-2147483648), 2147483647, M 51 x1), (1, 0, (-2147483648), 2147483647, M 52 x1), (2, 48, 0, 0, 0)] M _
          refine rz_123 hL (by omega) (by omega) ?_
          intro M120 (i12 : ∀ (q : Nat) (j : Int), ¬ (q = 48 ∨ q = 49) → M120 q j = M q j) (nM120 : 0 ≤ sh_t1 (M 32 0) (M 32 1) (M 51 x1) (M 52 x1)) (zM120 : rz_z 2 (sh_t1 (M 32 0) (M 32 1) (M 51 x1) (M 52 x1)) (M120 48 1))
          show xa_wk post (some (0, 0, 0, 400, sh_t1 (M 32 0) (M 32 1) (M 51 x1) (M 52 x1))) M120
          exact xa_wkI _ rfl (fun _ _ => by omega) (k _ _ (Or.inr ⟨by omega, by omega, Or.inl ⟨by omega, rfl⟩⟩) i12 (rz_tz zM120 nM120 (by omega)))
      · intro (c7 : 2 < x2)
        show xa_wk post (some (0, 0, (-1), (-1), (-1))) M
        exact xa_wkI (-1) rfl (fun _ _ => by omega) (k _ _ (by unfold tr_P; omega) (fun _ _ _ => rfl) (by unfold rz_t; omega))
theorem rx_122_55 {A : Nat → Nat} {h0 : g_H} {d : Nat} {M : xa_M} {post : Option xa_V → xa_M → Prop} {l1 u1 l2 u2 x1 x2 : Int} (hL : 10 ≤ M 32 0 ∧ M 32 0 ≤ M 32 1 ∧ M 32 1 ≤ 400) (hp : 0 ≤ M 55 4 ∧ M 55 4 ≤ 8) (hUU : ∀ i : Int, 0 ≤ i → i < M 55 4 → (1 ≤ M 56 i ∧ M 56 i ≤ 2000) ∧ (1 ≤ M 57 i ∧ M 57 i ≤ 2000)) (k : ∀ (r : Int) (M1 : xa_M), tr_P (M 32 0) (M 32 1) (M 55 4) (M 56 x1) (M 57 x1) x1 x2 r → (∀ (q : Nat) (j : Int), ¬ (q = 48 ∨ q = 49) → M1 q j = M q j) → rz_t x2 r (M 48 1) (M1 48 1) → post (some (0, 0, (-4), 300000, r)) M1) : xa_C (xl_I true) A h0 (d + 4) 122 [(2, 0, 0, 0, 0), (0, 0, l1, u1, x1), (0, 0, l2, u2, x2)] M post := by
  refine xa_C_wk ?_
  refine xa_C_arg [(2, 0, 0, 0, 0), (0, 0, (-2147483648), 2147483647, x1), (0, 0, (-2147483648), 2147483647, x2)] (xa_svR (xa_svI (fun _ _ _ _ => by omega) (xa_svI (fun _ _ _ _ => by omega) xa_sv0))) ?_
  refine xa_meth (Q0 := (7, 1, false, 0, 0, 11)) (by decide +kernel) ⟨rfl, rfl⟩ (full := s_c_122) rfl rfl ?_
  intro hM hv Q hgo
  have hu := hUU x1
  refine hgo.1 40 [] 0 _ _ _ ?_
  show xa_C (xl_I true) A h0 _ 87 [(2, 55, 0, 0, 0), (0, 0, (-2147483648), 2147483647, x1)] M _
  refine cx_87_55 ?_ ?_ ?_
  · intro (i1 : x1 < 0)
    show xa_wk post (some (0, 0, (-1), (-1), (-1))) M
    exact xa_wkI (-1) rfl (fun _ _ => by omega) (k _ _ (by unfold tr_P; omega) (fun _ _ _ => rfl) (by unfold rz_t; omega))
  · intro (i2 : 0 ≤ x1) (i3 : (M 55 4) ≤ x1)
    show xa_wk post (some (0, 0, (-1), (-1), (-1))) M
    exact xa_wkI (-1) rfl (fun _ _ => by omega) (k _ _ (by unfold tr_P; omega) (fun _ _ _ => rfl) (by unfold rz_t; omega))
  · intro (i4 : 0 ≤ x1) (i5 : x1 < (M 55 4))
    refine And.intro ?_ ?_
    · intro (c6 : x2 < 1)
      show xa_wk post (some (0, 0, (-1), (-1), (-1))) M
      exact xa_wkI (-1) rfl (fun _ _ => by omega) (k _ _ (by unfold tr_P; omega) (fun _ _ _ => rfl) (by unfold rz_t; omega))
    · intro (c6 : 1 ≤ x2)
      refine And.intro ?_ ?_
      · intro (c7 : x2 ≤ 2)
        show xa_C (xl_I true) A h0 _ 65 [(2, 55, 0, 0, 0), (0, 0, (-2147483648), 2147483647, x1)] M _
        refine cx_65_55 (show 0 ≤ x1 ∧ x1 < 8 by omega) ?_
        show xa_C (xl_I true) A h0 _ 64 [(2, 55, 0, 0, 0), (0, 0, (-2147483648), 2147483647, x1)] M _
        refine cx_64_55 (show 0 ≤ x1 ∧ x1 < 8 by omega) ?_
        refine And.intro ?_ ?_
        · intro (c8 : ¬ x2 = 1)
          show xa_C (xl_I true) A h0 _ 125 [(2, 32, 0, 0, 0)] M _
          refine cx_125_32 ?_ ?_
          · intro (i9 : ((M 32 1) - (M 32 0)) ≤ 60)
            show xa_C (xl_I true) A h0 _ 126 [(2, 32, 0, 0, 0), (1, 0, (-2147483648), 2147483647, M 56 x1), (1, 0, (-2147483648), 2147483647, M 57 x1), (2, 48, 0, 0, 0)] M _
            refine rz_126 hL (by omega) (by omega) (by omega) ?_
            intro M121 (i10 : ∀ (q : Nat) (j : Int), ¬ (q = 48 ∨ q = 49) → M121 q j = M q j) (nM121 : 0 ≤ sh_t2 (M 32 0) (M 32 1) (M 56 x1) (M 57 x1)) (zM121 : rz_z 4 (sh_t2 (M 32 0) (M 32 1) (M 56 x1) (M 57 x1)) (M121 48 1))
            show xa_wk post (some (0, 0, 0, 300000, sh_t2 (M 32 0) (M 32 1) (M 56 x1) (M 57 x1))) M121
            exact xa_wkI _ rfl (fun _ _ => by omega) (k _ _ (Or.inr ⟨by omega, by omega, Or.inr ⟨by omega, Or.inr ⟨by omega, rfl⟩⟩⟩) i10 (rz_tz zM121 nM121 (by omega)))
          · intro (i11 : 60 < ((M 32 1) - (M 32 0)))
            show xa_wk post (some (0, 0, (-4), (-4), (-4))) M
            exact xa_wkI (-4) rfl (fun _ _ => by omega) (k _ _ (by unfold tr_P; omega) (fun _ _ _ => rfl) (by unfold rz_t; omega))
        · intro (c8 : x2 = 1)
          show xa_C (xl_I true) A h0 _ 123 [(2, 32, 0, 0, 0), (1, 0, (-2147483648), 2147483647, M 56 x1), (1, 0, (-2147483648), 2147483647, M 57 x1), (2, 48, 0, 0, 0)] M _
          refine rz_123 hL (by omega) (by omega) ?_
          intro M122 (i12 : ∀ (q : Nat) (j : Int), ¬ (q = 48 ∨ q = 49) → M122 q j = M q j) (nM122 : 0 ≤ sh_t1 (M 32 0) (M 32 1) (M 56 x1) (M 57 x1)) (zM122 : rz_z 2 (sh_t1 (M 32 0) (M 32 1) (M 56 x1) (M 57 x1)) (M122 48 1))
          show xa_wk post (some (0, 0, 0, 400, sh_t1 (M 32 0) (M 32 1) (M 56 x1) (M 57 x1))) M122
          exact xa_wkI _ rfl (fun _ _ => by omega) (k _ _ (Or.inr ⟨by omega, by omega, Or.inl ⟨by omega, rfl⟩⟩) i12 (rz_tz zM122 nM122 (by omega)))
      · intro (c7 : 2 < x2)
        show xa_wk post (some (0, 0, (-1), (-1), (-1))) M
        exact xa_wkI (-1) rfl (fun _ _ => by omega) (k _ _ (by unfold tr_P; omega) (fun _ _ _ => rfl) (by unfold rz_t; omega))
theorem rx_122 {b : Bool} {A : Nat → Nat} {h0 : g_H} {d : Nat} {M : xa_M} {post : Option xa_V → xa_M → Prop} {l1 u1 l2 u2 x1 x2 : Int} (hL : 10 ≤ M 32 0 ∧ M 32 0 ≤ M 32 1 ∧ M 32 1 ≤ 400) (hp : 0 ≤ M (bk_p b) 4 ∧ M (bk_p b) 4 ≤ 8) (hUU : ∀ i : Int, 0 ≤ i → i < M (bk_p b) 4 → (1 ≤ M (bk_p b + 1) i ∧ M (bk_p b + 1) i ≤ 2000) ∧ (1 ≤ M (bk_p b + 2) i ∧ M (bk_p b + 2) i ≤ 2000)) (k : ∀ (r : Int) (M1 : xa_M), tr_P (M 32 0) (M 32 1) (M (bk_p b) 4) (M (bk_p b + 1) x1) (M (bk_p b + 2) x1) x1 x2 r → (∀ (q : Nat) (j : Int), ¬ (q = 48 ∨ q = 49) → M1 q j = M q j) → rz_t x2 r (M 48 1) (M1 48 1) → post (some (0, 0, (-4), 300000, r)) M1) : xa_C (xl_I b) A h0 (d + 4) 122 [(2, 0, 0, 0, 0), (0, 0, l1, u1, x1), (0, 0, l2, u2, x2)] M post := by
  cases b
  · exact rx_122_50 hL hp hUU k
  · exact rx_122_55 hL hp hUU k
theorem rm_trains {A : Nat → Nat} {h0 : g_H} {d : Nat} {M : xa_M} {post : Option xa_V → xa_M → Prop} {l1 u1 l2 u2 : Int} {a b : Int} (hI : xm_Inv M) (k : ∀ (lo hi r : Int) (M1 : xa_M), tr_P (M 60 15) (M 60 16) (M 60 11) (M 70 a) (M 71 a) a b r → xm_cor M M1 → rz_t b r (M 60 20) (M1 60 20) → post (some (0, 0, lo, hi, r)) M1) : xa_C xm_I A h0 (d + 3) 257 [(2, 60, 0, 0, 0), (0, 0, l1, u1, a), (0, 0, l2, u2, b)] M post := by
  refine xa_C_arg [(2, 60, 0, 0, 0), (0, 0, (-2147483648), 2147483647, a), (0, 0, (-2147483648), 2147483647, b)] (xa_svR (xa_svI (fun _ _ _ _ => by omega) (xa_svI (fun _ _ _ _ => by omega) xa_sv0))) ?_
  refine xa_meth (Q0 := (10, 1, false, 0, 0, 12)) (by decide +kernel) ⟨rfl, rfl⟩ (full := s_c_257) rfl rfl ?_
  intro hM hv Q hgo
  have b0 := xm_f0 hM
  have b6 := xm_f6 hM
  have b61 := xm_f61 hM
  have b11 := xm_f11 hM
  have b15 := xm_f15 hM
  have b16 := xm_f16 hM
  have hlh := hI.2.2.2.1
  have loop3 : ∀ (n : Nat) (x5 x3 x2 : Int) (M1 : xa_M), 0 ≤ x5 ∧ x5 ≤ 4 → 1 ≤ x2 ∧ x2 ≤ 2 → xm_cor M M1 → (0 ≤ x3 ∧ x2 = b ∧ (¬ x3 = 0 ∨ x5 = 0) ∧ ((x2 = 2 ∧ M1 60 20 = x5) ∨ (¬ x2 = 2 ∧ M1 60 20 = (x5 + 1) / 2))) → tr_P (M 60 15) (M 60 16) (M 60 11) (M 70 a) (M 71 a) a b x3 → 4 - x5 < (n : Int) → Q 249 [(5, (0, 0, 0, 4, x5)), (3, (0, 0, (-2147483648), 2147483647, x3)), (2, (0, 0, 1, 2, x2)), (0, (2, 60, 0, 0, 0))] [] M1 := by
    intro n
    induction n with
    | zero => intro x5 x3 x2 M1 b5 b2 hc h20 htr hms; omega
    | succ n ih3 =>
      intro x5 x3 x2 M1 b5 b2 hc h20 htr hms3
      refine hgo.2.2 _ _ _ _ (fun hM1 _ => ?_)
      have b20 := xm_f20 hM1
      refine hgo.1 26 [57, 79, 103, 249] 249 _ _ _ ?_
      refine And.intro ?_ ?_
      · intro (c1 : 4 ≤ x5)
        show post (some (0, 0, (-2147483648), 2147483647, x3)) M1
        exact k _ _ _ _ htr hc (by show rz_t b x3 (M 60 20) (M1 60 20); unfold rz_t; omega)
      · intro (c1 : x5 < 4)
        refine And.intro ?_ ?_
        · intro (c2 : x3 ≤ 0)
          show post (some (0, 0, (-2147483648), 2147483647, x3)) M1
          exact k _ _ _ _ htr hc (by show rz_t b x3 (M 60 20) (M1 60 20); unfold rz_t; omega)
        · intro (c2 : 0 < x3)
          refine And.intro ?_ ?_
          · intro (c3 : x2 = 2)
            refine And.intro (show 0 ≤ x5 ∧ x5 < 4 by omega) ?_
            show xa_C xm_I A h0 _ 231 [(2, 60, 0, 0, 0), (1, 0, (-2147483648), 2147483647, M1 91 x5)] M1 _
            refine ct_tell (n := M1 60 20) (by first | rfl | (simp [xa_up]; done) | omega) (by omega) (by omega) ?_
            show Q 249 [(5, (0, 0, 1, 5, x5 + 1)), (3, (0, 0, (-2147483648), 2147483647, x3)), (2, (0, 0, 1, 2, x2)), (0, (2, 60, 0, 0, 0))] [] (xa_up (xa_up M1 74 (M1 60 20) (M1 91 x5)) 60 20 ((M1 60 20) + 1))
            refine hgo.2.1 249 _ [(5, (0, 0, 0, 4, x5 + 1)), (3, (0, 0, (-2147483648), 2147483647, x3)), (2, (0, 0, 1, 2, x2)), (0, (2, 60, 0, 0, 0))] _ _ (xa_subI rfl rfl (fun _ _ _ _ => by omega) (xa_subI rfl rfl (fun _ _ _ _ => by omega) (xa_subI rfl rfl (fun _ _ _ _ => by omega) (xa_subR rfl xa_sub0)))) ?_
            exact ih3 (x5 + 1) x3 x2 (xa_up (xa_up M1 74 (M1 60 20) (M1 91 x5)) 60 20 ((M1 60 20) + 1)) (by omega) (by omega) (xm_cor_f (by omega) (xm_cor_a rfl hc)) (by rw [xa_up_eq]; omega) htr (by omega)
          · intro (c3 : ¬ x2 = 2)
            refine And.intro ?_ ?_
            · intro (c4 : ¬ (x5 % 2) = 0)
              show Q 249 [(5, (0, 0, 1, 5, x5 + 1)), (3, (0, 0, (-2147483648), 2147483647, x3)), (2, (0, 0, 1, 2, x2)), (0, (2, 60, 0, 0, 0))] [] M1
              refine hgo.2.1 249 _ [(5, (0, 0, 0, 4, x5 + 1)), (3, (0, 0, (-2147483648), 2147483647, x3)), (2, (0, 0, 1, 2, x2)), (0, (2, 60, 0, 0, 0))] _ _ (xa_subI rfl rfl (fun _ _ _ _ => by omega) (xa_subI rfl rfl (fun _ _ _ _ => by omega) (xa_subI rfl rfl (fun _ _ _ _ => by omega) (xa_subR rfl xa_sub0)))) ?_
              exact ih3 (x5 + 1) x3 x2 M1 (by omega) (by omega) hc (by omega) htr (by omega)
            · intro (c4 : (x5 % 2) = 0)
              refine And.intro (show 0 ≤ x5 ∧ x5 < 4 by omega) ?_
              show xa_C xm_I A h0 _ 231 [(2, 60, 0, 0, 0), (1, 0, (-2147483648), 2147483647, M1 91 x5)] M1 _
              refine ct_tell (n := M1 60 20) (by first | rfl | (simp [xa_up]; done) | omega) (by omega) (by omega) ?_
              show Q 249 [(5, (0, 0, 1, 5, x5 + 1)), (3, (0, 0, (-2147483648), 2147483647, x3)), (2, (0, 0, 1, 2, x2)), (0, (2, 60, 0, 0, 0))] [] (xa_up (xa_up M1 74 (M1 60 20) (M1 91 x5)) 60 20 ((M1 60 20) + 1))
              refine hgo.2.1 249 _ [(5, (0, 0, 0, 4, x5 + 1)), (3, (0, 0, (-2147483648), 2147483647, x3)), (2, (0, 0, 1, 2, x2)), (0, (2, 60, 0, 0, 0))] _ _ (xa_subI rfl rfl (fun _ _ _ _ => by omega) (xa_subI rfl rfl (fun _ _ _ _ => by omega) (xa_subI rfl rfl (fun _ _ _ _ => by omega) (xa_subR rfl xa_sub0)))) ?_
              exact ih3 (x5 + 1) x3 x2 (xa_up (xa_up M1 74 (M1 60 20) (M1 91 x5)) 60 20 ((M1 60 20) + 1)) (by omega) (by omega) (xm_cor_f (by omega) (xm_cor_a rfl hc)) (by rw [xa_up_eq]; omega) htr (by omega)
  have loop0 : ∀ (n : Nat) (x5 x4 x3 x2 x1 : Int) (M1 : xa_M), 10 ≤ x5 ∧ x5 ≤ 401 → 1 ≤ x2 ∧ x2 ≤ 2 → 0 ≤ x1 ∧ x1 ≤ 7 → xm_cor M M1 → x1 < M 60 11 → (x1 = a ∧ x2 = b ∧ (¬ b = 1 → M 60 16 - M 60 15 ≤ 60)) → (M 60 15 ≤ x5 ∧ x5 ≤ M 60 16 + 1) → (0 ≤ x3 ∧ x3 ≤ (x5 - M 60 15) * 160000) → x3 = sh_s (sh_y x2 (M 60 15) (M 60 16) (M 70 x1) (M 71 x1)) (M 60 15) (x5 - M 60 15).toNat → 401 - x5 < (n : Int) → Q 57 [(5, (0, 0, 10, 401, x5)), (4, (0, 0, (-2147483648), 2147483647, x4)), (3, (0, 0, (-2147483648), 2147483647, x3)), (2, (0, 0, 1, 2, x2)), (1, (0, 0, 0, 7, x1)), (0, (2, 60, 0, 0, 0))] [] M1 := by
    intro n
    induction n with
    | zero => intro x5 x4 x3 x2 x1 M1 b5 b2 b1 hc hx1 hxa h5 h3 hn hms; omega
    | succ n ih0 =>
      intro x5 x4 x3 x2 x1 M1 b5 b2 b1 hc hx1 hxa h5 h3 hn hms0
      have p7 := hI.2.2.1 x1 (by omega) hx1
      have t70 := xm_t70 hM x1 (by omega) (by omega)
      have t71 := xm_t71 hM x1 (by omega) (by omega)
      have e0 := xm_corf hc 0 (by omega)
      have e6 := xm_corf hc 6 (by omega)
      have e61 := xm_corf hc 61 (by omega)
      have e11 := xm_corf hc 11 (by omega)
      have e15 := xm_corf hc 15 (by omega)
      have e16 := xm_corf hc 16 (by omega)
      have loop1 : ∀ (b9 : Int) (n : Nat) (x6 x4 x3 : Int) (M1 : xa_M), 1 ≤ x6 ∧ x6 ≤ 401 → 10 ≤ x5 ∧ x5 ≤ 400 → 1 ≤ x2 ∧ x2 ≤ 2 → 0 ≤ x1 ∧ x1 ≤ 7 → xm_cor M M1 → (b9 ≤ x6 ∧ x5 ≤ M 60 16 ∧ (x2 = 1 → b9 = 1 ∧ x6 ≤ 2) ∧ (¬ x2 = 1 → b9 = x5 ∧ x6 ≤ M 60 16 + 1)) → (0 ≤ x3 ∧ x3 ≤ (x5 - M 60 15) * 160000 + (x6 - b9) * 400) → x3 = sh_s (sh_y x2 (M 60 15) (M 60 16) (M 70 x1) (M 71 x1)) (M 60 15) (x5 - M 60 15).toNat + sh_s (sh_w x2 (M 60 15) (M 60 16) (M 70 x1) (M 71 x1) x5) b9 (x6 - b9).toNat → 401 - x6 < (n : Int) → Q 79 [(6, (0, 0, 1, 401, x6)), (5, (0, 0, 10, 400, x5)), (4, (0, 0, (-2147483648), 2147483647, x4)), (3, (0, 0, (-2147483648), 2147483647, x3)), (2, (0, 0, 1, 2, x2)), (1, (0, 0, 0, 7, x1)), (0, (2, 60, 0, 0, 0))] [] M1 := by
        intro b9 n
        induction n with
        | zero => intro x6 x4 x3 M1 b6 f5 f2 f1 hc h6 h4 hn1 hms; omega
        | succ n ih1 =>
          intro x6 x4 x3 M1 b6 f5 f2 f1 hc h6 h4 hn1 hms1
          have e0 := xm_corf hc 0 (by omega)
          have e6 := xm_corf hc 6 (by omega)
          have e61 := xm_corf hc 61 (by omega)
          have e11 := xm_corf hc 11 (by omega)
          have e15 := xm_corf hc 15 (by omega)
          have e16 := xm_corf hc 16 (by omega)
          have loop2 : ∀ (n : Nat) (x7 x4 x3 : Int) (M1 : xa_M), 10 ≤ x7 ∧ x7 ≤ 401 → 1 ≤ x6 ∧ x6 ≤ 400 → 10 ≤ x5 ∧ x5 ≤ 400 → 1 ≤ x2 ∧ x2 ≤ 2 → 0 ≤ x1 ∧ x1 ≤ 7 → xm_cor M M1 → ((x2 = 1 → x6 = 1) ∧ (¬ x2 = 1 → x6 ≤ M 60 16)) → (M 60 15 ≤ x7 ∧ x7 ≤ M 60 16 + 1) → (0 ≤ x3 ∧ x3 ≤ (x5 - M 60 15) * 160000 + (x6 - b9) * 400 + (x7 - M 60 15)) → x3 = sh_s (sh_y x2 (M 60 15) (M 60 16) (M 70 x1) (M 71 x1)) (M 60 15) (x5 - M 60 15).toNat + sh_s (sh_w x2 (M 60 15) (M 60 16) (M 70 x1) (M 71 x1) x5) b9 (x6 - b9).toNat + sh_s (sh_q x2 (M 60 15) (M 60 16) (M 70 x1) (M 71 x1) x5 x6) (M 60 15) (x7 - M 60 15).toNat → 401 - x7 < (n : Int) → Q 103 [(7, (0, 0, 10, 401, x7)), (6, (0, 0, 1, 400, x6)), (5, (0, 0, 10, 400, x5)), (4, (0, 0, (-2147483648), 2147483647, x4)), (3, (0, 0, (-2147483648), 2147483647, x3)), (2, (0, 0, 1, 2, x2)), (1, (0, 0, 0, 7, x1)), (0, (2, 60, 0, 0, 0))] [] M1 := by
            intro n
            induction n with
            | zero => intro x7 x4 x3 M1 b7 f6 f5 f2 f1 hc h61 h7 h5b hn2 hms; omega
            | succ n ih2 =>
              intro x7 x4 x3 M1 b7 f6 f5 f2 f1 hc h61 h7 h5b hn2 hms2
              have e0 := xm_corf hc 0 (by omega)
              have e6 := xm_corf hc 6 (by omega)
              have e61 := xm_corf hc 61 (by omega)
              have e11 := xm_corf hc 11 (by omega)
              have e15 := xm_corf hc 15 (by omega)
              have e16 := xm_corf hc 16 (by omega)
              refine hgo.1 64 [57, 79, 103, 249] 103 _ _ _ ?_
              refine And.intro ?_ ?_
              · intro (c1 : (M1 60 16) < x7)
                show Q 79 [(6, (0, 0, 2, 401, x6 + 1)), (7, (0, 0, 10, 401, x7)), (5, (0, 0, 10, 400, x5)), (4, (0, 0, (-2147483648), 2147483647, x4)), (3, (0, 0, (-2147483648), 2147483647, x3)), (2, (0, 0, 1, 2, x2)), (1, (0, 0, 0, 7, x1)), (0, (2, 60, 0, 0, 0))] [] M1
                refine hgo.2.1 79 _ [(6, (0, 0, 1, 401, x6 + 1)), (5, (0, 0, 10, 400, x5)), (4, (0, 0, (-2147483648), 2147483647, x4)), (3, (0, 0, (-2147483648), 2147483647, x3)), (2, (0, 0, 1, 2, x2)), (1, (0, 0, 0, 7, x1)), (0, (2, 60, 0, 0, 0))] _ _ (xa_subI rfl rfl (fun _ _ _ _ => by omega) (xa_subI rfl rfl (fun _ _ _ _ => by omega) (xa_subI rfl rfl (fun _ _ _ _ => by omega) (xa_subI rfl rfl (fun _ _ _ _ => by omega) (xa_subI rfl rfl (fun _ _ _ _ => by omega) (xa_subI rfl rfl (fun _ _ _ _ => by omega) (xa_subR rfl xa_sub0))))))) ?_
                have e7 : x7 = M 60 16 + 1 := by omega
                rw [e7] at hn2
                exact ih1 (x6 + 1) x4 x3 M1 (by omega) (by omega) (by omega) (by omega) hc (by omega) (by omega) (by rw [sh_p (show b9 ≤ x6 by omega)]; show _ = _ + (_ + sh_s (sh_q x2 (M 60 15) (M 60 16) (M 70 x1) (M 71 x1) x5 x6) (M 60 15) (M 60 16 + 1 - M 60 15).toNat); omega) (by omega)
              · intro (c1 : x7 ≤ (M1 60 16))
                show xa_C xm_I A h0 _ 258 [(2, 60, 0, 0, 0), (0, 0, 0, 7, x1), (0, 0, 10, 400, x5), (0, 0, 1, 400, x6), (0, 0, 10, 401, x7)] M1 _
                refine ct_fourthF (xm_Inv_cor hc hI) (by omega) (by rw [xm_corf hc 11 (by omega)]; omega) (by omega) (by omega) (by omega) (by omega) (by omega) (by omega) (fun r2 br2 er2 => ?_)
                rw [hc 70 x1 (by unfold xm_scr; omega), hc 71 x1 (by unfold xm_scr; omega)] at er2
                have w9 := xa_w32_id (n := x3 + 1) (by omega) (by omega)
                refine And.intro ?_ ?_
                · intro (c3 : ¬ x2 = 1)
                  show xa_C xm_I A h0 _ 214 [(0, 0, 0, 1000, r2), (0, 0, 10, 401, x7), (0, 0, 10, 400, M1 60 16)] M1 _
                  refine ct_in ?_ ?_
                  · intro (i4 : x7 ≤ r2 ∧ r2 ≤ (M1 60 16))
                    refine And.intro ?_ ?_
                    · intro (c5 : (xa_w32 (x3 + 1)) ≤ 1)
                      show Q 103 [(7, (0, 0, 11, 402, x7 + 1)), (4, (0, 0, 21, 2201, ((x5 + x6) + x7) + r2)), (9, (0, 0, 21, 2201, ((x5 + x6) + x7) + r2)), (3, (0, 0, (-2147483648), 2147483647, xa_w32 (x3 + 1))), (8, (0, 0, 0, 1000, r2)), (6, (0, 0, 1, 400, x6)), (5, (0, 0, 10, 400, x5)), (2, (0, 0, 1, 2, x2)), (1, (0, 0, 0, 7, x1)), (0, (2, 60, 0, 0, 0))] [] (xa_up (xa_up (xa_up (xa_up M1 91 0 x5) 91 1 x6) 91 2 x7) 91 3 r2)
                      refine hgo.2.1 103 _ [(7, (0, 0, 10, 401, x7 + 1)), (6, (0, 0, 1, 400, x6)), (5, (0, 0, 10, 400, x5)), (4, (0, 0, (-2147483648), 2147483647, ((x5 + x6) + x7) + r2)), (3, (0, 0, (-2147483648), 2147483647, xa_w32 (x3 + 1))), (2, (0, 0, 1, 2, x2)), (1, (0, 0, 0, 7, x1)), (0, (2, 60, 0, 0, 0))] _ _ (xa_subI rfl rfl (fun _ _ _ _ => by omega) (xa_subI rfl rfl (fun _ _ _ _ => by omega) (xa_subI rfl rfl (fun _ _ _ _ => by omega) (xa_subI rfl rfl (fun _ _ _ _ => by omega) (xa_subI rfl rfl (fun _ _ _ _ => by omega) (xa_subI rfl rfl (fun _ _ _ _ => by omega) (xa_subI rfl rfl (fun _ _ _ _ => by omega) (xa_subR rfl xa_sub0)))))))) ?_
                      exact ih2 (x7 + 1) (((x5 + x6) + x7) + r2) (xa_w32 (x3 + 1)) (xa_up (xa_up (xa_up (xa_up M1 91 0 x5) 91 1 x6) 91 2 x7) 91 3 r2) (by omega) (by omega) (by omega) (by omega) (by omega) (xm_cor_a rfl (xm_cor_a rfl (xm_cor_a rfl (xm_cor_a rfl hc)))) h61 (by omega) (by omega) (by rw [sh_p (show M 60 15 ≤ x7 by omega), tr_a (by omega) (by omega) (by omega) (by omega) c3 er2 (by omega)]; omega) (by omega)
                    · intro (c5 : 1 < (xa_w32 (x3 + 1)))
                      refine And.intro ?_ ?_
                      · intro (c6 : (((x5 + x6) + x7) + r2) < x4)
                        show Q 103 [(7, (0, 0, 11, 402, x7 + 1)), (4, (0, 0, 21, 2201, ((x5 + x6) + x7) + r2)), (9, (0, 0, 21, 2201, ((x5 + x6) + x7) + r2)), (3, (0, 0, (-2147483648), 2147483647, xa_w32 (x3 + 1))), (8, (0, 0, 0, 1000, r2)), (6, (0, 0, 1, 400, x6)), (5, (0, 0, 10, 400, x5)), (2, (0, 0, 1, 2, x2)), (1, (0, 0, 0, 7, x1)), (0, (2, 60, 0, 0, 0))] [] (xa_up (xa_up (xa_up (xa_up M1 91 0 x5) 91 1 x6) 91 2 x7) 91 3 r2)
                        refine hgo.2.1 103 _ [(7, (0, 0, 10, 401, x7 + 1)), (6, (0, 0, 1, 400, x6)), (5, (0, 0, 10, 400, x5)), (4, (0, 0, (-2147483648), 2147483647, ((x5 + x6) + x7) + r2)), (3, (0, 0, (-2147483648), 2147483647, xa_w32 (x3 + 1))), (2, (0, 0, 1, 2, x2)), (1, (0, 0, 0, 7, x1)), (0, (2, 60, 0, 0, 0))] _ _ (xa_subI rfl rfl (fun _ _ _ _ => by omega) (xa_subI rfl rfl (fun _ _ _ _ => by omega) (xa_subI rfl rfl (fun _ _ _ _ => by omega) (xa_subI rfl rfl (fun _ _ _ _ => by omega) (xa_subI rfl rfl (fun _ _ _ _ => by omega) (xa_subI rfl rfl (fun _ _ _ _ => by omega) (xa_subI rfl rfl (fun _ _ _ _ => by omega) (xa_subR rfl xa_sub0)))))))) ?_
                        exact ih2 (x7 + 1) (((x5 + x6) + x7) + r2) (xa_w32 (x3 + 1)) (xa_up (xa_up (xa_up (xa_up M1 91 0 x5) 91 1 x6) 91 2 x7) 91 3 r2) (by omega) (by omega) (by omega) (by omega) (by omega) (xm_cor_a rfl (xm_cor_a rfl (xm_cor_a rfl (xm_cor_a rfl hc)))) h61 (by omega) (by omega) (by rw [sh_p (show M 60 15 ≤ x7 by omega), tr_a (by omega) (by omega) (by omega) (by omega) c3 er2 (by omega)]; omega) (by omega)
                      · intro (c6 : x4 ≤ (((x5 + x6) + x7) + r2))
                        show Q 103 [(7, (0, 0, 11, 402, x7 + 1)), (9, (0, 0, 21, 2201, ((x5 + x6) + x7) + r2)), (3, (0, 0, (-2147483648), 2147483647, xa_w32 (x3 + 1))), (8, (0, 0, 0, 1000, r2)), (6, (0, 0, 1, 400, x6)), (5, (0, 0, 10, 400, x5)), (4, (0, 0, (-2147483648), 2147483647, x4)), (2, (0, 0, 1, 2, x2)), (1, (0, 0, 0, 7, x1)), (0, (2, 60, 0, 0, 0))] [] M1
                        refine hgo.2.1 103 _ [(7, (0, 0, 10, 401, x7 + 1)), (6, (0, 0, 1, 400, x6)), (5, (0, 0, 10, 400, x5)), (4, (0, 0, (-2147483648), 2147483647, x4)), (3, (0, 0, (-2147483648), 2147483647, xa_w32 (x3 + 1))), (2, (0, 0, 1, 2, x2)), (1, (0, 0, 0, 7, x1)), (0, (2, 60, 0, 0, 0))] _ _ (xa_subI rfl rfl (fun _ _ _ _ => by omega) (xa_subI rfl rfl (fun _ _ _ _ => by omega) (xa_subI rfl rfl (fun _ _ _ _ => by omega) (xa_subI rfl rfl (fun _ _ _ _ => by omega) (xa_subI rfl rfl (fun _ _ _ _ => by omega) (xa_subI rfl rfl (fun _ _ _ _ => by omega) (xa_subI rfl rfl (fun _ _ _ _ => by omega) (xa_subR rfl xa_sub0)))))))) ?_
                        exact ih2 (x7 + 1) x4 (xa_w32 (x3 + 1)) M1 (by omega) (by omega) (by omega) (by omega) (by omega) hc h61 (by omega) (by omega) (by rw [sh_p (show M 60 15 ≤ x7 by omega), tr_a (by omega) (by omega) (by omega) (by omega) c3 er2 (by omega)]; omega) (by omega)
                  · intro (i4 : ¬ (x7 ≤ r2 ∧ r2 ≤ (M1 60 16)))
                    show Q 103 [(7, (0, 0, 11, 402, x7 + 1)), (8, (0, 0, 0, 1000, r2)), (6, (0, 0, 1, 400, x6)), (5, (0, 0, 10, 400, x5)), (4, (0, 0, (-2147483648), 2147483647, x4)), (3, (0, 0, (-2147483648), 2147483647, x3)), (2, (0, 0, 1, 2, x2)), (1, (0, 0, 0, 7, x1)), (0, (2, 60, 0, 0, 0))] [] M1
                    refine hgo.2.1 103 _ [(7, (0, 0, 10, 401, x7 + 1)), (6, (0, 0, 1, 400, x6)), (5, (0, 0, 10, 400, x5)), (4, (0, 0, (-2147483648), 2147483647, x4)), (3, (0, 0, (-2147483648), 2147483647, x3)), (2, (0, 0, 1, 2, x2)), (1, (0, 0, 0, 7, x1)), (0, (2, 60, 0, 0, 0))] _ _ (xa_subI rfl rfl (fun _ _ _ _ => by omega) (xa_subI rfl rfl (fun _ _ _ _ => by omega) (xa_subI rfl rfl (fun _ _ _ _ => by omega) (xa_subI rfl rfl (fun _ _ _ _ => by omega) (xa_subI rfl rfl (fun _ _ _ _ => by omega) (xa_subI rfl rfl (fun _ _ _ _ => by omega) (xa_subI rfl rfl (fun _ _ _ _ => by omega) (xa_subR rfl xa_sub0)))))))) ?_
                    exact ih2 (x7 + 1) x4 x3 M1 (by omega) (by omega) (by omega) (by omega) (by omega) hc h61 (by omega) (by omega) (by rw [sh_p (show M 60 15 ≤ x7 by omega), tr_b (by omega) (by omega) (by omega) (by omega) c3 er2 (by omega)]; omega) (by omega)
                · intro (c3 : x2 = 1)
                  refine And.intro ?_ ?_
                  · intro (c7 : r2 = 1)
                    refine And.intro ?_ ?_
                    · intro (c8 : (xa_w32 (x3 + 1)) ≤ 1)
                      show Q 103 [(7, (0, 0, 11, 402, x7 + 1)), (4, (0, 0, 21, 2201, ((x5 + x6) + x7) + r2)), (9, (0, 0, 21, 2201, ((x5 + x6) + x7) + r2)), (3, (0, 0, (-2147483648), 2147483647, xa_w32 (x3 + 1))), (8, (0, 0, 0, 1000, r2)), (6, (0, 0, 1, 400, x6)), (5, (0, 0, 10, 400, x5)), (2, (0, 0, 1, 2, x2)), (1, (0, 0, 0, 7, x1)), (0, (2, 60, 0, 0, 0))] [] (xa_up (xa_up (xa_up (xa_up M1 91 0 x5) 91 1 x6) 91 2 x7) 91 3 r2)
                      refine hgo.2.1 103 _ [(7, (0, 0, 10, 401, x7 + 1)), (6, (0, 0, 1, 400, x6)), (5, (0, 0, 10, 400, x5)), (4, (0, 0, (-2147483648), 2147483647, ((x5 + x6) + x7) + r2)), (3, (0, 0, (-2147483648), 2147483647, xa_w32 (x3 + 1))), (2, (0, 0, 1, 2, x2)), (1, (0, 0, 0, 7, x1)), (0, (2, 60, 0, 0, 0))] _ _ (xa_subI rfl rfl (fun _ _ _ _ => by omega) (xa_subI rfl rfl (fun _ _ _ _ => by omega) (xa_subI rfl rfl (fun _ _ _ _ => by omega) (xa_subI rfl rfl (fun _ _ _ _ => by omega) (xa_subI rfl rfl (fun _ _ _ _ => by omega) (xa_subI rfl rfl (fun _ _ _ _ => by omega) (xa_subI rfl rfl (fun _ _ _ _ => by omega) (xa_subR rfl xa_sub0)))))))) ?_
                      exact ih2 (x7 + 1) (((x5 + x6) + x7) + r2) (xa_w32 (x3 + 1)) (xa_up (xa_up (xa_up (xa_up M1 91 0 x5) 91 1 x6) 91 2 x7) 91 3 r2) (by omega) (by omega) (by omega) (by omega) (by omega) (xm_cor_a rfl (xm_cor_a rfl (xm_cor_a rfl (xm_cor_a rfl hc)))) h61 (by omega) (by omega) (by rw [sh_p (show M 60 15 ≤ x7 by omega), tr_c c3 (h61.1 c3) er2 c7]; omega) (by omega)
                    · intro (c8 : 1 < (xa_w32 (x3 + 1)))
                      refine And.intro ?_ ?_
                      · intro (c9 : (((x5 + x6) + x7) + r2) < x4)
                        show Q 103 [(7, (0, 0, 11, 402, x7 + 1)), (4, (0, 0, 21, 2201, ((x5 + x6) + x7) + r2)), (9, (0, 0, 21, 2201, ((x5 + x6) + x7) + r2)), (3, (0, 0, (-2147483648), 2147483647, xa_w32 (x3 + 1))), (8, (0, 0, 0, 1000, r2)), (6, (0, 0, 1, 400, x6)), (5, (0, 0, 10, 400, x5)), (2, (0, 0, 1, 2, x2)), (1, (0, 0, 0, 7, x1)), (0, (2, 60, 0, 0, 0))] [] (xa_up (xa_up (xa_up (xa_up M1 91 0 x5) 91 1 x6) 91 2 x7) 91 3 r2)
                        refine hgo.2.1 103 _ [(7, (0, 0, 10, 401, x7 + 1)), (6, (0, 0, 1, 400, x6)), (5, (0, 0, 10, 400, x5)), (4, (0, 0, (-2147483648), 2147483647, ((x5 + x6) + x7) + r2)), (3, (0, 0, (-2147483648), 2147483647, xa_w32 (x3 + 1))), (2, (0, 0, 1, 2, x2)), (1, (0, 0, 0, 7, x1)), (0, (2, 60, 0, 0, 0))] _ _ (xa_subI rfl rfl (fun _ _ _ _ => by omega) (xa_subI rfl rfl (fun _ _ _ _ => by omega) (xa_subI rfl rfl (fun _ _ _ _ => by omega) (xa_subI rfl rfl (fun _ _ _ _ => by omega) (xa_subI rfl rfl (fun _ _ _ _ => by omega) (xa_subI rfl rfl (fun _ _ _ _ => by omega) (xa_subI rfl rfl (fun _ _ _ _ => by omega) (xa_subR rfl xa_sub0)))))))) ?_
                        exact ih2 (x7 + 1) (((x5 + x6) + x7) + r2) (xa_w32 (x3 + 1)) (xa_up (xa_up (xa_up (xa_up M1 91 0 x5) 91 1 x6) 91 2 x7) 91 3 r2) (by omega) (by omega) (by omega) (by omega) (by omega) (xm_cor_a rfl (xm_cor_a rfl (xm_cor_a rfl (xm_cor_a rfl hc)))) h61 (by omega) (by omega) (by rw [sh_p (show M 60 15 ≤ x7 by omega), tr_c c3 (h61.1 c3) er2 c7]; omega) (by omega)
                      · intro (c9 : x4 ≤ (((x5 + x6) + x7) + r2))
                        show Q 103 [(7, (0, 0, 11, 402, x7 + 1)), (9, (0, 0, 21, 2201, ((x5 + x6) + x7) + r2)), (3, (0, 0, (-2147483648), 2147483647, xa_w32 (x3 + 1))), (8, (0, 0, 0, 1000, r2)), (6, (0, 0, 1, 400, x6)), (5, (0, 0, 10, 400, x5)), (4, (0, 0, (-2147483648), 2147483647, x4)), (2, (0, 0, 1, 2, x2)), (1, (0, 0, 0, 7, x1)), (0, (2, 60, 0, 0, 0))] [] M1
                        refine hgo.2.1 103 _ [(7, (0, 0, 10, 401, x7 + 1)), (6, (0, 0, 1, 400, x6)), (5, (0, 0, 10, 400, x5)), (4, (0, 0, (-2147483648), 2147483647, x4)), (3, (0, 0, (-2147483648), 2147483647, xa_w32 (x3 + 1))), (2, (0, 0, 1, 2, x2)), (1, (0, 0, 0, 7, x1)), (0, (2, 60, 0, 0, 0))] _ _ (xa_subI rfl rfl (fun _ _ _ _ => by omega) (xa_subI rfl rfl (fun _ _ _ _ => by omega) (xa_subI rfl rfl (fun _ _ _ _ => by omega) (xa_subI rfl rfl (fun _ _ _ _ => by omega) (xa_subI rfl rfl (fun _ _ _ _ => by omega) (xa_subI rfl rfl (fun _ _ _ _ => by omega) (xa_subI rfl rfl (fun _ _ _ _ => by omega) (xa_subR rfl xa_sub0)))))))) ?_
                        exact ih2 (x7 + 1) x4 (xa_w32 (x3 + 1)) M1 (by omega) (by omega) (by omega) (by omega) (by omega) hc h61 (by omega) (by omega) (by rw [sh_p (show M 60 15 ≤ x7 by omega), tr_c c3 (h61.1 c3) er2 c7]; omega) (by omega)
                  · intro (c7 : ¬ r2 = 1)
                    show Q 103 [(7, (0, 0, 11, 402, x7 + 1)), (8, (0, 0, 0, 1000, r2)), (6, (0, 0, 1, 400, x6)), (5, (0, 0, 10, 400, x5)), (4, (0, 0, (-2147483648), 2147483647, x4)), (3, (0, 0, (-2147483648), 2147483647, x3)), (2, (0, 0, 1, 2, x2)), (1, (0, 0, 0, 7, x1)), (0, (2, 60, 0, 0, 0))] [] M1
                    refine hgo.2.1 103 _ [(7, (0, 0, 10, 401, x7 + 1)), (6, (0, 0, 1, 400, x6)), (5, (0, 0, 10, 400, x5)), (4, (0, 0, (-2147483648), 2147483647, x4)), (3, (0, 0, (-2147483648), 2147483647, x3)), (2, (0, 0, 1, 2, x2)), (1, (0, 0, 0, 7, x1)), (0, (2, 60, 0, 0, 0))] _ _ (xa_subI rfl rfl (fun _ _ _ _ => by omega) (xa_subI rfl rfl (fun _ _ _ _ => by omega) (xa_subI rfl rfl (fun _ _ _ _ => by omega) (xa_subI rfl rfl (fun _ _ _ _ => by omega) (xa_subI rfl rfl (fun _ _ _ _ => by omega) (xa_subI rfl rfl (fun _ _ _ _ => by omega) (xa_subI rfl rfl (fun _ _ _ _ => by omega) (xa_subR rfl xa_sub0)))))))) ?_
                    exact ih2 (x7 + 1) x4 x3 M1 (by omega) (by omega) (by omega) (by omega) (by omega) hc h61 (by omega) (by omega) (by rw [sh_p (show M 60 15 ≤ x7 by omega), tr_d c3 (h61.1 c3) er2 c7]; omega) (by omega)
          refine hgo.1 15 [57, 79, 103, 249] 79 _ _ _ ?_
          refine And.intro ?_ ?_
          · intro (c1 : ¬ x2 = 1)
            refine And.intro ?_ ?_
            · intro (c2 : (M1 60 16) < x6)
              show Q 57 [(5, (0, 0, 11, 401, x5 + 1)), (6, (0, 0, 1, 401, x6)), (4, (0, 0, (-2147483648), 2147483647, x4)), (3, (0, 0, (-2147483648), 2147483647, x3)), (2, (0, 0, 1, 2, x2)), (1, (0, 0, 0, 7, x1)), (0, (2, 60, 0, 0, 0))] [] M1
              refine hgo.2.1 57 _ [(5, (0, 0, 10, 401, x5 + 1)), (4, (0, 0, (-2147483648), 2147483647, x4)), (3, (0, 0, (-2147483648), 2147483647, x3)), (2, (0, 0, 1, 2, x2)), (1, (0, 0, 0, 7, x1)), (0, (2, 60, 0, 0, 0))] _ _ (xa_subI rfl rfl (fun _ _ _ _ => by omega) (xa_subI rfl rfl (fun _ _ _ _ => by omega) (xa_subI rfl rfl (fun _ _ _ _ => by omega) (xa_subI rfl rfl (fun _ _ _ _ => by omega) (xa_subI rfl rfl (fun _ _ _ _ => by omega) (xa_subR rfl xa_sub0)))))) ?_
              have eb : b9 = x5 := (h6.2.2.2 c1).1
              rw [eb] at hn1
              exact ih0 (x5 + 1) x4 x3 x2 x1 M1 (by omega) (by omega) (by omega) hc (by omega) hxa (by omega) (by omega) (by rw [sh_p (show M 60 15 ≤ x5 by omega), ← sh_wy2 c1 (show x6 = M 60 16 + 1 by omega)]; exact hn1) (by omega)
            · intro (c2 : x6 ≤ (M1 60 16))
              show Q 103 [(7, (0, 0, 10, 400, M1 60 15)), (6, (0, 0, 1, 401, x6)), (5, (0, 0, 10, 400, x5)), (4, (0, 0, (-2147483648), 2147483647, x4)), (3, (0, 0, (-2147483648), 2147483647, x3)), (2, (0, 0, 1, 2, x2)), (1, (0, 0, 0, 7, x1)), (0, (2, 60, 0, 0, 0))] [] M1
              refine hgo.2.1 103 _ [(7, (0, 0, 10, 401, M1 60 15)), (6, (0, 0, 1, 400, x6)), (5, (0, 0, 10, 400, x5)), (4, (0, 0, (-2147483648), 2147483647, x4)), (3, (0, 0, (-2147483648), 2147483647, x3)), (2, (0, 0, 1, 2, x2)), (1, (0, 0, 0, 7, x1)), (0, (2, 60, 0, 0, 0))] _ _ (xa_subI rfl rfl (fun _ _ _ _ => by omega) (xa_subI rfl rfl (fun _ _ _ _ => by omega) (xa_subI rfl rfl (fun _ _ _ _ => by omega) (xa_subI rfl rfl (fun _ _ _ _ => by omega) (xa_subI rfl rfl (fun _ _ _ _ => by omega) (xa_subI rfl rfl (fun _ _ _ _ => by omega) (xa_subI rfl rfl (fun _ _ _ _ => by omega) (xa_subR rfl xa_sub0)))))))) ?_
              exact loop2 402 (M1 60 15) x4 x3 M1 (by omega) (by omega) (by omega) (by omega) (by omega) hc (by omega) (by omega) (by omega) (by rw [show (M1 60 15 - M 60 15).toNat = 0 by omega]; show _ = _ + 0; omega) (by omega)
          · intro (c1 : x2 = 1)
            refine And.intro ?_ ?_
            · intro (c3 : 1 < x6)
              show Q 57 [(5, (0, 0, 11, 401, x5 + 1)), (6, (0, 0, 1, 401, x6)), (4, (0, 0, (-2147483648), 2147483647, x4)), (3, (0, 0, (-2147483648), 2147483647, x3)), (2, (0, 0, 1, 2, x2)), (1, (0, 0, 0, 7, x1)), (0, (2, 60, 0, 0, 0))] [] M1
              refine hgo.2.1 57 _ [(5, (0, 0, 10, 401, x5 + 1)), (4, (0, 0, (-2147483648), 2147483647, x4)), (3, (0, 0, (-2147483648), 2147483647, x3)), (2, (0, 0, 1, 2, x2)), (1, (0, 0, 0, 7, x1)), (0, (2, 60, 0, 0, 0))] _ _ (xa_subI rfl rfl (fun _ _ _ _ => by omega) (xa_subI rfl rfl (fun _ _ _ _ => by omega) (xa_subI rfl rfl (fun _ _ _ _ => by omega) (xa_subI rfl rfl (fun _ _ _ _ => by omega) (xa_subI rfl rfl (fun _ _ _ _ => by omega) (xa_subR rfl xa_sub0)))))) ?_
              have eb : b9 = 1 := (h6.2.2.1 c1).1
              rw [eb] at hn1
              exact ih0 (x5 + 1) x4 x3 x2 x1 M1 (by omega) (by omega) (by omega) hc (by omega) hxa (by omega) (by omega) (by rw [sh_p (show M 60 15 ≤ x5 by omega), ← sh_wy1 c1 (show x6 = 2 by omega) (by omega) (by omega) (by omega) (by omega)]; exact hn1) (by omega)
            · intro (c3 : x6 ≤ 1)
              show Q 103 [(7, (0, 0, 10, 400, M1 60 15)), (6, (0, 0, 1, 401, x6)), (5, (0, 0, 10, 400, x5)), (4, (0, 0, (-2147483648), 2147483647, x4)), (3, (0, 0, (-2147483648), 2147483647, x3)), (2, (0, 0, 1, 2, x2)), (1, (0, 0, 0, 7, x1)), (0, (2, 60, 0, 0, 0))] [] M1
              refine hgo.2.1 103 _ [(7, (0, 0, 10, 401, M1 60 15)), (6, (0, 0, 1, 400, x6)), (5, (0, 0, 10, 400, x5)), (4, (0, 0, (-2147483648), 2147483647, x4)), (3, (0, 0, (-2147483648), 2147483647, x3)), (2, (0, 0, 1, 2, x2)), (1, (0, 0, 0, 7, x1)), (0, (2, 60, 0, 0, 0))] _ _ (xa_subI rfl rfl (fun _ _ _ _ => by omega) (xa_subI rfl rfl (fun _ _ _ _ => by omega) (xa_subI rfl rfl (fun _ _ _ _ => by omega) (xa_subI rfl rfl (fun _ _ _ _ => by omega) (xa_subI rfl rfl (fun _ _ _ _ => by omega) (xa_subI rfl rfl (fun _ _ _ _ => by omega) (xa_subI rfl rfl (fun _ _ _ _ => by omega) (xa_subR rfl xa_sub0)))))))) ?_
              exact loop2 402 (M1 60 15) x4 x3 M1 (by omega) (by omega) (by omega) (by omega) (by omega) hc (by omega) (by omega) (by omega) (by rw [show (M1 60 15 - M 60 15).toNat = 0 by omega]; show _ = _ + 0; omega) (by omega)
      refine hgo.1 15 [57, 79, 103, 249] 57 _ _ _ ?_
      refine And.intro ?_ ?_
      · intro (c1 : (M1 60 16) < x5)
        show Q 249 [(5, (0, 0, 0, 0, 0)), (4, (0, 0, (-2147483648), 2147483647, x4)), (3, (0, 0, (-2147483648), 2147483647, x3)), (2, (0, 0, 1, 2, x2)), (1, (0, 0, 0, 7, x1)), (0, (2, 60, 0, 0, 0))] [] (xa_up M1 60 20 0)
        refine hgo.2.1 249 _ [(5, (0, 0, 0, 4, 0)), (3, (0, 0, (-2147483648), 2147483647, x3)), (2, (0, 0, 1, 2, x2)), (0, (2, 60, 0, 0, 0))] _ _ (xa_subI rfl rfl (fun _ _ _ _ => by omega) (xa_subI rfl rfl (fun _ _ _ _ => by omega) (xa_subI rfl rfl (fun _ _ _ _ => by omega) (xa_subR rfl xa_sub0)))) ?_
        exact loop3 5 0 x3 x2 (xa_up M1 60 20 0) (by omega) (by omega) (xm_cor_f (by omega) hc) (by rw [xa_up_eq]; omega) (by have e : x5 = M 60 16 + 1 := (by omega); rw [e, hxa.1, hxa.2.1] at hn; exact tr_Pi (by omega) (by omega) (by omega) hxa.2.2 hn) (by omega)
      · intro (c1 : x5 ≤ (M1 60 16))
        refine And.intro ?_ ?_
        · intro (c2 : ¬ x2 = 1)
          show Q 79 [(6, (0, 0, 10, 401, x5)), (5, (0, 0, 10, 401, x5)), (4, (0, 0, (-2147483648), 2147483647, x4)), (3, (0, 0, (-2147483648), 2147483647, x3)), (2, (0, 0, 1, 2, x2)), (1, (0, 0, 0, 7, x1)), (0, (2, 60, 0, 0, 0))] [] M1
          refine hgo.2.1 79 _ [(6, (0, 0, 1, 401, x5)), (5, (0, 0, 10, 400, x5)), (4, (0, 0, (-2147483648), 2147483647, x4)), (3, (0, 0, (-2147483648), 2147483647, x3)), (2, (0, 0, 1, 2, x2)), (1, (0, 0, 0, 7, x1)), (0, (2, 60, 0, 0, 0))] _ _ (xa_subI rfl rfl (fun _ _ _ _ => by omega) (xa_subI rfl rfl (fun _ _ _ _ => by omega) (xa_subI rfl rfl (fun _ _ _ _ => by omega) (xa_subI rfl rfl (fun _ _ _ _ => by omega) (xa_subI rfl rfl (fun _ _ _ _ => by omega) (xa_subI rfl rfl (fun _ _ _ _ => by omega) (xa_subR rfl xa_sub0))))))) ?_
          exact loop1 x5 402 x5 x4 x3 M1 (by omega) (by omega) (by omega) (by omega) hc (by omega) (by omega) (by rw [show (x5 - x5).toNat = 0 by omega]; show _ = _ + 0; omega) (by omega)
        · intro (c2 : x2 = 1)
          show Q 79 [(6, (0, 0, 1, 1, 1)), (5, (0, 0, 10, 401, x5)), (4, (0, 0, (-2147483648), 2147483647, x4)), (3, (0, 0, (-2147483648), 2147483647, x3)), (2, (0, 0, 1, 2, x2)), (1, (0, 0, 0, 7, x1)), (0, (2, 60, 0, 0, 0))] [] M1
          refine hgo.2.1 79 _ [(6, (0, 0, 1, 401, 1)), (5, (0, 0, 10, 400, x5)), (4, (0, 0, (-2147483648), 2147483647, x4)), (3, (0, 0, (-2147483648), 2147483647, x3)), (2, (0, 0, 1, 2, x2)), (1, (0, 0, 0, 7, x1)), (0, (2, 60, 0, 0, 0))] _ _ (xa_subI rfl rfl (fun _ _ _ _ => by omega) (xa_subI rfl rfl (fun _ _ _ _ => by omega) (xa_subI rfl rfl (fun _ _ _ _ => by omega) (xa_subI rfl rfl (fun _ _ _ _ => by omega) (xa_subI rfl rfl (fun _ _ _ _ => by omega) (xa_subI rfl rfl (fun _ _ _ _ => by omega) (xa_subR rfl xa_sub0))))))) ?_
          exact loop1 1 402 1 x4 x3 M1 (by omega) (by omega) (by omega) (by omega) hc (by omega) (by omega) (by rw [show ((1 : Int) - 1).toNat = 0 by decide]; show _ = _ + 0; omega) (by omega)
  refine hgo.1 18 [24] 0 _ _ _ ?_
  show xa_C xm_I A h0 _ 239 [(2, 60, 0, 0, 0), (0, 0, (-2147483648), 2147483647, a)] (xa_up M 60 21 0) _
  refine ct_isPeriod ?_ ?_
  · intro (i1 : 0 ≤ a ∧ a < (M 60 11))
    show xa_C xm_I A h0 _ 214 [(0, 0, (-2147483648), 2147483647, b), (0, 0, 1, 1, 1), (0, 0, 2, 2, 2)] (xa_up M 60 21 0) _
    refine ct_in ?_ ?_
    · intro (i2 : 1 ≤ b ∧ b ≤ 2)
      show Q 24 [(0, (2, 60, 0, 0, 0)), (1, (0, 0, (-2147483648), 2147483647, a)), (2, (0, 0, (-2147483648), 2147483647, b))] [] (xa_up M 60 21 0)
      refine hgo.2.1 24 _ [(2, (0, 0, 1, 2, b)), (1, (0, 0, 0, 7, a)), (0, (2, 60, 0, 0, 0))] _ _ (xa_subI rfl rfl (fun _ _ _ _ => by omega) (xa_subI rfl rfl (fun _ _ _ _ => by omega) (xa_subR rfl xa_sub0))) ?_
      refine hgo.1 22 [57, 79, 103, 249] 24 _ _ _ ?_
      refine And.intro ?_ ?_
      · intro (c103 : ¬ b = 2)
        show Q 57 [(5, (0, 0, 10, 400, M 60 15)), (4, (0, 0, 0, 0, 0)), (3, (0, 0, 0, 0, 0)), (2, (0, 0, 1, 2, b)), (1, (0, 0, 0, 7, a)), (0, (2, 60, 0, 0, 0))] [] (xa_up M 60 21 0)
        refine hgo.2.1 57 _ [(5, (0, 0, 10, 401, M 60 15)), (4, (0, 0, (-2147483648), 2147483647, 0)), (3, (0, 0, (-2147483648), 2147483647, 0)), (2, (0, 0, 1, 2, b)), (1, (0, 0, 0, 7, a)), (0, (2, 60, 0, 0, 0))] _ _ (xa_subI rfl rfl (fun _ _ _ _ => by omega) (xa_subI rfl rfl (fun _ _ _ _ => by omega) (xa_subI rfl rfl (fun _ _ _ _ => by omega) (xa_subI rfl rfl (fun _ _ _ _ => by omega) (xa_subI rfl rfl (fun _ _ _ _ => by omega) (xa_subR rfl xa_sub0)))))) ?_
        exact loop0 402 (M 60 15) 0 0 b a (xa_up M 60 21 0) (by omega) (by omega) (by omega) (xm_cor_f (by omega) xm_cor_r) (by omega) ⟨rfl, rfl, by omega⟩ (by omega) (by omega) (by rw [show (M 60 15 - M 60 15).toNat = 0 by omega]; rfl) (by omega)
      · intro (c103 : b = 2)
        refine And.intro ?_ ?_
        · intro (c104 : ((M 60 16) - (M 60 15)) ≤ 60)
          show Q 57 [(5, (0, 0, 10, 400, M 60 15)), (4, (0, 0, 0, 0, 0)), (3, (0, 0, 0, 0, 0)), (2, (0, 0, 1, 2, b)), (1, (0, 0, 0, 7, a)), (0, (2, 60, 0, 0, 0))] [] (xa_up M 60 21 0)
          refine hgo.2.1 57 _ [(5, (0, 0, 10, 401, M 60 15)), (4, (0, 0, (-2147483648), 2147483647, 0)), (3, (0, 0, (-2147483648), 2147483647, 0)), (2, (0, 0, 1, 2, b)), (1, (0, 0, 0, 7, a)), (0, (2, 60, 0, 0, 0))] _ _ (xa_subI rfl rfl (fun _ _ _ _ => by omega) (xa_subI rfl rfl (fun _ _ _ _ => by omega) (xa_subI rfl rfl (fun _ _ _ _ => by omega) (xa_subI rfl rfl (fun _ _ _ _ => by omega) (xa_subI rfl rfl (fun _ _ _ _ => by omega) (xa_subR rfl xa_sub0)))))) ?_
          exact loop0 402 (M 60 15) 0 0 b a (xa_up M 60 21 0) (by omega) (by omega) (by omega) (xm_cor_f (by omega) xm_cor_r) (by omega) ⟨rfl, rfl, by omega⟩ (by omega) (by omega) (by rw [show (M 60 15 - M 60 15).toNat = 0 by omega]; rfl) (by omega)
        · intro (c104 : 60 < ((M 60 16) - (M 60 15)))
          show post (some (0, 0, (-4), (-4), (-4))) (xa_up M 60 21 0)
          exact k _ _ _ _ (by unfold tr_P; omega) (xm_cor_f (by omega) xm_cor_r) (by show rz_t b (-4) (M 60 20) (M 60 20); unfold rz_t; omega)
    · intro (i2 : ¬ (1 ≤ b ∧ b ≤ 2))
      show post (some (0, 0, (-1), (-1), (-1))) (xa_up M 60 21 0)
      exact k _ _ _ _ (by unfold tr_P; omega) (xm_cor_f (by omega) xm_cor_r) (by show rz_t b (-1) (M 60 20) (M 60 20); unfold rz_t; omega)
  · intro (i1 : ¬ (0 ≤ a ∧ a < (M 60 11)))
    show post (some (0, 0, (-1), (-1), (-1))) (xa_up M 60 21 0)
    exact k _ _ _ _ (by unfold tr_P; omega) (xm_cor_f (by omega) xm_cor_r) (by show rz_t b (-1) (M 60 20) (M 60 20); unfold rz_t; omega)
theorem rz_p122 (A : Nat → Nat) (cmp : Bool) : iv_pair (rz_J A) A 122 257 [0, 0] cmp false := rz_armV (fun W b h as M hJ hM hInv hs hR hz => by
  obtain ⟨m1, ys, rfl, -, hs⟩ := iv_spc hs
  obtain ⟨m2, ys, rfl, -, hs⟩ := iv_spc hs
  obtain rfl := iv_sp0 hs
  obtain ⟨s1, s2, s3, s4⟩ := lm_Sx.mp hR.2.1
  have y1 : iv_num h 32 0 = M 60 15 := hR.2.2.1
  have y2 : iv_num h 32 1 = M 60 16 := hR.2.2.2.1
  have hMk := xa_H_Mok hM
  have b11 := xm_f11 hMk
  have b15 := xm_f15 hMk
  have b16 := xm_f16 hMk
  have hlh := hInv.2.2.2.1
  have hU : ∀ i, 0 ≤ i → i < iv_num h (bk_p b) 4 → (1 ≤ iv_num h (bk_p b + 1) i ∧ iv_num h (bk_p b + 1) i ≤ 2000) ∧ (1 ≤ iv_num h (bk_p b + 2) i ∧ iv_num h (bk_p b + 2) i ≤ 2000) := fun i i0 i1 => by
    rw [s3] at i1
    obtain ⟨g1, g2, -⟩ := s4 i i0 (by omega) i1
    have t1 := xm_t70 hMk i i0 (by omega)
    have t2 := xm_t71 hMk i i0 (by omega)
    have t3 := hInv.2.2.1 i i0 i1
    rw [g1, g2]
    omega
  have hc := rx_122 (b := b) (A := A) (h0 := h) (d := 56) (M := iv_num h) (l1 := -2147483648) (u1 := 2147483647) (l2 := -2147483648) (u2 := 2147483647) (x1 := m1.toInt) (x2 := m2.toInt) (post := fun o M1 => ∃ lo hi n, o = some (0, 0, lo, hi, n) ∧ ((tr_P (M 60 15) (M 60 16) (M 60 11) (M 70 m1.toInt) (M 71 m1.toInt) m1.toInt m2.toInt n ∧ ∀ (q : Nat) (j : Int), ¬ (q = 48 ∨ q = 49) → M1 q j = iv_num h q j) ∧ rz_t m2.toInt n (iv_num h 48 1) (M1 48 1))) (by omega) (by omega) hU (fun n M1 x1 x2 x3 => ⟨_, _, n, rfl, ⟨by
    rw [y1, y2, s3] at x1
    exact tr_Pe x1 (fun i0 i1 => by
      obtain ⟨g1, g2, -⟩ := s4 _ i0 (by omega) i1
      exact ⟨g1, g2⟩), x2⟩, x3⟩)
  have hm := fun (h1 : g_H) => rm_trains (A := A) (h0 := h1) (d := 57) (M := M) (l1 := -2147483648) (u1 := 2147483647) (l2 := -2147483648) (u2 := 2147483647) (a := m1.toInt) (b := m2.toInt) (post := fun o M2 => (∃ lo hi n, o = some (0, 0, lo, hi, n) ∧ ((tr_P (M 60 15) (M 60 16) (M 60 11) (M 70 m1.toInt) (M 71 m1.toInt) m1.toInt m2.toInt n ∧ xm_cor M M2) ∧ rz_t m2.toInt n (M 60 20) (M2 60 20))) ∧ xm_Inv M2) hInv (fun lo hi r M2 x1 x2 x3 => ⟨⟨lo, hi, r, rfl, ⟨x1, x2⟩, x3⟩, xm_Inv_cor x2 hInv⟩)
  refine ⟨[(2, 0, 0, 0, 0), (0, 0, -2147483648, 2147483647, m1.toInt), (0, 0, -2147483648, 2147483647, m2.toInt)], [(2, 60, 0, 0, 0), (0, 0, -2147483648, 2147483647, m1.toInt), (0, 0, -2147483648, 2147483647, m2.toInt)], _, _, ⟨rfl, iv_i m1, iv_i m2, trivial⟩, ⟨rfl, iv_i m1, iv_i m2, trivial⟩, fun n n' M1 M2 h1 h2 => ⟨fun _ => tr_one h1.1.1 h2.1.1, fun x => h2.1.2 104 x (by unfold xm_scr; omega), fun x => h2.1.2 105 x (by unfold xm_scr; omega), lm_R_k (fun q j hC => ?_) hR, rz_tu (tr_one h1.1.1 h2.1.1) h1.2 h2.2 hz⟩, hc, hm⟩
  unfold xj
  by_cases hq : q < 60
  · rw [if_pos hq, if_pos hq]
    exact h1.1.2 q j (by first | (have t9 := lm_Cq hC; omega) | (unfold lm_C at hC; omega))
  · rw [if_neg hq, if_neg hq]
    exact h2.1.2 q j (by first | (have t9 := lm_Cq hC; unfold xm_scr; omega) | (unfold lm_C at hC; unfold xm_scr; omega)))
theorem rz_134_50 {b : Bool} {A : Nat → Nat} {h0 : g_H} {d : Nat} {M : xa_M} {post : Option xa_V → xa_M → Prop} {l1 u1 x1 : Int} (hL : 10 ≤ M 32 0 ∧ M 32 0 ≤ M 32 1 ∧ M 32 1 ≤ 400) (hD : M 32 1 - M 32 0 ≤ 60) (hp : 0 ≤ M 50 4 ∧ M 50 4 ≤ 8) (hUU : ∀ i : Int, 0 ≤ i → i < M 50 4 → (1 ≤ M 51 i ∧ M 51 i ≤ 2000) ∧ (1 ≤ M 52 i ∧ M 52 i ≤ 2000)) (k : ∀ (M1 : xa_M) (r : Int), (∀ (q : Nat) (j : Int), ¬ (q = 33 ∨ q = 48 ∨ q = 49) → M1 q j = M q j) → r = cm_r (M 32 0) (M 32 1) (M 50 4) x1 (fun p => M 51 p) (fun p => M 52 p) → rz_c (0 ≤ r) (M 48 1) (M1 48 1) 1 → post (some (0, 0, (-2), 400, r)) M1) : xa_C (xl_I b) A h0 (d + 4) 134 [(2, 32, 0, 0, 0), (2, 50, 0, 0, 0), (0, 0, l1, u1, x1), (2, 48, 0, 0, 0)] M post := by
  refine xa_C_wk ?_
  refine xa_C_arg [(2, 32, 0, 0, 0), (2, 50, 0, 0, 0), (0, 0, (-2147483648), 2147483647, x1), (2, 48, 0, 0, 0)] (xa_svR (xa_svR (xa_svI (fun _ _ _ _ => by omega) (xa_svR xa_sv0)))) ?_
  refine xa_meth (Q0 := (6, 1, false, 0, 0, 7)) (by decide +kernel) ⟨rfl, rfl⟩ (full := s_c_134) rfl rfl ?_
  intro hM hv Q hgo
  have loop62 : ∀ (f : Nat) (ti tb : Int) (M1 : xa_M), (∀ (q : Nat) (j : Int), ¬ q = 33 → M1 q j = M q j) → (∀ t : Int, M 32 0 ≤ t → t ≤ M 32 1 → M1 33 (t - M 32 0) = cm_w (M 32 0) (M 32 1) (M 50 4) x1 (fun p => M 51 p) (fun p => M 52 p) t) → (1 ≤ ti ∧ ti ≤ M 32 1 - M 32 0 + 1 ∧ 0 ≤ tb ∧ tb < ti) → M 32 0 + tb = cm_x (fun t => xa_bc (cm_w (M 32 0) (M 32 1) (M 50 4) x1 (fun p => M 51 p) (fun p => M 52 p) t)) (M 32 0) ti.toNat → 401 - ti < (f : Int) → Q 62 [(5, (0, 0, 1, 401, ti)), (4, (0, 0, 0, 400, tb)), (0, (2, 32, 0, 0, 0)), (3, (2, 48, 0, 0, 0))] [] M1 := by
    intro f
    induction f with
    | zero => intro ti tb M1 hk hw h1 hx hms; omega
    | succ f ih62 =>
      intro ti tb M1 hk hw h1 hx hms
      have e0 : M1 32 0 = M 32 0 := hk 32 0 (by decide)
      have e1 : M1 32 1 = M 32 1 := hk 32 1 (by decide)
      refine hgo.1 30 [11, 62] 62 _ _ _ ?_
      refine And.intro ?_ ?_
      · intro (c1 : ((M1 32 1) - (M1 32 0)) < ti)
        show xa_C (xl_I b) A h0 _ 23 [(2, 33, 0, 0, 0), (0, 0, 0, 400, tb)] M1 _
        refine cx_23_33 (show 0 ≤ tb ∧ tb < 61 by omega) ?_
        refine And.intro ?_ ?_
        · intro (c2 : ¬ (M1 33 tb) = 0)
          show xa_C (xl_I b) A h0 _ 59 [(2, 48, 0, 0, 0)] M1 _
          refine rz_59n (N := M1) (fun _ _ _ => rfl) ?_
          intro M125 (i3 : ∀ (q : Nat) (j : Int), ¬ (q = 48 ∨ q = 49) → M125 q j = M1 q j) (i4 : M125 48 1 = 0)
          show xa_C (xl_I b) A h0 _ 23 [(2, 33, 0, 0, 0), (0, 0, 0, 400, tb)] M125 _
          refine cx_23_33 (show 0 ≤ tb ∧ tb < 61 by omega) ?_
          show xa_C (xl_I b) A h0 _ 60 [(2, 48, 0, 0, 0), (1, 0, (-2147483648), 2147483647, M125 33 tb)] M125 _
          refine rz_60n (N := M125) (c := 0) (e := 1) (fun _ _ _ => rfl) (by assumption) (by decide) ?_
          intro M126 (i5 : ∀ (q : Nat) (j : Int), ¬ (q = 48 ∨ q = 49) → M126 q j = M125 q j) (i6 : M126 48 1 = 1)
          show xa_wk post (some (0, 0, 10, 800, (M126 32 0) + tb)) M126
          have ei : ti.toNat = (M 32 1 + 1 - M 32 0).toNat := by omega
          rw [ei] at hx
          have g2 := hw (M 32 0 + tb) (by omega) (by omega)
          rw [show M 32 0 + tb - M 32 0 = tb by omega] at g2
          exact xa_wkI (M 32 0 + tb) (by rw [i5 32 0 (by decide), i3 32 0 (by decide), e0]) (fun _ _ => by omega) (k _ (M 32 0 + tb) (fun q j hq => (i5 q j (fun e => hq (Or.inr e))).trans ((i3 q j (fun e => hq (Or.inr e))).trans (hk q j (fun e => hq (Or.inl e))))) (cm_r1 hx (fun e => c2 (g2.trans e))) (by unfold rz_c; omega))
        · intro (c2 : (M1 33 tb) = 0)
          show xa_wk post (some (0, 0, (-2), (-2), (-2))) M1
          have ei : ti.toNat = (M 32 1 + 1 - M 32 0).toNat := by omega
          rw [ei] at hx
          have g2 := hw (M 32 0 + tb) (by omega) (by omega)
          rw [show M 32 0 + tb - M 32 0 = tb by omega] at g2
          exact xa_wkI (-2) rfl (fun _ _ => by omega) (k M1 (-2) (fun q j hq => hk q j (fun e => hq (Or.inl e))) (cm_r0 hx (g2.symm.trans c2)) (by have z9 := hk 48 1 (by omega); unfold rz_c; omega))
      · intro (c1 : ti ≤ ((M1 32 1) - (M1 32 0)))
        show xa_C (xl_I b) A h0 _ 23 [(2, 33, 0, 0, 0), (0, 0, 1, 401, ti)] M1 _
        refine cx_23_33 (show 0 ≤ ti ∧ ti < 61 by omega) ?_
        show xa_C (xl_I b) A h0 _ 136 [(0, 0, (-2147483648), 2147483647, M1 33 ti)] M1 _
        refine ct_bitCount ?_
        show xa_C (xl_I b) A h0 _ 23 [(2, 33, 0, 0, 0), (0, 0, 0, 400, tb)] M1 _
        refine cx_23_33 (show 0 ≤ tb ∧ tb < 61 by omega) ?_
        show xa_C (xl_I b) A h0 _ 136 [(0, 0, (-2147483648), 2147483647, M1 33 tb)] M1 _
        refine ct_bitCount ?_
        refine And.intro ?_ ?_
        · intro (c7 : (xa_bc (M1 33 ti)) ≤ (xa_bc (M1 33 tb)))
          show Q 62 [(5, (0, 0, 2, 402, ti + 1)), (4, (0, 0, 0, 400, tb)), (0, (2, 32, 0, 0, 0)), (3, (2, 48, 0, 0, 0))] [] M1
          refine hgo.2.1 62 _ [(5, (0, 0, 1, 401, ti + 1)), (4, (0, 0, 0, 400, tb)), (0, (2, 32, 0, 0, 0)), (3, (2, 48, 0, 0, 0))] _ _ (xa_subI rfl rfl (fun _ _ _ _ => by omega) (xa_subI rfl rfl (fun _ _ _ _ => by omega) (xa_subR rfl (xa_subR rfl (xa_sub0))))) ?_
          have en : (ti + 1).toNat = ti.toNat + 1 := by omega
          have g1 := hw (M 32 0 + ti) (by omega) (by omega)
          have g2 := hw (M 32 0 + tb) (by omega) (by omega)
          rw [show M 32 0 + ti - M 32 0 = ti by omega] at g1
          rw [show M 32 0 + tb - M 32 0 = tb by omega] at g2
          have g3 := c7
          rw [g1, g2] at g3
          exact ih62 (ti + 1) tb M1 hk hw (by omega) (by rw [en]; exact cm_x0 hx (show M 32 0 + ti = M 32 0 + ((ti.toNat : Nat) : Int) by omega) (Int.not_lt.mpr g3)) (by omega)
        · intro (c7 : (xa_bc (M1 33 tb)) < (xa_bc (M1 33 ti)))
          show Q 62 [(5, (0, 0, 2, 402, ti + 1)), (4, (0, 0, 1, 401, ti)), (0, (2, 32, 0, 0, 0)), (3, (2, 48, 0, 0, 0))] [] M1
          refine hgo.2.1 62 _ [(5, (0, 0, 1, 401, ti + 1)), (4, (0, 0, 0, 400, ti)), (0, (2, 32, 0, 0, 0)), (3, (2, 48, 0, 0, 0))] _ _ (xa_subI rfl rfl (fun _ _ _ _ => by omega) (xa_subI rfl rfl (fun _ _ _ _ => by omega) (xa_subR rfl (xa_subR rfl (xa_sub0))))) ?_
          have en : (ti + 1).toNat = ti.toNat + 1 := by omega
          have g1 := hw (M 32 0 + ti) (by omega) (by omega)
          have g2 := hw (M 32 0 + tb) (by omega) (by omega)
          rw [show M 32 0 + ti - M 32 0 = ti by omega] at g1
          rw [show M 32 0 + tb - M 32 0 = tb by omega] at g2
          have g3 := c7
          rw [g1, g2] at g3
          exact ih62 (ti + 1) ti M1 hk hw (by omega) (by rw [en]; exact cm_x1 hx (show M 32 0 + ti = M 32 0 + ((ti.toNat : Nat) : Int) by omega) g3) (by omega)
  have loop11 : ∀ (f : Nat) (tp : Int) (M1 : xa_M), (∀ (q : Nat) (j : Int), ¬ q = 33 → M1 q j = M q j) → (0 ≤ tp ∧ tp ≤ M 50 4) → (∀ t : Int, M 32 0 ≤ t → t ≤ M 32 1 → M1 33 (t - M 32 0) = cm_f (cm_p (M 32 0) (M 32 1) x1 (fun p => M 51 p) (fun p => M 52 p)) 0 tp.toNat (fun _ => 0) t) → 8 - tp < (f : Int) → Q 11 [(4, (0, 0, 0, 8, tp)), (0, (2, 32, 0, 0, 0)), (1, (2, 50, 0, 0, 0)), (2, (0, 0, (-2147483648), 2147483647, x1)), (3, (2, 48, 0, 0, 0))] [] M1 := by
    intro f
    induction f with
    | zero => intro tp M1 hk h1 hw hms; omega
    | succ f ih11 =>
      intro tp M1 hk h1 hw hms
      have e0 : M1 32 0 = M 32 0 := hk 32 0 (by decide)
      have e1 : M1 32 1 = M 32 1 := hk 32 1 (by decide)
      have e4 : M1 50 4 = M 50 4 := hk 50 4 (by decide)
      have eU : M1 51 tp = M 51 tp := hk 51 tp (by decide)
      have eV : M1 52 tp = M 52 tp := hk 52 tp (by decide)
      have hu := hUU tp
      have hL1 : 10 ≤ M1 32 0 ∧ M1 32 0 ≤ M1 32 1 ∧ M1 32 1 ≤ 400 := by omega
      have hD1 : M1 32 1 - M1 32 0 ≤ 60 := by omega
      have hw1 : ∀ t : Int, M1 32 0 ≤ t → t ≤ M1 32 1 → M1 33 (t - M1 32 0) = cm_f (cm_p (M 32 0) (M 32 1) x1 (fun p => M 51 p) (fun p => M 52 p)) 0 tp.toNat (fun _ => 0) t := by
        rw [e0, e1]
        exact hw
      refine hgo.1 29 [11, 62] 11 _ _ _ ?_
      refine And.intro ?_ ?_
      · intro (c1 : (M1 50 4) ≤ tp)
        show Q 62 [(5, (0, 0, 1, 1, 1)), (4, (0, 0, 0, 0, 0)), (0, (2, 32, 0, 0, 0)), (1, (2, 50, 0, 0, 0)), (2, (0, 0, (-2147483648), 2147483647, x1)), (3, (2, 48, 0, 0, 0))] [] M1
        refine hgo.2.1 62 _ [(5, (0, 0, 1, 401, 1)), (4, (0, 0, 0, 400, 0)), (0, (2, 32, 0, 0, 0)), (3, (2, 48, 0, 0, 0))] _ _ (xa_subI rfl rfl (fun _ _ _ _ => by omega) (xa_subI rfl rfl (fun _ _ _ _ => by omega) (xa_subR rfl (xa_subR rfl (xa_sub0))))) ?_
        have ep : tp = M 50 4 := by omega
        rw [ep] at hw
        exact loop62 402 1 0 M1 hk hw (by omega) (by rw [show (1 : Int).toNat = 1 by decide, cm_xi]; omega) (by omega)
      · intro (c1 : tp < (M1 50 4))
        refine And.intro ?_ ?_
        · intro (c2 : ¬ (xa_ib 3 (xa_ib 7 x1 tp) 1) = 1)
          show Q 11 [(4, (0, 0, 1, 9, tp + 1)), (0, (2, 32, 0, 0, 0)), (1, (2, 50, 0, 0, 0)), (2, (0, 0, (-2147483648), 2147483647, x1)), (3, (2, 48, 0, 0, 0))] [] M1
          refine hgo.2.1 11 _ [(4, (0, 0, 0, 8, tp + 1)), (0, (2, 32, 0, 0, 0)), (1, (2, 50, 0, 0, 0)), (2, (0, 0, (-2147483648), 2147483647, x1)), (3, (2, 48, 0, 0, 0))] _ _ (xa_subI rfl rfl (fun _ _ _ _ => by omega) (xa_subR rfl (xa_subR rfl (xa_subI rfl rfl (fun _ _ _ _ => by omega) (xa_subR rfl (xa_sub0)))))) ?_
          have ep : ((tp.toNat : Nat) : Int) = tp := Int.toNat_of_nonneg (by omega)
          have en : (tp + 1).toNat = tp.toNat + 1 := by omega
          have q1 : cm_f (cm_p (M 32 0) (M 32 1) x1 (fun p => M 51 p) (fun p => M 52 p)) 0 (tp + 1).toNat (fun _ => 0) = cm_f (cm_p (M 32 0) (M 32 1) x1 (fun p => M 51 p) (fun p => M 52 p)) 0 tp.toNat (fun _ => 0) := by
            rw [en]
            show cm_p (M 32 0) (M 32 1) x1 (fun p => M 51 p) (fun p => M 52 p) (0 + ((tp.toNat : Nat) : Int)) (cm_f (cm_p (M 32 0) (M 32 1) x1 (fun p => M 51 p) (fun p => M 52 p)) 0 tp.toNat (fun _ => 0)) = _
            rw [Int.zero_add, ep]
            exact if_neg c2
          exact ih11 (tp + 1) M1 hk (by omega) (fun t t0 t1 => by rw [q1]; exact hw t t0 t1) (by omega)
        · intro (c2 : (xa_ib 3 (xa_ib 7 x1 tp) 1) = 1)
          show xa_C (xl_I b) A h0 _ 65 [(2, 50, 0, 0, 0), (0, 0, 0, 8, tp)] M1 _
          refine cx_65_50 (show 0 ≤ tp ∧ tp < 8 by omega) ?_
          show xa_C (xl_I b) A h0 _ 64 [(2, 50, 0, 0, 0), (0, 0, 0, 8, tp)] M1 _
          refine cx_64_50 (show 0 ≤ tp ∧ tp < 8 by omega) ?_
          show xa_C (xl_I b) A h0 _ 135 [(2, 32, 0, 0, 0), (0, 0, (-2147483648), 2147483647, xa_ib 6 1 tp), (1, 0, (-2147483648), 2147483647, M1 51 tp), (1, 0, (-2147483648), 2147483647, M1 52 tp)] M1 _
          refine cx_135f (W := cm_f (cm_p (M 32 0) (M 32 1) x1 (fun p => M 51 p) (fun p => M 52 p)) 0 tp.toNat (fun _ => 0)) hL1 hD1 (by omega) (by omega) hw1 ?_
          intro M124 (i3 : ∀ (q : Nat) (j : Int), ¬ q = 33 → M124 q j = M1 q j) (i4 : ∀ t : Int, M1 32 0 ≤ t → t ≤ M1 32 1 → M124 33 (t - M1 32 0) = cm_f (cm_a (M1 32 0) (M1 32 1) (M1 51 tp) (M1 52 tp) (xa_ib 6 1 tp)) (M1 32 0) (M1 32 1 + 1 - M1 32 0).toNat (cm_f (cm_p (M 32 0) (M 32 1) x1 (fun p => M 51 p) (fun p => M 52 p)) 0 tp.toNat (fun _ => 0)) t)
          show Q 11 [(4, (0, 0, 1, 9, tp + 1)), (0, (2, 32, 0, 0, 0)), (1, (2, 50, 0, 0, 0)), (2, (0, 0, (-2147483648), 2147483647, x1)), (3, (2, 48, 0, 0, 0))] [] M124
          refine hgo.2.1 11 _ [(4, (0, 0, 0, 8, tp + 1)), (0, (2, 32, 0, 0, 0)), (1, (2, 50, 0, 0, 0)), (2, (0, 0, (-2147483648), 2147483647, x1)), (3, (2, 48, 0, 0, 0))] _ _ (xa_subI rfl rfl (fun _ _ _ _ => by omega) (xa_subR rfl (xa_subR rfl (xa_subI rfl rfl (fun _ _ _ _ => by omega) (xa_subR rfl (xa_sub0)))))) ?_
          have ep : ((tp.toNat : Nat) : Int) = tp := Int.toNat_of_nonneg (by omega)
          have en : (tp + 1).toNat = tp.toNat + 1 := by omega
          have q1 : cm_f (cm_p (M 32 0) (M 32 1) x1 (fun p => M 51 p) (fun p => M 52 p)) 0 (tp + 1).toNat (fun _ => 0) = cm_f (cm_a (M 32 0) (M 32 1) (M 51 tp) (M 52 tp) (xa_ib 6 1 tp)) (M 32 0) (M 32 1 + 1 - M 32 0).toNat (cm_f (cm_p (M 32 0) (M 32 1) x1 (fun p => M 51 p) (fun p => M 52 p)) 0 tp.toNat (fun _ => 0)) := by
            rw [en]
            show cm_p (M 32 0) (M 32 1) x1 (fun p => M 51 p) (fun p => M 52 p) (0 + ((tp.toNat : Nat) : Int)) (cm_f (cm_p (M 32 0) (M 32 1) x1 (fun p => M 51 p) (fun p => M 52 p)) 0 tp.toNat (fun _ => 0)) = _
            rw [Int.zero_add, ep]
            exact if_pos c2
          rw [e0, e1, eU, eV] at i4
          exact ih11 (tp + 1) M124 (fun q j hq => (i3 q j hq).trans (hk q j hq)) (by omega) (fun t t0 t1 => by rw [q1]; exact i4 t t0 t1) (by omega)
  refine hgo.1 11 [11, 62] 0 _ _ _ ?_
  show xa_C (xl_I b) A h0 _ 77 [(2, 33, 0, 0, 0), (0, 0, 0, 0, 0)] M _
  refine cx_77h ?_
  intro M127 (i1 : ∀ (q : Nat) (j : Int), ¬ q = 33 → M127 q j = M q j) (i2 : ∀ j : Int, 0 ≤ j → j < 61 → M127 33 j = 0)
  show Q 11 [(4, (0, 0, 0, 0, 0)), (0, (2, 32, 0, 0, 0)), (1, (2, 50, 0, 0, 0)), (2, (0, 0, (-2147483648), 2147483647, x1)), (3, (2, 48, 0, 0, 0))] [] M127
  refine hgo.2.1 11 _ [(4, (0, 0, 0, 8, 0)), (0, (2, 32, 0, 0, 0)), (1, (2, 50, 0, 0, 0)), (2, (0, 0, (-2147483648), 2147483647, x1)), (3, (2, 48, 0, 0, 0))] _ _ (xa_subI rfl rfl (fun _ _ _ _ => by omega) (xa_subR rfl (xa_subR rfl (xa_subI rfl rfl (fun _ _ _ _ => by omega) (xa_subR rfl (xa_sub0)))))) ?_
  exact loop11 9 0 M127 i1 (by omega) (fun t t0 t1 => i2 (t - M 32 0) (by omega) (by omega)) (by omega)
theorem rz_134_55 {b : Bool} {A : Nat → Nat} {h0 : g_H} {d : Nat} {M : xa_M} {post : Option xa_V → xa_M → Prop} {l1 u1 x1 : Int} (hL : 10 ≤ M 32 0 ∧ M 32 0 ≤ M 32 1 ∧ M 32 1 ≤ 400) (hD : M 32 1 - M 32 0 ≤ 60) (hp : 0 ≤ M 55 4 ∧ M 55 4 ≤ 8) (hUU : ∀ i : Int, 0 ≤ i → i < M 55 4 → (1 ≤ M 56 i ∧ M 56 i ≤ 2000) ∧ (1 ≤ M 57 i ∧ M 57 i ≤ 2000)) (k : ∀ (M1 : xa_M) (r : Int), (∀ (q : Nat) (j : Int), ¬ (q = 33 ∨ q = 48 ∨ q = 49) → M1 q j = M q j) → r = cm_r (M 32 0) (M 32 1) (M 55 4) x1 (fun p => M 56 p) (fun p => M 57 p) → rz_c (0 ≤ r) (M 48 1) (M1 48 1) 1 → post (some (0, 0, (-2), 400, r)) M1) : xa_C (xl_I b) A h0 (d + 4) 134 [(2, 32, 0, 0, 0), (2, 55, 0, 0, 0), (0, 0, l1, u1, x1), (2, 48, 0, 0, 0)] M post := by
  refine xa_C_wk ?_
  refine xa_C_arg [(2, 32, 0, 0, 0), (2, 55, 0, 0, 0), (0, 0, (-2147483648), 2147483647, x1), (2, 48, 0, 0, 0)] (xa_svR (xa_svR (xa_svI (fun _ _ _ _ => by omega) (xa_svR xa_sv0)))) ?_
  refine xa_meth (Q0 := (6, 1, false, 0, 0, 7)) (by decide +kernel) ⟨rfl, rfl⟩ (full := s_c_134) rfl rfl ?_
  intro hM hv Q hgo
  have loop62 : ∀ (f : Nat) (ti tb : Int) (M1 : xa_M), (∀ (q : Nat) (j : Int), ¬ q = 33 → M1 q j = M q j) → (∀ t : Int, M 32 0 ≤ t → t ≤ M 32 1 → M1 33 (t - M 32 0) = cm_w (M 32 0) (M 32 1) (M 55 4) x1 (fun p => M 56 p) (fun p => M 57 p) t) → (1 ≤ ti ∧ ti ≤ M 32 1 - M 32 0 + 1 ∧ 0 ≤ tb ∧ tb < ti) → M 32 0 + tb = cm_x (fun t => xa_bc (cm_w (M 32 0) (M 32 1) (M 55 4) x1 (fun p => M 56 p) (fun p => M 57 p) t)) (M 32 0) ti.toNat → 401 - ti < (f : Int) → Q 62 [(5, (0, 0, 1, 401, ti)), (4, (0, 0, 0, 400, tb)), (0, (2, 32, 0, 0, 0)), (3, (2, 48, 0, 0, 0))] [] M1 := by
    intro f
    induction f with
    | zero => intro ti tb M1 hk hw h1 hx hms; omega
    | succ f ih62 =>
      intro ti tb M1 hk hw h1 hx hms
      have e0 : M1 32 0 = M 32 0 := hk 32 0 (by decide)
      have e1 : M1 32 1 = M 32 1 := hk 32 1 (by decide)
      refine hgo.1 30 [11, 62] 62 _ _ _ ?_
      refine And.intro ?_ ?_
      · intro (c1 : ((M1 32 1) - (M1 32 0)) < ti)
        show xa_C (xl_I b) A h0 _ 23 [(2, 33, 0, 0, 0), (0, 0, 0, 400, tb)] M1 _
        refine cx_23_33 (show 0 ≤ tb ∧ tb < 61 by omega) ?_
        refine And.intro ?_ ?_
        · intro (c2 : ¬ (M1 33 tb) = 0)
          show xa_C (xl_I b) A h0 _ 59 [(2, 48, 0, 0, 0)] M1 _
          refine rz_59n (N := M1) (fun _ _ _ => rfl) ?_
          intro M129 (i3 : ∀ (q : Nat) (j : Int), ¬ (q = 48 ∨ q = 49) → M129 q j = M1 q j) (i4 : M129 48 1 = 0)
          show xa_C (xl_I b) A h0 _ 23 [(2, 33, 0, 0, 0), (0, 0, 0, 400, tb)] M129 _
          refine cx_23_33 (show 0 ≤ tb ∧ tb < 61 by omega) ?_
          show xa_C (xl_I b) A h0 _ 60 [(2, 48, 0, 0, 0), (1, 0, (-2147483648), 2147483647, M129 33 tb)] M129 _
          refine rz_60n (N := M129) (c := 0) (e := 1) (fun _ _ _ => rfl) (by assumption) (by decide) ?_
          intro M130 (i5 : ∀ (q : Nat) (j : Int), ¬ (q = 48 ∨ q = 49) → M130 q j = M129 q j) (i6 : M130 48 1 = 1)
          show xa_wk post (some (0, 0, 10, 800, (M130 32 0) + tb)) M130
          have ei : ti.toNat = (M 32 1 + 1 - M 32 0).toNat := by omega
          rw [ei] at hx
          have g2 := hw (M 32 0 + tb) (by omega) (by omega)
          rw [show M 32 0 + tb - M 32 0 = tb by omega] at g2
          exact xa_wkI (M 32 0 + tb) (by rw [i5 32 0 (by decide), i3 32 0 (by decide), e0]) (fun _ _ => by omega) (k _ (M 32 0 + tb) (fun q j hq => (i5 q j (fun e => hq (Or.inr e))).trans ((i3 q j (fun e => hq (Or.inr e))).trans (hk q j (fun e => hq (Or.inl e))))) (cm_r1 hx (fun e => c2 (g2.trans e))) (by unfold rz_c; omega))
        · intro (c2 : (M1 33 tb) = 0)
          show xa_wk post (some (0, 0, (-2), (-2), (-2))) M1
          have ei : ti.toNat = (M 32 1 + 1 - M 32 0).toNat := by omega
          rw [ei] at hx
          have g2 := hw (M 32 0 + tb) (by omega) (by omega)
          rw [show M 32 0 + tb - M 32 0 = tb by omega] at g2
          exact xa_wkI (-2) rfl (fun _ _ => by omega) (k M1 (-2) (fun q j hq => hk q j (fun e => hq (Or.inl e))) (cm_r0 hx (g2.symm.trans c2)) (by have z9 := hk 48 1 (by omega); unfold rz_c; omega))
      · intro (c1 : ti ≤ ((M1 32 1) - (M1 32 0)))
        show xa_C (xl_I b) A h0 _ 23 [(2, 33, 0, 0, 0), (0, 0, 1, 401, ti)] M1 _
        refine cx_23_33 (show 0 ≤ ti ∧ ti < 61 by omega) ?_
        show xa_C (xl_I b) A h0 _ 136 [(0, 0, (-2147483648), 2147483647, M1 33 ti)] M1 _
        refine ct_bitCount ?_
        show xa_C (xl_I b) A h0 _ 23 [(2, 33, 0, 0, 0), (0, 0, 0, 400, tb)] M1 _
        refine cx_23_33 (show 0 ≤ tb ∧ tb < 61 by omega) ?_
        show xa_C (xl_I b) A h0 _ 136 [(0, 0, (-2147483648), 2147483647, M1 33 tb)] M1 _
        refine ct_bitCount ?_
        refine And.intro ?_ ?_
        · intro (c7 : (xa_bc (M1 33 ti)) ≤ (xa_bc (M1 33 tb)))
          show Q 62 [(5, (0, 0, 2, 402, ti + 1)), (4, (0, 0, 0, 400, tb)), (0, (2, 32, 0, 0, 0)), (3, (2, 48, 0, 0, 0))] [] M1
          refine hgo.2.1 62 _ [(5, (0, 0, 1, 401, ti + 1)), (4, (0, 0, 0, 400, tb)), (0, (2, 32, 0, 0, 0)), (3, (2, 48, 0, 0, 0))] _ _ (xa_subI rfl rfl (fun _ _ _ _ => by omega) (xa_subI rfl rfl (fun _ _ _ _ => by omega) (xa_subR rfl (xa_subR rfl (xa_sub0))))) ?_
          have en : (ti + 1).toNat = ti.toNat + 1 := by omega
          have g1 := hw (M 32 0 + ti) (by omega) (by omega)
          have g2 := hw (M 32 0 + tb) (by omega) (by omega)
          rw [show M 32 0 + ti - M 32 0 = ti by omega] at g1
          rw [show M 32 0 + tb - M 32 0 = tb by omega] at g2
          have g3 := c7
          rw [g1, g2] at g3
          exact ih62 (ti + 1) tb M1 hk hw (by omega) (by rw [en]; exact cm_x0 hx (show M 32 0 + ti = M 32 0 + ((ti.toNat : Nat) : Int) by omega) (Int.not_lt.mpr g3)) (by omega)
        · intro (c7 : (xa_bc (M1 33 tb)) < (xa_bc (M1 33 ti)))
          show Q 62 [(5, (0, 0, 2, 402, ti + 1)), (4, (0, 0, 1, 401, ti)), (0, (2, 32, 0, 0, 0)), (3, (2, 48, 0, 0, 0))] [] M1
          refine hgo.2.1 62 _ [(5, (0, 0, 1, 401, ti + 1)), (4, (0, 0, 0, 400, ti)), (0, (2, 32, 0, 0, 0)), (3, (2, 48, 0, 0, 0))] _ _ (xa_subI rfl rfl (fun _ _ _ _ => by omega) (xa_subI rfl rfl (fun _ _ _ _ => by omega) (xa_subR rfl (xa_subR rfl (xa_sub0))))) ?_
          have en : (ti + 1).toNat = ti.toNat + 1 := by omega
          have g1 := hw (M 32 0 + ti) (by omega) (by omega)
          have g2 := hw (M 32 0 + tb) (by omega) (by omega)
          rw [show M 32 0 + ti - M 32 0 = ti by omega] at g1
          rw [show M 32 0 + tb - M 32 0 = tb by omega] at g2
          have g3 := c7
          rw [g1, g2] at g3
          exact ih62 (ti + 1) ti M1 hk hw (by omega) (by rw [en]; exact cm_x1 hx (show M 32 0 + ti = M 32 0 + ((ti.toNat : Nat) : Int) by omega) g3) (by omega)
  have loop11 : ∀ (f : Nat) (tp : Int) (M1 : xa_M), (∀ (q : Nat) (j : Int), ¬ q = 33 → M1 q j = M q j) → (0 ≤ tp ∧ tp ≤ M 55 4) → (∀ t : Int, M 32 0 ≤ t → t ≤ M 32 1 → M1 33 (t - M 32 0) = cm_f (cm_p (M 32 0) (M 32 1) x1 (fun p => M 56 p) (fun p => M 57 p)) 0 tp.toNat (fun _ => 0) t) → 8 - tp < (f : Int) → Q 11 [(4, (0, 0, 0, 8, tp)), (0, (2, 32, 0, 0, 0)), (1, (2, 55, 0, 0, 0)), (2, (0, 0, (-2147483648), 2147483647, x1)), (3, (2, 48, 0, 0, 0))] [] M1 := by
    intro f
    induction f with
    | zero => intro tp M1 hk h1 hw hms; omega
    | succ f ih11 =>
      intro tp M1 hk h1 hw hms
      have e0 : M1 32 0 = M 32 0 := hk 32 0 (by decide)
      have e1 : M1 32 1 = M 32 1 := hk 32 1 (by decide)
      have e4 : M1 55 4 = M 55 4 := hk 55 4 (by decide)
      have eU : M1 56 tp = M 56 tp := hk 56 tp (by decide)
      have eV : M1 57 tp = M 57 tp := hk 57 tp (by decide)
      have hu := hUU tp
      have hL1 : 10 ≤ M1 32 0 ∧ M1 32 0 ≤ M1 32 1 ∧ M1 32 1 ≤ 400 := by omega
      have hD1 : M1 32 1 - M1 32 0 ≤ 60 := by omega
      have hw1 : ∀ t : Int, M1 32 0 ≤ t → t ≤ M1 32 1 → M1 33 (t - M1 32 0) = cm_f (cm_p (M 32 0) (M 32 1) x1 (fun p => M 56 p) (fun p => M 57 p)) 0 tp.toNat (fun _ => 0) t := by
        rw [e0, e1]
        exact hw
      refine hgo.1 29 [11, 62] 11 _ _ _ ?_
      refine And.intro ?_ ?_
      · intro (c1 : (M1 55 4) ≤ tp)
        show Q 62 [(5, (0, 0, 1, 1, 1)), (4, (0, 0, 0, 0, 0)), (0, (2, 32, 0, 0, 0)), (1, (2, 55, 0, 0, 0)), (2, (0, 0, (-2147483648), 2147483647, x1)), (3, (2, 48, 0, 0, 0))] [] M1
        refine hgo.2.1 62 _ [(5, (0, 0, 1, 401, 1)), (4, (0, 0, 0, 400, 0)), (0, (2, 32, 0, 0, 0)), (3, (2, 48, 0, 0, 0))] _ _ (xa_subI rfl rfl (fun _ _ _ _ => by omega) (xa_subI rfl rfl (fun _ _ _ _ => by omega) (xa_subR rfl (xa_subR rfl (xa_sub0))))) ?_
        have ep : tp = M 55 4 := by omega
        rw [ep] at hw
        exact loop62 402 1 0 M1 hk hw (by omega) (by rw [show (1 : Int).toNat = 1 by decide, cm_xi]; omega) (by omega)
      · intro (c1 : tp < (M1 55 4))
        refine And.intro ?_ ?_
        · intro (c2 : ¬ (xa_ib 3 (xa_ib 7 x1 tp) 1) = 1)
          show Q 11 [(4, (0, 0, 1, 9, tp + 1)), (0, (2, 32, 0, 0, 0)), (1, (2, 55, 0, 0, 0)), (2, (0, 0, (-2147483648), 2147483647, x1)), (3, (2, 48, 0, 0, 0))] [] M1
          refine hgo.2.1 11 _ [(4, (0, 0, 0, 8, tp + 1)), (0, (2, 32, 0, 0, 0)), (1, (2, 55, 0, 0, 0)), (2, (0, 0, (-2147483648), 2147483647, x1)), (3, (2, 48, 0, 0, 0))] _ _ (xa_subI rfl rfl (fun _ _ _ _ => by omega) (xa_subR rfl (xa_subR rfl (xa_subI rfl rfl (fun _ _ _ _ => by omega) (xa_subR rfl (xa_sub0)))))) ?_
          have ep : ((tp.toNat : Nat) : Int) = tp := Int.toNat_of_nonneg (by omega)
          have en : (tp + 1).toNat = tp.toNat + 1 := by omega
          have q1 : cm_f (cm_p (M 32 0) (M 32 1) x1 (fun p => M 56 p) (fun p => M 57 p)) 0 (tp + 1).toNat (fun _ => 0) = cm_f (cm_p (M 32 0) (M 32 1) x1 (fun p => M 56 p) (fun p => M 57 p)) 0 tp.toNat (fun _ => 0) := by
            rw [en]
            show cm_p (M 32 0) (M 32 1) x1 (fun p => M 56 p) (fun p => M 57 p) (0 + ((tp.toNat : Nat) : Int)) (cm_f (cm_p (M 32 0) (M 32 1) x1 (fun p => M 56 p) (fun p => M 57 p)) 0 tp.toNat (fun _ => 0)) = _
            rw [Int.zero_add, ep]
            exact if_neg c2
          exact ih11 (tp + 1) M1 hk (by omega) (fun t t0 t1 => by rw [q1]; exact hw t t0 t1) (by omega)
        · intro (c2 : (xa_ib 3 (xa_ib 7 x1 tp) 1) = 1)
          show xa_C (xl_I b) A h0 _ 65 [(2, 55, 0, 0, 0), (0, 0, 0, 8, tp)] M1 _
          refine cx_65_55 (show 0 ≤ tp ∧ tp < 8 by omega) ?_
          show xa_C (xl_I b) A h0 _ 64 [(2, 55, 0, 0, 0), (0, 0, 0, 8, tp)] M1 _
          refine cx_64_55 (show 0 ≤ tp ∧ tp < 8 by omega) ?_
          show xa_C (xl_I b) A h0 _ 135 [(2, 32, 0, 0, 0), (0, 0, (-2147483648), 2147483647, xa_ib 6 1 tp), (1, 0, (-2147483648), 2147483647, M1 56 tp), (1, 0, (-2147483648), 2147483647, M1 57 tp)] M1 _
          refine cx_135f (W := cm_f (cm_p (M 32 0) (M 32 1) x1 (fun p => M 56 p) (fun p => M 57 p)) 0 tp.toNat (fun _ => 0)) hL1 hD1 (by omega) (by omega) hw1 ?_
          intro M128 (i3 : ∀ (q : Nat) (j : Int), ¬ q = 33 → M128 q j = M1 q j) (i4 : ∀ t : Int, M1 32 0 ≤ t → t ≤ M1 32 1 → M128 33 (t - M1 32 0) = cm_f (cm_a (M1 32 0) (M1 32 1) (M1 56 tp) (M1 57 tp) (xa_ib 6 1 tp)) (M1 32 0) (M1 32 1 + 1 - M1 32 0).toNat (cm_f (cm_p (M 32 0) (M 32 1) x1 (fun p => M 56 p) (fun p => M 57 p)) 0 tp.toNat (fun _ => 0)) t)
          show Q 11 [(4, (0, 0, 1, 9, tp + 1)), (0, (2, 32, 0, 0, 0)), (1, (2, 55, 0, 0, 0)), (2, (0, 0, (-2147483648), 2147483647, x1)), (3, (2, 48, 0, 0, 0))] [] M128
          refine hgo.2.1 11 _ [(4, (0, 0, 0, 8, tp + 1)), (0, (2, 32, 0, 0, 0)), (1, (2, 55, 0, 0, 0)), (2, (0, 0, (-2147483648), 2147483647, x1)), (3, (2, 48, 0, 0, 0))] _ _ (xa_subI rfl rfl (fun _ _ _ _ => by omega) (xa_subR rfl (xa_subR rfl (xa_subI rfl rfl (fun _ _ _ _ => by omega) (xa_subR rfl (xa_sub0)))))) ?_
          have ep : ((tp.toNat : Nat) : Int) = tp := Int.toNat_of_nonneg (by omega)
          have en : (tp + 1).toNat = tp.toNat + 1 := by omega
          have q1 : cm_f (cm_p (M 32 0) (M 32 1) x1 (fun p => M 56 p) (fun p => M 57 p)) 0 (tp + 1).toNat (fun _ => 0) = cm_f (cm_a (M 32 0) (M 32 1) (M 56 tp) (M 57 tp) (xa_ib 6 1 tp)) (M 32 0) (M 32 1 + 1 - M 32 0).toNat (cm_f (cm_p (M 32 0) (M 32 1) x1 (fun p => M 56 p) (fun p => M 57 p)) 0 tp.toNat (fun _ => 0)) := by
            rw [en]
            show cm_p (M 32 0) (M 32 1) x1 (fun p => M 56 p) (fun p => M 57 p) (0 + ((tp.toNat : Nat) : Int)) (cm_f (cm_p (M 32 0) (M 32 1) x1 (fun p => M 56 p) (fun p => M 57 p)) 0 tp.toNat (fun _ => 0)) = _
            rw [Int.zero_add, ep]
            exact if_pos c2
          rw [e0, e1, eU, eV] at i4
          exact ih11 (tp + 1) M128 (fun q j hq => (i3 q j hq).trans (hk q j hq)) (by omega) (fun t t0 t1 => by rw [q1]; exact i4 t t0 t1) (by omega)
  refine hgo.1 11 [11, 62] 0 _ _ _ ?_
  show xa_C (xl_I b) A h0 _ 77 [(2, 33, 0, 0, 0), (0, 0, 0, 0, 0)] M _
  refine cx_77h ?_
  intro M131 (i1 : ∀ (q : Nat) (j : Int), ¬ q = 33 → M131 q j = M q j) (i2 : ∀ j : Int, 0 ≤ j → j < 61 → M131 33 j = 0)
  show Q 11 [(4, (0, 0, 0, 0, 0)), (0, (2, 32, 0, 0, 0)), (1, (2, 55, 0, 0, 0)), (2, (0, 0, (-2147483648), 2147483647, x1)), (3, (2, 48, 0, 0, 0))] [] M131
  refine hgo.2.1 11 _ [(4, (0, 0, 0, 8, 0)), (0, (2, 32, 0, 0, 0)), (1, (2, 55, 0, 0, 0)), (2, (0, 0, (-2147483648), 2147483647, x1)), (3, (2, 48, 0, 0, 0))] _ _ (xa_subI rfl rfl (fun _ _ _ _ => by omega) (xa_subR rfl (xa_subR rfl (xa_subI rfl rfl (fun _ _ _ _ => by omega) (xa_subR rfl (xa_sub0)))))) ?_
  exact loop11 9 0 M131 i1 (by omega) (fun t t0 t1 => i2 (t - M 32 0) (by omega) (by omega)) (by omega)
theorem rx_132_50 {A : Nat → Nat} {h0 : g_H} {d : Nat} {M : xa_M} {post : Option xa_V → xa_M → Prop} {l1 u1 x1 : Int} (hL : 10 ≤ M 32 0 ∧ M 32 0 ≤ M 32 1 ∧ M 32 1 ≤ 400) (hp : 0 ≤ M 50 4 ∧ M 50 4 ≤ 8) (hUU : ∀ i : Int, 0 ≤ i → i < M 50 4 → (1 ≤ M 51 i ∧ M 51 i ≤ 2000) ∧ (1 ≤ M 52 i ∧ M 52 i ≤ 2000)) (k : ∀ (r : Int) (M1 : xa_M), cm_P (M 32 0) (M 32 1) (M 50 4) (fun p => M 51 p) (fun p => M 52 p) x1 r → (∀ (q : Nat) (j : Int), ¬ (q = 33 ∨ q = 48 ∨ q = 49) → M1 q j = M q j) → rz_c (0 ≤ r) (M 48 1) (M1 48 1) 1 → post (some (0, 0, (-4), 400, r)) M1) : xa_C (xl_I false) A h0 (d + 5) 132 [(2, 0, 0, 0, 0), (0, 0, l1, u1, x1)] M post := by
  refine xa_C_wk ?_
  refine xa_C_arg [(2, 0, 0, 0, 0), (0, 0, (-2147483648), 2147483647, x1)] (xa_svR (xa_svI (fun _ _ _ _ => by omega) xa_sv0)) ?_
  refine xa_meth (Q0 := (2, 1, false, 0, 0, 11)) (by decide +kernel) ⟨rfl, rfl⟩ (full := s_c_132) rfl rfl ?_
  intro hM hv Q hgo
  refine hgo.1 22 [] 0 _ _ _ ?_
  show xa_C (xl_I false) A h0 _ 133 [(2, 50, 0, 0, 0), (0, 0, (-2147483648), 2147483647, x1)] M _
  refine cx_133_50 ?_ ?_ ?_
  · intro (i1 : x1 ≤ 0)
    show xa_wk post (some (0, 0, (-1), (-1), (-1))) M
    exact xa_wkI (-1) rfl (fun _ _ => by omega) (k _ _ (by unfold cm_P; omega) (fun _ _ _ => rfl) (by unfold rz_c; omega))
  · intro (i2 : 0 < x1) (i3 : (xa_ib 6 1 (M 50 4)) ≤ x1)
    show xa_wk post (some (0, 0, (-1), (-1), (-1))) M
    exact xa_wkI (-1) rfl (fun _ _ => by omega) (k _ _ (by unfold cm_P; omega) (fun _ _ _ => rfl) (by unfold rz_c; omega))
  · intro (i4 : 0 < x1) (i5 : x1 < (xa_ib 6 1 (M 50 4)))
    show xa_C (xl_I false) A h0 _ 125 [(2, 32, 0, 0, 0)] M _
    refine cx_125_32 ?_ ?_
    · intro (i6 : ((M 32 1) - (M 32 0)) ≤ 60)
      show xa_C (xl_I false) A h0 _ 134 [(2, 32, 0, 0, 0), (2, 50, 0, 0, 0), (0, 0, (-2147483648), 2147483647, x1), (2, 48, 0, 0, 0)] M _
      refine rz_134_50 hL (by omega) hp hUU ?_
      intro M132 r133 (i7 : (∀ (q : Nat) (j : Int), ¬ (q = 33 ∨ q = 48 ∨ q = 49) → M132 q j = M q j)) (i8 : r133 = cm_r (M 32 0) (M 32 1) (M 50 4) x1 (fun p => M 51 p) (fun p => M 52 p)) (z9 : rz_c (0 ≤ r133) (M 48 1) (M132 48 1) 1)
      show xa_wk post (some (0, 0, (-2), 400, r133)) M132
      exact xa_wkI _ rfl (fun _ _ => by omega) (k _ _ (Or.inr ⟨by omega, Or.inr ⟨by omega, i8⟩⟩) i7 z9)
    · intro (i9 : 60 < ((M 32 1) - (M 32 0)))
      show xa_wk post (some (0, 0, (-4), (-4), (-4))) M
      exact xa_wkI (-4) rfl (fun _ _ => by omega) (k _ _ (by unfold cm_P; omega) (fun _ _ _ => rfl) (by unfold rz_c; omega))
theorem rx_132_55 {A : Nat → Nat} {h0 : g_H} {d : Nat} {M : xa_M} {post : Option xa_V → xa_M → Prop} {l1 u1 x1 : Int} (hL : 10 ≤ M 32 0 ∧ M 32 0 ≤ M 32 1 ∧ M 32 1 ≤ 400) (hp : 0 ≤ M 55 4 ∧ M 55 4 ≤ 8) (hUU : ∀ i : Int, 0 ≤ i → i < M 55 4 → (1 ≤ M 56 i ∧ M 56 i ≤ 2000) ∧ (1 ≤ M 57 i ∧ M 57 i ≤ 2000)) (k : ∀ (r : Int) (M1 : xa_M), cm_P (M 32 0) (M 32 1) (M 55 4) (fun p => M 56 p) (fun p => M 57 p) x1 r → (∀ (q : Nat) (j : Int), ¬ (q = 33 ∨ q = 48 ∨ q = 49) → M1 q j = M q j) → rz_c (0 ≤ r) (M 48 1) (M1 48 1) 1 → post (some (0, 0, (-4), 400, r)) M1) : xa_C (xl_I true) A h0 (d + 5) 132 [(2, 0, 0, 0, 0), (0, 0, l1, u1, x1)] M post := by
  refine xa_C_wk ?_
  refine xa_C_arg [(2, 0, 0, 0, 0), (0, 0, (-2147483648), 2147483647, x1)] (xa_svR (xa_svI (fun _ _ _ _ => by omega) xa_sv0)) ?_
  refine xa_meth (Q0 := (2, 1, false, 0, 0, 11)) (by decide +kernel) ⟨rfl, rfl⟩ (full := s_c_132) rfl rfl ?_
  intro hM hv Q hgo
  refine hgo.1 22 [] 0 _ _ _ ?_
  show xa_C (xl_I true) A h0 _ 133 [(2, 55, 0, 0, 0), (0, 0, (-2147483648), 2147483647, x1)] M _
  refine cx_133_55 ?_ ?_ ?_
  · intro (i1 : x1 ≤ 0)
    show xa_wk post (some (0, 0, (-1), (-1), (-1))) M
    exact xa_wkI (-1) rfl (fun _ _ => by omega) (k _ _ (by unfold cm_P; omega) (fun _ _ _ => rfl) (by unfold rz_c; omega))
  · intro (i2 : 0 < x1) (i3 : (xa_ib 6 1 (M 55 4)) ≤ x1)
    show xa_wk post (some (0, 0, (-1), (-1), (-1))) M
    exact xa_wkI (-1) rfl (fun _ _ => by omega) (k _ _ (by unfold cm_P; omega) (fun _ _ _ => rfl) (by unfold rz_c; omega))
  · intro (i4 : 0 < x1) (i5 : x1 < (xa_ib 6 1 (M 55 4)))
    show xa_C (xl_I true) A h0 _ 125 [(2, 32, 0, 0, 0)] M _
    refine cx_125_32 ?_ ?_
    · intro (i6 : ((M 32 1) - (M 32 0)) ≤ 60)
      show xa_C (xl_I true) A h0 _ 134 [(2, 32, 0, 0, 0), (2, 55, 0, 0, 0), (0, 0, (-2147483648), 2147483647, x1), (2, 48, 0, 0, 0)] M _
      refine rz_134_55 hL (by omega) hp hUU ?_
      intro M134 r135 (i7 : (∀ (q : Nat) (j : Int), ¬ (q = 33 ∨ q = 48 ∨ q = 49) → M134 q j = M q j)) (i8 : r135 = cm_r (M 32 0) (M 32 1) (M 55 4) x1 (fun p => M 56 p) (fun p => M 57 p)) (z9 : rz_c (0 ≤ r135) (M 48 1) (M134 48 1) 1)
      show xa_wk post (some (0, 0, (-2), 400, r135)) M134
      exact xa_wkI _ rfl (fun _ _ => by omega) (k _ _ (Or.inr ⟨by omega, Or.inr ⟨by omega, i8⟩⟩) i7 z9)
    · intro (i9 : 60 < ((M 32 1) - (M 32 0)))
      show xa_wk post (some (0, 0, (-4), (-4), (-4))) M
      exact xa_wkI (-4) rfl (fun _ _ => by omega) (k _ _ (by unfold cm_P; omega) (fun _ _ _ => rfl) (by unfold rz_c; omega))
theorem rx_132 {b : Bool} {A : Nat → Nat} {h0 : g_H} {d : Nat} {M : xa_M} {post : Option xa_V → xa_M → Prop} {l1 u1 x1 : Int} (hL : 10 ≤ M 32 0 ∧ M 32 0 ≤ M 32 1 ∧ M 32 1 ≤ 400) (hp : 0 ≤ M (bk_p b) 4 ∧ M (bk_p b) 4 ≤ 8) (hUU : ∀ i : Int, 0 ≤ i → i < M (bk_p b) 4 → (1 ≤ M (bk_p b + 1) i ∧ M (bk_p b + 1) i ≤ 2000) ∧ (1 ≤ M (bk_p b + 2) i ∧ M (bk_p b + 2) i ≤ 2000)) (k : ∀ (r : Int) (M1 : xa_M), cm_P (M 32 0) (M 32 1) (M (bk_p b) 4) (fun p => M (bk_p b + 1) p) (fun p => M (bk_p b + 2) p) x1 r → (∀ (q : Nat) (j : Int), ¬ (q = 33 ∨ q = 48 ∨ q = 49) → M1 q j = M q j) → rz_c (0 ≤ r) (M 48 1) (M1 48 1) 1 → post (some (0, 0, (-4), 400, r)) M1) : xa_C (xl_I b) A h0 (d + 5) 132 [(2, 0, 0, 0, 0), (0, 0, l1, u1, x1)] M post := by
  cases b
  · exact rx_132_50 hL hp hUU k
  · exact rx_132_55 hL hp hUU k
theorem rm_common {A : Nat → Nat} {h0 : g_H} {d : Nat} {M : xa_M} {post : Option xa_V → xa_M → Prop} {l1 u1 : Int} {a : Int} (hI : xm_Inv M) (k : ∀ (lo hi r : Int) (M1 : xa_M), cm_P (M 60 15) (M 60 16) (M 60 11) (M 70) (M 71) a r → xm_cor M M1 → rz_c (0 ≤ r) (M 60 20) (M1 60 20) 1 → post (some (0, 0, lo, hi, r)) M1) : xa_C xm_I A h0 (d + 3) 261 [(2, 60, 0, 0, 0), (0, 0, l1, u1, a)] M post := by
  refine xa_C_arg [(2, 60, 0, 0, 0), (0, 0, (-2147483648), 2147483647, a)] (xa_svR (xa_svI (fun _ _ _ _ => by omega) xa_sv0)) ?_
  refine xa_meth (Q0 := (6, 1, false, 0, 0, 12)) (by decide +kernel) ⟨rfl, rfl⟩ (full := s_c_261) rfl rfl ?_
  intro hM hv Q hgo
  have b0 := xm_f0 hM
  have b6 := xm_f6 hM
  have b61 := xm_f61 hM
  have b11 := xm_f11 hM
  have b15 := xm_f15 hM
  have b16 := xm_f16 hM
  have hlh := hI.2.2.2.1
  have loop5 : ∀ (n : Nat) (x3 x2 : Int) (M1 : xa_M), 10 ≤ x3 ∧ x3 ≤ 401 → 10 ≤ x2 ∧ x2 ≤ 400 → xm_cor M M1 → M1 60 20 = M 60 20 → ((0 < a ∧ a < xa_ib 6 1 (M 60 11)) ∧ M 60 16 - M 60 15 ≤ 60) → (M 60 15 ≤ x3 ∧ x3 ≤ M 60 16 + 1 ∧ M 60 15 ≤ x2 ∧ x2 ≤ M 60 16) → (∀ t : Int, M 60 15 ≤ t → t ≤ M 60 16 → M1 92 t = cm_w (M 60 15) (M 60 16) (M 60 11) a (M 70) (M 71) t) → x2 = cm_x (fun t => xa_bc (cm_w (M 60 15) (M 60 16) (M 60 11) a (M 70) (M 71) t)) (M 60 15) (x3 - M 60 15).toNat → 401 - x3 < (n : Int) → Q 237 [(3, (0, 0, 10, 401, x3)), (2, (0, 0, 10, 400, x2)), (0, (2, 60, 0, 0, 0))] [] M1 := by
    intro n
    induction n with
    | zero => intro x3 x2 M1 b3 b2 hc h20 hgd h9 hw hx hms; omega
    | succ n ih5 =>
      intro x3 x2 M1 b3 b2 hc h20 hgd h9 hw hx hms5
      have g2 := hw x2 (by omega) (by omega)
      have e0 := xm_corf hc 0 (by omega)
      have e6 := xm_corf hc 6 (by omega)
      have e61 := xm_corf hc 61 (by omega)
      have e11 := xm_corf hc 11 (by omega)
      have e15 := xm_corf hc 15 (by omega)
      have e16 := xm_corf hc 16 (by omega)
      refine hgo.1 25 [40, 62, 86, 97, 142, 237] 237 _ _ _ ?_
      refine And.intro ?_ ?_
      · intro (c1 : (M1 60 16) < x3)
        refine And.intro ?_ ?_
        · intro (c2 : ¬ (M1 92 x2) = 0)
          show xa_C xm_I A h0 _ 231 [(2, 60, 0, 0, 0), (1, 0, (-2147483648), 2147483647, M1 92 x2)] (xa_up M1 60 20 0) _
          refine ct_tell (n := 0) (by first | rfl | (simp [xa_up]; done) | omega) (by omega) (by omega) ?_
          show post (some (0, 0, 10, 400, x2)) (xa_up (xa_up (xa_up M1 60 20 0) 74 0 (M1 92 x2)) 60 20 1)
          have ei : (x3 - M 60 15).toNat = (M 60 16 + 1 - M 60 15).toNat := by omega
          rw [ei] at hx
          exact k _ _ x2 _ (Or.inr ⟨hgd.1, Or.inr ⟨hgd.2, cm_r1 hx (fun e => c2 (g2.trans e))⟩⟩) (xm_cor_f (by omega) (xm_cor_a rfl (xm_cor_f (by omega) hc))) (by show rz_c (0 ≤ (x2 : Int)) (M 60 20) (1) 1; unfold rz_c; omega)
        · intro (c2 : (M1 92 x2) = 0)
          show post (some (0, 0, (-2), (-2), (-2))) M1
          have ei : (x3 - M 60 15).toNat = (M 60 16 + 1 - M 60 15).toNat := by omega
          rw [ei] at hx
          exact k _ _ (-2) _ (Or.inr ⟨hgd.1, Or.inr ⟨hgd.2, cm_r0 hx (g2.symm.trans c2)⟩⟩) hc (by show rz_c (0 ≤ ((-2) : Int)) (M 60 20) (M1 60 20) 1; unfold rz_c; omega)
      · intro (c1 : x3 ≤ (M1 60 16))
        refine And.intro (show 0 ≤ x3 ∧ x3 < 401 by omega) ?_
        show xa_C xm_I A h0 _ 136 [(0, 0, (-2147483648), 2147483647, M1 92 x3)] M1 _
        refine ct_bitCount ?_
        show xa_C xm_I A h0 _ 136 [(0, 0, (-2147483648), 2147483647, M1 92 x2)] M1 _
        refine ct_bitCount ?_
        refine And.intro ?_ ?_
        · intro (c3 : (xa_bc (M1 92 x3)) ≤ (xa_bc (M1 92 x2)))
          show Q 237 [(3, (0, 0, 11, 402, x3 + 1)), (2, (0, 0, 10, 400, x2)), (0, (2, 60, 0, 0, 0))] [] M1
          refine hgo.2.1 237 _ [(3, (0, 0, 10, 401, x3 + 1)), (2, (0, 0, 10, 400, x2)), (0, (2, 60, 0, 0, 0))] _ _ (xa_subI rfl rfl (fun _ _ _ _ => by omega) (xa_subI rfl rfl (fun _ _ _ _ => by omega) (xa_subR rfl xa_sub0))) ?_
          have g1 := hw x3 (by omega) (by omega)
          rw [g1, g2] at c3
          exact ih5 (x3 + 1) x2 M1 (by omega) (by omega) hc h20 hgd (by omega) hw (by rw [show (x3 + 1 - M 60 15).toNat = (x3 - M 60 15).toNat + 1 by omega]; exact cm_x0 hx (show x3 = M 60 15 + (((x3 - M 60 15).toNat : Nat) : Int) by omega) (Int.not_lt.mpr c3)) (by omega)
        · intro (c3 : (xa_bc (M1 92 x2)) < (xa_bc (M1 92 x3)))
          show Q 237 [(3, (0, 0, 11, 402, x3 + 1)), (2, (0, 0, 10, 401, x3)), (0, (2, 60, 0, 0, 0))] [] M1
          refine hgo.2.1 237 _ [(3, (0, 0, 10, 401, x3 + 1)), (2, (0, 0, 10, 400, x3)), (0, (2, 60, 0, 0, 0))] _ _ (xa_subI rfl rfl (fun _ _ _ _ => by omega) (xa_subI rfl rfl (fun _ _ _ _ => by omega) (xa_subR rfl xa_sub0))) ?_
          have g1 := hw x3 (by omega) (by omega)
          rw [g1, g2] at c3
          exact ih5 (x3 + 1) x3 M1 (by omega) (by omega) hc h20 hgd (by omega) hw (by rw [show (x3 + 1 - M 60 15).toNat = (x3 - M 60 15).toNat + 1 by omega]; exact cm_x1 hx (show x3 = M 60 15 + (((x3 - M 60 15).toNat : Nat) : Int) by omega) c3) (by omega)
  have loop1 : ∀ (n : Nat) (x2 x1 : Int) (M1 : xa_M), 0 ≤ x2 ∧ x2 ≤ 8 → xm_cor M M1 → M1 60 20 = M 60 20 → ((0 < a ∧ a < xa_ib 6 1 (M 60 11)) ∧ M 60 16 - M 60 15 ≤ 60) → (x1 = a ∧ x2 ≤ M 60 11) → (∀ t : Int, M 60 15 ≤ t → t ≤ M 60 16 → M1 92 t = cm_f (cm_p (M 60 15) (M 60 16) a (M 70) (M 71)) 0 x2.toNat (fun _ => 0) t) → 8 - x2 < (n : Int) → Q 62 [(2, (0, 0, 0, 8, x2)), (1, (0, 0, (-2147483648), 2147483647, x1)), (0, (2, 60, 0, 0, 0))] [] M1 := by
    intro n
    induction n with
    | zero => intro x2 x1 M1 b2 hc h20 hgd h9 hw hms; omega
    | succ n ih1 =>
      intro x2 x1 M1 b2 hc h20 hgd h9 hw hms1
      have e0 := xm_corf hc 0 (by omega)
      have e6 := xm_corf hc 6 (by omega)
      have e61 := xm_corf hc 61 (by omega)
      have e11 := xm_corf hc 11 (by omega)
      have e15 := xm_corf hc 15 (by omega)
      have e16 := xm_corf hc 16 (by omega)
      have loop2 : ∀ (n : Nat) (x3 : Int) (M1 : xa_M), 10 ≤ x3 ∧ x3 ≤ 401 → 0 ≤ x2 ∧ x2 ≤ 7 → xm_cor M M1 → M1 60 20 = M 60 20 → x2 < M 60 11 → xa_ib 3 (xa_ib 7 a x2) 1 = 1 → (M 60 15 ≤ x3 ∧ x3 ≤ M 60 16 + 1) → (∀ t : Int, M 60 15 ≤ t → t ≤ M 60 16 → M1 92 t = cm_f (cm_a (M 60 15) (M 60 16) (M 70 x2) (M 71 x2) (xa_ib 6 1 x2)) (M 60 15) (x3 - M 60 15).toNat (cm_f (cm_p (M 60 15) (M 60 16) a (M 70) (M 71)) 0 x2.toNat (fun _ => 0)) t) → 401 - x3 < (n : Int) → Q 86 [(3, (0, 0, 10, 401, x3)), (2, (0, 0, 0, 7, x2)), (1, (0, 0, (-2147483648), 2147483647, x1)), (0, (2, 60, 0, 0, 0))] [] M1 := by
        intro n
        induction n with
        | zero => intro x3 M1 b3 f2 hc h20 hx2 hbit h93 hw2 hms; omega
        | succ n ih2 =>
          intro x3 M1 b3 f2 hc h20 hx2 hbit h93 hw2 hms2
          have p7 := hI.2.2.1 x2 (by omega) hx2
          have t70 := xm_t70 hM x2 (by omega) (by omega)
          have t71 := xm_t71 hM x2 (by omega) (by omega)
          have e0 := xm_corf hc 0 (by omega)
          have e6 := xm_corf hc 6 (by omega)
          have e61 := xm_corf hc 61 (by omega)
          have e11 := xm_corf hc 11 (by omega)
          have e15 := xm_corf hc 15 (by omega)
          have e16 := xm_corf hc 16 (by omega)
          have loop3 : ∀ (n : Nat) (x4 : Int) (M1 : xa_M), 10 ≤ x4 ∧ x4 ≤ 401 → 10 ≤ x3 ∧ x3 ≤ 400 → 0 ≤ x2 ∧ x2 ≤ 7 → xm_cor M M1 → M1 60 20 = M 60 20 → x2 < M 60 11 → (x3 ≤ x4 ∧ x4 ≤ M 60 16 + 1 ∧ x3 ≤ M 60 16) → (∀ t : Int, M 60 15 ≤ t → t ≤ M 60 16 → M1 92 t = cm_f (cm_b (M 60 15) (M 60 16) (M 70 x2) (M 71 x2) (xa_ib 6 1 x2) x3) x3 (x4 - x3).toNat (cm_f (cm_a (M 60 15) (M 60 16) (M 70 x2) (M 71 x2) (xa_ib 6 1 x2)) (M 60 15) (x3 - M 60 15).toNat (cm_f (cm_p (M 60 15) (M 60 16) a (M 70) (M 71)) 0 x2.toNat (fun _ => 0))) t) → 401 - x4 < (n : Int) → Q 97 [(4, (0, 0, 10, 401, x4)), (3, (0, 0, 10, 400, x3)), (2, (0, 0, 0, 7, x2)), (1, (0, 0, (-2147483648), 2147483647, x1)), (0, (2, 60, 0, 0, 0))] [] M1 := by
            intro n
            induction n with
            | zero => intro x4 M1 b4 f3 f2 hc h20 hx2 h94 hw3 hms; omega
            | succ n ih3 =>
              intro x4 M1 b4 f3 f2 hc h20 hx2 h94 hw3 hms3
              refine hgo.2.2 _ _ _ _ (fun hM1 _ => ?_)
              have e0 := xm_corf hc 0 (by omega)
              have e6 := xm_corf hc 6 (by omega)
              have e61 := xm_corf hc 61 (by omega)
              have e11 := xm_corf hc 11 (by omega)
              have e15 := xm_corf hc 15 (by omega)
              have e16 := xm_corf hc 16 (by omega)
              have loop4 : ∀ (n : Nat) (x5 : Int) (M1 : xa_M), 10 ≤ x5 ∧ x5 ≤ 401 → 10 ≤ x4 ∧ x4 ≤ 400 → 10 ≤ x3 ∧ x3 ≤ 400 → 0 ≤ x2 ∧ x2 ≤ 7 → xm_cor M M1 → M1 60 20 = M 60 20 → x2 < M 60 11 → (M 60 15 ≤ x5 ∧ x5 ≤ M 60 16 + 1 ∧ x4 ≤ M 60 16) → (((∃ c : Int, M 60 15 ≤ c ∧ c < x5 ∧ x3 * x4 * M 71 x2 % (c * M 70 x2) = 0 ∧ M 60 15 ≤ x3 * x4 * M 71 x2 / (c * M 70 x2) ∧ x3 * x4 * M 71 x2 / (c * M 70 x2) ≤ M 60 16) → ∀ t : Int, M 60 15 ≤ t → t ≤ M 60 16 → M1 92 t = cm_m (xa_ib 6 1 x2) x3 x4 (cm_f (cm_b (M 60 15) (M 60 16) (M 70 x2) (M 71 x2) (xa_ib 6 1 x2) x3) x3 (x4 - x3).toNat (cm_f (cm_a (M 60 15) (M 60 16) (M 70 x2) (M 71 x2) (xa_ib 6 1 x2)) (M 60 15) (x3 - M 60 15).toNat (cm_f (cm_p (M 60 15) (M 60 16) a (M 70) (M 71)) 0 x2.toNat (fun _ => 0)))) t) ∧ (¬ (∃ c : Int, M 60 15 ≤ c ∧ c < x5 ∧ x3 * x4 * M 71 x2 % (c * M 70 x2) = 0 ∧ M 60 15 ≤ x3 * x4 * M 71 x2 / (c * M 70 x2) ∧ x3 * x4 * M 71 x2 / (c * M 70 x2) ≤ M 60 16) → ∀ t : Int, M 60 15 ≤ t → t ≤ M 60 16 → M1 92 t = cm_f (cm_b (M 60 15) (M 60 16) (M 70 x2) (M 71 x2) (xa_ib 6 1 x2) x3) x3 (x4 - x3).toNat (cm_f (cm_a (M 60 15) (M 60 16) (M 70 x2) (M 71 x2) (xa_ib 6 1 x2)) (M 60 15) (x3 - M 60 15).toNat (cm_f (cm_p (M 60 15) (M 60 16) a (M 70) (M 71)) 0 x2.toNat (fun _ => 0))) t)) → 401 - x5 < (n : Int) → Q 142 [(5, (0, 0, 10, 401, x5)), (4, (0, 0, 10, 400, x4)), (3, (0, 0, 10, 400, x3)), (2, (0, 0, 0, 7, x2)), (1, (0, 0, (-2147483648), 2147483647, x1)), (0, (2, 60, 0, 0, 0))] [] M1 := by
                intro n
                induction n with
                | zero => intro x5 M1 b5 f4 f3 f2 hc h20 hx2 h95 hw4 hms; omega
                | succ n ih4 =>
                  intro x5 M1 b5 f4 f3 f2 hc h20 hx2 h95 hw4 hms4
                  have e0 := xm_corf hc 0 (by omega)
                  have e6 := xm_corf hc 6 (by omega)
                  have e61 := xm_corf hc 61 (by omega)
                  have e11 := xm_corf hc 11 (by omega)
                  have e15 := xm_corf hc 15 (by omega)
                  have e16 := xm_corf hc 16 (by omega)
                  refine hgo.1 43 [40, 62, 86, 97, 142, 237] 142 _ _ _ ?_
                  refine And.intro ?_ ?_
                  · intro (c1 : (M1 60 16) < x5)
                    show Q 97 [(4, (0, 0, 11, 401, x4 + 1)), (5, (0, 0, 10, 401, x5)), (3, (0, 0, 10, 400, x3)), (2, (0, 0, 0, 7, x2)), (1, (0, 0, (-2147483648), 2147483647, x1)), (0, (2, 60, 0, 0, 0))] [] M1
                    refine hgo.2.1 97 _ [(4, (0, 0, 10, 401, x4 + 1)), (3, (0, 0, 10, 400, x3)), (2, (0, 0, 0, 7, x2)), (1, (0, 0, (-2147483648), 2147483647, x1)), (0, (2, 60, 0, 0, 0))] _ _ (xa_subI rfl rfl (fun _ _ _ _ => by omega) (xa_subI rfl rfl (fun _ _ _ _ => by omega) (xa_subI rfl rfl (fun _ _ _ _ => by omega) (xa_subI rfl rfl (fun _ _ _ _ => by omega) (xa_subR rfl xa_sub0))))) ?_
                    have e5 : x5 = M 60 16 + 1 := by omega
                    rw [e5] at hw4
                    exact ih3 (x4 + 1) M1 (by omega) (by omega) (by omega) hc h20 (by omega) (by omega) (fun t t0 t1 => by
                      rw [cm_fp (show x3 ≤ x4 by omega)]
                      by_cases hk : (∃ c : Int, M 60 15 ≤ c ∧ c < M 60 16 + 1 ∧ x3 * x4 * M 71 x2 % (c * M 70 x2) = 0 ∧ M 60 15 ≤ x3 * x4 * M 71 x2 / (c * M 70 x2) ∧ x3 * x4 * M 71 x2 / (c * M 70 x2) ≤ M 60 16)
                      · rw [cm_b1 ((cm_ke (by omega) (by omega)).mpr (by obtain ⟨c, g1, g2, g3⟩ := hk; exact ⟨c, g1, by omega, g3⟩))]
                        exact hw4.1 hk t t0 t1
                      · rw [cm_b0 (fun h => hk (by obtain ⟨c, g1, g2, g3⟩ := (cm_ke (by omega) (by omega)).mp h; exact ⟨c, g1, by omega, g3⟩))]
                        exact hw4.2 hk t t0 t1) (by omega)
                  · intro (c1 : x5 ≤ (M1 60 16))
                    show xa_C xm_I A h0 _ 258 [(2, 60, 0, 0, 0), (0, 0, 0, 7, x2), (0, 0, 10, 400, x3), (0, 0, 10, 400, x4), (0, 0, 10, 401, x5)] M1 _
                    refine ct_fourthF (xm_Inv_cor hc hI) (by omega) (by rw [xm_corf hc 11 (by omega)]; omega) (by omega) (by omega) (by omega) (by omega) (by omega) (by omega) (fun r2 br2 er2 => ?_)
                    rw [hc 70 x2 (by unfold xm_scr; omega), hc 71 x2 (by unfold xm_scr; omega)] at er2
                    show xa_C xm_I A h0 _ 214 [(0, 0, 0, 1000, r2), (0, 0, 10, 400, M1 60 15), (0, 0, 10, 400, M1 60 16)] M1 _
                    refine ct_in ?_ ?_
                    · intro (i3 : (M1 60 15) ≤ r2 ∧ r2 ≤ (M1 60 16))
                      show Q 142 [(5, (0, 0, 11, 402, x5 + 1)), (4, (0, 0, 10, 400, x4)), (3, (0, 0, 10, 400, x3)), (2, (0, 0, 0, 7, x2)), (1, (0, 0, (-2147483648), 2147483647, x1)), (0, (2, 60, 0, 0, 0))] [] (xa_up (xa_up M1 92 x3 (xa_ib 4 (M1 92 x3) (xa_ib 6 1 x2))) 92 x4 (xa_ib 4 ((xa_up M1 92 x3 (xa_ib 4 (M1 92 x3) (xa_ib 6 1 x2))) 92 x4) (xa_ib 6 1 x2)))
                      refine hgo.2.1 142 _ [(5, (0, 0, 10, 401, x5 + 1)), (4, (0, 0, 10, 400, x4)), (3, (0, 0, 10, 400, x3)), (2, (0, 0, 0, 7, x2)), (1, (0, 0, (-2147483648), 2147483647, x1)), (0, (2, 60, 0, 0, 0))] _ _ (xa_subI rfl rfl (fun _ _ _ _ => by omega) (xa_subI rfl rfl (fun _ _ _ _ => by omega) (xa_subI rfl rfl (fun _ _ _ _ => by omega) (xa_subI rfl rfl (fun _ _ _ _ => by omega) (xa_subI rfl rfl (fun _ _ _ _ => by omega) (xa_subR rfl xa_sub0)))))) ?_
                      have kc : x3 * x4 * M 71 x2 % (x5 * M 70 x2) = 0 ∧ M 60 15 ≤ x3 * x4 * M 71 x2 / (x5 * M 70 x2) ∧ x3 * x4 * M 71 x2 / (x5 * M 70 x2) ≤ M 60 16 := by
                        rcases er2 with ⟨e1, e2⟩ | ⟨e1, e2, e3, e4⟩
                        · omega
                        · exact ⟨e1, by omega, by omega⟩
                      exact ih4 (x5 + 1) (xa_up (xa_up M1 92 x3 (xa_ib 4 (M1 92 x3) (xa_ib 6 1 x2))) 92 x4 (xa_ib 4 ((xa_up M1 92 x3 (xa_ib 4 (M1 92 x3) (xa_ib 6 1 x2))) 92 x4) (xa_ib 6 1 x2))) (by omega) (by omega) (by omega) (by omega) (xm_cor_a rfl (xm_cor_a rfl hc)) ((xa_up_ne (by omega)).trans ((xa_up_ne (by omega)).trans h20)) (by omega) (by omega) ⟨fun _ => by
                        by_cases hk : (∃ c : Int, M 60 15 ≤ c ∧ c < x5 ∧ x3 * x4 * M 71 x2 % (c * M 70 x2) = 0 ∧ M 60 15 ≤ x3 * x4 * M 71 x2 / (c * M 70 x2) ∧ x3 * x4 * M 71 x2 / (c * M 70 x2) ≤ M 60 16)
                        · have h := cm_up (g := fun t => t) (m := (xa_ib 6 1 x2)) (fun x y e => e) (hw4.1 hk) (show M 60 15 ≤ x3 ∧ x3 ≤ M 60 16 by omega) (show M 60 15 ≤ x4 ∧ x4 ≤ M 60 16 by omega)
                          rw [cm_mm] at h
                          exact h
                        · exact cm_up (g := fun t => t) (m := (xa_ib 6 1 x2)) (fun x y e => e) (hw4.2 hk) (show M 60 15 ≤ x3 ∧ x3 ≤ M 60 16 by omega) (show M 60 15 ≤ x4 ∧ x4 ≤ M 60 16 by omega), fun h => absurd ⟨x5, by omega, by omega, kc⟩ h⟩ (by omega)
                    · intro (i3 : ¬ ((M1 60 15) ≤ r2 ∧ r2 ≤ (M1 60 16)))
                      show Q 142 [(5, (0, 0, 11, 402, x5 + 1)), (4, (0, 0, 10, 400, x4)), (3, (0, 0, 10, 400, x3)), (2, (0, 0, 0, 7, x2)), (1, (0, 0, (-2147483648), 2147483647, x1)), (0, (2, 60, 0, 0, 0))] [] M1
                      refine hgo.2.1 142 _ [(5, (0, 0, 10, 401, x5 + 1)), (4, (0, 0, 10, 400, x4)), (3, (0, 0, 10, 400, x3)), (2, (0, 0, 0, 7, x2)), (1, (0, 0, (-2147483648), 2147483647, x1)), (0, (2, 60, 0, 0, 0))] _ _ (xa_subI rfl rfl (fun _ _ _ _ => by omega) (xa_subI rfl rfl (fun _ _ _ _ => by omega) (xa_subI rfl rfl (fun _ _ _ _ => by omega) (xa_subI rfl rfl (fun _ _ _ _ => by omega) (xa_subI rfl rfl (fun _ _ _ _ => by omega) (xa_subR rfl xa_sub0)))))) ?_
                      have ek : (∃ c : Int, M 60 15 ≤ c ∧ c < x5 + 1 ∧ x3 * x4 * M 71 x2 % (c * M 70 x2) = 0 ∧ M 60 15 ≤ x3 * x4 * M 71 x2 / (c * M 70 x2) ∧ x3 * x4 * M 71 x2 / (c * M 70 x2) ≤ M 60 16) ↔ (∃ c : Int, M 60 15 ≤ c ∧ c < x5 ∧ x3 * x4 * M 71 x2 % (c * M 70 x2) = 0 ∧ M 60 15 ≤ x3 * x4 * M 71 x2 / (c * M 70 x2) ∧ x3 * x4 * M 71 x2 / (c * M 70 x2) ≤ M 60 16) := by
                        constructor
                        · rintro ⟨c, g1, g2, g3⟩
                          by_cases e : c = x5
                          · exfalso
                            rw [e] at g3
                            rcases er2 with ⟨e1, e2⟩ | ⟨e1, e2, e3, e4⟩
                            · exact e1 g3.1
                            · omega
                          · exact ⟨c, g1, by omega, g3⟩
                        · rintro ⟨c, g1, g2, g3⟩
                          exact ⟨c, g1, by omega, g3⟩
                      exact ih4 (x5 + 1) M1 (by omega) (by omega) (by omega) (by omega) hc h20 (by omega) (by omega) ⟨fun h => hw4.1 (ek.mp h), fun h => hw4.2 (fun g => h (ek.mpr g))⟩ (by omega)
              refine hgo.1 26 [40, 62, 86, 97, 142, 237] 97 _ _ _ ?_
              refine And.intro ?_ ?_
              · intro (c1 : (M1 60 16) < x4)
                show Q 86 [(3, (0, 0, 11, 401, x3 + 1)), (4, (0, 0, 10, 401, x4)), (2, (0, 0, 0, 7, x2)), (1, (0, 0, (-2147483648), 2147483647, x1)), (0, (2, 60, 0, 0, 0))] [] M1
                refine hgo.2.1 86 _ [(3, (0, 0, 10, 401, x3 + 1)), (2, (0, 0, 0, 7, x2)), (1, (0, 0, (-2147483648), 2147483647, x1)), (0, (2, 60, 0, 0, 0))] _ _ (xa_subI rfl rfl (fun _ _ _ _ => by omega) (xa_subI rfl rfl (fun _ _ _ _ => by omega) (xa_subI rfl rfl (fun _ _ _ _ => by omega) (xa_subR rfl xa_sub0)))) ?_
                exact ih2 (x3 + 1) M1 (by omega) (by omega) hc h20 (by omega) hbit (by omega) (by rw [show x4 = M 60 16 + 1 by omega] at hw3; intro t t0 t1; rw [cm_fp (show M 60 15 ≤ x3 by omega)]; exact hw3 t t0 t1) (by omega)
              · intro (c1 : x4 ≤ (M1 60 16))
                show xa_C xm_I A h0 _ 248 [(0, 0, (-2147483648), 2147483647, M1 92 x3), (0, 0, 0, 7, x2)] M1 _
                refine ct_has (fun r2 zr2 er2 => ?_)
                refine And.intro ?_ ?_
                · intro (c3 : r2 = 0)
                  show Q 142 [(5, (0, 0, 10, 400, M1 60 15)), (4, (0, 0, 10, 401, x4)), (3, (0, 0, 10, 400, x3)), (2, (0, 0, 0, 7, x2)), (1, (0, 0, (-2147483648), 2147483647, x1)), (0, (2, 60, 0, 0, 0))] [] M1
                  refine hgo.2.1 142 _ [(5, (0, 0, 10, 401, M1 60 15)), (4, (0, 0, 10, 400, x4)), (3, (0, 0, 10, 400, x3)), (2, (0, 0, 0, 7, x2)), (1, (0, 0, (-2147483648), 2147483647, x1)), (0, (2, 60, 0, 0, 0))] _ _ (xa_subI rfl rfl (fun _ _ _ _ => by omega) (xa_subI rfl rfl (fun _ _ _ _ => by omega) (xa_subI rfl rfl (fun _ _ _ _ => by omega) (xa_subI rfl rfl (fun _ _ _ _ => by omega) (xa_subI rfl rfl (fun _ _ _ _ => by omega) (xa_subR rfl xa_sub0)))))) ?_
                  exact loop4 402 (M1 60 15) M1 (by omega) (by omega) (by omega) (by omega) hc h20 (by omega) (by omega) ⟨fun h => by obtain ⟨c, g1, g2, -⟩ := h; omega, fun _ => hw3⟩ (by omega)
                · intro (c3 : ¬ r2 = 0)
                  refine And.intro (show 0 ≤ x4 ∧ x4 < 401 by omega) ?_
                  show xa_C xm_I A h0 _ 248 [(0, 0, (-2147483648), 2147483647, M1 92 x4), (0, 0, 0, 7, x2)] M1 _
                  refine ct_has (fun r4 zr4 er4 => ?_)
                  refine And.intro ?_ ?_
                  · intro (c5 : r4 = 0)
                    show Q 142 [(5, (0, 0, 10, 400, M1 60 15)), (4, (0, 0, 10, 401, x4)), (3, (0, 0, 10, 400, x3)), (2, (0, 0, 0, 7, x2)), (1, (0, 0, (-2147483648), 2147483647, x1)), (0, (2, 60, 0, 0, 0))] [] M1
                    refine hgo.2.1 142 _ [(5, (0, 0, 10, 401, M1 60 15)), (4, (0, 0, 10, 400, x4)), (3, (0, 0, 10, 400, x3)), (2, (0, 0, 0, 7, x2)), (1, (0, 0, (-2147483648), 2147483647, x1)), (0, (2, 60, 0, 0, 0))] _ _ (xa_subI rfl rfl (fun _ _ _ _ => by omega) (xa_subI rfl rfl (fun _ _ _ _ => by omega) (xa_subI rfl rfl (fun _ _ _ _ => by omega) (xa_subI rfl rfl (fun _ _ _ _ => by omega) (xa_subI rfl rfl (fun _ _ _ _ => by omega) (xa_subR rfl xa_sub0)))))) ?_
                    exact loop4 402 (M1 60 15) M1 (by omega) (by omega) (by omega) (by omega) hc h20 (by omega) (by omega) ⟨fun h => by obtain ⟨c, g1, g2, -⟩ := h; omega, fun _ => hw3⟩ (by omega)
                  · intro (c5 : ¬ r4 = 0)
                    show Q 97 [(4, (0, 0, 11, 402, x4 + 1)), (3, (0, 0, 10, 400, x3)), (2, (0, 0, 0, 7, x2)), (1, (0, 0, (-2147483648), 2147483647, x1)), (0, (2, 60, 0, 0, 0))] [] M1
                    refine hgo.2.1 97 _ [(4, (0, 0, 10, 401, x4 + 1)), (3, (0, 0, 10, 400, x3)), (2, (0, 0, 0, 7, x2)), (1, (0, 0, (-2147483648), 2147483647, x1)), (0, (2, 60, 0, 0, 0))] _ _ (xa_subI rfl rfl (fun _ _ _ _ => by omega) (xa_subI rfl rfl (fun _ _ _ _ => by omega) (xa_subI rfl rfl (fun _ _ _ _ => by omega) (xa_subI rfl rfl (fun _ _ _ _ => by omega) (xa_subR rfl xa_sub0))))) ?_
                    have v3 := xm_t92h hM1 x3 (by omega) (by omega)
                    have v4 := xm_t92h hM1 x4 (by omega) (by omega)
                    have u3 := cm_has v3.1 v3.2 (show 0 ≤ x2 by omega) (show x2 < 8 by omega) (er2.mp (by omega))
                    have u4 := cm_has v4.1 v4.2 (show 0 ≤ x2 by omega) (show x2 < 8 by omega) (er4.mp (by omega))
                    rw [hw3 x3 (by omega) (by omega)] at u3
                    rw [hw3 x4 (by omega) (by omega)] at u4
                    exact ih3 (x4 + 1) M1 (by omega) (by omega) (by omega) hc h20 (by omega) (by omega) (fun t t0 t1 => by
                      rw [cm_fp (show x3 ≤ x4 by omega), hw3 t t0 t1]
                      by_cases hk : cm_k (M 60 15) (M 60 16) (M 70 x2) (M 71 x2) x3 x4
                      · rw [cm_b1 hk]
                        unfold cm_m
                        split
                        next h =>
                          rcases h with h | h
                          · rw [h]
                            exact u3.symm
                          · rw [h]
                            exact u4.symm
                        next => rfl
                      · rw [cm_b0 hk]) (by omega)
          refine hgo.1 11 [40, 62, 86, 97, 142, 237] 86 _ _ _ ?_
          refine And.intro ?_ ?_
          · intro (c1 : (M1 60 16) < x3)
            show Q 62 [(2, (0, 0, 1, 8, x2 + 1)), (3, (0, 0, 10, 401, x3)), (1, (0, 0, (-2147483648), 2147483647, x1)), (0, (2, 60, 0, 0, 0))] [] M1
            refine hgo.2.1 62 _ [(2, (0, 0, 0, 8, x2 + 1)), (1, (0, 0, (-2147483648), 2147483647, x1)), (0, (2, 60, 0, 0, 0))] _ _ (xa_subI rfl rfl (fun _ _ _ _ => by omega) (xa_subI rfl rfl (fun _ _ _ _ => by omega) (xa_subR rfl xa_sub0))) ?_
            have e3 : x3 = M 60 16 + 1 := by omega
            rw [e3] at hw2
            have ep : ((x2.toNat : Nat) : Int) = x2 := Int.toNat_of_nonneg (by omega)
            have en : (x2 + 1).toNat = x2.toNat + 1 := by omega
            have q1 : cm_f (cm_p (M 60 15) (M 60 16) a (M 70) (M 71)) 0 (x2 + 1).toNat (fun _ => 0) = cm_f (cm_a (M 60 15) (M 60 16) (M 70 x2) (M 71 x2) (xa_ib 6 1 x2)) (M 60 15) (M 60 16 + 1 - M 60 15).toNat (cm_f (cm_p (M 60 15) (M 60 16) a (M 70) (M 71)) 0 x2.toNat (fun _ => 0)) := by
              rw [en]
              show cm_p (M 60 15) (M 60 16) a (M 70) (M 71) (0 + ((x2.toNat : Nat) : Int)) (cm_f (cm_p (M 60 15) (M 60 16) a (M 70) (M 71)) 0 x2.toNat (fun _ => 0)) = _
              rw [Int.zero_add, ep]
              exact if_pos hbit
            exact ih1 (x2 + 1) x1 M1 (by omega) hc h20 hgd (by omega) (fun t t0 t1 => by rw [q1]; exact hw2 t t0 t1) (by omega)
          · intro (c1 : x3 ≤ (M1 60 16))
            show Q 97 [(4, (0, 0, 10, 401, x3)), (3, (0, 0, 10, 401, x3)), (2, (0, 0, 0, 7, x2)), (1, (0, 0, (-2147483648), 2147483647, x1)), (0, (2, 60, 0, 0, 0))] [] M1
            refine hgo.2.1 97 _ [(4, (0, 0, 10, 401, x3)), (3, (0, 0, 10, 400, x3)), (2, (0, 0, 0, 7, x2)), (1, (0, 0, (-2147483648), 2147483647, x1)), (0, (2, 60, 0, 0, 0))] _ _ (xa_subI rfl rfl (fun _ _ _ _ => by omega) (xa_subI rfl rfl (fun _ _ _ _ => by omega) (xa_subI rfl rfl (fun _ _ _ _ => by omega) (xa_subI rfl rfl (fun _ _ _ _ => by omega) (xa_subR rfl xa_sub0))))) ?_
            exact loop3 402 x3 M1 (by omega) (by omega) (by omega) hc h20 (by omega) (by omega) (by rw [show (x3 - x3).toNat = 0 by omega]; exact hw2) (by omega)
      refine hgo.1 16 [40, 62, 86, 97, 142, 237] 62 _ _ _ ?_
      refine And.intro ?_ ?_
      · intro (c1 : (M1 60 11) ≤ x2)
        show Q 237 [(3, (0, 0, 10, 400, M1 60 15)), (2, (0, 0, 10, 400, M1 60 15)), (1, (0, 0, (-2147483648), 2147483647, x1)), (0, (2, 60, 0, 0, 0))] [] M1
        refine hgo.2.1 237 _ [(3, (0, 0, 10, 401, M1 60 15)), (2, (0, 0, 10, 400, M1 60 15)), (0, (2, 60, 0, 0, 0))] _ _ (xa_subI rfl rfl (fun _ _ _ _ => by omega) (xa_subI rfl rfl (fun _ _ _ _ => by omega) (xa_subR rfl xa_sub0))) ?_
        exact loop5 402 (M1 60 15) (M1 60 15) M1 (by omega) (by omega) hc h20 hgd (by omega) (by rw [show x2 = M 60 11 by omega] at hw; exact hw) (by rw [show (M1 60 15 - M 60 15).toNat = 0 by omega]; exact e15) (by omega)
      · intro (c1 : x2 < (M1 60 11))
        show xa_C xm_I A h0 _ 248 [(0, 0, (-2147483648), 2147483647, x1), (0, 0, 0, 8, x2)] M1 _
        refine ct_has (fun r2 zr2 er2 => ?_)
        refine And.intro ?_ ?_
        · intro (c3 : ¬ r2 = 0)
          show Q 86 [(3, (0, 0, 10, 400, M1 60 15)), (2, (0, 0, 0, 8, x2)), (1, (0, 0, (-2147483648), 2147483647, x1)), (0, (2, 60, 0, 0, 0))] [] M1
          refine hgo.2.1 86 _ [(3, (0, 0, 10, 401, M1 60 15)), (2, (0, 0, 0, 7, x2)), (1, (0, 0, (-2147483648), 2147483647, x1)), (0, (2, 60, 0, 0, 0))] _ _ (xa_subI rfl rfl (fun _ _ _ _ => by omega) (xa_subI rfl rfl (fun _ _ _ _ => by omega) (xa_subI rfl rfl (fun _ _ _ _ => by omega) (xa_subR rfl xa_sub0)))) ?_
          exact loop2 402 (M1 60 15) M1 (by omega) (by omega) hc h20 (by omega) (by rw [← h9.1]; exact er2.mp (by omega)) (by omega) (by rw [show (M1 60 15 - M 60 15).toNat = 0 by omega]; exact hw) (by omega)
        · intro (c3 : r2 = 0)
          show Q 62 [(2, (0, 0, 1, 9, x2 + 1)), (1, (0, 0, (-2147483648), 2147483647, x1)), (0, (2, 60, 0, 0, 0))] [] M1
          refine hgo.2.1 62 _ [(2, (0, 0, 0, 8, x2 + 1)), (1, (0, 0, (-2147483648), 2147483647, x1)), (0, (2, 60, 0, 0, 0))] _ _ (xa_subI rfl rfl (fun _ _ _ _ => by omega) (xa_subI rfl rfl (fun _ _ _ _ => by omega) (xa_subR rfl xa_sub0))) ?_
          have ep : ((x2.toNat : Nat) : Int) = x2 := Int.toNat_of_nonneg (by omega)
          have en : (x2 + 1).toNat = x2.toNat + 1 := by omega
          have q1 : cm_f (cm_p (M 60 15) (M 60 16) a (M 70) (M 71)) 0 (x2 + 1).toNat (fun _ => 0) = cm_f (cm_p (M 60 15) (M 60 16) a (M 70) (M 71)) 0 x2.toNat (fun _ => 0) := by
            rw [en]
            show cm_p (M 60 15) (M 60 16) a (M 70) (M 71) (0 + ((x2.toNat : Nat) : Int)) (cm_f (cm_p (M 60 15) (M 60 16) a (M 70) (M 71)) 0 x2.toNat (fun _ => 0)) = _
            rw [Int.zero_add, ep]
            exact if_neg (by rw [← h9.1]; exact fun e => absurd (er2.mpr e) (by omega))
          exact ih1 (x2 + 1) x1 M1 (by omega) hc h20 hgd (by omega) (fun t t0 t1 => by rw [q1]; exact hw t t0 t1) (by omega)
  have loop0 : ∀ (n : Nat) (x2 x1 : Int) (M1 : xa_M), 0 ≤ x2 ∧ x2 ≤ 401 → xm_cor M M1 → M1 60 20 = M 60 20 → ((0 < a ∧ a < xa_ib 6 1 (M 60 11)) ∧ M 60 16 - M 60 15 ≤ 60) → x1 = a → (∀ t : Int, 0 ≤ t → t < x2 → M1 92 t = 0) → 401 - x2 < (n : Int) → Q 40 [(2, (0, 0, 0, 401, x2)), (1, (0, 0, (-2147483648), 2147483647, x1)), (0, (2, 60, 0, 0, 0))] [] M1 := by
    intro n
    induction n with
    | zero => intro x2 x1 M1 b2 hc h20 hgd h9 hz hms; omega
    | succ n ih0 =>
      intro x2 x1 M1 b2 hc h20 hgd h9 hz hms0
      refine hgo.1 15 [40, 62, 86, 97, 142, 237] 40 _ _ _ ?_
      refine And.intro ?_ ?_
      · intro (c1 : 400 < x2)
        show Q 62 [(2, (0, 0, 0, 0, 0)), (1, (0, 0, (-2147483648), 2147483647, x1)), (0, (2, 60, 0, 0, 0))] [] M1
        refine hgo.2.1 62 _ [(2, (0, 0, 0, 8, 0)), (1, (0, 0, (-2147483648), 2147483647, x1)), (0, (2, 60, 0, 0, 0))] _ _ (xa_subI rfl rfl (fun _ _ _ _ => by omega) (xa_subI rfl rfl (fun _ _ _ _ => by omega) (xa_subR rfl xa_sub0))) ?_
        exact loop1 9 0 x1 M1 (by omega) hc h20 hgd ⟨h9, by omega⟩ (fun t t0 t1 => hz t (by omega) (by omega)) (by omega)
      · intro (c1 : x2 ≤ 400)
        refine And.intro (show 0 ≤ x2 ∧ x2 < 401 by omega) ?_
        show Q 40 [(2, (0, 0, 1, 402, x2 + 1)), (1, (0, 0, (-2147483648), 2147483647, x1)), (0, (2, 60, 0, 0, 0))] [] (xa_up M1 92 x2 0)
        refine hgo.2.1 40 _ [(2, (0, 0, 0, 401, x2 + 1)), (1, (0, 0, (-2147483648), 2147483647, x1)), (0, (2, 60, 0, 0, 0))] _ _ (xa_subI rfl rfl (fun _ _ _ _ => by omega) (xa_subI rfl rfl (fun _ _ _ _ => by omega) (xa_subR rfl xa_sub0))) ?_
        exact ih0 (x2 + 1) x1 (xa_up M1 92 x2 0) (by omega) (xm_cor_a rfl hc) ((xa_up_ne (by omega)).trans h20) hgd h9 (fun t t0 t1 => by
          by_cases e : t = x2
          · rw [e, xa_up_eq]
          · rw [xa_up_ne (fun g => e g.2)]
            exact hz t t0 (by omega)) (by omega)
  refine hgo.1 25 [40, 62, 86, 97, 142, 237] 0 _ _ _ ?_
  refine And.intro ?_ ?_
  · intro (c1 : a ≤ 0)
    show post (some (0, 0, (-1), (-1), (-1))) (xa_up M 60 21 0)
    exact k _ _ _ _ (by unfold cm_P; omega) (xm_cor_f (by omega) xm_cor_r) (by show rz_c (0 ≤ ((-1) : Int)) (M 60 20) (M 60 20) 1; unfold rz_c; omega)
  · intro (c1 : 0 < a)
    refine And.intro ?_ ?_
    · intro (c2 : a < (xa_ib 6 1 (M 60 11)))
      refine And.intro ?_ ?_
      · intro (c3 : ((M 60 16) - (M 60 15)) ≤ 60)
        show Q 40 [(2, (0, 0, 0, 0, 0)), (0, (2, 60, 0, 0, 0)), (1, (0, 0, (-2147483648), 2147483647, a))] [] (xa_up M 60 21 0)
        refine hgo.2.1 40 _ [(2, (0, 0, 0, 401, 0)), (1, (0, 0, (-2147483648), 2147483647, a)), (0, (2, 60, 0, 0, 0))] _ _ (xa_subI rfl rfl (fun _ _ _ _ => by omega) (xa_subI rfl rfl (fun _ _ _ _ => by omega) (xa_subR rfl xa_sub0))) ?_
        exact loop0 402 0 a (xa_up M 60 21 0) (by omega) (xm_cor_f (by omega) xm_cor_r) (xa_up_ne (by omega)) ⟨⟨by omega, by omega⟩, by omega⟩ rfl (fun t t0 t1 => by omega) (by omega)
      · intro (c3 : 60 < ((M 60 16) - (M 60 15)))
        show post (some (0, 0, (-4), (-4), (-4))) (xa_up M 60 21 0)
        exact k _ _ _ _ (by unfold cm_P; omega) (xm_cor_f (by omega) xm_cor_r) (by show rz_c (0 ≤ ((-4) : Int)) (M 60 20) (M 60 20) 1; unfold rz_c; omega)
    · intro (c2 : (xa_ib 6 1 (M 60 11)) ≤ a)
      show post (some (0, 0, (-1), (-1), (-1))) (xa_up M 60 21 0)
      exact k _ _ _ _ (by unfold cm_P; omega) (xm_cor_f (by omega) xm_cor_r) (by show rz_c (0 ≤ ((-1) : Int)) (M 60 20) (M 60 20) 1; unfold rz_c; omega)
theorem rz_p132 (A : Nat → Nat) (cmp : Bool) : iv_pair (rz_J A) A 132 261 [0] cmp false := rz_armV (fun W b h as M hJ hM hInv hs hR hz => by
  obtain ⟨m1, ys, rfl, -, hs⟩ := iv_spc hs
  obtain rfl := iv_sp0 hs
  obtain ⟨s1, s2, s3, s4⟩ := lm_Sx.mp hR.2.1
  have y1 : iv_num h 32 0 = M 60 15 := hR.2.2.1
  have y2 : iv_num h 32 1 = M 60 16 := hR.2.2.2.1
  have hMk := xa_H_Mok hM
  have b11 := xm_f11 hMk
  have b15 := xm_f15 hMk
  have b16 := xm_f16 hMk
  have hlh := hInv.2.2.2.1
  have hU : ∀ i, 0 ≤ i → i < iv_num h (bk_p b) 4 → (1 ≤ iv_num h (bk_p b + 1) i ∧ iv_num h (bk_p b + 1) i ≤ 2000) ∧ (1 ≤ iv_num h (bk_p b + 2) i ∧ iv_num h (bk_p b + 2) i ≤ 2000) := fun i i0 i1 => by
    rw [s3] at i1
    obtain ⟨g1, g2, -⟩ := s4 i i0 (by omega) i1
    have t1 := xm_t70 hMk i i0 (by omega)
    have t2 := xm_t71 hMk i i0 (by omega)
    have t3 := hInv.2.2.1 i i0 i1
    rw [g1, g2]
    omega
  have hc := rx_132 (b := b) (A := A) (h0 := h) (d := 55) (M := iv_num h) (l1 := -2147483648) (u1 := 2147483647) (x1 := m1.toInt) (post := fun o M1 => ∃ lo hi n, o = some (0, 0, lo, hi, n) ∧ ((cm_P (M 60 15) (M 60 16) (M 60 11) (M 70) (M 71) m1.toInt n ∧ ∀ (q : Nat) (j : Int), ¬ (q = 33 ∨ q = 48 ∨ q = 49) → M1 q j = iv_num h q j) ∧ rz_c (0 ≤ n) (iv_num h 48 1) (M1 48 1) 1)) (by omega) (by omega) hU (fun n M1 x1 x2 x3 => ⟨_, _, n, rfl, ⟨by
    rw [y1, y2, s3] at x1
    exact cm_Pe (fun p i0 i1 => by
      obtain ⟨g1, g2, -⟩ := s4 p i0 (by omega) i1
      exact ⟨g1, g2⟩) x1, x2⟩, x3⟩)
  have hm := fun (h1 : g_H) => rm_common (A := A) (h0 := h1) (d := 57) (M := M) (l1 := -2147483648) (u1 := 2147483647) (a := m1.toInt) (post := fun o M2 => (∃ lo hi n, o = some (0, 0, lo, hi, n) ∧ ((cm_P (M 60 15) (M 60 16) (M 60 11) (M 70) (M 71) m1.toInt n ∧ xm_cor M M2) ∧ rz_c (0 ≤ n) (M 60 20) (M2 60 20) 1)) ∧ xm_Inv M2) hInv (fun lo hi r M2 x1 x2 x3 => ⟨⟨lo, hi, r, rfl, ⟨x1, x2⟩, x3⟩, xm_Inv_cor x2 hInv⟩)
  refine ⟨[(2, 0, 0, 0, 0), (0, 0, -2147483648, 2147483647, m1.toInt)], [(2, 60, 0, 0, 0), (0, 0, -2147483648, 2147483647, m1.toInt)], _, _, ⟨rfl, iv_i m1, trivial⟩, ⟨rfl, iv_i m1, trivial⟩, fun n n' M1 M2 h1 h2 => ⟨fun _ => cm_one h1.1.1 h2.1.1, fun x => h2.1.2 104 x (by unfold xm_scr; omega), fun x => h2.1.2 105 x (by unfold xm_scr; omega), lm_R_k (fun q j hC => ?_) hR, rz_c2 (cm_one h1.1.1 h2.1.1) h1.2 h2.2 hz⟩, hc, hm⟩
  unfold xj
  by_cases hq : q < 60
  · rw [if_pos hq, if_pos hq]
    exact h1.1.2 q j (by first | (have t9 := lm_Cq hC; omega) | (unfold lm_C at hC; omega))
  · rw [if_neg hq, if_neg hq]
    exact h2.1.2 q j (by first | (have t9 := lm_Cq hC; unfold xm_scr; omega) | (unfold lm_C at hC; unfold xm_scr; omega)))
theorem rz_71n {b : Bool} {A : Nat → Nat} {h0 : g_H} {d : Nat} {M : xa_M} {post : Option xa_V → xa_M → Prop} {N : xa_M} {c e : Int} {l1 u1 l2 u2 x y : Int} (hkN : ∀ (q : Nat) (j : Int), ¬ (q = 48 ∨ q = 49) → M q j = N q j) (h48 : M 48 1 = c) (hce : 0 ≤ c ∧ c < 14 ∧ e = c + 2) (hx : -9223372036854775807 ≤ x ∧ x ≤ 9223372036854775807) (hy : -9223372036854775807 ≤ y ∧ y ≤ 9223372036854775807) (kN : ∀ M1 : xa_M, (∀ (q : Nat) (j : Int), ¬ (q = 48 ∨ q = 49) → M1 q j = N q j) → M1 48 1 = e → post none M1) : xa_C (xl_I b) A h0 (d + 3) 71 [(2, 48, 0, 0, 0), (1, 0, l1, u1, x), (1, 0, l2, u2, y)] M post := by
  have k : ∀ M1 : xa_M, (∀ (q : Nat) (j : Int), ¬ (q = 48 ∨ q = 49) → M1 q j = M q j) → M1 48 1 = e → post none M1 := fun M1 a9 b9 => kN M1 (fun q j hq => (a9 q j hq).trans (hkN q j hq)) b9
  refine xa_C_arg [(2, 48, 0, 0, 0), (1, 0, (-9223372036854775808), 9223372036854775807, x), (1, 0, (-9223372036854775808), 9223372036854775807, y)] (xa_svR (xa_svL (fun _ _ _ _ => by omega) (xa_svL (fun _ _ _ _ => by omega) xa_sv0))) ?_
  refine xa_meth (Q0 := (7, 0, false, 0, 0, 6)) (by decide +kernel) ⟨rfl, rfl⟩ (full := s_c_71) rfl rfl ?_
  intro hM hv Q hgo
  have hkr : ∀ (q : Nat) (j : Int), ¬ (q = 48 ∨ q = 49) → M q j = M q j := fun _ _ _ => rfl
  refine hgo.1 19 [] 0 _ _ _ ?_
  show xa_C (xl_I b) A h0 _ 55 [(1, 0, (-9223372036854775808), 9223372036854775807, x), (1, 0, (-9223372036854775808), 9223372036854775807, y)] M _
  refine cx_55w (by omega) (by omega) ?_
  intro g123 (i1 : 0 ≤ g123) (i2 : g123 ≤ 9223372036854775807)
  show xa_C (xl_I b) A h0 _ 21 [(1, 0, (-9223372036854775808), 9223372036854775807, x), (1, 0, 0, 9223372036854775807, g123)] M _
  refine cx_21w (by omega) ?_
  intro q124
  show xa_C (xl_I b) A h0 _ 60 [(2, 48, 0, 0, 0), (1, 0, (-9223372036854775808), 9223372036854775807, q124)] M _
  refine rz_60n (N := M) (c := c) (e := c + 1) (by assumption) h48 (by omega) ?_
  intro M125 (i3 : ∀ (q : Nat) (j : Int), ¬ (q = 48 ∨ q = 49) → M125 q j = M q j) (i4 : M125 48 1 = c + 1)
  show xa_C (xl_I b) A h0 _ 21 [(1, 0, (-9223372036854775808), 9223372036854775807, y), (1, 0, 0, 9223372036854775807, g123)] M125 _
  refine cx_21w (by omega) ?_
  intro q126
  show xa_C (xl_I b) A h0 _ 60 [(2, 48, 0, 0, 0), (1, 0, (-9223372036854775808), 9223372036854775807, q126)] M125 _
  refine rz_60n (N := M) (c := c + 1) (e := e) (by assumption) i4 (by omega) ?_
  intro M127 (i5 : ∀ (q : Nat) (j : Int), ¬ (q = 48 ∨ q = 49) → M127 q j = M q j) (i6 : M127 48 1 = e)
  show post none M127
  exact k _ i5 i6
theorem rz_130 {b : Bool} {A : Nat → Nat} {h0 : g_H} {d : Nat} {M : xa_M} {post : Option xa_V → xa_M → Prop} {l1 u1 l2 u2 uu vv : Int} (hL : 10 ≤ M 32 0 ∧ M 32 0 ≤ M 32 1 ∧ M 32 1 ≤ 400) (hU : 1 ≤ uu ∧ uu ≤ 2000) (hV : 1 ≤ vv ∧ vv ≤ 2000) (k : ∀ (M1 : xa_M) (r a c : Int), nr_P (M 32 0) (M 32 1) uu vv a c → nr_s (a * vv - c * uu) r → (∀ (q : Nat) (j : Int), ¬ (q = 48 ∨ q = 49) → M1 q j = M q j) → M1 48 1 = 4 → post (some (0, 0, 0, 2, r)) M1) : xa_C (xl_I b) A h0 (d + 4) 130 [(2, 32, 0, 0, 0), (1, 0, l1, u1, uu), (1, 0, l2, u2, vv), (2, 48, 0, 0, 0)] M post := by
  refine xa_C_wk ?_
  refine xa_C_arg [(2, 32, 0, 0, 0), (1, 0, 1, 2000, uu), (1, 0, 1, 2000, vv), (2, 48, 0, 0, 0)] (xa_svR (xa_svL (fun _ _ _ _ => by omega) (xa_svL (fun _ _ _ _ => by omega) (xa_svR xa_sv0)))) ?_
  refine xa_meth (Q0 := (17, 1, false, 0, 0, 7)) (by decide +kernel) ⟨rfl, rfl⟩ (full := s_c_130) rfl rfl ?_
  intro hM hv Q hgo
  have hkr : ∀ (q : Nat) (j : Int), ¬ (q = 48 ∨ q = 49) → M q j = M q j := fun _ _ _ => rfl
  have loop20 : ∀ (f : Nat) (tc tA tC : Int), M 32 0 ≤ tc ∧ tc ≤ M 32 1 + 1 → ((M 32 0 ≤ tA ∧ tA ≤ M 32 1) ∧ M 32 0 ≤ tC ∧ tC ≤ M 32 1) → nr_S (M 32 0) (M 32 1) uu vv tc tA tC → (tC < tc ∨ (tc = M 32 0 ∧ tA = M 32 0 ∧ tC = M 32 0)) → 401 - tc < (f : Int) → Q 20 [(10, (0, 0, 10, 401, tc)), (6, (1, 0, 10, 400, tA)), (8, (1, 0, 10, 400, tC)), (0, (2, 32, 0, 0, 0)), (1, (1, 0, 1, 2000, uu)), (3, (1, 0, 1, 2000, vv)), (5, (2, 48, 0, 0, 0))] [] M := by
    intro f
    induction f with
    | zero => intro tc tA tC h1 hR hS hG hms; omega
    | succ f ih20 =>
      intro tc tA tC h1 hR hS hG hms
      have p1 := xm_mulp (p := uu) (q := tc) (a := 2000) (b := 401) (by omega) (by omega) (by omega) (by omega)
      have p2 := xm_mulp (p := tA) (q := vv) (a := 400) (b := 2000) (by omega) (by omega) (by omega) (by omega)
      have p3 := xm_mulp (p := uu) (q := tC) (a := 2000) (b := 400) (by omega) (by omega) (by omega) (by omega)
      have p4 := xm_mulp (p := tC) (q := vv) (a := 400) (b := 2000) (by omega) (by omega) (by omega) (by omega)
      have loop44 : tc ≤ M 32 1 → ∀ (f : Nat) (tn tA tC : Int), uu * tc / vv ≤ tn ∧ tn ≤ uu * tc / vv + 2 → ((M 32 0 ≤ tA ∧ tA ≤ M 32 1) ∧ M 32 0 ≤ tC ∧ tC ≤ M 32 1) → nr_S (M 32 0) (M 32 1) uu vv tc tA tC → (∀ i : Int, uu * tc / vv ≤ i → i < tn → ∃ a9 : Int, nr_c (M 32 0) (M 32 1) i a9 ∧ nr_K uu vv tc tA tC a9) → (tC < tc ∨ (tC = tc ∧ ∀ w : Int, nr_c (M 32 0) (M 32 1) tn w → tA ≤ w)) → uu * tc / vv + 2 - tn < (f : Int) → Q 44 [(13, (1, 0, 0, 320000002, tn)), (11, (1, 0, 0, 320000000, (uu * tc) / vv)), (10, (0, 0, 10, 400, tc)), (6, (1, 0, 10, 400, tA)), (8, (1, 0, 10, 400, tC)), (0, (2, 32, 0, 0, 0)), (1, (1, 0, 1, 2000, uu)), (3, (1, 0, 1, 2000, vv)), (5, (2, 48, 0, 0, 0))] [] M := by
        intro htc f
        have q0 := Int.ediv_nonneg (show 0 ≤ uu * tc by exact Int.mul_nonneg (by omega) (by omega)) (show 0 ≤ vv by omega)
        have q1 := Int.ediv_le_self vv (show 0 ≤ uu * tc by omega)
        induction f with
        | zero => intro tn tA tC h2 hR hS hK hG hms; omega
        | succ f ih44 =>
          intro tn tA tC h2 hR hS hK hG hms
          refine hgo.1 53 [20, 44] 44 _ _ _ ?_
          refine And.intro ?_ ?_
          · intro (c1 : (((uu * tc) / vv) + 1) < tn)
            show Q 20 [(10, (0, 0, 11, 401, tc + 1)), (13, (1, 0, 0, 320000002, tn)), (11, (1, 0, 0, 320000000, (uu * tc) / vv)), (6, (1, 0, 10, 400, tA)), (8, (1, 0, 10, 400, tC)), (0, (2, 32, 0, 0, 0)), (1, (1, 0, 1, 2000, uu)), (3, (1, 0, 1, 2000, vv)), (5, (2, 48, 0, 0, 0))] [] M
            refine hgo.2.1 20 _ [(10, (0, 0, 10, 401, tc + 1)), (6, (1, 0, 10, 400, tA)), (8, (1, 0, 10, 400, tC)), (0, (2, 32, 0, 0, 0)), (1, (1, 0, 1, 2000, uu)), (3, (1, 0, 1, 2000, vv)), (5, (2, 48, 0, 0, 0))] _ _ (xa_subI rfl rfl (fun _ _ _ _ => by omega) (xa_subL rfl rfl (fun _ _ _ _ => by omega) (xa_subL rfl rfl (fun _ _ _ _ => by omega) (xa_subR rfl (xa_subL rfl rfl (fun _ _ _ _ => by omega) (xa_subL rfl rfl (fun _ _ _ _ => by omega) (xa_subR rfl (xa_sub0)))))))) ?_
            obtain ⟨a1, g1, g2⟩ := hK (uu * tc / vv) (Int.le_refl _) (by omega)
            obtain ⟨a2, g3, g4⟩ := hK (uu * tc / vv + 1) (by omega) (by omega)
            exact ih20 (tc + 1) tA tC (by omega) hR (nr_Sr (by omega) (by omega) rfl g1 g3 hS g2 g4) (Or.inl (by rcases hG with hG | hG; omega; omega)) (by omega)
          · intro (c1 : tn ≤ (((uu * tc) / vv) + 1))
            show xa_C (xl_I b) A h0 _ 26 [(1, 0, 10, 400, M 32 1), (1, 0, 0, 320000002, tn)] M _
            refine ct_minL 0 400 (by decide) (by decide) (by decide) ?_
            intro r128 (i2 : 0 ≤ r128 ∧ r128 ≤ 400) (i3 : r128 ≤ (M 32 1) ∧ r128 ≤ tn ∧ (r128 = (M 32 1) ∨ r128 = tn))
            show xa_C (xl_I b) A h0 _ 24 [(1, 0, 10, 400, M 32 0), (1, 0, 0, 400, r128)] M _
            refine cx_24m (by omega) (by omega) ?_
            intro r129 (i4 : (M 32 0) ≤ r129 ∧ r128 ≤ r129 ∧ (r129 = (M 32 0) ∨ r129 = r128))
            show xa_C (xl_I b) A h0 _ 56 [(1, 0, (-800000), 799990, (r129 * vv) - (uu * tc))] M _
            refine ct_absb 800000 (by decide) (by decide) (by decide) ?_
            intro r130 (i5 : r130 = (((r129 * vv) - (uu * tc)).natAbs : Int))
            show xa_C (xl_I b) A h0 _ 56 [(1, 0, (-799990), 799990, (tA * vv) - (uu * tC))] M _
            refine ct_absb 800000 (by decide) (by decide) (by decide) ?_
            intro r131 (i6 : r131 = (((tA * vv) - (uu * tC)).natAbs : Int))
            refine And.intro ?_ ?_
            · intro (c7 : (r131 * tc) ≤ (r130 * tC))
              show Q 44 [(13, (1, 0, 1, 320000003, tn + 1)), (15, (1, 0, 0, 400, r129)), (11, (1, 0, 0, 320000000, (uu * tc) / vv)), (10, (0, 0, 10, 400, tc)), (6, (1, 0, 10, 400, tA)), (8, (1, 0, 10, 400, tC)), (0, (2, 32, 0, 0, 0)), (1, (1, 0, 1, 2000, uu)), (3, (1, 0, 1, 2000, vv)), (5, (2, 48, 0, 0, 0))] [] M
              refine hgo.2.1 44 _ [(13, (1, 0, 0, 320000002, tn + 1)), (11, (1, 0, 0, 320000000, (uu * tc) / vv)), (10, (0, 0, 10, 400, tc)), (6, (1, 0, 10, 400, tA)), (8, (1, 0, 10, 400, tC)), (0, (2, 32, 0, 0, 0)), (1, (1, 0, 1, 2000, uu)), (3, (1, 0, 1, 2000, vv)), (5, (2, 48, 0, 0, 0))] _ _ (xa_subL rfl rfl (fun _ _ _ _ => by omega) (xa_subL rfl rfl (fun _ _ _ _ => by omega) (xa_subI rfl rfl (fun _ _ _ _ => by omega) (xa_subL rfl rfl (fun _ _ _ _ => by omega) (xa_subL rfl rfl (fun _ _ _ _ => by omega) (xa_subR rfl (xa_subL rfl rfl (fun _ _ _ _ => by omega) (xa_subL rfl rfl (fun _ _ _ _ => by omega) (xa_subR rfl (xa_sub0)))))))))) ?_
              have hw : nr_c (M 32 0) (M 32 1) tn r129 := by
                unfold nr_c
                omega
              have d1 : r130 = nr_d uu vv r129 tc := by
                rw [i5, Int.mul_comm uu tc]
                rfl
              have d2 : r131 = nr_d uu vv tA tC := by
                rw [i6, Int.mul_comm uu tC]
                rfl
              have d3 := c7
              rw [d1, d2] at d3
              exact ih44 (tn + 1) tA tC (by omega) (by omega) hS (fun i i0 i1 => by
                by_cases e : i = tn
                · rw [e]
                  refine ⟨r129, hw, nr_Ke d3 ?_⟩
                  rcases hG with hG | ⟨hG, hG2⟩
                  · exact Or.inl hG
                  · exact Or.inr ⟨hG, hG2 _ hw⟩
                · exact hK i i0 (by omega)) (by
                rcases hG with hG | ⟨hG, hG2⟩
                · exact Or.inl hG
                · refine Or.inr ⟨hG, fun w hw2 => ?_⟩
                  have := hG2 _ hw
                  unfold nr_c at hw hw2
                  omega) (by omega)
            · intro (c7 : (r130 * tC) < (r131 * tc))
              show Q 44 [(13, (1, 0, 1, 320000003, tn + 1)), (8, (1, 0, 10, 400, tc)), (6, (1, 0, 0, 400, r129)), (15, (1, 0, 0, 400, r129)), (11, (1, 0, 0, 320000000, (uu * tc) / vv)), (10, (0, 0, 10, 400, tc)), (0, (2, 32, 0, 0, 0)), (1, (1, 0, 1, 2000, uu)), (3, (1, 0, 1, 2000, vv)), (5, (2, 48, 0, 0, 0))] [] M
              refine hgo.2.1 44 _ [(13, (1, 0, 0, 320000002, tn + 1)), (11, (1, 0, 0, 320000000, (uu * tc) / vv)), (10, (0, 0, 10, 400, tc)), (6, (1, 0, 10, 400, r129)), (8, (1, 0, 10, 400, tc)), (0, (2, 32, 0, 0, 0)), (1, (1, 0, 1, 2000, uu)), (3, (1, 0, 1, 2000, vv)), (5, (2, 48, 0, 0, 0))] _ _ (xa_subL rfl rfl (fun _ _ _ _ => by omega) (xa_subL rfl rfl (fun _ _ _ _ => by omega) (xa_subI rfl rfl (fun _ _ _ _ => by omega) (xa_subL rfl rfl (fun _ _ _ _ => by omega) (xa_subL rfl rfl (fun _ _ _ _ => by omega) (xa_subR rfl (xa_subL rfl rfl (fun _ _ _ _ => by omega) (xa_subL rfl rfl (fun _ _ _ _ => by omega) (xa_subR rfl (xa_sub0)))))))))) ?_
              have hw : nr_c (M 32 0) (M 32 1) tn r129 := by
                unfold nr_c
                omega
              have d1 : r130 = nr_d uu vv r129 tc := by
                rw [i5, Int.mul_comm uu tc]
                rfl
              have d2 : r131 = nr_d uu vv tA tC := by
                rw [i6, Int.mul_comm uu tC]
                rfl
              have d3 := c7
              rw [d1, d2] at d3
              exact ih44 (tn + 1) r129 tc (by omega) (by omega) (nr_Sn (by omega) (by omega) (by omega) hS d3) (fun i i0 i1 => by
                by_cases e : i = tn
                · rw [e]
                  exact ⟨r129, hw, nr_Ks⟩
                · obtain ⟨a9, g1, g2⟩ := hK i i0 (by omega)
                  exact ⟨a9, g1, nr_Kn (by omega) (by omega) g2 d3⟩) (Or.inr ⟨rfl, fun w hw2 => by
                unfold nr_c at hw hw2
                omega⟩) (by omega)
      refine hgo.1 33 [20, 44] 20 _ _ _ ?_
      refine And.intro ?_ ?_
      · intro (c1 : (M 32 1) < tc)
        show xa_C (xl_I b) A h0 _ 59 [(2, 48, 0, 0, 0)] M _
        refine rz_59n (N := M) (by assumption) ?_
        intro M132 (i2 : ∀ (q : Nat) (j : Int), ¬ (q = 48 ∨ q = 49) → M132 q j = M q j) (i3 : M132 48 1 = 0)
        show xa_C (xl_I b) A h0 _ 60 [(2, 48, 0, 0, 0), (1, 0, 10, 400, tA)] M132 _
        refine rz_60n (N := M) (c := 0) (e := 1) (by assumption) (by assumption) (by decide) ?_
        intro M133 (i4 : ∀ (q : Nat) (j : Int), ¬ (q = 48 ∨ q = 49) → M133 q j = M q j) (i5 : M133 48 1 = 1)
        show xa_C (xl_I b) A h0 _ 60 [(2, 48, 0, 0, 0), (1, 0, 10, 400, tC)] M133 _
        refine rz_60n (N := M) (c := 1) (e := 2) (by assumption) (by assumption) (by decide) ?_
        intro M134 (i6 : ∀ (q : Nat) (j : Int), ¬ (q = 48 ∨ q = 49) → M134 q j = M q j) (i7 : M134 48 1 = 2)
        show xa_C (xl_I b) A h0 _ 71 [(2, 48, 0, 0, 0), (1, 0, (-799990), 799990, (tA * vv) - (uu * tC)), (1, 0, 10, 800000, tC * vv)] M134 _
        refine rz_71n (N := M) (c := 2) (e := 4) (by assumption) (by assumption) (by decide) (by omega) (by omega) ?_
        intro M135 (i8 : ∀ (q : Nat) (j : Int), ¬ (q = 48 ∨ q = 49) → M135 q j = M q j) (i9 : M135 48 1 = 4)
        show xa_C (xl_I b) A h0 _ 131 [(1, 0, (-799990), 799990, (tA * vv) - (uu * tC))] M135 _
        refine cx_131n (by omega) ?_
        intro r136 (i10 : nr_s ((tA * vv) - (uu * tC)) r136)
        show xa_wk post (some (0, 0, 0, 2, r136)) M135
        have e : tc = M 32 1 + 1 := by omega
        rw [e] at hS
        refine xa_wkI _ rfl (fun _ _ => by omega) (k _ _ tA tC (nr_SP hR.1 hR.2 hS) ?_ i8 i9)
        rw [Int.mul_comm tC uu]
        exact i10
      · intro (c1 : tc ≤ (M 32 1))
        show xa_C (xl_I b) A h0 _ 21 [(1, 0, 10, 802000, uu * tc), (1, 0, 1, 2000, vv)] M _
        refine cx_21h (by omega) (by omega) ?_
        show Q 44 [(13, (1, 0, 0, 320000000, (uu * tc) / vv)), (11, (1, 0, 0, 320000000, (uu * tc) / vv)), (10, (0, 0, 10, 401, tc)), (6, (1, 0, 10, 400, tA)), (8, (1, 0, 10, 400, tC)), (0, (2, 32, 0, 0, 0)), (1, (1, 0, 1, 2000, uu)), (3, (1, 0, 1, 2000, vv)), (5, (2, 48, 0, 0, 0))] [] M
        refine hgo.2.1 44 _ [(13, (1, 0, 0, 320000002, (uu * tc) / vv)), (11, (1, 0, 0, 320000000, (uu * tc) / vv)), (10, (0, 0, 10, 400, tc)), (6, (1, 0, 10, 400, tA)), (8, (1, 0, 10, 400, tC)), (0, (2, 32, 0, 0, 0)), (1, (1, 0, 1, 2000, uu)), (3, (1, 0, 1, 2000, vv)), (5, (2, 48, 0, 0, 0))] _ _ (xa_subL rfl rfl (fun _ _ _ _ => by omega) (xa_subL rfl rfl (fun _ _ _ _ => by omega) (xa_subI rfl rfl (fun _ _ _ _ => by omega) (xa_subL rfl rfl (fun _ _ _ _ => by omega) (xa_subL rfl rfl (fun _ _ _ _ => by omega) (xa_subR rfl (xa_subL rfl rfl (fun _ _ _ _ => by omega) (xa_subL rfl rfl (fun _ _ _ _ => by omega) (xa_subR rfl (xa_sub0)))))))))) ?_
        exact loop44 (by omega) 4 (uu * tc / vv) tA tC (by omega) hR hS (fun i i0 i1 => by omega) (by
          rcases hG with hG | ⟨hG, hG2, hG3⟩
          · exact Or.inl hG
          · refine Or.inr ⟨by omega, fun w hw => ?_⟩
            unfold nr_c at hw
            omega) (by omega)
  refine hgo.1 16 [20, 44] 0 _ _ _ ?_
  show Q 20 [(10, (0, 0, 10, 400, M 32 0)), (8, (1, 0, 10, 400, M 32 0)), (6, (1, 0, 10, 400, M 32 0)), (0, (2, 32, 0, 0, 0)), (1, (1, 0, 1, 2000, uu)), (3, (1, 0, 1, 2000, vv)), (5, (2, 48, 0, 0, 0))] [] M
  refine hgo.2.1 20 _ [(10, (0, 0, 10, 401, M 32 0)), (6, (1, 0, 10, 400, M 32 0)), (8, (1, 0, 10, 400, M 32 0)), (0, (2, 32, 0, 0, 0)), (1, (1, 0, 1, 2000, uu)), (3, (1, 0, 1, 2000, vv)), (5, (2, 48, 0, 0, 0))] _ _ (xa_subI rfl rfl (fun _ _ _ _ => by omega) (xa_subL rfl rfl (fun _ _ _ _ => by omega) (xa_subL rfl rfl (fun _ _ _ _ => by omega) (xa_subR rfl (xa_subL rfl rfl (fun _ _ _ _ => by omega) (xa_subL rfl rfl (fun _ _ _ _ => by omega) (xa_subR rfl (xa_sub0)))))))) ?_
  exact loop20 402 (M 32 0) (M 32 0) (M 32 0) (by omega) (by omega) (fun x z x0 x1 z0 z1 => by omega) (Or.inr ⟨rfl, rfl, rfl⟩) (by omega)
theorem rx_129_50 {A : Nat → Nat} {h0 : g_H} {d : Nat} {M : xa_M} {post : Option xa_V → xa_M → Prop} {l1 u1 x1 : Int} (hL : 10 ≤ M 32 0 ∧ M 32 0 ≤ M 32 1 ∧ M 32 1 ≤ 400) (hp : 0 ≤ M 50 4 ∧ M 50 4 ≤ 8) (hUU : ∀ i : Int, 0 ≤ i → i < M 50 4 → (1 ≤ M 51 i ∧ M 51 i ≤ 2000) ∧ (1 ≤ M 52 i ∧ M 52 i ≤ 2000)) (k : ∀ (r : Int) (M1 : xa_M), nr_A (M 32 0) (M 32 1) (M 50 4) (M 51 x1) (M 52 x1) x1 r → (∀ (q : Nat) (j : Int), ¬ (q = 48 ∨ q = 49) → M1 q j = M q j) → rz_c (0 ≤ r) (M 48 1) (M1 48 1) 4 → post (some (0, 0, (-1), 2, r)) M1) : xa_C (xl_I false) A h0 (d + 5) 129 [(2, 0, 0, 0, 0), (0, 0, l1, u1, x1)] M post := by
  refine xa_C_wk ?_
  refine xa_C_arg [(2, 0, 0, 0, 0), (0, 0, (-2147483648), 2147483647, x1)] (xa_svR (xa_svI (fun _ _ _ _ => by omega) xa_sv0)) ?_
  refine xa_meth (Q0 := (2, 1, false, 0, 0, 11)) (by decide +kernel) ⟨rfl, rfl⟩ (full := s_c_129) rfl rfl ?_
  intro hM hv Q hgo
  have hu := hUU x1
  refine hgo.1 23 [] 0 _ _ _ ?_
  show xa_C (xl_I false) A h0 _ 87 [(2, 50, 0, 0, 0), (0, 0, (-2147483648), 2147483647, x1)] M _
  refine cx_87_50 ?_ ?_ ?_
  · intro (i1 : x1 < 0)
    show xa_wk post (some (0, 0, (-1), (-1), (-1))) M
    exact xa_wkI (-1) rfl (fun _ _ => by omega) (k _ _ (Or.inl ⟨by omega, rfl⟩) (fun _ _ _ => rfl) (by unfold rz_c; omega))
  · intro (i2 : 0 ≤ x1) (i3 : (M 50 4) ≤ x1)
    show xa_wk post (some (0, 0, (-1), (-1), (-1))) M
    exact xa_wkI (-1) rfl (fun _ _ => by omega) (k _ _ (Or.inl ⟨by omega, rfl⟩) (fun _ _ _ => rfl) (by unfold rz_c; omega))
  · intro (i4 : 0 ≤ x1) (i5 : x1 < (M 50 4))
    show xa_C (xl_I false) A h0 _ 65 [(2, 50, 0, 0, 0), (0, 0, (-2147483648), 2147483647, x1)] M _
    refine cx_65_50 (show 0 ≤ x1 ∧ x1 < 8 by omega) ?_
    show xa_C (xl_I false) A h0 _ 64 [(2, 50, 0, 0, 0), (0, 0, (-2147483648), 2147483647, x1)] M _
    refine cx_64_50 (show 0 ≤ x1 ∧ x1 < 8 by omega) ?_
    show xa_C (xl_I false) A h0 _ 130 [(2, 32, 0, 0, 0), (1, 0, (-2147483648), 2147483647, M 51 x1), (1, 0, (-2147483648), 2147483647, M 52 x1), (2, 48, 0, 0, 0)] M _
    refine rz_130 hL (by omega) (by omega) ?_
    intro M141 r142 a143 c144 (i6 : nr_P (M 32 0) (M 32 1) (M 51 x1) (M 52 x1) a143 c144) (i7 : nr_s (a143 * (M 52 x1) - c144 * (M 51 x1)) r142) (i8 : ∀ (q : Nat) (j : Int), ¬ (q = 48 ∨ q = 49) → M141 q j = M q j) (z9 : M141 48 1 = 4)
    show xa_wk post (some (0, 0, 0, 2, r142)) M141
    exact xa_wkI _ rfl (fun _ _ => by omega) (k _ _ (Or.inr ⟨⟨by omega, by omega⟩, _, _, i6, i7⟩) i8 (by unfold nr_s at i7; unfold rz_c; omega))
theorem rx_129_55 {A : Nat → Nat} {h0 : g_H} {d : Nat} {M : xa_M} {post : Option xa_V → xa_M → Prop} {l1 u1 x1 : Int} (hL : 10 ≤ M 32 0 ∧ M 32 0 ≤ M 32 1 ∧ M 32 1 ≤ 400) (hp : 0 ≤ M 55 4 ∧ M 55 4 ≤ 8) (hUU : ∀ i : Int, 0 ≤ i → i < M 55 4 → (1 ≤ M 56 i ∧ M 56 i ≤ 2000) ∧ (1 ≤ M 57 i ∧ M 57 i ≤ 2000)) (k : ∀ (r : Int) (M1 : xa_M), nr_A (M 32 0) (M 32 1) (M 55 4) (M 56 x1) (M 57 x1) x1 r → (∀ (q : Nat) (j : Int), ¬ (q = 48 ∨ q = 49) → M1 q j = M q j) → rz_c (0 ≤ r) (M 48 1) (M1 48 1) 4 → post (some (0, 0, (-1), 2, r)) M1) : xa_C (xl_I true) A h0 (d + 5) 129 [(2, 0, 0, 0, 0), (0, 0, l1, u1, x1)] M post := by
  refine xa_C_wk ?_
  refine xa_C_arg [(2, 0, 0, 0, 0), (0, 0, (-2147483648), 2147483647, x1)] (xa_svR (xa_svI (fun _ _ _ _ => by omega) xa_sv0)) ?_
  refine xa_meth (Q0 := (2, 1, false, 0, 0, 11)) (by decide +kernel) ⟨rfl, rfl⟩ (full := s_c_129) rfl rfl ?_
  intro hM hv Q hgo
  have hu := hUU x1
  refine hgo.1 23 [] 0 _ _ _ ?_
  show xa_C (xl_I true) A h0 _ 87 [(2, 55, 0, 0, 0), (0, 0, (-2147483648), 2147483647, x1)] M _
  refine cx_87_55 ?_ ?_ ?_
  · intro (i1 : x1 < 0)
    show xa_wk post (some (0, 0, (-1), (-1), (-1))) M
    exact xa_wkI (-1) rfl (fun _ _ => by omega) (k _ _ (Or.inl ⟨by omega, rfl⟩) (fun _ _ _ => rfl) (by unfold rz_c; omega))
  · intro (i2 : 0 ≤ x1) (i3 : (M 55 4) ≤ x1)
    show xa_wk post (some (0, 0, (-1), (-1), (-1))) M
    exact xa_wkI (-1) rfl (fun _ _ => by omega) (k _ _ (Or.inl ⟨by omega, rfl⟩) (fun _ _ _ => rfl) (by unfold rz_c; omega))
  · intro (i4 : 0 ≤ x1) (i5 : x1 < (M 55 4))
    show xa_C (xl_I true) A h0 _ 65 [(2, 55, 0, 0, 0), (0, 0, (-2147483648), 2147483647, x1)] M _
    refine cx_65_55 (show 0 ≤ x1 ∧ x1 < 8 by omega) ?_
    show xa_C (xl_I true) A h0 _ 64 [(2, 55, 0, 0, 0), (0, 0, (-2147483648), 2147483647, x1)] M _
    refine cx_64_55 (show 0 ≤ x1 ∧ x1 < 8 by omega) ?_
    show xa_C (xl_I true) A h0 _ 130 [(2, 32, 0, 0, 0), (1, 0, (-2147483648), 2147483647, M 56 x1), (1, 0, (-2147483648), 2147483647, M 57 x1), (2, 48, 0, 0, 0)] M _
    refine rz_130 hL (by omega) (by omega) ?_
    intro M145 r146 a147 c148 (i6 : nr_P (M 32 0) (M 32 1) (M 56 x1) (M 57 x1) a147 c148) (i7 : nr_s (a147 * (M 57 x1) - c148 * (M 56 x1)) r146) (i8 : ∀ (q : Nat) (j : Int), ¬ (q = 48 ∨ q = 49) → M145 q j = M q j) (z9 : M145 48 1 = 4)
    show xa_wk post (some (0, 0, 0, 2, r146)) M145
    exact xa_wkI _ rfl (fun _ _ => by omega) (k _ _ (Or.inr ⟨⟨by omega, by omega⟩, _, _, i6, i7⟩) i8 (by unfold nr_s at i7; unfold rz_c; omega))
theorem rx_129 {b : Bool} {A : Nat → Nat} {h0 : g_H} {d : Nat} {M : xa_M} {post : Option xa_V → xa_M → Prop} {l1 u1 x1 : Int} (hL : 10 ≤ M 32 0 ∧ M 32 0 ≤ M 32 1 ∧ M 32 1 ≤ 400) (hp : 0 ≤ M (bk_p b) 4 ∧ M (bk_p b) 4 ≤ 8) (hUU : ∀ i : Int, 0 ≤ i → i < M (bk_p b) 4 → (1 ≤ M (bk_p b + 1) i ∧ M (bk_p b + 1) i ≤ 2000) ∧ (1 ≤ M (bk_p b + 2) i ∧ M (bk_p b + 2) i ≤ 2000)) (k : ∀ (r : Int) (M1 : xa_M), nr_A (M 32 0) (M 32 1) (M (bk_p b) 4) (M (bk_p b + 1) x1) (M (bk_p b + 2) x1) x1 r → (∀ (q : Nat) (j : Int), ¬ (q = 48 ∨ q = 49) → M1 q j = M q j) → rz_c (0 ≤ r) (M 48 1) (M1 48 1) 4 → post (some (0, 0, (-1), 2, r)) M1) : xa_C (xl_I b) A h0 (d + 5) 129 [(2, 0, 0, 0, 0), (0, 0, l1, u1, x1)] M post := by
  cases b
  · exact rx_129_50 hL hp hUU k
  · exact rx_129_55 hL hp hUU k
theorem rm_nearest {A : Nat → Nat} {h0 : g_H} {d : Nat} {M : xa_M} {post : Option xa_V → xa_M → Prop} {l1 u1 : Int} {a : Int} (hI : xm_Inv M) (k : ∀ (lo hi r : Int) (M1 : xa_M), nr_B (M 60 15) (M 60 16) (M 60 11) (M 70 a) (M 71 a) a r → xm_cor M M1 → rz_c (0 ≤ r) (M 60 20) (M1 60 20) 4 → post (some (0, 0, lo, hi, r)) M1) : xa_C xm_I A h0 (d + 4) 259 [(2, 60, 0, 0, 0), (0, 0, l1, u1, a)] M post := by
  refine xa_C_arg [(2, 60, 0, 0, 0), (0, 0, (-2147483648), 2147483647, a)] (xa_svR (xa_svI (fun _ _ _ _ => by omega) xa_sv0)) ?_
  refine xa_meth (Q0 := (10, 1, false, 0, 0, 12)) (by decide +kernel) ⟨rfl, rfl⟩ (full := s_c_259) rfl rfl ?_
  intro hM hv Q hgo
  have b0 := xm_f0 hM
  have b6 := xm_f6 hM
  have b61 := xm_f61 hM
  have b11 := xm_f11 hM
  have b15 := xm_f15 hM
  have b16 := xm_f16 hM
  have hlh := hI.2.2.2.1
  have loop0 : ∀ (n : Nat) (x6 x4 x3 x2 x1 : Int) (M1 : xa_M), 10 ≤ x6 ∧ x6 ≤ 401 → 0 ≤ x4 ∧ x4 ≤ 800000 → 0 ≤ x3 ∧ x3 ≤ 400 → 0 ≤ x2 ∧ x2 ≤ 400 → 0 ≤ x1 ∧ x1 ≤ 7 → xm_cor M M1 → x1 < M 60 11 → (x6 = M 60 15 ∧ x2 = 0) ∨ (10 ≤ x2 ∧ 10 ≤ x3) → (x1 = a ∧ M 60 15 ≤ x6 ∧ x6 ≤ M 60 16 + 1) → ((x6 = M 60 15 ∧ x2 = 0) ∨ ((M 60 15 ≤ x2 ∧ x2 ≤ M 60 16) ∧ (M 60 15 ≤ x3 ∧ x3 ≤ M 60 16) ∧ x4 = nr_d (M 70 x1) (M 71 x1) x2 x3 ∧ nr_T (M 60 15) (M 60 16) (M 70 x1) (M 71 x1) x6 (M 60 15) x2 x3)) → 401 - x6 < (n : Int) → Q 28 [(6, (0, 0, 10, 401, x6)), (4, (1, 0, 0, 800000, x4)), (3, (0, 0, 0, 400, x3)), (2, (0, 0, 0, 400, x2)), (1, (0, 0, 0, 7, x1)), (0, (2, 60, 0, 0, 0))] [] M1 := by
    intro n
    induction n with
    | zero => intro x6 x4 x3 x2 x1 M1 b6 b4 b3 b2 b1 hc hx1 hJ hT hB hms; omega
    | succ n ih0 =>
      intro x6 x4 x3 x2 x1 M1 b6 b4 b3 b2 b1 hc hx1 hJ hT hB hms0
      have j71 : M1 71 x1 = M 71 x1 := hc 71 x1 (by unfold xm_scr; omega)
      have j70 : M1 70 x1 = M 70 x1 := hc 70 x1 (by unfold xm_scr; omega)
      have e0 := xm_corf hc 0 (by omega)
      have e6 := xm_corf hc 6 (by omega)
      have e61 := xm_corf hc 61 (by omega)
      have e11 := xm_corf hc 11 (by omega)
      have e15 := xm_corf hc 15 (by omega)
      have e16 := xm_corf hc 16 (by omega)
      refine hgo.2.2 _ _ _ _ (fun hM1 _ => ?_)
      have t71 := xm_t71 hM1 x1 (by omega) (by omega)
      have hp1 := (xm_Inv_cor hc hI).2.2.1 x1 (by omega) (by omega)
      have hmm : 10 ≤ x3 → 1 ≤ x3 * M1 71 x1 ∧ x3 * M1 71 x1 ≤ 400 * 2000 := fun h => xm_mulp (by omega) (by omega) (by omega) (by omega)
      have loop1 : ∀ (n : Nat) (x7 x4 x3 x2 : Int) (M1 : xa_M), 10 ≤ x7 ∧ x7 ≤ 401 → 0 ≤ x4 ∧ x4 ≤ 800000 → 0 ≤ x3 ∧ x3 ≤ 400 → 0 ≤ x2 ∧ x2 ≤ 400 → 10 ≤ x6 ∧ x6 ≤ 400 → 0 ≤ x1 ∧ x1 ≤ 7 → xm_cor M M1 → x1 < M 60 11 → ((x6 = M 60 15 ∧ x7 = M 60 15) ∧ x2 = 0) ∨ (10 ≤ x2 ∧ 10 ≤ x3) → (x1 = a ∧ M 60 15 ≤ x6 ∧ x6 ≤ M 60 16 ∧ M 60 15 ≤ x7 ∧ x7 ≤ M 60 16 + 1) → (((x6 = M 60 15 ∧ x7 = M 60 15) ∧ x2 = 0) ∨ ((M 60 15 ≤ x2 ∧ x2 ≤ M 60 16) ∧ (M 60 15 ≤ x3 ∧ x3 ≤ M 60 16) ∧ x4 = nr_d (M 70 x1) (M 71 x1) x2 x3 ∧ nr_T (M 60 15) (M 60 16) (M 70 x1) (M 71 x1) x6 x7 x2 x3)) → 401 - x7 < (n : Int) → Q 43 [(7, (0, 0, 10, 401, x7)), (6, (0, 0, 10, 400, x6)), (4, (1, 0, 0, 800000, x4)), (3, (0, 0, 0, 400, x3)), (2, (0, 0, 0, 400, x2)), (1, (0, 0, 0, 7, x1)), (0, (2, 60, 0, 0, 0))] [] M1 := by
        intro n
        induction n with
        | zero => intro x7 x4 x3 x2 M1 b7 b4 b3 b2 f6 f1 hc hx1b hJ2 hT1 hB1 hms; omega
        | succ n ih1 =>
          intro x7 x4 x3 x2 M1 b7 b4 b3 b2 f6 f1 hc hx1b hJ2 hT1 hB1 hms1
          have i71 : M1 71 x1 = M 71 x1 := hc 71 x1 (by unfold xm_scr; omega)
          have i70 : M1 70 x1 = M 70 x1 := hc 70 x1 (by unfold xm_scr; omega)
          have e0 := xm_corf hc 0 (by omega)
          have e6 := xm_corf hc 6 (by omega)
          have e61 := xm_corf hc 61 (by omega)
          have e11 := xm_corf hc 11 (by omega)
          have e15 := xm_corf hc 15 (by omega)
          have e16 := xm_corf hc 16 (by omega)
          refine hgo.2.2 _ _ _ _ (fun hM1 _ => ?_)
          have t71 := xm_t71 hM1 x1 (by omega) (by omega)
          have t70 := xm_t70 hM1 x1 (by omega) (by omega)
          have q6 := xm_mulq (p := x6) (q := M1 71 x1) (by omega) (by omega) (by omega) (by omega)
          have q7 : x7 ≤ 400 → 0 ≤ x7 * M1 70 x1 ∧ x7 * M1 70 x1 ≤ 800000 := fun h => xm_mulq (by omega) (by omega) (by omega) (by omega)
          refine hgo.1 46 [28, 43] 43 _ _ _ ?_
          refine And.intro ?_ ?_
          · intro (c1 : (M1 60 16) < x7)
            show Q 28 [(6, (0, 0, 11, 401, x6 + 1)), (7, (0, 0, 10, 401, x7)), (4, (1, 0, 0, 800000, x4)), (3, (0, 0, 0, 400, x3)), (2, (0, 0, 0, 400, x2)), (1, (0, 0, 0, 7, x1)), (0, (2, 60, 0, 0, 0))] [] M1
            refine hgo.2.1 28 _ [(6, (0, 0, 10, 401, x6 + 1)), (4, (1, 0, 0, 800000, x4)), (3, (0, 0, 0, 400, x3)), (2, (0, 0, 0, 400, x2)), (1, (0, 0, 0, 7, x1)), (0, (2, 60, 0, 0, 0))] _ _ (xa_subI rfl rfl (fun _ _ _ _ => by omega) (xa_subL rfl rfl (fun _ _ _ _ => by omega) (xa_subI rfl rfl (fun _ _ _ _ => by omega) (xa_subI rfl rfl (fun _ _ _ _ => by omega) (xa_subI rfl rfl (fun _ _ _ _ => by omega) (xa_subR rfl xa_sub0)))))) ?_
            exact ih0 (x6 + 1) x4 x3 x2 x1 M1 (by omega) (by omega) (by omega) (by omega) (by omega) hc (by omega) (by omega) (by omega) (by rcases hB1 with hB1 | ⟨g1, g2, g3, g4⟩; exact absurd hB1.1.2 (by omega); exact Or.inr ⟨g1, g2, g3, nr_Ti (show M 60 16 < x7 by omega) g4⟩) (by omega)
          · intro (c1 : x7 ≤ (M1 60 16))
            show xa_C xm_I A h0 _ 56 [(1, 0, (-802000), 800000, (x6 * (M1 71 x1)) - (x7 * (M1 70 x1)))] M1 _
            refine ct_absb 802000 (by decide) (by decide) (by decide) (fun a2 ea2 => ?_)
            have ea : a2 = nr_d (M 70 x1) (M 71 x1) x6 x7 := by
              rw [ea2, i71, i70]
              rfl
            refine And.intro ?_ ?_
            · intro (c3 : x2 ≤ 0)
              show Q 43 [(7, (0, 0, 11, 402, x7 + 1)), (4, (1, 0, 0, 802000, a2)), (3, (0, 0, 10, 401, x7)), (2, (0, 0, 10, 400, x6)), (8, (1, 0, 0, 802000, a2)), (6, (0, 0, 10, 400, x6)), (1, (0, 0, 0, 7, x1)), (0, (2, 60, 0, 0, 0))] [] M1
              refine hgo.2.1 43 _ [(7, (0, 0, 10, 401, x7 + 1)), (6, (0, 0, 10, 400, x6)), (4, (1, 0, 0, 800000, a2)), (3, (0, 0, 0, 400, x7)), (2, (0, 0, 0, 400, x6)), (1, (0, 0, 0, 7, x1)), (0, (2, 60, 0, 0, 0))] _ _ (xa_subI rfl rfl (fun _ _ _ _ => by omega) (xa_subI rfl rfl (fun _ _ _ _ => by omega) (xa_subL rfl rfl (fun _ _ _ _ => by omega) (xa_subI rfl rfl (fun _ _ _ _ => by omega) (xa_subI rfl rfl (fun _ _ _ _ => by omega) (xa_subI rfl rfl (fun _ _ _ _ => by omega) (xa_subR rfl xa_sub0))))))) ?_
              exact ih1 (x7 + 1) a2 x7 x6 M1 (by omega) (by omega) (by omega) (by omega) (by omega) (by omega) hc (by omega) (by omega) (by omega) (Or.inr ⟨by omega, by omega, ea, (by rcases hB1 with hB1 | hB1; exact nr_Tf hB1.1.1 hB1.1.2; exact absurd c3 (by omega))⟩) (by omega)
            · intro (c3 : 0 < x2)
              show xa_C xm_I A h0 _ 260 [(1, 0, 0, 802000, a2), (0, 0, 10, 400, x6), (0, 0, 10, 401, x7), (1, 0, 0, 800000, x4), (0, 0, 0, 400, x2), (0, 0, 0, 400, x3)] M1 _
              refine ct_isNearerF (by omega) (by omega) (by omega) (by omega) (by omega) (by omega) (fun r4 br4 er4 => ?_)
              refine And.intro ?_ ?_
              · intro (c5 : ¬ r4 = 0)
                show Q 43 [(7, (0, 0, 11, 402, x7 + 1)), (4, (1, 0, 0, 802000, a2)), (3, (0, 0, 10, 401, x7)), (2, (0, 0, 10, 400, x6)), (8, (1, 0, 0, 802000, a2)), (6, (0, 0, 10, 400, x6)), (1, (0, 0, 0, 7, x1)), (0, (2, 60, 0, 0, 0))] [] M1
                refine hgo.2.1 43 _ [(7, (0, 0, 10, 401, x7 + 1)), (6, (0, 0, 10, 400, x6)), (4, (1, 0, 0, 800000, a2)), (3, (0, 0, 0, 400, x7)), (2, (0, 0, 0, 400, x6)), (1, (0, 0, 0, 7, x1)), (0, (2, 60, 0, 0, 0))] _ _ (xa_subI rfl rfl (fun _ _ _ _ => by omega) (xa_subI rfl rfl (fun _ _ _ _ => by omega) (xa_subL rfl rfl (fun _ _ _ _ => by omega) (xa_subI rfl rfl (fun _ _ _ _ => by omega) (xa_subI rfl rfl (fun _ _ _ _ => by omega) (xa_subI rfl rfl (fun _ _ _ _ => by omega) (xa_subR rfl xa_sub0))))))) ?_
                rcases hB1 with hB1 | ⟨g1, g2, g3, g4⟩
                · exact absurd hB1.2 (by omega)
                · exact ih1 (x7 + 1) a2 x7 x6 M1 (by omega) (by omega) (by omega) (by omega) (by omega) (by omega) hc (by omega) (by omega) (by omega) (Or.inr ⟨by omega, by omega, ea, nr_T1 (by omega) (by omega) (by omega) g4 (by have q := er4.mp (by omega); rw [ea, g3] at q; unfold nr_N; omega)⟩) (by omega)
              · intro (c5 : r4 = 0)
                show Q 43 [(7, (0, 0, 11, 402, x7 + 1)), (8, (1, 0, 0, 802000, a2)), (6, (0, 0, 10, 400, x6)), (4, (1, 0, 0, 800000, x4)), (3, (0, 0, 0, 400, x3)), (2, (0, 0, 0, 400, x2)), (1, (0, 0, 0, 7, x1)), (0, (2, 60, 0, 0, 0))] [] M1
                refine hgo.2.1 43 _ [(7, (0, 0, 10, 401, x7 + 1)), (6, (0, 0, 10, 400, x6)), (4, (1, 0, 0, 800000, x4)), (3, (0, 0, 0, 400, x3)), (2, (0, 0, 0, 400, x2)), (1, (0, 0, 0, 7, x1)), (0, (2, 60, 0, 0, 0))] _ _ (xa_subI rfl rfl (fun _ _ _ _ => by omega) (xa_subI rfl rfl (fun _ _ _ _ => by omega) (xa_subL rfl rfl (fun _ _ _ _ => by omega) (xa_subI rfl rfl (fun _ _ _ _ => by omega) (xa_subI rfl rfl (fun _ _ _ _ => by omega) (xa_subI rfl rfl (fun _ _ _ _ => by omega) (xa_subR rfl xa_sub0))))))) ?_
                rcases hB1 with hB1 | ⟨g1, g2, g3, g4⟩
                · exact absurd hB1.2 (by omega)
                · exact ih1 (x7 + 1) x4 x3 x2 M1 (by omega) (by omega) (by omega) (by omega) (by omega) (by omega) hc (by omega) (by omega) (by omega) (Or.inr ⟨g1, g2, g3, nr_T0 g4 (fun hN => by have q := er4.mpr (by rw [ea, g3]; unfold nr_N at hN; omega); omega)⟩) (by omega)
      refine hgo.1 57 [28, 43] 28 _ _ _ ?_
      refine And.intro ?_ ?_
      · intro (c1 : (M1 60 16) < x6)
        have hq : nr_Q (M 60 15) (M 60 16) (M 70 x1) (M 71 x1) x2 x3 := by
          rcases hB with hB | ⟨g1, g2, g3, g4⟩
          · exact absurd hB.1 (by omega)
          · rw [show x6 = M 60 16 + 1 by omega] at g4
            exact nr_TQ g1 g2 g4
        show xa_C xm_I A h0 _ 231 [(2, 60, 0, 0, 0), (1, 0, 0, 400, x2)] (xa_up M1 60 20 0) _
        refine ct_tell (n := 0) (by first | rfl | (simp [xa_up]; done) | omega) (by omega) (by omega) ?_
        show xa_C xm_I A h0 _ 231 [(2, 60, 0, 0, 0), (1, 0, 0, 400, x3)] (xa_up (xa_up (xa_up M1 60 20 0) 74 0 x2) 60 20 1) _
        refine ct_tell (n := 1) (by first | rfl | (simp [xa_up]; done) | omega) (by omega) (by omega) ?_
        show xa_C xm_I A h0 _ 230 [(2, 60, 0, 0, 0), (1, 0, (-800000), 800000, (x2 * (M1 71 x1)) - (x3 * (M1 70 x1))), (1, 0, 0, 800000, x3 * (M1 71 x1))] (xa_up (xa_up (xa_up (xa_up (xa_up M1 60 20 0) 74 0 x2) 60 20 1) 74 1 x3) 60 20 2) _
        refine ct_tellPart (n := 2) (by first | rfl | (simp [xa_up]; done)) (by decide) (by decide) (by decide) (by omega) (fun g2 eg2 pg2 qg2 => ?_)
        refine And.intro ?_ ?_
        · intro (c3 : ((x2 * (M1 71 x1)) - (x3 * (M1 70 x1))) ≤ 0)
          refine And.intro ?_ ?_
          · intro (c4 : 0 ≤ ((x2 * (M1 71 x1)) - (x3 * (M1 70 x1))))
            show post (some (0, 0, 0, 0, 0)) (xa_up (xa_up (xa_up (xa_up (xa_up (xa_up (xa_up (xa_up (xa_up M1 60 20 0) 74 0 x2) 60 20 1) 74 1 x3) 60 20 2) 74 2 (((x2 * (M1 71 x1)) - (x3 * (M1 70 x1))).tdiv g2)) 60 20 3) 74 3 ((x3 * (M1 71 x1)).tdiv g2)) 60 20 4)
            exact k _ _ _ _ (by rw [← hT.1]; exact Or.inr ⟨⟨by omega, by omega⟩, x2, x3, hq, by rw [← j71, ← j70]; unfold nr_s; omega⟩) (xm_cor_f (by omega) (xm_cor_a rfl (xm_cor_f (by omega) (xm_cor_a rfl (xm_cor_f (by omega) (xm_cor_a rfl (xm_cor_f (by omega) (xm_cor_a rfl (xm_cor_f (by omega) hc))))))))) (by show rz_c (0 ≤ (0 : Int)) (M 60 20) (4) 4; unfold rz_c; omega)
          · intro (c4 : ((x2 * (M1 71 x1)) - (x3 * (M1 70 x1))) < 0)
            show post (some (0, 0, 2, 2, 2)) (xa_up (xa_up (xa_up (xa_up (xa_up (xa_up (xa_up (xa_up (xa_up M1 60 20 0) 74 0 x2) 60 20 1) 74 1 x3) 60 20 2) 74 2 (((x2 * (M1 71 x1)) - (x3 * (M1 70 x1))).tdiv g2)) 60 20 3) 74 3 ((x3 * (M1 71 x1)).tdiv g2)) 60 20 4)
            exact k _ _ _ _ (by rw [← hT.1]; exact Or.inr ⟨⟨by omega, by omega⟩, x2, x3, hq, by rw [← j71, ← j70]; unfold nr_s; omega⟩) (xm_cor_f (by omega) (xm_cor_a rfl (xm_cor_f (by omega) (xm_cor_a rfl (xm_cor_f (by omega) (xm_cor_a rfl (xm_cor_f (by omega) (xm_cor_a rfl (xm_cor_f (by omega) hc))))))))) (by show rz_c (0 ≤ (2 : Int)) (M 60 20) (4) 4; unfold rz_c; omega)
        · intro (c3 : 0 < ((x2 * (M1 71 x1)) - (x3 * (M1 70 x1))))
          show post (some (0, 0, 1, 1, 1)) (xa_up (xa_up (xa_up (xa_up (xa_up (xa_up (xa_up (xa_up (xa_up M1 60 20 0) 74 0 x2) 60 20 1) 74 1 x3) 60 20 2) 74 2 (((x2 * (M1 71 x1)) - (x3 * (M1 70 x1))).tdiv g2)) 60 20 3) 74 3 ((x3 * (M1 71 x1)).tdiv g2)) 60 20 4)
          exact k _ _ _ _ (by rw [← hT.1]; exact Or.inr ⟨⟨by omega, by omega⟩, x2, x3, hq, by rw [← j71, ← j70]; unfold nr_s; omega⟩) (xm_cor_f (by omega) (xm_cor_a rfl (xm_cor_f (by omega) (xm_cor_a rfl (xm_cor_f (by omega) (xm_cor_a rfl (xm_cor_f (by omega) (xm_cor_a rfl (xm_cor_f (by omega) hc))))))))) (by show rz_c (0 ≤ (1 : Int)) (M 60 20) (4) 4; unfold rz_c; omega)
      · intro (c1 : x6 ≤ (M1 60 16))
        show Q 43 [(7, (0, 0, 10, 400, M1 60 15)), (6, (0, 0, 10, 401, x6)), (4, (1, 0, 0, 800000, x4)), (3, (0, 0, 0, 400, x3)), (2, (0, 0, 0, 400, x2)), (1, (0, 0, 0, 7, x1)), (0, (2, 60, 0, 0, 0))] [] M1
        refine hgo.2.1 43 _ [(7, (0, 0, 10, 401, M1 60 15)), (6, (0, 0, 10, 400, x6)), (4, (1, 0, 0, 800000, x4)), (3, (0, 0, 0, 400, x3)), (2, (0, 0, 0, 400, x2)), (1, (0, 0, 0, 7, x1)), (0, (2, 60, 0, 0, 0))] _ _ (xa_subI rfl rfl (fun _ _ _ _ => by omega) (xa_subI rfl rfl (fun _ _ _ _ => by omega) (xa_subL rfl rfl (fun _ _ _ _ => by omega) (xa_subI rfl rfl (fun _ _ _ _ => by omega) (xa_subI rfl rfl (fun _ _ _ _ => by omega) (xa_subI rfl rfl (fun _ _ _ _ => by omega) (xa_subR rfl xa_sub0))))))) ?_
        exact loop1 402 (M1 60 15) x4 x3 x2 M1 (by omega) (by omega) (by omega) (by omega) (by omega) (by omega) hc (by omega) (by omega) (by omega) (by rw [e15]; rcases hB with hB | hB; exact Or.inl ⟨⟨hB.1, rfl⟩, hB.2⟩; exact Or.inr hB) (by omega)
  refine hgo.1 13 [15] 0 _ _ _ ?_
  show xa_C xm_I A h0 _ 239 [(2, 60, 0, 0, 0), (0, 0, (-2147483648), 2147483647, a)] (xa_up M 60 21 0) _
  refine ct_isPeriod ?_ ?_
  · intro (i1 : 0 ≤ a ∧ a < (M 60 11))
    show Q 15 [(0, (2, 60, 0, 0, 0)), (1, (0, 0, (-2147483648), 2147483647, a))] [] (xa_up M 60 21 0)
    refine hgo.2.1 15 _ [(1, (0, 0, 0, 7, a)), (0, (2, 60, 0, 0, 0))] _ _ (xa_subI rfl rfl (fun _ _ _ _ => by omega) (xa_subR rfl xa_sub0)) ?_
    refine hgo.1 14 [28, 43] 15 _ _ _ ?_
    show Q 28 [(6, (0, 0, 10, 400, M 60 15)), (4, (1, 0, 0, 0, 0)), (3, (0, 0, 0, 0, 0)), (2, (0, 0, 0, 0, 0)), (1, (0, 0, 0, 7, a)), (0, (2, 60, 0, 0, 0))] [] (xa_up M 60 21 0)
    refine hgo.2.1 28 _ [(6, (0, 0, 10, 401, M 60 15)), (4, (1, 0, 0, 800000, 0)), (3, (0, 0, 0, 400, 0)), (2, (0, 0, 0, 400, 0)), (1, (0, 0, 0, 7, a)), (0, (2, 60, 0, 0, 0))] _ _ (xa_subI rfl rfl (fun _ _ _ _ => by omega) (xa_subL rfl rfl (fun _ _ _ _ => by omega) (xa_subI rfl rfl (fun _ _ _ _ => by omega) (xa_subI rfl rfl (fun _ _ _ _ => by omega) (xa_subI rfl rfl (fun _ _ _ _ => by omega) (xa_subR rfl xa_sub0)))))) ?_
    exact loop0 402 (M 60 15) 0 0 0 a (xa_up M 60 21 0) (by omega) (by omega) (by omega) (by omega) (by omega) (xm_cor_f (by omega) xm_cor_r) (by omega) (by omega) (by omega) (Or.inl ⟨rfl, rfl⟩) (by omega)
  · intro (i1 : ¬ (0 ≤ a ∧ a < (M 60 11)))
    show post (some (0, 0, (-1), (-1), (-1))) (xa_up M 60 21 0)
    exact k _ _ _ _ (Or.inl ⟨i1, rfl⟩) (xm_cor_f (by omega) xm_cor_r) (by show rz_c (0 ≤ ((-1) : Int)) (M 60 20) (M 60 20) 4; unfold rz_c; omega)
theorem rz_p129 (A : Nat → Nat) (cmp : Bool) : iv_pair (rz_J A) A 129 259 [0] cmp false := rz_armV (fun W b h as M hJ hM hInv hs hR hz => by
  obtain ⟨m1, ys, rfl, -, hs⟩ := iv_spc hs
  obtain rfl := iv_sp0 hs
  obtain ⟨s1, s2, s3, s4⟩ := lm_Sx.mp hR.2.1
  have y1 : iv_num h 32 0 = M 60 15 := hR.2.2.1
  have y2 : iv_num h 32 1 = M 60 16 := hR.2.2.2.1
  have hMk := xa_H_Mok hM
  have b11 := xm_f11 hMk
  have b15 := xm_f15 hMk
  have b16 := xm_f16 hMk
  have hlh := hInv.2.2.2.1
  have hU : ∀ i, 0 ≤ i → i < iv_num h (bk_p b) 4 → (1 ≤ iv_num h (bk_p b + 1) i ∧ iv_num h (bk_p b + 1) i ≤ 2000) ∧ (1 ≤ iv_num h (bk_p b + 2) i ∧ iv_num h (bk_p b + 2) i ≤ 2000) := fun i i0 i1 => by
    rw [s3] at i1
    obtain ⟨g1, g2, -⟩ := s4 i i0 (by omega) i1
    have t1 := xm_t70 hMk i i0 (by omega)
    have t2 := xm_t71 hMk i i0 (by omega)
    have t3 := hInv.2.2.1 i i0 i1
    rw [g1, g2]
    omega
  have hc := rx_129 (b := b) (A := A) (h0 := h) (d := 55) (M := iv_num h) (l1 := -2147483648) (u1 := 2147483647) (x1 := m1.toInt) (post := fun o M1 => ∃ lo hi n, o = some (0, 0, lo, hi, n) ∧ ((nr_A (M 60 15) (M 60 16) (M 60 11) (M 70 m1.toInt) (M 71 m1.toInt) m1.toInt n ∧ ∀ (q : Nat) (j : Int), ¬ (q = 48 ∨ q = 49) → M1 q j = iv_num h q j) ∧ rz_c (0 ≤ n) (iv_num h 48 1) (M1 48 1) 4)) (by omega) (by omega) hU (fun n M1 x1 x2 x3 => ⟨_, _, n, rfl, ⟨by
    rw [y1, y2, s3] at x1
    exact nr_Ae x1 (fun i0 i1 => by
      obtain ⟨g1, g2, -⟩ := s4 _ i0 (by omega) i1
      exact ⟨g1, g2⟩), x2⟩, x3⟩)
  have hm := fun (h1 : g_H) => rm_nearest (A := A) (h0 := h1) (d := 56) (M := M) (l1 := -2147483648) (u1 := 2147483647) (a := m1.toInt) (post := fun o M2 => (∃ lo hi n, o = some (0, 0, lo, hi, n) ∧ ((nr_B (M 60 15) (M 60 16) (M 60 11) (M 70 m1.toInt) (M 71 m1.toInt) m1.toInt n ∧ xm_cor M M2) ∧ rz_c (0 ≤ n) (M 60 20) (M2 60 20) 4)) ∧ xm_Inv M2) hInv (fun lo hi r M2 x1 x2 x3 => ⟨⟨lo, hi, r, rfl, ⟨x1, x2⟩, x3⟩, xm_Inv_cor x2 hInv⟩)
  refine ⟨[(2, 0, 0, 0, 0), (0, 0, -2147483648, 2147483647, m1.toInt)], [(2, 60, 0, 0, 0), (0, 0, -2147483648, 2147483647, m1.toInt)], _, _, ⟨rfl, iv_i m1, trivial⟩, ⟨rfl, iv_i m1, trivial⟩, fun n n' M1 M2 h1 h2 => ⟨fun _ => nr_AB (by omega) (fun i0 i1 => by
    have t2 := xm_t71 hMk m1.toInt i0 (by omega)
    have t3 := hInv.2.2.1 m1.toInt i0 i1
    omega) h1.1.1 h2.1.1, fun x => h2.1.2 104 x (by unfold xm_scr; omega), fun x => h2.1.2 105 x (by unfold xm_scr; omega), lm_R_k (fun q j hC => ?_) hR, rz_c2 (nr_AB (by omega) (fun i0 i1 => by
    have t2 := xm_t71 hMk m1.toInt i0 (by omega)
    have t3 := hInv.2.2.1 m1.toInt i0 i1
    omega) h1.1.1 h2.1.1) h1.2 h2.2 hz⟩, hc, hm⟩
  unfold xj
  by_cases hq : q < 60
  · rw [if_pos hq, if_pos hq]
    exact h1.1.2 q j (by first | (have t9 := lm_Cq hC; omega) | (unfold lm_C at hC; omega))
  · rw [if_neg hq, if_neg hq]
    exact h2.1.2 q j (by first | (have t9 := lm_Cq hC; unfold xm_scr; omega) | (unfold lm_C at hC; unfold xm_scr; omega)))

-- who stands in whose way: the model's answers
set_option maxRecDepth 20000
def xm_near (M : xa_M) (a b : Int) : Prop := ¬ M 64 a = M 64 b ∧ (M 68 (M 64 a) - M 68 (M 64 b)) * (M 68 (M 64 a) - M 68 (M 64 b)) + (M 69 (M 64 a) - M 69 (M 64 b)) * (M 69 (M 64 a) - M 69 (M 64 b)) < (M 63 a + M 63 b) * (M 63 a + M 63 b)
def xm_inw (M : xa_M) (a b : Int) : Prop := M 64 a = M 64 b ∨ (xm_near M a b ∧ ¬ xm_meshed M a b)
theorem xm_meshed_s {M : xa_M} {a b : Int} (h : xm_meshed M a b) : xm_meshed M b a := by
  obtain ⟨m, m0, m1, h⟩ := h
  exact ⟨m, m0, m1, h.symm⟩
theorem xm_near_s {M : xa_M} {a b : Int} (h : xm_near M a b) : xm_near M b a := by
  obtain ⟨h1, h2⟩ := h
  refine ⟨fun e => h1 e.symm, ?_⟩
  have sq : ∀ x y : Int, (x - y) * (x - y) = (y - x) * (y - x) := fun x y => by
    rw [← Int.neg_sub y x, Int.neg_mul_neg]
  rw [sq (M 68 (M 64 b)), sq (M 69 (M 64 b)), Int.add_comm (M 63 b)]
  exact h2
theorem xm_inw_s {M : xa_M} {a b : Int} (h : xm_inw M a b) : xm_inw M b a := by
  rcases h with h | ⟨h1, h2⟩
  · exact Or.inl h.symm
  · exact Or.inr ⟨xm_near_s h1, fun e => h2 (xm_meshed_s e)⟩
theorem xm_inw_c {M M1 : xa_M} {a b : Int} (h : xm_cor M M1) : xm_inw M1 a b ↔ xm_inw M a b := by
  have e6 := xm_corf h 6 (by omega)
  have e63 := xm_corq h 63 rfl
  have e64 := xm_corq h 64 rfl
  have e66 := xm_corq h 66 rfl
  have e67 := xm_corq h 67 rfl
  have e68 := xm_corq h 68 rfl
  have e69 := xm_corq h 69 rfl
  unfold xm_inw xm_near xm_meshed
  simp only [e6, e63, e64, e66, e67, e68, e69]
theorem ct_areNearF {A : Nat → Nat} {h0 : g_H} {d : Nat} {M : xa_M} {post : Option xa_V → xa_M → Prop} {l1 u1 l2 u2 : Int} {a b : Int} (ha0 : 0 ≤ a) (ha1 : a ≤ 13) (hb0 : 0 ≤ b) (hb1 : b ≤ 13) (k : ∀ r : Int, (r = 0 ∨ r = 1) → (r = 1 ↔ xm_near M a b) → post (some (0, 0, 0, 1, r)) M) : xa_C xm_I A h0 (d + 2) 264 [(2, 60, 0, 0, 0), (0, 0, l1, u1, a), (0, 0, l2, u2, b)] M post := by
  refine xa_C_arg [(2, 60, 0, 0, 0), (0, 0, 0, 13, a), (0, 0, 0, 13, b)] (xa_svR (xa_svI (fun _ _ _ _ => by omega) (xa_svI (fun _ _ _ _ => by omega) xa_sv0))) (xa_C_wk ?_)
  refine xa_meth (Q0 := (4, 2, false, 0, 0, 12)) (by decide +kernel) ⟨rfl, rfl⟩ (full := s_c_264) rfl rfl ?_
  intro hM hv Q hgo
  have x1 := xm_t64 hM a (by omega) (by omega)
  have x2 := xm_t64 hM b (by omega) (by omega)
  refine hgo.1 40 [] 0 _ _ _ ?_
  refine And.intro ?_ ?_
  · intro (c1 : (M 64 a) = (M 64 b))
    show xa_wk post (some (0, 0, 0, 0, 0)) M
    exact xa_wkI 0 rfl (fun _ _ => by omega) (k 0 (by omega) ⟨fun e => by omega, fun e => absurd c1 e.1⟩)
  · intro (c1 : ¬ (M 64 a) = (M 64 b))
    show xa_C xm_I A h0 _ 265 [(2, 60, 0, 0, 0), (0, 0, 0, 9, M 64 a), (0, 0, 0, 9, M 64 b)] M _
    refine ct_apart (by omega) (by omega) (by omega) (by omega) (fun r2 br2 => ?_)
    refine And.intro ?_ ?_
    · intro (c3 : (((M 63 a) + (M 63 b)) * ((M 63 a) + (M 63 b))) ≤ r2)
      show xa_wk post (some (0, 0, 0, 0, 0)) M
      refine xa_wkI 0 rfl (fun _ _ => by omega) (k 0 (by omega) ⟨fun e => by omega, fun e => ?_⟩)
      have e2 := e.2
      rw [← br2] at e2
      exact absurd e2 (Int.not_lt.mpr c3)
    · intro (c3 : r2 < (((M 63 a) + (M 63 b)) * ((M 63 a) + (M 63 b))))
      show xa_wk post (some (0, 0, 1, 1, 1)) M
      exact xa_wkI 1 rfl (fun _ _ => by omega) (k 1 (by omega) ⟨fun _ => ⟨c1, by rw [← br2]; exact c3⟩, fun _ => rfl⟩)
theorem ct_areInWay {A : Nat → Nat} {h0 : g_H} {d : Nat} {M : xa_M} {post : Option xa_V → xa_M → Prop} {l1 u1 l2 u2 : Int} {a b : Int} (ha0 : 0 ≤ a) (ha1 : a ≤ 13) (hb0 : 0 ≤ b) (hb1 : b ≤ 13) (k : ∀ r : Int, (r = 0 ∨ r = 1) → (r = 1 ↔ xm_inw M a b) → post (some (0, 0, 0, 1, r)) M) : xa_C xm_I A h0 (d + 3) 268 [(2, 60, 0, 0, 0), (0, 0, l1, u1, a), (0, 0, l2, u2, b)] M post := by
  refine xa_C_arg [(2, 60, 0, 0, 0), (0, 0, 0, 13, a), (0, 0, 0, 13, b)] (xa_svR (xa_svI (fun _ _ _ _ => by omega) (xa_svI (fun _ _ _ _ => by omega) xa_sv0))) (xa_C_wk ?_)
  refine xa_meth (Q0 := (3, 2, false, 0, 0, 12)) (by decide +kernel) ⟨rfl, rfl⟩ (full := s_c_268) rfl rfl ?_
  intro hM hv Q hgo
  refine hgo.1 40 [] 0 _ _ _ ?_
  refine And.intro ?_ ?_
  · intro (c1 : (M 64 a) = (M 64 b))
    show xa_wk post (some (0, 0, 1, 1, 1)) M
    exact xa_wkI 1 rfl (fun _ _ => by omega) (k 1 (by omega) ⟨fun _ => Or.inl c1, fun _ => rfl⟩)
  · intro (c1 : ¬ (M 64 a) = (M 64 b))
    show xa_C xm_I A h0 _ 264 [(2, 60, 0, 0, 0), (0, 0, 0, 13, a), (0, 0, 0, 13, b)] M _
    refine ct_areNearF ha0 ha1 hb0 hb1 (fun r2 br2 hr2 => ?_)
    refine And.intro ?_ ?_
    · intro (c3 : r2 = 0)
      show xa_wk post (some (0, 0, 0, 0, 0)) M
      refine xa_wkI 0 rfl (fun _ _ => by omega) (k 0 (by omega) ⟨fun e => by omega, fun e => ?_⟩)
      rcases e with e | e
      · exact absurd e c1
      · have := hr2.2 e.1
        omega
    · intro (c3 : ¬ r2 = 0)
      show xa_C xm_I A h0 _ 221 [(2, 60, 0, 0, 0), (0, 0, 0, 13, a), (0, 0, 0, 13, b)] M _
      refine ct_areMeshed (fun r4 br4 hr4 => ?_)
      refine And.intro ?_ ?_
      · intro (c5 : ¬ r4 = 0)
        show xa_wk post (some (0, 0, 0, 0, 0)) M
        refine xa_wkI 0 rfl (fun _ _ => by omega) (k 0 (by omega) ⟨fun e => by omega, fun e => ?_⟩)
        rcases e with e | e
        · exact absurd e c1
        · exact absurd (hr4.1 (by omega)) e.2
      · intro (c5 : r4 = 0)
        show xa_wk post (some (0, 0, 1, 1, 1)) M
        refine xa_wkI 1 rfl (fun _ _ => by omega) (k 1 (by omega) ⟨fun _ => Or.inr ⟨hr2.1 (by omega), fun e => ?_⟩, fun _ => rfl⟩)
        have := hr4.2 e
        omega
/-- who leads: at most as great, and led by none but itself -/
def xm_ff (M : xa_M) : Prop := ∀ w, 0 ≤ w → w < M 60 0 → 0 ≤ M 93 w ∧ M 93 w ≤ w ∧ M 93 (M 93 w) = M 93 w
/-- none of one lot stands in another's way -/
def xm_fw (M : xa_M) : Prop := ∀ v u, 0 ≤ v → v < u → u < M 60 0 → M 93 v = M 93 u → ¬ xm_inw M v u
/-- those ahead of w are put, each lot on its own -/
def xm_pg (M : xa_M) (w used : Int) : Prop := (∀ v, 0 ≤ v → v < w → 0 ≤ M 94 v ∧ M 94 v < used) ∧ (∀ v u, 0 ≤ v → v < w → 0 ≤ u → u < w → M 94 v = M 94 u → M 93 v = M 93 u) ∧ (∀ v, 0 ≤ v → v < w → M 94 (M 93 v) = M 94 v) ∧ used ≤ w
/-- the place at which a lot of its own is -/
def xm_tg (M : xa_M) (w used t : Int) : Prop := (M 93 w < w → t = M 94 (M 93 w)) ∧ (¬ M 93 w < w → t = used)
theorem xm_tg_ex (M : xa_M) (w used : Int) : ∃ t, xm_tg M w used t := by
  by_cases h : M 93 w < w
  · exact ⟨M 94 (M 93 w), fun _ => rfl, fun e => absurd h e⟩
  · exact ⟨used, fun e => absurd e h, fun _ => rfl⟩
/-- only what is put from w on differs -/
def xm_94 (w : Int) (M M1 : xa_M) : Prop := ∀ q j, ¬ (q = 94 ∧ w ≤ j) → M1 q j = M q j
theorem xm_94_r {w : Int} {M : xa_M} : xm_94 w M M := fun _ _ _ => rfl
theorem xm_94_t {w w2 : Int} {M M1 M2 : xa_M} (hw : w ≤ w2) (h : xm_94 w M M1) (h2 : xm_94 w2 M1 M2) : xm_94 w M M2 := fun q j hn => (h2 q j (fun e => hn ⟨e.1, by omega⟩)).trans (h q j hn)
theorem xm_94_u {w : Int} {M M1 : xa_M} {i v : Int} (hi : w ≤ i) (h : xm_94 w M M1) : xm_94 w M (xa_up M1 94 i v) := by
  intro q j hn
  rw [xa_up_ne (fun e => hn ⟨e.1, by omega⟩)]
  exact h q j hn
theorem xm_94_c {w : Int} {M M1 : xa_M} (h : xm_94 w M M1) : xm_cor M M1 := fun q j hn => h q j (fun e => hn (by obtain ⟨e, -⟩ := e; subst e; exact Or.inl (by decide)))
theorem xm_94_ff {w : Int} {M M1 : xa_M} (h : xm_94 w M M1) (hf : xm_ff M) : xm_ff M1 := by
  intro v v0 v1
  rw [h 60 0 (by omega)] at v1
  rw [h 93 v (by omega), h 93 (M 93 v) (by omega)]
  exact hf v v0 v1
theorem xm_94_fw {w : Int} {M M1 : xa_M} (h : xm_94 w M M1) (hf : xm_fw M) : xm_fw M1 := by
  intro v u v0 vu u1 e
  rw [h 60 0 (by omega)] at u1
  rw [h 93 v (by omega), h 93 u (by omega)] at e
  rw [xm_inw_c (xm_94_c h)]
  exact hf v u v0 vu u1 e
theorem xm_pg_s {M M1 : xa_M} {w used t z : Int} (h : xm_94 w M M1) (hf : xm_ff M) (hp : xm_pg M w used) (ht : xm_tg M w used t) (w0 : 0 ≤ w) (w1 : w < M 60 0) (hu : 0 ≤ used) (hz1 : used ≤ z) (hz2 : t + 1 ≤ z) (hz3 : z = used ∨ z = t + 1) : xm_pg (xa_up M1 94 w t) (w + 1) z := by
  obtain ⟨p1, p2, p3, p4⟩ := hp
  have e94 : ∀ v, v < w → xa_up M1 94 w t 94 v = M 94 v := fun v hv => by
    rw [xa_up_ne (by omega)]
    exact h 94 v (by omega)
  have e94w : xa_up M1 94 w t 94 w = t := by simp [xa_up]
  have e93 : ∀ v, xa_up M1 94 w t 93 v = M 93 v := fun v => by
    rw [xa_up_ne (by omega)]
    exact h 93 v (by omega)
  have fw := hf w w0 w1
  have ht0 : 0 ≤ t ∧ t ≤ used ∧ (∀ v, 0 ≤ v → v < w → M 94 v = t → M 93 v = M 93 w) := by
    by_cases c : M 93 w < w
    · have e := ht.1 c
      have b := p1 (M 93 w) fw.1 c
      refine ⟨by omega, by omega, fun v v0 v1 ev => ?_⟩
      rw [p2 v (M 93 w) v0 v1 fw.1 c (by omega)]
      exact fw.2.2
    · have e := ht.2 c
      refine ⟨by omega, by omega, fun v v0 v1 ev => ?_⟩
      have := p1 v v0 v1
      omega
  refine ⟨fun v v0 v1 => ?_, fun v u v0 v1 u0 u1 e => ?_, fun v v0 v1 => ?_, by omega⟩
  · rcases Int.lt_or_eq_of_le (show v ≤ w by omega) with c | c
    · rw [e94 v c]
      have := p1 v v0 c
      omega
    · rw [c, e94w]
      omega
  · rw [e93, e93]
    rcases Int.lt_or_eq_of_le (show v ≤ w by omega) with c | c <;> rcases Int.lt_or_eq_of_le (show u ≤ w by omega) with c2 | c2
    · rw [e94 v c, e94 u c2] at e
      exact p2 v u v0 c u0 c2 e
    · rw [e94 v c, c2, e94w] at e
      rw [c2]
      exact ht0.2.2 v v0 c e
    · rw [e94 u c2, c, e94w] at e
      rw [c]
      exact (ht0.2.2 u u0 c2 e.symm).symm
    · rw [c, c2]
  · rw [e93]
    rcases Int.lt_or_eq_of_le (show v ≤ w by omega) with c | c
    · have f := hf v v0 (by omega)
      rw [e94 v c, e94 _ (by omega)]
      exact p3 v v0 c
    · rw [c]
      by_cases c2 : M 93 w < w
      · rw [e94w, e94 _ c2]
        exact (ht.1 c2).symm
      · rw [show M 93 w = w by omega]

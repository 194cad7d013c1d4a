-- the reference reads
set_option maxRecDepth 20000
def nu_Q (T : Int → Int) (e p w r m41 m42 : Int) : Prop := (¬ w = -1 ∧ r = 0 ∧ m41 = p ∧ m42 = w) ∨ (w = -1 ∧ ∃ x g q, bk_N T e p x g q ∧ ((g = 1 ∧ r = x ∧ m41 = q ∧ m42 = -1) ∨ (g = 0 ∧ r = 0 ∧ m42 = q)))
theorem ct_numF {A : Nat → Nat} {h0 : g_H} {d : Nat} {M : xa_M} {post : Option xa_V → xa_M → Prop} {T : Int → Int} {e : Int} (hT : ∀ i, 0 ≤ i → i < 80 → T i = M 73 i % 256) (he : ((M 60 40 ≤ 60 ∧ e = M 60 40) ∨ (60 < M 60 40 ∧ e = 60))) (hp : 0 ≤ M 60 41 ∧ M 60 41 ≤ 61) (k : ∀ (r : Int) (M1 : xa_M), xm_f2 M M1 → ((M 60 41) ≤ M1 60 41 ∧ (M1 60 41 = (M 60 41) ∨ M1 60 41 ≤ 60)) → (nu_Q T e (M 60 41) (M 60 42) r (M1 60 41) (M1 60 42)) → post (some (0, 0, 0, 2000, r)) M1) : xa_C xm_I A h0 (d + 2) 253 [(2, 60, 0, 0, 0)] M post := by
  refine xa_C_wk ?_
  refine xa_meth (Q0 := (3, 1, false, 0, 0, 12)) (by decide +kernel) ⟨rfl, rfl⟩ (full := s_c_253) rfl rfl ?_
  intro hM hv Q hgo
  have b41 := xm_f41 hM
  have b40 := xm_f40 hM
  have loop : M 60 42 = -1 → ∀ (n : Nat) (v : Int) (M1 : xa_M), (∀ q j, ¬ (q = 60 ∧ j = 41) → M1 q j = M q j) → (M 60 41 ≤ M1 60 41 ∧ M1 60 41 ≤ M 60 41 + 4 ∧ (M1 60 41 = M 60 41 ∨ M1 60 41 ≤ e)) → bk_nm T e (M 60 41 + 4 - M1 60 41).toNat (M1 60 41) v = bk_nm T e 4 (M 60 41) 0 → (0 ≤ v ∧ (M1 60 41 = M 60 41 → v = 0) ∧ (M1 60 41 = M 60 41 + 1 → v ≤ 9) ∧ (M1 60 41 = M 60 41 + 2 → v ≤ 99) ∧ (M1 60 41 = M 60 41 + 3 → v ≤ 999) ∧ (M1 60 41 = M 60 41 + 4 → v ≤ 9999)) → M 60 41 + 4 - M1 60 41 < (n : Int) → Q 17 [(1, (0, 0, 0, 100, M 60 41)), (2, (0, 0, 0, 9999, v)), (0, (2, 60, 0, 0, 0))] [] M1 := by
    intro hw n
    induction n with
    | zero => intro v M1 hk hp1 hb hv1 hms; omega
    | succ n ih =>
      intro v M1 hk hp1 hb hv1 hms
      have e40 : M1 60 40 = M 60 40 := hk 60 40 (by decide)
      refine hgo.2.2 _ _ _ _ (fun hM1 _ => ?_)
      have b41' := xm_f41 hM1
      refine hgo.1 38 [17] 17 _ _ _ ?_
      refine And.intro ?_ ?_
      · intro (c1 : ((M 60 41) + 4) ≤ (M1 60 41))
        refine And.intro ?_ ?_
        · intro (c2 : ¬ (M1 60 41) = (M 60 41))
          show xa_C xm_I A h0 _ 214 [(0, 0, 0, 9999, v), (0, 0, 1, 1, 1), (0, 0, 2000, 2000, 2000)] M1 _
          refine ct_in ?_ ?_
          · intro (i3 : 1 ≤ v ∧ v ≤ 2000)
            refine And.intro ?_ ?_
            · intro (c4 : ¬ (M1 60 42) = (-1))
              show xa_wk post (some (0, 0, 0, 0, 0)) M1
              have e42 : M1 60 42 = M 60 42 := hk 60 42 (by decide)
              have t41 := hT (M1 60 41)
              have e73 : M1 73 (M1 60 41) = M 73 (M1 60 41) := hk 73 _ (by omega)
              have r73 := xm_t73 hM (M1 60 41)
              have hz : bk_nm T e 4 (M 60 41) 0 = (M1 60 41, v) := by
                rw [← hb]
                by_cases c9 : M1 60 41 = M 60 41 + 4
                · rw [show (M 60 41 + 4 - M1 60 41).toNat = 0 by omega]
                  rfl
                · rw [show (M 60 41 + 4 - M1 60 41).toNat = (M 60 41 + 3 - M1 60 41).toNat + 1 by omega]
                  exact bk_nm0 (by omega)
              refine xa_wkI 0 rfl (fun _ _ => by omega) (k _ _ (fun q j hq => hk q j (by omega)) (show (M 60 41) ≤ (M1 60 41) ∧ ((M1 60 41) = (M 60 41) ∨ (M1 60 41) ≤ 60) by omega) ?_)
              show (¬ (M 60 42) = -1 ∧ 0 = 0 ∧ (M1 60 41) = (M 60 41) ∧ (M1 60 42) = (M 60 42)) ∨ ((M 60 42) = -1 ∧ ∃ x g q, bk_N T e (M 60 41) x g q ∧ ((g = 1 ∧ 0 = x ∧ (M1 60 41) = q ∧ (M1 60 42) = -1) ∨ (g = 0 ∧ 0 = 0 ∧ (M1 60 42) = q)))
              exact Or.inr ⟨hw, v, 1, M1 60 41, ⟨_, hz, by omega, by omega, by omega⟩, by omega⟩
            · intro (c4 : (M1 60 42) = (-1))
              show xa_wk post (some (0, 0, 0, 9999, v)) M1
              have e42 : M1 60 42 = M 60 42 := hk 60 42 (by decide)
              have t41 := hT (M1 60 41)
              have e73 : M1 73 (M1 60 41) = M 73 (M1 60 41) := hk 73 _ (by omega)
              have r73 := xm_t73 hM (M1 60 41)
              have hz : bk_nm T e 4 (M 60 41) 0 = (M1 60 41, v) := by
                rw [← hb]
                by_cases c9 : M1 60 41 = M 60 41 + 4
                · rw [show (M 60 41 + 4 - M1 60 41).toNat = 0 by omega]
                  rfl
                · rw [show (M 60 41 + 4 - M1 60 41).toNat = (M 60 41 + 3 - M1 60 41).toNat + 1 by omega]
                  exact bk_nm0 (by omega)
              refine xa_wkI v rfl (fun _ _ => by omega) (k _ _ (fun q j hq => hk q j (by omega)) (show (M 60 41) ≤ (M1 60 41) ∧ ((M1 60 41) = (M 60 41) ∨ (M1 60 41) ≤ 60) by omega) ?_)
              show (¬ (M 60 42) = -1 ∧ v = 0 ∧ (M1 60 41) = (M 60 41) ∧ (M1 60 42) = (M 60 42)) ∨ ((M 60 42) = -1 ∧ ∃ x g q, bk_N T e (M 60 41) x g q ∧ ((g = 1 ∧ v = x ∧ (M1 60 41) = q ∧ (M1 60 42) = -1) ∨ (g = 0 ∧ v = 0 ∧ (M1 60 42) = q)))
              exact Or.inr ⟨hw, v, 1, M1 60 41, ⟨_, hz, by omega, by omega, by omega⟩, by omega⟩
          · intro (i5 : ¬ (1 ≤ v ∧ v ≤ 2000))
            show xa_C xm_I A h0 _ 255 [(2, 60, 0, 0, 0), (0, 0, (-1), 99, (M1 60 41) - 1)] M1 _
            refine ct_fault trivial ?_ ?_
            · intro (i6 : (M1 60 42) = -1)
              refine And.intro ?_ ?_
              · intro (c7 : ¬ ((M1 60 41) - 1) = (-1))
                show xa_wk post (some (0, 0, 0, 0, 0)) (xa_up M1 60 42 ((M1 60 41) - 1))
                have e42 : M1 60 42 = M 60 42 := hk 60 42 (by decide)
                have t41 := hT (M1 60 41)
                have e73 : M1 73 (M1 60 41) = M 73 (M1 60 41) := hk 73 _ (by omega)
                have r73 := xm_t73 hM (M1 60 41)
                have hz : bk_nm T e 4 (M 60 41) 0 = (M1 60 41, v) := by
                  rw [← hb]
                  by_cases c9 : M1 60 41 = M 60 41 + 4
                  · rw [show (M 60 41 + 4 - M1 60 41).toNat = 0 by omega]
                    rfl
                  · rw [show (M 60 41 + 4 - M1 60 41).toNat = (M 60 41 + 3 - M1 60 41).toNat + 1 by omega]
                    exact bk_nm0 (by omega)
                refine xa_wkI 0 rfl (fun _ _ => by omega) (k _ _ (fun q j hq => (xa_up_ne (by first | exact fun h => absurd h.1 (by decide) | exact fun h => absurd h.2 (by decide) | omega)).trans (hk q j (by omega))) (show (M 60 41) ≤ (M1 60 41) ∧ ((M1 60 41) = (M 60 41) ∨ (M1 60 41) ≤ 60) by omega) ?_)
                show (¬ (M 60 42) = -1 ∧ 0 = 0 ∧ (M1 60 41) = (M 60 41) ∧ ((M1 60 41) - 1) = (M 60 42)) ∨ ((M 60 42) = -1 ∧ ∃ x g q, bk_N T e (M 60 41) x g q ∧ ((g = 1 ∧ 0 = x ∧ (M1 60 41) = q ∧ ((M1 60 41) - 1) = -1) ∨ (g = 0 ∧ 0 = 0 ∧ ((M1 60 41) - 1) = q)))
                exact Or.inr ⟨hw, v, 0, ((M1 60 41) - 1), ⟨_, hz, by omega, by omega, by omega⟩, by omega⟩
              · intro (c7 : ((M1 60 41) - 1) = (-1))
                show xa_wk post (some (0, 0, 0, 9999, v)) (xa_up M1 60 42 ((M1 60 41) - 1))
                have e42 : M1 60 42 = M 60 42 := hk 60 42 (by decide)
                have t41 := hT (M1 60 41)
                have e73 : M1 73 (M1 60 41) = M 73 (M1 60 41) := hk 73 _ (by omega)
                have r73 := xm_t73 hM (M1 60 41)
                have hz : bk_nm T e 4 (M 60 41) 0 = (M1 60 41, v) := by
                  rw [← hb]
                  by_cases c9 : M1 60 41 = M 60 41 + 4
                  · rw [show (M 60 41 + 4 - M1 60 41).toNat = 0 by omega]
                    rfl
                  · rw [show (M 60 41 + 4 - M1 60 41).toNat = (M 60 41 + 3 - M1 60 41).toNat + 1 by omega]
                    exact bk_nm0 (by omega)
                refine xa_wkI v rfl (fun _ _ => by omega) (k _ _ (fun q j hq => (xa_up_ne (by first | exact fun h => absurd h.1 (by decide) | exact fun h => absurd h.2 (by decide) | omega)).trans (hk q j (by omega))) (show (M 60 41) ≤ (M1 60 41) ∧ ((M1 60 41) = (M 60 41) ∨ (M1 60 41) ≤ 60) by omega) ?_)
                show (¬ (M 60 42) = -1 ∧ v = 0 ∧ (M1 60 41) = (M 60 41) ∧ ((M1 60 41) - 1) = (M 60 42)) ∨ ((M 60 42) = -1 ∧ ∃ x g q, bk_N T e (M 60 41) x g q ∧ ((g = 1 ∧ v = x ∧ (M1 60 41) = q ∧ ((M1 60 41) - 1) = -1) ∨ (g = 0 ∧ v = 0 ∧ ((M1 60 41) - 1) = q)))
                exact Or.inr ⟨hw, v, 0, ((M1 60 41) - 1), ⟨_, hz, by omega, by omega, by omega⟩, by omega⟩
            · intro (i8 : ¬ (M1 60 42) = -1)
              refine And.intro ?_ ?_
              · intro (c9 : ¬ (M1 60 42) = (-1))
                show xa_wk post (some (0, 0, 0, 0, 0)) M1
                have e42 : M1 60 42 = M 60 42 := hk 60 42 (by decide)
                have t41 := hT (M1 60 41)
                have e73 : M1 73 (M1 60 41) = M 73 (M1 60 41) := hk 73 _ (by omega)
                have r73 := xm_t73 hM (M1 60 41)
                have hz : bk_nm T e 4 (M 60 41) 0 = (M1 60 41, v) := by
                  rw [← hb]
                  by_cases c9 : M1 60 41 = M 60 41 + 4
                  · rw [show (M 60 41 + 4 - M1 60 41).toNat = 0 by omega]
                    rfl
                  · rw [show (M 60 41 + 4 - M1 60 41).toNat = (M 60 41 + 3 - M1 60 41).toNat + 1 by omega]
                    exact bk_nm0 (by omega)
                refine xa_wkI 0 rfl (fun _ _ => by omega) (k _ _ (fun q j hq => hk q j (by omega)) (show (M 60 41) ≤ (M1 60 41) ∧ ((M1 60 41) = (M 60 41) ∨ (M1 60 41) ≤ 60) by omega) ?_)
                show (¬ (M 60 42) = -1 ∧ 0 = 0 ∧ (M1 60 41) = (M 60 41) ∧ (M1 60 42) = (M 60 42)) ∨ ((M 60 42) = -1 ∧ ∃ x g q, bk_N T e (M 60 41) x g q ∧ ((g = 1 ∧ 0 = x ∧ (M1 60 41) = q ∧ (M1 60 42) = -1) ∨ (g = 0 ∧ 0 = 0 ∧ (M1 60 42) = q)))
                exact Or.inr ⟨hw, v, 0, (M1 60 42), ⟨_, hz, by omega, by omega, by omega⟩, by omega⟩
              · intro (c9 : (M1 60 42) = (-1))
                show xa_wk post (some (0, 0, 0, 9999, v)) M1
                have e42 : M1 60 42 = M 60 42 := hk 60 42 (by decide)
                have t41 := hT (M1 60 41)
                have e73 : M1 73 (M1 60 41) = M 73 (M1 60 41) := hk 73 _ (by omega)
                have r73 := xm_t73 hM (M1 60 41)
                have hz : bk_nm T e 4 (M 60 41) 0 = (M1 60 41, v) := by
                  rw [← hb]
                  by_cases c9 : M1 60 41 = M 60 41 + 4
                  · rw [show (M 60 41 + 4 - M1 60 41).toNat = 0 by omega]
                    rfl
                  · rw [show (M 60 41 + 4 - M1 60 41).toNat = (M 60 41 + 3 - M1 60 41).toNat + 1 by omega]
                    exact bk_nm0 (by omega)
                refine xa_wkI v rfl (fun _ _ => by omega) (k _ _ (fun q j hq => hk q j (by omega)) (show (M 60 41) ≤ (M1 60 41) ∧ ((M1 60 41) = (M 60 41) ∨ (M1 60 41) ≤ 60) by omega) ?_)
                show (¬ (M 60 42) = -1 ∧ v = 0 ∧ (M1 60 41) = (M 60 41) ∧ (M1 60 42) = (M 60 42)) ∨ ((M 60 42) = -1 ∧ ∃ x g q, bk_N T e (M 60 41) x g q ∧ ((g = 1 ∧ v = x ∧ (M1 60 41) = q ∧ (M1 60 42) = -1) ∨ (g = 0 ∧ v = 0 ∧ (M1 60 42) = q)))
                exact Or.inr ⟨hw, v, 0, (M1 60 42), ⟨_, hz, by omega, by omega, by omega⟩, by omega⟩
        · intro (c2 : (M1 60 41) = (M 60 41))
          show xa_C xm_I A h0 _ 255 [(2, 60, 0, 0, 0), (0, 0, 0, 100, M1 60 41)] M1 _
          refine ct_fault trivial ?_ ?_
          · intro (i10 : (M1 60 42) = -1)
            refine And.intro ?_ ?_
            · intro (c11 : ¬ (M1 60 41) = (-1))
              show xa_wk post (some (0, 0, 0, 0, 0)) (xa_up M1 60 42 (M1 60 41))
              have e42 : M1 60 42 = M 60 42 := hk 60 42 (by decide)
              have t41 := hT (M1 60 41)
              have e73 : M1 73 (M1 60 41) = M 73 (M1 60 41) := hk 73 _ (by omega)
              have r73 := xm_t73 hM (M1 60 41)
              have hz : bk_nm T e 4 (M 60 41) 0 = (M1 60 41, v) := by
                rw [← hb]
                by_cases c9 : M1 60 41 = M 60 41 + 4
                · rw [show (M 60 41 + 4 - M1 60 41).toNat = 0 by omega]
                  rfl
                · rw [show (M 60 41 + 4 - M1 60 41).toNat = (M 60 41 + 3 - M1 60 41).toNat + 1 by omega]
                  exact bk_nm0 (by omega)
              refine xa_wkI 0 rfl (fun _ _ => by omega) (k _ _ (fun q j hq => (xa_up_ne (by first | exact fun h => absurd h.1 (by decide) | exact fun h => absurd h.2 (by decide) | omega)).trans (hk q j (by omega))) (show (M 60 41) ≤ (M1 60 41) ∧ ((M1 60 41) = (M 60 41) ∨ (M1 60 41) ≤ 60) by omega) ?_)
              show (¬ (M 60 42) = -1 ∧ 0 = 0 ∧ (M1 60 41) = (M 60 41) ∧ (M1 60 41) = (M 60 42)) ∨ ((M 60 42) = -1 ∧ ∃ x g q, bk_N T e (M 60 41) x g q ∧ ((g = 1 ∧ 0 = x ∧ (M1 60 41) = q ∧ (M1 60 41) = -1) ∨ (g = 0 ∧ 0 = 0 ∧ (M1 60 41) = q)))
              exact Or.inr ⟨hw, v, 0, (M1 60 41), ⟨_, hz, by omega, by omega, by omega⟩, by omega⟩
            · intro (c11 : (M1 60 41) = (-1))
              show xa_wk post (some (0, 0, 0, 9999, v)) (xa_up M1 60 42 (M1 60 41))
              have e42 : M1 60 42 = M 60 42 := hk 60 42 (by decide)
              have t41 := hT (M1 60 41)
              have e73 : M1 73 (M1 60 41) = M 73 (M1 60 41) := hk 73 _ (by omega)
              have r73 := xm_t73 hM (M1 60 41)
              have hz : bk_nm T e 4 (M 60 41) 0 = (M1 60 41, v) := by
                rw [← hb]
                by_cases c9 : M1 60 41 = M 60 41 + 4
                · rw [show (M 60 41 + 4 - M1 60 41).toNat = 0 by omega]
                  rfl
                · rw [show (M 60 41 + 4 - M1 60 41).toNat = (M 60 41 + 3 - M1 60 41).toNat + 1 by omega]
                  exact bk_nm0 (by omega)
              refine xa_wkI v rfl (fun _ _ => by omega) (k _ _ (fun q j hq => (xa_up_ne (by first | exact fun h => absurd h.1 (by decide) | exact fun h => absurd h.2 (by decide) | omega)).trans (hk q j (by omega))) (show (M 60 41) ≤ (M1 60 41) ∧ ((M1 60 41) = (M 60 41) ∨ (M1 60 41) ≤ 60) by omega) ?_)
              show (¬ (M 60 42) = -1 ∧ v = 0 ∧ (M1 60 41) = (M 60 41) ∧ (M1 60 41) = (M 60 42)) ∨ ((M 60 42) = -1 ∧ ∃ x g q, bk_N T e (M 60 41) x g q ∧ ((g = 1 ∧ v = x ∧ (M1 60 41) = q ∧ (M1 60 41) = -1) ∨ (g = 0 ∧ v = 0 ∧ (M1 60 41) = q)))
              exact Or.inr ⟨hw, v, 0, (M1 60 41), ⟨_, hz, by omega, by omega, by omega⟩, by omega⟩
          · intro (i12 : ¬ (M1 60 42) = -1)
            refine And.intro ?_ ?_
            · intro (c13 : ¬ (M1 60 42) = (-1))
              show xa_wk post (some (0, 0, 0, 0, 0)) M1
              have e42 : M1 60 42 = M 60 42 := hk 60 42 (by decide)
              have t41 := hT (M1 60 41)
              have e73 : M1 73 (M1 60 41) = M 73 (M1 60 41) := hk 73 _ (by omega)
              have r73 := xm_t73 hM (M1 60 41)
              have hz : bk_nm T e 4 (M 60 41) 0 = (M1 60 41, v) := by
                rw [← hb]
                by_cases c9 : M1 60 41 = M 60 41 + 4
                · rw [show (M 60 41 + 4 - M1 60 41).toNat = 0 by omega]
                  rfl
                · rw [show (M 60 41 + 4 - M1 60 41).toNat = (M 60 41 + 3 - M1 60 41).toNat + 1 by omega]
                  exact bk_nm0 (by omega)
              refine xa_wkI 0 rfl (fun _ _ => by omega) (k _ _ (fun q j hq => hk q j (by omega)) (show (M 60 41) ≤ (M1 60 41) ∧ ((M1 60 41) = (M 60 41) ∨ (M1 60 41) ≤ 60) by omega) ?_)
              show (¬ (M 60 42) = -1 ∧ 0 = 0 ∧ (M1 60 41) = (M 60 41) ∧ (M1 60 42) = (M 60 42)) ∨ ((M 60 42) = -1 ∧ ∃ x g q, bk_N T e (M 60 41) x g q ∧ ((g = 1 ∧ 0 = x ∧ (M1 60 41) = q ∧ (M1 60 42) = -1) ∨ (g = 0 ∧ 0 = 0 ∧ (M1 60 42) = q)))
              exact Or.inr ⟨hw, v, 0, (M1 60 42), ⟨_, hz, by omega, by omega, by omega⟩, by omega⟩
            · intro (c13 : (M1 60 42) = (-1))
              show xa_wk post (some (0, 0, 0, 9999, v)) M1
              have e42 : M1 60 42 = M 60 42 := hk 60 42 (by decide)
              have t41 := hT (M1 60 41)
              have e73 : M1 73 (M1 60 41) = M 73 (M1 60 41) := hk 73 _ (by omega)
              have r73 := xm_t73 hM (M1 60 41)
              have hz : bk_nm T e 4 (M 60 41) 0 = (M1 60 41, v) := by
                rw [← hb]
                by_cases c9 : M1 60 41 = M 60 41 + 4
                · rw [show (M 60 41 + 4 - M1 60 41).toNat = 0 by omega]
                  rfl
                · rw [show (M 60 41 + 4 - M1 60 41).toNat = (M 60 41 + 3 - M1 60 41).toNat + 1 by omega]
                  exact bk_nm0 (by omega)
              refine xa_wkI v rfl (fun _ _ => by omega) (k _ _ (fun q j hq => hk q j (by omega)) (show (M 60 41) ≤ (M1 60 41) ∧ ((M1 60 41) = (M 60 41) ∨ (M1 60 41) ≤ 60) by omega) ?_)
              show (¬ (M 60 42) = -1 ∧ v = 0 ∧ (M1 60 41) = (M 60 41) ∧ (M1 60 42) = (M 60 42)) ∨ ((M 60 42) = -1 ∧ ∃ x g q, bk_N T e (M 60 41) x g q ∧ ((g = 1 ∧ v = x ∧ (M1 60 41) = q ∧ (M1 60 42) = -1) ∨ (g = 0 ∧ v = 0 ∧ (M1 60 42) = q)))
              exact Or.inr ⟨hw, v, 0, (M1 60 42), ⟨_, hz, by omega, by omega, by omega⟩, by omega⟩
      · intro (c1 : (M1 60 41) < ((M 60 41) + 4))
        show xa_C xm_I A h0 _ 254 [(2, 60, 0, 0, 0)] M1 _
        refine ct_here ?_
        intro r111 (i14 : ((M1 60 41) < (M1 60 40) ∧ (M1 60 41) < 60 ∧ r111 = M1 73 (M1 60 41)) ∨ (¬ ((M1 60 41) < (M1 60 40) ∧ (M1 60 41) < 60) ∧ r111 = -1))
        show xa_C xm_I A h0 _ 214 [(0, 0, (-128), 127, r111), (0, 0, 48, 48, 48), (0, 0, 57, 57, 57)] M1 _
        refine ct_in ?_ ?_
        · intro (i15 : 48 ≤ r111 ∧ r111 ≤ 57)
          show xa_C xm_I A h0 _ 254 [(2, 60, 0, 0, 0)] M1 _
          refine ct_here ?_
          intro r112 (i16 : ((M1 60 41) < (M1 60 40) ∧ (M1 60 41) < 60 ∧ r112 = M1 73 (M1 60 41)) ∨ (¬ ((M1 60 41) < (M1 60 40) ∧ (M1 60 41) < 60) ∧ r112 = -1))
          refine And.intro (show 0 ≤ ((M1 60 41) + 1) ∧ ((M1 60 41) + 1) ≤ 100 by omega) ?_
          show Q 17 [(2, (0, 0, (-176), 100069, ((10 * v) + r112) - 48)), (1, (0, 0, 0, 100, (M 60 41))), (0, (2, 60, 0, 0, 0))] [] (xa_up M1 60 41 ((M1 60 41) + 1))
          have t41 := hT (M1 60 41)
          have e73 : M1 73 (M1 60 41) = M 73 (M1 60 41) := hk 73 _ (by omega)
          have r73 := xm_t73 hM (M1 60 41)
          have ev : ((10 * v) + r112) - 48 = v * 10 + T (M1 60 41) - 48 := by omega
          refine hgo.2.1 17 _ [(1, (0, 0, 0, 100, (M 60 41))), (2, (0, 0, 0, 9999, ((10 * v) + r112) - 48)), (0, (2, 60, 0, 0, 0))] _ _ (xa_subI rfl rfl (fun _ _ _ _ => by omega) (xa_subI rfl rfl (fun _ _ _ _ => by omega) (xa_subR rfl (xa_sub0)))) ?_
          exact ih _ _ (fun q j hq => (xa_up_ne (by first | exact fun h => absurd h.1 (by decide) | exact fun h => absurd h.2 (by decide) | omega)).trans (hk q j hq)) (by rw [xa_up_eq]; omega) (by rw [xa_up_eq, ev, ← bk_nm1 (by omega), show (M 60 41 + 4 - (M1 60 41 + 1)).toNat + 1 = (M 60 41 + 4 - M1 60 41).toNat by omega]; exact hb) (by rw [xa_up_eq]; omega) (by rw [xa_up_eq]; omega)
        · intro (i17 : ¬ (48 ≤ r111 ∧ r111 ≤ 57))
          refine And.intro ?_ ?_
          · intro (c18 : ¬ (M1 60 41) = (M 60 41))
            show xa_C xm_I A h0 _ 214 [(0, 0, 0, 9999, v), (0, 0, 1, 1, 1), (0, 0, 2000, 2000, 2000)] M1 _
            refine ct_in ?_ ?_
            · intro (i19 : 1 ≤ v ∧ v ≤ 2000)
              refine And.intro ?_ ?_
              · intro (c20 : ¬ (M1 60 42) = (-1))
                show xa_wk post (some (0, 0, 0, 0, 0)) M1
                have e42 : M1 60 42 = M 60 42 := hk 60 42 (by decide)
                have t41 := hT (M1 60 41)
                have e73 : M1 73 (M1 60 41) = M 73 (M1 60 41) := hk 73 _ (by omega)
                have r73 := xm_t73 hM (M1 60 41)
                have hz : bk_nm T e 4 (M 60 41) 0 = (M1 60 41, v) := by
                  rw [← hb]
                  by_cases c9 : M1 60 41 = M 60 41 + 4
                  · rw [show (M 60 41 + 4 - M1 60 41).toNat = 0 by omega]
                    rfl
                  · rw [show (M 60 41 + 4 - M1 60 41).toNat = (M 60 41 + 3 - M1 60 41).toNat + 1 by omega]
                    exact bk_nm0 (by omega)
                refine xa_wkI 0 rfl (fun _ _ => by omega) (k _ _ (fun q j hq => hk q j (by omega)) (show (M 60 41) ≤ (M1 60 41) ∧ ((M1 60 41) = (M 60 41) ∨ (M1 60 41) ≤ 60) by omega) ?_)
                show (¬ (M 60 42) = -1 ∧ 0 = 0 ∧ (M1 60 41) = (M 60 41) ∧ (M1 60 42) = (M 60 42)) ∨ ((M 60 42) = -1 ∧ ∃ x g q, bk_N T e (M 60 41) x g q ∧ ((g = 1 ∧ 0 = x ∧ (M1 60 41) = q ∧ (M1 60 42) = -1) ∨ (g = 0 ∧ 0 = 0 ∧ (M1 60 42) = q)))
                exact Or.inr ⟨hw, v, 1, M1 60 41, ⟨_, hz, by omega, by omega, by omega⟩, by omega⟩
              · intro (c20 : (M1 60 42) = (-1))
                show xa_wk post (some (0, 0, 0, 9999, v)) M1
                have e42 : M1 60 42 = M 60 42 := hk 60 42 (by decide)
                have t41 := hT (M1 60 41)
                have e73 : M1 73 (M1 60 41) = M 73 (M1 60 41) := hk 73 _ (by omega)
                have r73 := xm_t73 hM (M1 60 41)
                have hz : bk_nm T e 4 (M 60 41) 0 = (M1 60 41, v) := by
                  rw [← hb]
                  by_cases c9 : M1 60 41 = M 60 41 + 4
                  · rw [show (M 60 41 + 4 - M1 60 41).toNat = 0 by omega]
                    rfl
                  · rw [show (M 60 41 + 4 - M1 60 41).toNat = (M 60 41 + 3 - M1 60 41).toNat + 1 by omega]
                    exact bk_nm0 (by omega)
                refine xa_wkI v rfl (fun _ _ => by omega) (k _ _ (fun q j hq => hk q j (by omega)) (show (M 60 41) ≤ (M1 60 41) ∧ ((M1 60 41) = (M 60 41) ∨ (M1 60 41) ≤ 60) by omega) ?_)
                show (¬ (M 60 42) = -1 ∧ v = 0 ∧ (M1 60 41) = (M 60 41) ∧ (M1 60 42) = (M 60 42)) ∨ ((M 60 42) = -1 ∧ ∃ x g q, bk_N T e (M 60 41) x g q ∧ ((g = 1 ∧ v = x ∧ (M1 60 41) = q ∧ (M1 60 42) = -1) ∨ (g = 0 ∧ v = 0 ∧ (M1 60 42) = q)))
                exact Or.inr ⟨hw, v, 1, M1 60 41, ⟨_, hz, by omega, by omega, by omega⟩, by omega⟩
            · intro (i21 : ¬ (1 ≤ v ∧ v ≤ 2000))
              show xa_C xm_I A h0 _ 255 [(2, 60, 0, 0, 0), (0, 0, (-1), 99, (M1 60 41) - 1)] M1 _
              refine ct_fault trivial ?_ ?_
              · intro (i22 : (M1 60 42) = -1)
                refine And.intro ?_ ?_
                · intro (c23 : ¬ ((M1 60 41) - 1) = (-1))
                  show xa_wk post (some (0, 0, 0, 0, 0)) (xa_up M1 60 42 ((M1 60 41) - 1))
                  have e42 : M1 60 42 = M 60 42 := hk 60 42 (by decide)
                  have t41 := hT (M1 60 41)
                  have e73 : M1 73 (M1 60 41) = M 73 (M1 60 41) := hk 73 _ (by omega)
                  have r73 := xm_t73 hM (M1 60 41)
                  have hz : bk_nm T e 4 (M 60 41) 0 = (M1 60 41, v) := by
                    rw [← hb]
                    by_cases c9 : M1 60 41 = M 60 41 + 4
                    · rw [show (M 60 41 + 4 - M1 60 41).toNat = 0 by omega]
                      rfl
                    · rw [show (M 60 41 + 4 - M1 60 41).toNat = (M 60 41 + 3 - M1 60 41).toNat + 1 by omega]
                      exact bk_nm0 (by omega)
                  refine xa_wkI 0 rfl (fun _ _ => by omega) (k _ _ (fun q j hq => (xa_up_ne (by first | exact fun h => absurd h.1 (by decide) | exact fun h => absurd h.2 (by decide) | omega)).trans (hk q j (by omega))) (show (M 60 41) ≤ (M1 60 41) ∧ ((M1 60 41) = (M 60 41) ∨ (M1 60 41) ≤ 60) by omega) ?_)
                  show (¬ (M 60 42) = -1 ∧ 0 = 0 ∧ (M1 60 41) = (M 60 41) ∧ ((M1 60 41) - 1) = (M 60 42)) ∨ ((M 60 42) = -1 ∧ ∃ x g q, bk_N T e (M 60 41) x g q ∧ ((g = 1 ∧ 0 = x ∧ (M1 60 41) = q ∧ ((M1 60 41) - 1) = -1) ∨ (g = 0 ∧ 0 = 0 ∧ ((M1 60 41) - 1) = q)))
                  exact Or.inr ⟨hw, v, 0, ((M1 60 41) - 1), ⟨_, hz, by omega, by omega, by omega⟩, by omega⟩
                · intro (c23 : ((M1 60 41) - 1) = (-1))
                  show xa_wk post (some (0, 0, 0, 9999, v)) (xa_up M1 60 42 ((M1 60 41) - 1))
                  have e42 : M1 60 42 = M 60 42 := hk 60 42 (by decide)
                  have t41 := hT (M1 60 41)
                  have e73 : M1 73 (M1 60 41) = M 73 (M1 60 41) := hk 73 _ (by omega)
                  have r73 := xm_t73 hM (M1 60 41)
                  have hz : bk_nm T e 4 (M 60 41) 0 = (M1 60 41, v) := by
                    rw [← hb]
                    by_cases c9 : M1 60 41 = M 60 41 + 4
                    · rw [show (M 60 41 + 4 - M1 60 41).toNat = 0 by omega]
                      rfl
                    · rw [show (M 60 41 + 4 - M1 60 41).toNat = (M 60 41 + 3 - M1 60 41).toNat + 1 by omega]
                      exact bk_nm0 (by omega)
                  refine xa_wkI v rfl (fun _ _ => by omega) (k _ _ (fun q j hq => (xa_up_ne (by first | exact fun h => absurd h.1 (by decide) | exact fun h => absurd h.2 (by decide) | omega)).trans (hk q j (by omega))) (show (M 60 41) ≤ (M1 60 41) ∧ ((M1 60 41) = (M 60 41) ∨ (M1 60 41) ≤ 60) by omega) ?_)
                  show (¬ (M 60 42) = -1 ∧ v = 0 ∧ (M1 60 41) = (M 60 41) ∧ ((M1 60 41) - 1) = (M 60 42)) ∨ ((M 60 42) = -1 ∧ ∃ x g q, bk_N T e (M 60 41) x g q ∧ ((g = 1 ∧ v = x ∧ (M1 60 41) = q ∧ ((M1 60 41) - 1) = -1) ∨ (g = 0 ∧ v = 0 ∧ ((M1 60 41) - 1) = q)))
                  exact Or.inr ⟨hw, v, 0, ((M1 60 41) - 1), ⟨_, hz, by omega, by omega, by omega⟩, by omega⟩
              · intro (i24 : ¬ (M1 60 42) = -1)
                refine And.intro ?_ ?_
                · intro (c25 : ¬ (M1 60 42) = (-1))
                  show xa_wk post (some (0, 0, 0, 0, 0)) M1
                  have e42 : M1 60 42 = M 60 42 := hk 60 42 (by decide)
                  have t41 := hT (M1 60 41)
                  have e73 : M1 73 (M1 60 41) = M 73 (M1 60 41) := hk 73 _ (by omega)
                  have r73 := xm_t73 hM (M1 60 41)
                  have hz : bk_nm T e 4 (M 60 41) 0 = (M1 60 41, v) := by
                    rw [← hb]
                    by_cases c9 : M1 60 41 = M 60 41 + 4
                    · rw [show (M 60 41 + 4 - M1 60 41).toNat = 0 by omega]
                      rfl
                    · rw [show (M 60 41 + 4 - M1 60 41).toNat = (M 60 41 + 3 - M1 60 41).toNat + 1 by omega]
                      exact bk_nm0 (by omega)
                  refine xa_wkI 0 rfl (fun _ _ => by omega) (k _ _ (fun q j hq => hk q j (by omega)) (show (M 60 41) ≤ (M1 60 41) ∧ ((M1 60 41) = (M 60 41) ∨ (M1 60 41) ≤ 60) by omega) ?_)
                  show (¬ (M 60 42) = -1 ∧ 0 = 0 ∧ (M1 60 41) = (M 60 41) ∧ (M1 60 42) = (M 60 42)) ∨ ((M 60 42) = -1 ∧ ∃ x g q, bk_N T e (M 60 41) x g q ∧ ((g = 1 ∧ 0 = x ∧ (M1 60 41) = q ∧ (M1 60 42) = -1) ∨ (g = 0 ∧ 0 = 0 ∧ (M1 60 42) = q)))
                  exact Or.inr ⟨hw, v, 0, (M1 60 42), ⟨_, hz, by omega, by omega, by omega⟩, by omega⟩
                · intro (c25 : (M1 60 42) = (-1))
                  show xa_wk post (some (0, 0, 0, 9999, v)) M1
                  have e42 : M1 60 42 = M 60 42 := hk 60 42 (by decide)
                  have t41 := hT (M1 60 41)
                  have e73 : M1 73 (M1 60 41) = M 73 (M1 60 41) := hk 73 _ (by omega)
                  have r73 := xm_t73 hM (M1 60 41)
                  have hz : bk_nm T e 4 (M 60 41) 0 = (M1 60 41, v) := by
                    rw [← hb]
                    by_cases c9 : M1 60 41 = M 60 41 + 4
                    · rw [show (M 60 41 + 4 - M1 60 41).toNat = 0 by omega]
                      rfl
                    · rw [show (M 60 41 + 4 - M1 60 41).toNat = (M 60 41 + 3 - M1 60 41).toNat + 1 by omega]
                      exact bk_nm0 (by omega)
                  refine xa_wkI v rfl (fun _ _ => by omega) (k _ _ (fun q j hq => hk q j (by omega)) (show (M 60 41) ≤ (M1 60 41) ∧ ((M1 60 41) = (M 60 41) ∨ (M1 60 41) ≤ 60) by omega) ?_)
                  show (¬ (M 60 42) = -1 ∧ v = 0 ∧ (M1 60 41) = (M 60 41) ∧ (M1 60 42) = (M 60 42)) ∨ ((M 60 42) = -1 ∧ ∃ x g q, bk_N T e (M 60 41) x g q ∧ ((g = 1 ∧ v = x ∧ (M1 60 41) = q ∧ (M1 60 42) = -1) ∨ (g = 0 ∧ v = 0 ∧ (M1 60 42) = q)))
                  exact Or.inr ⟨hw, v, 0, (M1 60 42), ⟨_, hz, by omega, by omega, by omega⟩, by omega⟩
          · intro (c18 : (M1 60 41) = (M 60 41))
            show xa_C xm_I A h0 _ 255 [(2, 60, 0, 0, 0), (0, 0, 0, 100, M1 60 41)] M1 _
            refine ct_fault trivial ?_ ?_
            · intro (i26 : (M1 60 42) = -1)
              refine And.intro ?_ ?_
              · intro (c27 : ¬ (M1 60 41) = (-1))
                show xa_wk post (some (0, 0, 0, 0, 0)) (xa_up M1 60 42 (M1 60 41))
                have e42 : M1 60 42 = M 60 42 := hk 60 42 (by decide)
                have t41 := hT (M1 60 41)
                have e73 : M1 73 (M1 60 41) = M 73 (M1 60 41) := hk 73 _ (by omega)
                have r73 := xm_t73 hM (M1 60 41)
                have hz : bk_nm T e 4 (M 60 41) 0 = (M1 60 41, v) := by
                  rw [← hb]
                  by_cases c9 : M1 60 41 = M 60 41 + 4
                  · rw [show (M 60 41 + 4 - M1 60 41).toNat = 0 by omega]
                    rfl
                  · rw [show (M 60 41 + 4 - M1 60 41).toNat = (M 60 41 + 3 - M1 60 41).toNat + 1 by omega]
                    exact bk_nm0 (by omega)
                refine xa_wkI 0 rfl (fun _ _ => by omega) (k _ _ (fun q j hq => (xa_up_ne (by first | exact fun h => absurd h.1 (by decide) | exact fun h => absurd h.2 (by decide) | omega)).trans (hk q j (by omega))) (show (M 60 41) ≤ (M1 60 41) ∧ ((M1 60 41) = (M 60 41) ∨ (M1 60 41) ≤ 60) by omega) ?_)
                show (¬ (M 60 42) = -1 ∧ 0 = 0 ∧ (M1 60 41) = (M 60 41) ∧ (M1 60 41) = (M 60 42)) ∨ ((M 60 42) = -1 ∧ ∃ x g q, bk_N T e (M 60 41) x g q ∧ ((g = 1 ∧ 0 = x ∧ (M1 60 41) = q ∧ (M1 60 41) = -1) ∨ (g = 0 ∧ 0 = 0 ∧ (M1 60 41) = q)))
                exact Or.inr ⟨hw, v, 0, (M1 60 41), ⟨_, hz, by omega, by omega, by omega⟩, by omega⟩
              · intro (c27 : (M1 60 41) = (-1))
                show xa_wk post (some (0, 0, 0, 9999, v)) (xa_up M1 60 42 (M1 60 41))
                have e42 : M1 60 42 = M 60 42 := hk 60 42 (by decide)
                have t41 := hT (M1 60 41)
                have e73 : M1 73 (M1 60 41) = M 73 (M1 60 41) := hk 73 _ (by omega)
                have r73 := xm_t73 hM (M1 60 41)
                have hz : bk_nm T e 4 (M 60 41) 0 = (M1 60 41, v) := by
                  rw [← hb]
                  by_cases c9 : M1 60 41 = M 60 41 + 4
                  · rw [show (M 60 41 + 4 - M1 60 41).toNat = 0 by omega]
                    rfl
                  · rw [show (M 60 41 + 4 - M1 60 41).toNat = (M 60 41 + 3 - M1 60 41).toNat + 1 by omega]
                    exact bk_nm0 (by omega)
                refine xa_wkI v rfl (fun _ _ => by omega) (k _ _ (fun q j hq => (xa_up_ne (by first | exact fun h => absurd h.1 (by decide) | exact fun h => absurd h.2 (by decide) | omega)).trans (hk q j (by omega))) (show (M 60 41) ≤ (M1 60 41) ∧ ((M1 60 41) = (M 60 41) ∨ (M1 60 41) ≤ 60) by omega) ?_)
                show (¬ (M 60 42) = -1 ∧ v = 0 ∧ (M1 60 41) = (M 60 41) ∧ (M1 60 41) = (M 60 42)) ∨ ((M 60 42) = -1 ∧ ∃ x g q, bk_N T e (M 60 41) x g q ∧ ((g = 1 ∧ v = x ∧ (M1 60 41) = q ∧ (M1 60 41) = -1) ∨ (g = 0 ∧ v = 0 ∧ (M1 60 41) = q)))
                exact Or.inr ⟨hw, v, 0, (M1 60 41), ⟨_, hz, by omega, by omega, by omega⟩, by omega⟩
            · intro (i28 : ¬ (M1 60 42) = -1)
              refine And.intro ?_ ?_
              · intro (c29 : ¬ (M1 60 42) = (-1))
                show xa_wk post (some (0, 0, 0, 0, 0)) M1
                have e42 : M1 60 42 = M 60 42 := hk 60 42 (by decide)
                have t41 := hT (M1 60 41)
                have e73 : M1 73 (M1 60 41) = M 73 (M1 60 41) := hk 73 _ (by omega)
                have r73 := xm_t73 hM (M1 60 41)
                have hz : bk_nm T e 4 (M 60 41) 0 = (M1 60 41, v) := by
                  rw [← hb]
                  by_cases c9 : M1 60 41 = M 60 41 + 4
                  · rw [show (M 60 41 + 4 - M1 60 41).toNat = 0 by omega]
                    rfl
                  · rw [show (M 60 41 + 4 - M1 60 41).toNat = (M 60 41 + 3 - M1 60 41).toNat + 1 by omega]
                    exact bk_nm0 (by omega)
                refine xa_wkI 0 rfl (fun _ _ => by omega) (k _ _ (fun q j hq => hk q j (by omega)) (show (M 60 41) ≤ (M1 60 41) ∧ ((M1 60 41) = (M 60 41) ∨ (M1 60 41) ≤ 60) by omega) ?_)
                show (¬ (M 60 42) = -1 ∧ 0 = 0 ∧ (M1 60 41) = (M 60 41) ∧ (M1 60 42) = (M 60 42)) ∨ ((M 60 42) = -1 ∧ ∃ x g q, bk_N T e (M 60 41) x g q ∧ ((g = 1 ∧ 0 = x ∧ (M1 60 41) = q ∧ (M1 60 42) = -1) ∨ (g = 0 ∧ 0 = 0 ∧ (M1 60 42) = q)))
                exact Or.inr ⟨hw, v, 0, (M1 60 42), ⟨_, hz, by omega, by omega, by omega⟩, by omega⟩
              · intro (c29 : (M1 60 42) = (-1))
                show xa_wk post (some (0, 0, 0, 9999, v)) M1
                have e42 : M1 60 42 = M 60 42 := hk 60 42 (by decide)
                have t41 := hT (M1 60 41)
                have e73 : M1 73 (M1 60 41) = M 73 (M1 60 41) := hk 73 _ (by omega)
                have r73 := xm_t73 hM (M1 60 41)
                have hz : bk_nm T e 4 (M 60 41) 0 = (M1 60 41, v) := by
                  rw [← hb]
                  by_cases c9 : M1 60 41 = M 60 41 + 4
                  · rw [show (M 60 41 + 4 - M1 60 41).toNat = 0 by omega]
                    rfl
                  · rw [show (M 60 41 + 4 - M1 60 41).toNat = (M 60 41 + 3 - M1 60 41).toNat + 1 by omega]
                    exact bk_nm0 (by omega)
                refine xa_wkI v rfl (fun _ _ => by omega) (k _ _ (fun q j hq => hk q j (by omega)) (show (M 60 41) ≤ (M1 60 41) ∧ ((M1 60 41) = (M 60 41) ∨ (M1 60 41) ≤ 60) by omega) ?_)
                show (¬ (M 60 42) = -1 ∧ v = 0 ∧ (M1 60 41) = (M 60 41) ∧ (M1 60 42) = (M 60 42)) ∨ ((M 60 42) = -1 ∧ ∃ x g q, bk_N T e (M 60 41) x g q ∧ ((g = 1 ∧ v = x ∧ (M1 60 41) = q ∧ (M1 60 42) = -1) ∨ (g = 0 ∧ v = 0 ∧ (M1 60 42) = q)))
                exact Or.inr ⟨hw, v, 0, (M1 60 42), ⟨_, hz, by omega, by omega, by omega⟩, by omega⟩
  refine hgo.1 14 [17] 0 _ _ _ ?_
  refine And.intro ?_ ?_
  · intro (c1 : (M 60 42) = (-1))
    have loop := loop c1
    show Q 17 [(2, (0, 0, 0, 0, 0)), (1, (0, 0, 0, 100, M 60 41)), (0, (2, 60, 0, 0, 0))] [] M
    refine hgo.2.1 17 _ [(1, (0, 0, 0, 100, M 60 41)), (2, (0, 0, 0, 9999, 0)), (0, (2, 60, 0, 0, 0))] _ _ (xa_subI rfl rfl (fun _ _ _ _ => by omega) (xa_subI rfl rfl (fun _ _ _ _ => by omega) (xa_subR rfl (xa_sub0)))) ?_
    exact loop 5 0 M (fun _ _ _ => rfl) (by omega) (by rw [show M 60 41 + 4 - M 60 41 = 4 by omega]; rfl) (by omega) (by omega)
  · intro (c1 : ¬ (M 60 42) = (-1))
    show xa_wk post (some (0, 0, 0, 0, 0)) M
    exact xa_wkI 0 rfl (fun _ _ => by omega) (k _ _ (fun _ _ _ => rfl) (by omega) (Or.inl ⟨by omega, rfl, rfl, rfl⟩))

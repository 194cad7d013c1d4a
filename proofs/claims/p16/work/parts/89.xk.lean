-- joined: 89.xk, 90.xm30, 91.xm31, 92.law, 93.world, 94.start, 95.inv
section
-- the lots of wheels led together: enough rounds
section XK
variable {n mm c : Int} {a b : Int → Int} {f f1 g : Int → Int}
/-- how many of the first k are at most c -/
def xk_n (f : Int → Int) (c : Int) : Nat → Int
  | 0 => 0
  | k + 1 => xk_n f c k + (if f (k : Int) ≤ c then 1 else 0)
theorem xk_b : ∀ k : Nat, 0 ≤ xk_n f c k ∧ xk_n f c k ≤ (k : Int)
  | 0 => ⟨Int.le_refl _, Int.le_refl _⟩
  | k + 1 => by
    have := xk_b k
    show 0 ≤ xk_n f c k + (if f (k : Int) ≤ c then 1 else 0) ∧ xk_n f c k + (if f (k : Int) ≤ c then 1 else 0) ≤ _
    split <;> omega
theorem xk_mn : ∀ k : Nat, (∀ w, 0 ≤ w → w < (k : Int) → f w ≤ c → g w ≤ c) → xk_n f c k ≤ xk_n g c k
  | 0, _ => Int.le_refl _
  | k + 1, h => by
    have h1 := xk_mn k (fun w w0 w1 => h w w0 (by omega))
    have h2 := h (k : Int) (by omega) (by omega)
    show xk_n f c k + (if f (k : Int) ≤ c then 1 else 0) ≤ xk_n g c k + (if g (k : Int) ≤ c then 1 else 0)
    split
    · rename_i e
      rw [if_pos (h2 e)]
      omega
    · split <;> omega
theorem xk_lt : ∀ (k : Nat) (v : Int), (∀ w, 0 ≤ w → w < (k : Int) → f w ≤ c → g w ≤ c) → 0 ≤ v → v < (k : Int) → g v ≤ c → ¬ f v ≤ c → xk_n f c k + 1 ≤ xk_n g c k
  | 0, v, _, v0, v1, _, _ => by omega
  | k + 1, v, h, v0, v1, hg, hf => by
    have h2 := h (k : Int) (by omega) (by omega)
    show xk_n f c k + (if f (k : Int) ≤ c then 1 else 0) + 1 ≤ xk_n g c k + (if g (k : Int) ≤ c then 1 else 0)
    by_cases e : v = (k : Int)
    · subst e
      have h1 := xk_mn (f := f) (g := g) k (fun w w0 w1 => h w w0 (by omega))
      rw [if_pos hg, if_neg hf]
      omega
    · have h1 := xk_lt k v (fun w w0 w1 => h w w0 (by omega)) v0 (by omega) hg hf
      split
      · rename_i e2
        rw [if_pos (h2 e2)]
        omega
      · split <;> omega
/-- closed under meshes -/
def xk_cl (mm : Int) (a b f : Int → Int) (c : Int) : Prop := ∀ m, 0 ≤ m → m < mm → (f (a m) ≤ c ↔ f (b m) ≤ c)
def xk_R (n mm : Int) (a b f : Int → Int) (r : Int) : Prop := ∀ c, 0 ≤ c → xk_cl mm a b f c ∨ r + 1 ≤ xk_n f c n.toNat
def xk_J (n mm : Int) (a b g f : Int → Int) (m : Int) : Prop := (∀ w, 0 ≤ w → w < n → f w ≤ g w) ∧ (∀ c, xk_cl mm a b g c → ∀ w, 0 ≤ w → w < n → f w ≤ c → g w ≤ c) ∧ (∀ c, (∀ w, 0 ≤ w → w < n → f w ≤ c → g w ≤ c) → ∀ i, 0 ≤ i → i < m → (f (a i) ≤ c ↔ f (b i) ≤ c))
def xk_K (n mm : Int) (a b f : Int → Int) : Prop := (∀ R : Int → Prop, (∀ m, 0 ≤ m → m < mm → (R (a m) ↔ R (b m))) → ∀ w, 0 ≤ w → w < n → (R w ↔ R (f w))) ∧ ∀ w, 0 ≤ w → w < n → 0 ≤ f w ∧ f w ≤ w
def xk_ab (n mm : Int) (a b : Int → Int) : Prop := ∀ i, 0 ≤ i → i < mm → (0 ≤ a i ∧ a i < n) ∧ (0 ≤ b i ∧ b i < n)
theorem xk_J0 : xk_J n mm a b g g 0 := ⟨fun _ _ _ => Int.le_refl _, fun _ _ _ _ _ h => h, fun _ _ i i0 i1 => by omega⟩
theorem xk_Js {m v : Int} (hab : xk_ab n mm a b) (hJ : xk_J n mm a b g f m) (m0 : 0 ≤ m) (m1 : m < mm) (v1 : v ≤ f (a m)) (v2 : v ≤ f (b m)) (v3 : v = f (a m) ∨ v = f (b m)) (e : ∀ w, f1 w = if w = b m then v else if w = a m then v else f w) : xk_J n mm a b g f1 (m + 1) := by
  obtain ⟨j1, j2, j3⟩ := hJ
  obtain ⟨ha, hb⟩ := hab m m0 m1
  have ea : f1 (a m) = v := by
    rw [e]
    split
    · rfl
    · rw [if_pos rfl]
  have eb : f1 (b m) = v := by rw [e, if_pos rfl]
  have le1 : ∀ w, f1 w ≤ f w := fun w => by
    rw [e]
    split
    · rename_i h
      rw [h]
      exact v2
    · split
      · rename_i h
        rw [h]
        exact v1
      · exact Int.le_refl _
  refine ⟨fun w w0 w1 => Int.le_trans (le1 w) (j1 w w0 w1), fun c hc w w0 w1 h => ?_, fun c H i i0 i1 => ?_⟩
  · have hv : v ≤ c → g (a m) ≤ c ∧ g (b m) ≤ c := fun hv => by
      rcases v3 with e3 | e3
      · have := j2 c hc (a m) ha.1 ha.2 (by omega)
        exact ⟨this, (hc m m0 m1).1 this⟩
      · have := j2 c hc (b m) hb.1 hb.2 (by omega)
        exact ⟨(hc m m0 m1).2 this, this⟩
    rw [e] at h
    split at h
    · rename_i h2
      rw [h2]
      exact (hv h).2
    · split at h
      · rename_i h2
        rw [h2]
        exact (hv h).1
      · exact j2 c hc w w0 w1 h
  · rcases Int.lt_or_eq_of_le (show i ≤ m by omega) with hi | hi
    · obtain ⟨hai, hbi⟩ := hab i i0 (by omega)
      have q : ∀ w, 0 ≤ w → w < n → (f1 w ≤ c ↔ f w ≤ c) := fun w w0 w1 => ⟨fun h => Int.le_trans (j1 w w0 w1) (H w w0 w1 h), fun h => Int.le_trans (le1 w) h⟩
      rw [q _ hai.1 hai.2, q _ hbi.1 hbi.2]
      exact j3 c (fun w w0 w1 h => H w w0 w1 (Int.le_trans (le1 w) h)) i i0 hi
    · rw [hi, ea, eb]
theorem xk_e {r : Int} (hJ : xk_J n mm a b g f mm) (hR : xk_R n mm a b g r) : xk_R n mm a b f (r + 1) := by
  obtain ⟨j1, j2, j3⟩ := hJ
  intro c c0
  by_cases H : ∀ w, 0 ≤ w → w < n → f w ≤ c → g w ≤ c
  · exact Or.inl (fun i i0 i1 => j3 c H i i0 i1)
  · rcases hR c c0 with h | h
    · exact absurd (j2 c h) H
    · refine Or.inr ?_
      have : ∃ w, 0 ≤ w ∧ w < n ∧ f w ≤ c ∧ ¬ g w ≤ c := by
        apply Classical.byContradiction
        intro hn
        exact H (fun w w0 w1 h1 => Classical.byContradiction (fun h2 => hn ⟨w, w0, w1, h1, h2⟩))
      obtain ⟨w, w0, w1, h1, h2⟩ := this
      have := xk_lt (f := g) (g := f) n.toNat w (fun w w0 w1 h => Int.le_trans (j1 w w0 (by omega)) h) w0 (by omega) h1 h2
      omega
theorem xk_R0 (hab : xk_ab n mm a b) (e : ∀ w, 0 ≤ w → w < n → f w = w) : xk_R n mm a b f 0 := by
  intro c c0
  by_cases h : 1 ≤ n
  · refine Or.inr ?_
    have := xk_lt (f := fun _ => c + 1) (g := f) (c := c) n.toNat 0 (fun w w0 w1 h => absurd h (by omega)) (by omega) (by omega) (by rw [e 0 (by omega) (by omega)]; exact c0) (by omega)
    have := (xk_b (f := fun _ => c + 1) (c := c) n.toNat).1
    omega
  · refine Or.inl (fun i i0 i1 => ?_)
    have := hab i i0 i1
    omega
theorem xk_K0 (e : ∀ w, 0 ≤ w → w < n → f w = w) : xk_K n mm a b f := ⟨fun R _ w w0 w1 => by rw [e w w0 w1], fun w w0 w1 => by rw [e w w0 w1]; omega⟩
theorem xk_Ks {m v : Int} (hab : xk_ab n mm a b) (hK : xk_K n mm a b f) (m0 : 0 ≤ m) (m1 : m < mm) (v1 : v ≤ f (a m)) (v2 : v ≤ f (b m)) (v3 : v = f (a m) ∨ v = f (b m)) (e : ∀ w, f1 w = if w = b m then v else if w = a m then v else f w) : xk_K n mm a b f1 := by
  obtain ⟨k1, k2⟩ := hK
  obtain ⟨ha, hb⟩ := hab m m0 m1
  have ka := k2 (a m) ha.1 ha.2
  have kb := k2 (b m) hb.1 hb.2
  refine ⟨fun R hR w w0 w1 => ?_, fun w w0 w1 => ?_⟩
  · have r1 := k1 R hR (a m) ha.1 ha.2
    have r2 := k1 R hR (b m) hb.1 hb.2
    have r3 := hR m m0 m1
    have rv : R (a m) ↔ R v := by
      rcases v3 with e3 | e3
      · rw [e3]
        exact r1
      · rw [e3]
        exact r3.trans r2
    rw [e]
    split
    · rename_i h
      rw [h]
      exact r3.symm.trans rv
    · split
      · rename_i h
        rw [h]
        exact rv
      · exact k1 R hR w w0 w1
  · rw [e]
    split
    · rename_i h
      subst h
      omega
    · split
      · rename_i h
        subst h
        omega
      · exact k2 w w0 w1
theorem xk_fin (hn : 0 ≤ n) (hab : xk_ab n mm a b) (hK : xk_K n mm a b f) (hR : xk_R n mm a b f n) (w : Int) (w0 : 0 ≤ w) (w1 : w < n) : f (f w) = f w := by
  have hcl : ∀ c, 0 ≤ c → xk_cl mm a b f c := fun c c0 => by
    rcases hR c c0 with h | h
    · exact h
    · have := (xk_b (f := f) (c := c) n.toNat).2
      omega
  have heq : ∀ i, 0 ≤ i → i < mm → f (a i) = f (b i) := fun i i0 i1 => by
    obtain ⟨ha, hb⟩ := hab i i0 i1
    have h1 := (hcl _ (hK.2 _ ha.1 ha.2).1 i i0 i1).1 (Int.le_refl _)
    have h2 := (hcl _ (hK.2 _ hb.1 hb.2).1 i i0 i1).2 (Int.le_refl _)
    omega
  exact (hK.1 (fun x => f x = f w) (fun i i0 i1 => by rw [heq i i0 i1]) w w0 w1).1 rfl
end XK
end
section
-- depths of the model is safe
set_option maxRecDepth 20000
theorem xm_93_2 (M : xa_M) (i j v w : Int) : xa_up (xa_up M 93 i v) 93 j v 93 w = if w = j then v else if w = i then v else M 93 w := by
  simp only [xa_up, true_and]
theorem ms_depths {A : Nat → Nat} {h0 : g_H} {d : Nat} {M : xa_M} {post : Option xa_V → xa_M → Prop} (hI : xm_Inv M) (k : ∀ (o : Option xa_V) (M1 : xa_M), xm_cor M M1 → post o M1) : xa_C xm_I A h0 (d + 19) 267 [(2, 60, 0, 0, 0)] M post := by
  refine xa_meth (d := d + 18) (Q0 := (4, 1, false, 0, 0, 12)) (by decide +kernel) ⟨rfl, rfl⟩ (full := s_c_267) rfl rfl ?_
  intro hM hv Q hgo
  have b0 := xm_f0 hM
  have b6 := xm_f6 hM
  have hab : xk_ab (M 60 0) (M 60 6) (fun i => M 66 i) (fun i => M 67 i) := fun i i0 i1 => by
    have h1 := xm_t66 hM i i0 (by omega)
    have h2 := xm_t67 hM i i0 (by omega)
    have h3 := hI.2.1 i i0 i1
    exact ⟨⟨h1.1, h3.1⟩, h2.1, h3.2⟩
  have loop6 : ∀ (n : Nat) (x2 x1 : Int) (M1 : xa_M), 0 ≤ x2 ∧ x2 ≤ 14 → 0 ≤ x1 ∧ x1 ≤ 14 → xm_cor M M1 → M1 60 20 ≤ x2 → 14 - x2 < (n : Int) → Q 191 [(2, (0, 0, 0, 14, x2)), (1, (0, 0, 0, 14, x1)), (0, (2, 60, 0, 0, 0))] [] M1 := by
    intro n
    induction n with
    | zero => intro x2 x1 M1 b2 b1 hc h20 hms; omega
    | succ n ih =>
      intro x2 x1 M1 b2 b1 hc h20 hms
      refine hgo.2.2 _ _ _ _ (fun hM1 _ => ?_)
      have b20 := xm_f20 hM1
      have e0 := xm_corf hc 0 (by omega)
      refine hgo.1 18 [7, 30, 40, 112, 122, 168, 191] 191 _ _ _ ?_
      refine And.intro ?_ ?_
      · intro (c1 : (M1 60 0) ≤ x2)
        show post (some (0, 0, 0, 14, x1)) M1
        exact k _ _ hc
      · intro (c1 : x2 < (M1 60 0))
        refine And.intro (show 0 ≤ x2 ∧ x2 < 14 by omega) ?_
        show xa_C xm_I A h0 _ 231 [(2, 60, 0, 0, 0), (1, 0, (-1), 13, M1 94 x2)] M1 _
        refine ct_tell (n := M1 60 20) (by first | rfl | (simp [xa_up]; done) | omega) (by omega) (by omega) ?_
        show Q 191 [(2, (0, 0, 1, 15, x2 + 1)), (1, (0, 0, 0, 14, x1)), (0, (2, 60, 0, 0, 0))] [] (xa_up (xa_up M1 74 (M1 60 20) (M1 94 x2)) 60 20 ((M1 60 20) + 1))
        refine hgo.2.1 191 _ [(2, (0, 0, 0, 14, x2 + 1)), (1, (0, 0, 0, 14, x1)), (0, (2, 60, 0, 0, 0))] _ _ (xa_subI rfl rfl (fun _ _ _ _ => by omega) (xa_subI rfl rfl (fun _ _ _ _ => by omega) (xa_subR rfl xa_sub0))) ?_
        exact ih (x2 + 1) x1 (xa_up (xa_up M1 74 (M1 60 20) (M1 94 x2)) 60 20 ((M1 60 20) + 1)) (by omega) b1 (xm_cor_f (by omega) (xm_cor_a rfl hc)) (by first | omega | (simp [xa_up]; done) | (simp [xa_up]; omega)) (by omega)
  have loop5 : ∀ (n : Nat) (x1 : Int) (M1 : xa_M), 0 ≤ x1 ∧ x1 ≤ 14 → xm_cor M M1 → xm_ff M1 → xm_fw M1 → x1 ≤ M 60 0 → 14 - x1 < (n : Int) → Q 168 [(1, (0, 0, 0, 14, x1)), (0, (2, 60, 0, 0, 0))] [] M1 := by
    intro n
    induction n with
    | zero => intro x1 M1 b1 hc hff hfw h1 hms; omega
    | succ n ih =>
      intro x1 M1 b1 hc hff hfw h1 hms
      have e0 := xm_corf hc 0 (by omega)
      refine hgo.1 16 [7, 30, 40, 112, 122, 168, 191] 168 _ _ _ ?_
      show xa_C xm_I A h0 (d + 18) 269 [(2, 60, 0, 0, 0), (0, 0, 0, 0, 0), (0, 0, 0, 0, 0), (0, 0, 0, 14, x1)] M1 _
      obtain ⟨kk, hk⟩ : ∃ kk : Nat, M1 60 0 - 0 = (kk : Int) := ⟨(M1 60 0).toNat, by omega⟩
      have hd : d + 18 = (d + (14 - kk)) + kk + 4 := by omega
      rw [hd]
      refine ct_puts kk hk (by omega) (by omega) (by omega) (by omega) (by omega) hff hfw (fun r2 M2 br2 h94 hr2 => ?_)
      have hc2 := xm_cor_t hc (xm_94_c h94)
      refine And.intro ?_ ?_
      · intro (c2 : ¬ r2 = 0)
        show Q 191 [(2, (0, 0, 0, 0, 0)), (1, (0, 0, 0, 14, x1)), (0, (2, 60, 0, 0, 0))] [] (xa_up M2 60 20 0)
        exact hgo.2.1 191 _ _ _ _ (xa_subI rfl rfl (fun _ _ _ _ => by omega) (xa_subI rfl rfl (fun _ _ _ _ => by omega) (xa_subR rfl xa_sub0))) (loop6 15 0 x1 (xa_up M2 60 20 0) (by omega) b1 (xm_cor_f (by omega) hc2) (by first | omega | (simp [xa_up]; done) | (simp [xa_up]; omega)) (by omega))
      · intro (c2 : r2 = 0)
        show Q 168 [(1, (0, 0, 1, 15, x1 + 1)), (0, (2, 60, 0, 0, 0))] [] M2
        have hlt : x1 < M 60 0 := by
          rcases Int.lt_or_le x1 (M 60 0) with h | h
          · exact h
          · have := hr2 (by omega) ⟨fun v v0 v1 => by omega, fun v u v0 v1 => by omega, fun v v0 v1 => by omega, by omega⟩
            omega
        exact hgo.2.1 168 _ _ _ _ (xa_subI rfl rfl (fun _ _ _ _ => by omega) (xa_subR rfl xa_sub0)) (ih (x1 + 1) M2 (by omega) hc2 (xm_94_ff h94 hff) (xm_94_fw h94 hfw) (by omega) (by omega))
  have loop3 : ∀ (n : Nat) (x1 : Int) (M1 : xa_M), 0 ≤ x1 ∧ x1 ≤ 14 → xm_cor M M1 → xm_ff M1 → (∀ v u, 0 ≤ u → u < v → v < x1 → M1 93 v = M1 93 u → ¬ xm_inw M1 v u) → x1 ≤ M 60 0 → 14 - x1 < (n : Int) → Q 112 [(1, (0, 0, 0, 14, x1)), (0, (2, 60, 0, 0, 0))] [] M1 := by
    intro n
    induction n with
    | zero => intro x1 M1 b1 hc hff hiw h1 hms; omega
    | succ n ih =>
      intro x1 M1 b1 hc hff hiw h1 hms
      have e0 := xm_corf hc 0 (by omega)
      have loop4 : ∀ (n2 : Nat) (x2 : Int), 0 ≤ x2 ∧ x2 ≤ 13 → x1 < M 60 0 → x2 ≤ x1 → (∀ u, 0 ≤ u → u < x2 → M1 93 x1 = M1 93 u → ¬ xm_inw M1 x1 u) → 13 - x2 < (n2 : Int) → Q 122 [(2, (0, 0, 0, 13, x2)), (1, (0, 0, 0, 13, x1)), (0, (2, 60, 0, 0, 0))] [] M1 := by
        intro n2
        induction n2 with
        | zero => intro x2 b2 h10 h21 hu hms2; omega
        | succ n2 ih2 =>
          intro x2 b2 h10 h21 hu hms2
          have nx : x2 < x1 → (M1 93 x1 = M1 93 x2 → ¬ xm_inw M1 x1 x2) → Q 122 [(2, (0, 0, 1, 14, x2 + 1)), (1, (0, 0, 0, 13, x1)), (0, (2, 60, 0, 0, 0))] [] M1 := fun c1 hx => by
            refine hgo.2.1 122 _ _ _ _ (xa_subI rfl rfl (fun _ _ _ _ => by omega) (xa_subI rfl rfl (fun _ _ _ _ => by omega) (xa_subR rfl xa_sub0))) (ih2 (x2 + 1) (by omega) h10 (by omega) (fun u u0 u1 e => ?_) (by omega))
            rcases Int.lt_or_eq_of_le (show u ≤ x2 by omega) with c | c
            · exact hu u u0 c e
            · rw [c] at e ⊢
              exact hx e
          refine hgo.1 24 [7, 30, 40, 112, 122, 168, 191] 122 _ _ _ ?_
          refine And.intro ?_ ?_
          · intro (c1 : x1 ≤ x2)
            show Q 112 [(1, (0, 0, 1, 14, x1 + 1)), (2, (0, 0, 0, 13, x2)), (0, (2, 60, 0, 0, 0))] [] M1
            refine hgo.2.1 112 _ _ _ _ (xa_subI rfl rfl (fun _ _ _ _ => by omega) (xa_subR rfl xa_sub0)) (ih (x1 + 1) M1 (by omega) hc hff (fun v u u0 uv v1 e => ?_) (by omega) (by omega))
            rcases Int.lt_or_eq_of_le (show v ≤ x1 by omega) with c | c
            · exact hiw v u u0 uv c e
            · rw [c] at e uv ⊢
              exact hu u u0 (by omega) e
          · intro (c1 : x2 < x1)
            refine And.intro ?_ ?_
            · intro (c2 : ¬ (M1 93 x1) = (M1 93 x2))
              show Q 122 [(2, (0, 0, 1, 14, x2 + 1)), (1, (0, 0, 0, 13, x1)), (0, (2, 60, 0, 0, 0))] [] M1
              exact nx c1 (fun e => absurd e c2)
            · intro (c2 : (M1 93 x1) = (M1 93 x2))
              show xa_C xm_I A h0 _ 268 [(2, 60, 0, 0, 0), (0, 0, 0, 13, x1), (0, 0, 0, 13, x2)] M1 _
              refine ct_areInWay (by omega) (by omega) (by omega) (by omega) (fun r3 br3 hr3 => ?_)
              refine And.intro ?_ ?_
              · intro (c4 : r3 = 0)
                show Q 122 [(2, (0, 0, 1, 14, x2 + 1)), (1, (0, 0, 0, 13, x1)), (0, (2, 60, 0, 0, 0))] [] M1
                exact nx c1 (fun _ e => by have := hr3.2 e; omega)
              · intro (c4 : ¬ r3 = 0)
                show post (some (0, 0, (-2), (-2), (-2))) M1
                exact k _ _ hc
      refine hgo.1 11 [7, 30, 40, 112, 122, 168, 191] 112 _ _ _ ?_
      refine And.intro ?_ ?_
      · intro (c1 : (M1 60 0) ≤ x1)
        show Q 168 [(1, (0, 0, 0, 0, 0)), (0, (2, 60, 0, 0, 0))] [] M1
        refine hgo.2.1 168 _ _ _ _ (xa_subI rfl rfl (fun _ _ _ _ => by omega) (xa_subR rfl xa_sub0)) (loop5 15 0 M1 (by omega) hc hff (fun v u v0 vu u1 e hi => ?_) (by omega) (by omega))
        exact hiw u v v0 vu (by omega) e.symm (xm_inw_s hi)
      · intro (c1 : x1 < (M1 60 0))
        show Q 122 [(2, (0, 0, 0, 0, 0)), (1, (0, 0, 0, 14, x1)), (0, (2, 60, 0, 0, 0))] [] M1
        exact hgo.2.1 122 _ _ _ _ (xa_subI rfl rfl (fun _ _ _ _ => by omega) (xa_subI rfl rfl (fun _ _ _ _ => by omega) (xa_subR rfl xa_sub0))) (loop4 14 0 (by omega) (by omega) (by omega) (fun u u0 u1 => by omega) (by omega))
  have loop1 : ∀ (n : Nat) (x1 : Int) (M1 : xa_M), 0 ≤ x1 ∧ x1 ≤ 14 → xm_cor M M1 → xk_K (M 60 0) (M 60 6) (fun i => M 66 i) (fun i => M 67 i) (fun w => M1 93 w) → xk_R (M 60 0) (M 60 6) (fun i => M 66 i) (fun i => M 67 i) (fun w => M1 93 w) x1 → x1 ≤ M 60 0 → 14 - x1 < (n : Int) → Q 30 [(1, (0, 0, 0, 14, x1)), (0, (2, 60, 0, 0, 0))] [] M1 := by
    intro n
    induction n with
    | zero => intro x1 M1 b1 hc hK hR h1 hms; omega
    | succ n ih =>
      intro x1 M0 b1 hc hK hR h1 hms
      have e0 := xm_corf hc 0 (by omega)
      have loop2 : ∀ (n2 : Nat) (x2 : Int) (M1 : xa_M), 0 ≤ x2 ∧ x2 ≤ 16 → xm_cor M M1 → xk_K (M 60 0) (M 60 6) (fun i => M 66 i) (fun i => M 67 i) (fun w => M1 93 w) → xk_J (M 60 0) (M 60 6) (fun i => M 66 i) (fun i => M 67 i) (fun w => M0 93 w) (fun w => M1 93 w) x2 → x1 < M 60 0 → x2 ≤ M 60 6 → 16 - x2 < (n2 : Int) → Q 40 [(2, (0, 0, 0, 16, x2)), (1, (0, 0, 0, 13, x1)), (0, (2, 60, 0, 0, 0))] [] M1 := by
        intro n2
        induction n2 with
        | zero => intro x2 M1 b2 hc hK hJ h10 h2 hms2; omega
        | succ n2 ih2 =>
          intro x2 M1 b2 hc hK hJ h10 h2 hms2
          have e6 := xm_corf hc 6 (by omega)
          have e66 := xm_corq hc 66 rfl x2
          have e67 := xm_corq hc 67 rfl x2
          refine hgo.1 43 [7, 30, 40, 112, 122, 168, 191] 40 _ _ _ ?_
          refine And.intro ?_ ?_
          · intro (c1 : (M1 60 6) ≤ x2)
            show Q 30 [(1, (0, 0, 1, 14, x1 + 1)), (2, (0, 0, 0, 16, x2)), (0, (2, 60, 0, 0, 0))] [] M1
            have hx : x2 = M 60 6 := by omega
            rw [hx] at hJ
            exact hgo.2.1 30 _ _ _ _ (xa_subI rfl rfl (fun _ _ _ _ => by omega) (xa_subR rfl xa_sub0)) (ih (x1 + 1) M1 (by omega) hc hK (xk_e hJ hR) (by omega) (by omega))
          · intro (c1 : x2 < (M1 60 6))
            refine And.intro (show 0 ≤ x2 ∧ x2 < 16 by omega) ?_
            refine And.intro (show 0 ≤ x2 ∧ x2 < 16 by omega) ?_
            show xa_C xm_I A h0 _ 32 [(0, 0, 0, 13, M1 93 (M1 66 x2)), (0, 0, 0, 13, M1 93 (M1 67 x2))] M1 _
            refine ct_min 0 13 (by decide) (by decide) (by decide) (fun r2 br2 er2 => ?_)
            refine And.intro (show 0 ≤ x2 ∧ x2 < 16 by omega) ?_
            refine And.intro (show 0 ≤ x2 ∧ x2 < 16 by omega) ?_
            show Q 40 [(2, (0, 0, 1, 17, x2 + 1)), (3, (0, 0, 0, 13, r2)), (1, (0, 0, 0, 13, x1)), (0, (2, 60, 0, 0, 0))] [] (xa_up (xa_up M1 93 (M1 66 x2) r2) 93 (M1 67 x2) r2)
            rw [e66, e67] at er2 ⊢
            have hfe : ∀ w, (fun w => xa_up (xa_up M1 93 (M 66 x2) r2) 93 (M 67 x2) r2 93 w) w = if w = (fun i => M 67 i) x2 then r2 else if w = (fun i => M 66 i) x2 then r2 else (fun w => M1 93 w) w := fun w => xm_93_2 M1 _ _ _ _
            exact hgo.2.1 40 _ _ _ _ (xa_subI rfl rfl (fun _ _ _ _ => by omega) (xa_subI rfl rfl (fun _ _ _ _ => by omega) (xa_subR rfl xa_sub0))) (ih2 (x2 + 1) _ (by omega) (xm_cor_a rfl (xm_cor_a rfl hc)) (xk_Ks hab hK b2.1 (by omega) er2.1 er2.2.1 er2.2.2 hfe) (xk_Js hab hJ b2.1 (by omega) er2.1 er2.2.1 er2.2.2 hfe) h10 (by omega) (by omega))
      refine hgo.1 11 [7, 30, 40, 112, 122, 168, 191] 30 _ _ _ ?_
      refine And.intro ?_ ?_
      · intro (c1 : (M0 60 0) ≤ x1)
        show Q 112 [(1, (0, 0, 0, 0, 0)), (0, (2, 60, 0, 0, 0))] [] M0
        have hx : x1 = M 60 0 := by omega
        rw [hx] at hR
        refine hgo.2.1 112 _ _ _ _ (xa_subI rfl rfl (fun _ _ _ _ => by omega) (xa_subR rfl xa_sub0)) (loop3 15 0 M0 (by omega) hc (fun w w0 w1 => ?_) (fun v u u0 uv v1 => by omega) (by omega) (by omega))
        rw [e0] at w1
        have h1 := hK.2 w w0 w1
        exact ⟨h1.1, h1.2, xk_fin b0.1 hab hK hR w w0 w1⟩
      · intro (c1 : x1 < (M0 60 0))
        show Q 40 [(2, (0, 0, 0, 0, 0)), (1, (0, 0, 0, 14, x1)), (0, (2, 60, 0, 0, 0))] [] M0
        exact hgo.2.1 40 _ _ _ _ (xa_subI rfl rfl (fun _ _ _ _ => by omega) (xa_subI rfl rfl (fun _ _ _ _ => by omega) (xa_subR rfl xa_sub0))) (loop2 17 0 M0 (by omega) hc hK xk_J0 (by omega) (by omega) (by omega))
  have loop0 : ∀ (n : Nat) (x1 : Int) (M1 : xa_M), 0 ≤ x1 ∧ x1 ≤ 14 → xm_cor M M1 → (∀ w, 0 ≤ w → w < x1 → M1 93 w = w) → x1 ≤ M 60 0 → 14 - x1 < (n : Int) → Q 7 [(1, (0, 0, 0, 14, x1)), (0, (2, 60, 0, 0, 0))] [] M1 := by
    intro n
    induction n with
    | zero => intro x1 M1 b1 hc hw h1 hms; omega
    | succ n ih =>
      intro x1 M1 b1 hc hw h1 hms
      have e0 := xm_corf hc 0 (by omega)
      refine hgo.1 16 [7, 30, 40, 112, 122, 168, 191] 7 _ _ _ ?_
      refine And.intro ?_ ?_
      · intro (c1 : (M1 60 0) ≤ x1)
        show Q 30 [(1, (0, 0, 0, 0, 0)), (0, (2, 60, 0, 0, 0))] [] M1
        have hid : ∀ w, 0 ≤ w → w < M 60 0 → (fun w => M1 93 w) w = w := fun w w0 w1 => hw w w0 (by omega)
        exact hgo.2.1 30 _ _ _ _ (xa_subI rfl rfl (fun _ _ _ _ => by omega) (xa_subR rfl xa_sub0)) (loop1 15 0 M1 (by omega) hc (xk_K0 hid) (xk_R0 hab hid) (by omega) (by omega))
      · intro (c1 : x1 < (M1 60 0))
        refine And.intro (show 0 ≤ x1 ∧ x1 < 14 by omega) ?_
        refine And.intro (show 0 ≤ x1 ∧ x1 ≤ 13 by omega) ?_
        show Q 7 [(1, (0, 0, 1, 15, x1 + 1)), (0, (2, 60, 0, 0, 0))] [] (xa_up M1 93 x1 x1)
        refine hgo.2.1 7 _ _ _ _ (xa_subI rfl rfl (fun _ _ _ _ => by omega) (xa_subR rfl xa_sub0)) (ih (x1 + 1) (xa_up M1 93 x1 x1) (by omega) (xm_cor_a rfl hc) (fun w w0 w1 => ?_) (by omega) (by omega))
        rcases Int.lt_or_eq_of_le (show w ≤ x1 by omega) with c | c
        · rw [xa_up_ne (by omega)]
          exact hw w w0 c
        · rw [c]
          simp [xa_up]
  refine hgo.1 10 [7, 30, 40, 112, 122, 168, 191] 0 _ _ _ ?_
  show Q 7 [(1, (0, 0, 0, 0, 0)), (0, (2, 60, 0, 0, 0))] [] (xa_up M 60 21 0)
  refine hgo.2.1 7 _ _ _ _ (xa_subI rfl rfl (fun _ _ _ _ => by omega) (xa_subR rfl xa_sub0)) (loop0 15 0 (xa_up M 60 21 0) (by omega) (xm_cor_f (by omega) xm_cor_r) (fun w w0 w1 => by omega) (by omega) (by omega))
end
section
-- sign, end, axle, uneven, names, dial, seen, games, wrong, year, left, count of the model (made by wip/p24/xa/xm31.py)
set_option maxRecDepth 20000
/-- the cells of which the invariant speaks -/
def xm_icB (q : Nat) (j : Int) : Bool := (Nat.beq q 61 || (Nat.beq q 62 || (Nat.beq q 63 || (Nat.beq q 66 || (Nat.beq q 67 || (Nat.beq q 70 || (Nat.beq q 71 || (Nat.beq q 104 || Nat.beq q 105)))))))) || (Nat.beq q 60 && (decide (j = 0) || (decide (j = 6) || (decide (j = 11) || (decide (j = 15) || decide (j = 16))))))
def xm_is (M M1 : xa_M) : Prop := ∀ q j, xm_icB q j = true → M1 q j = M q j
theorem xm_is_r {M : xa_M} : xm_is M M := fun _ _ _ => rfl
theorem xm_is_u {M M1 : xa_M} {q : Nat} {j v : Int} (hq : xm_icB q j = false) (h : xm_is M M1) : xm_is M (xa_up M1 q j v) := by
  intro q2 j2 h2
  rw [xa_up_ne (fun e => by rw [e.1, e.2, hq] at h2; cases h2)]
  exact h q2 j2 h2
theorem xm_Inv_is {M M1 : xa_M} (h : xm_is M M1) (hI : xm_Inv M) : xm_Inv M1 := by
  have e0 : M1 60 0 = M 60 0 := h 60 0 rfl
  have e6 : M1 60 6 = M 60 6 := h 60 6 rfl
  have e11 : M1 60 11 = M 60 11 := h 60 11 rfl
  have e15 : M1 60 15 = M 60 15 := h 60 15 rfl
  have e16 : M1 60 16 = M 60 16 := h 60 16 rfl
  have a61 : ∀ j, M1 61 j = M 61 j := fun j => h 61 j rfl
  have a62 : ∀ j, M1 62 j = M 62 j := fun j => h 62 j rfl
  have a63 : ∀ j, M1 63 j = M 63 j := fun j => h 63 j rfl
  have a66 : ∀ j, M1 66 j = M 66 j := fun j => h 66 j rfl
  have a67 : ∀ j, M1 67 j = M 67 j := fun j => h 67 j rfl
  have a70 : ∀ j, M1 70 j = M 70 j := fun j => h 70 j rfl
  have a71 : ∀ j, M1 71 j = M 71 j := fun j => h 71 j rfl
  have a104 : ∀ j, M1 104 j = M 104 j := fun j => h 104 j rfl
  have a105 : ∀ j, M1 105 j = M 105 j := fun j => h 105 j rfl
  obtain ⟨h1, h2, h3, h4, h5⟩ := hI
  refine ⟨fun w w0 w1 => ?_, fun m m0 m1 => ?_, fun p p0 p1 => ?_, ?_, fun i i0 i1 i2 => ?_⟩
  · rw [a61, a62, a63]
    exact h1 w w0 (by omega)
  · rw [a66, a67, e0]
    exact h2 m m0 (by omega)
  · rw [a70, a71]
    exact h3 p p0 (by omega)
  · omega
  · rw [a105] at i2
    have := h5 i i0 i1 i2
    unfold xm_bld at this ⊢
    simp only [a104]
    exact this
-- NF
theorem ct_namesFrom : ∀ (n : Nat) {A : Nat → Nat} {h0 : g_H} {d : Nat} {M : xa_M} {post : Option xa_V → xa_M → Prop} {l1 u1 l2 u2 l3 u3 : Int} {a m u : Int}, m - a = (n : Int) → 0 ≤ a → m ≤ 8 → (∀ M1 : xa_M, xm_cor M M1 → post none M1) → xa_C xm_I A h0 (d + n + 2) 282 [(2, 60, 0, 0, 0), (0, 0, l1, u1, a), (0, 0, l2, u2, m), (0, 0, l3, u3, u)] M post := by
  intro n
  induction n with
  | zero =>
    intro A h0 d M post l1 u1 l2 u2 l3 u3 a m u hn a0 m8 kk
    refine xa_C_arg [(2, 60, 0, 0, 0), (0, 0, 0, 8, a), (0, 0, 0, 8, m), (0, 0, (-2147483648), 2147483647, u)] (xa_svR (xa_svI (fun _ _ _ _ => by omega) (xa_svI (fun _ _ _ _ => by omega) (xa_svI (fun _ _ _ _ => by omega) xa_sv0)))) ?_
    refine xa_meth (Q0 := (5, 0, false, 0, 0, 12)) (by decide +kernel) ⟨rfl, rfl⟩ (full := s_c_282) rfl rfl ?_
    intro hM _ Q hgo
    have loop1 : ∀ (n : Nat) (x4 : Int) (M1 : xa_M), 0 ≤ x4 ∧ x4 ≤ 8 → xm_cor M M1 → M1 60 20 ≤ x4 → 8 - x4 < (n : Int) → Q 20 [(4, (0, 0, 0, 8, x4)), (2, (0, 0, 0, 8, m)), (0, (2, 60, 0, 0, 0))] [] M1 := by
      intro n
      induction n with
      | zero => intro x4 M1 b4 hc h20 hms; omega
      | succ n ih1 =>
        intro x4 M1 b4 hc h20 hms
        refine hgo.2.2 _ _ _ _ (fun hM1 _ => ?_)
        have b20 := xm_f20 hM1
        refine hgo.1 17 [20, 58] 20 _ _ _ ?_
        refine And.intro ?_ ?_
        · intro (c1 : m ≤ x4)
          show post none (xa_up M1 60 53 (xa_w32 ((M1 60 53) + 1)))
          exact kk _ (xm_cor_f (by omega) hc)
        · intro (c1 : x4 < m)
          refine And.intro (show 0 ≤ x4 ∧ x4 < 8 by omega) ?_
          show xa_C xm_I A h0 _ 231 [(2, 60, 0, 0, 0), (1, 0, 0, 7, M1 95 x4)] M1 _
          refine ct_tell (n := (M1 60 20)) (by first | rfl | (simp [xa_up]; done) | omega) (by omega) (by omega) ?_
          show Q 20 [(4, (0, 0, 1, 9, x4 + 1)), (2, (0, 0, 0, 8, m)), (0, (2, 60, 0, 0, 0))] [] (xa_up (xa_up M1 74 (M1 60 20) (M1 95 x4)) 60 20 ((M1 60 20) + 1))
          refine hgo.2.1 20 _ [(4, (0, 0, 0, 8, x4 + 1)), (2, (0, 0, 0, 8, m)), (0, (2, 60, 0, 0, 0))] _ _ (xa_subI rfl rfl (fun _ _ _ _ => by omega) (xa_subI rfl rfl (fun _ _ _ _ => by omega) (xa_subR rfl xa_sub0))) ?_
          exact ih1 (x4 + 1) (xa_up (xa_up M1 74 (M1 60 20) (M1 95 x4)) 60 20 ((M1 60 20) + 1)) (by omega) (xm_cor_f (by omega) (xm_cor_a rfl hc)) (by first | omega | (simp [xa_up]; done) | (simp [xa_up]; omega)) (by omega)
    refine hgo.1 17 [20, 58] 0 _ _ _ ?_
    refine And.intro ?_ ?_
    · intro (c1 : ¬ a = m)
      show Q 58 [(4, (0, 0, 0, 0, 0)), (0, (2, 60, 0, 0, 0)), (1, (0, 0, 0, 8, a)), (2, (0, 0, 0, 8, m)), (3, (0, 0, (-2147483648), 2147483647, u))] [] M
      exfalso
      omega
    · intro (c1 : a = m)
      refine And.intro ?_ ?_
      · intro (c2 : ¬ (M 60 53) = 0)
        show post none (xa_up M 60 53 (xa_w32 ((M 60 53) + 1)))
        exact kk _ (xm_cor_f (by omega) xm_cor_r)
      · intro (c2 : (M 60 53) = 0)
        show Q 20 [(4, (0, 0, 0, 0, 0)), (0, (2, 60, 0, 0, 0)), (1, (0, 0, 0, 8, a)), (2, (0, 0, 0, 8, m)), (3, (0, 0, (-2147483648), 2147483647, u))] [] (xa_up M 60 20 0)
        refine hgo.2.1 20 _ [(4, (0, 0, 0, 8, 0)), (2, (0, 0, 0, 8, m)), (0, (2, 60, 0, 0, 0))] _ _ (xa_subI rfl rfl (fun _ _ _ _ => by omega) (xa_subI rfl rfl (fun _ _ _ _ => by omega) (xa_subR rfl xa_sub0))) ?_
        exact loop1 9 0 (xa_up M 60 20 0) (by omega) (xm_cor_f (by omega) xm_cor_r) (by first | omega | (simp [xa_up]; done) | (simp [xa_up]; omega)) (by omega)
  | succ n ih =>
    intro A h0 d M post l1 u1 l2 u2 l3 u3 a m u hn a0 m8 kk
    refine xa_C_arg [(2, 60, 0, 0, 0), (0, 0, 0, 7, a), (0, 0, 0, 8, m), (0, 0, (-2147483648), 2147483647, u)] (xa_svR (xa_svI (fun _ _ _ _ => by omega) (xa_svI (fun _ _ _ _ => by omega) (xa_svI (fun _ _ _ _ => by omega) xa_sv0)))) ?_
    refine xa_meth (d := d + n + 2) (Q0 := (5, 0, false, 0, 0, 12)) (by decide +kernel) ⟨rfl, rfl⟩ (full := s_c_282) rfl rfl ?_
    intro hM _ Q hgo
    have b11 := xm_f11 hM
    have loop2 : ∀ (n : Nat) (x4 : Int) (M1 : xa_M), 0 ≤ x4 ∧ x4 ≤ 8 → xm_cor M M1 → 8 - x4 < (n : Int) → Q 58 [(4, (0, 0, 0, 8, x4)), (1, (0, 0, 0, 7, a)), (2, (0, 0, 0, 8, m)), (3, (0, 0, (-2147483648), 2147483647, u)), (0, (2, 60, 0, 0, 0))] [] M1 := by
      intro n2
      induction n2 with
      | zero => intro x4 M1 b4 hc hms; omega
      | succ n2 ih2 =>
        intro x4 M1 b4 hc hms
        have e11 := xm_corf hc 11 (by omega)
        refine hgo.1 46 [20, 58] 58 _ _ _ ?_
        refine And.intro ?_ ?_
        · intro (c1 : (M1 60 11) ≤ x4)
          show post none M1
          exact kk _ hc
        · intro (c1 : x4 < (M1 60 11))
          show xa_C xm_I A h0 _ 248 [(0, 0, (-2147483648), 2147483647, u), (0, 0, 0, 8, x4)] M1 _
          refine ct_has (fun r2 zr2 er2 => ?_)
          refine And.intro ?_ ?_
          · intro (c3 : ¬ r2 = 0)
            show Q 58 [(4, (0, 0, 1, 9, x4 + 1)), (1, (0, 0, 0, 7, a)), (2, (0, 0, 0, 8, m)), (3, (0, 0, (-2147483648), 2147483647, u)), (0, (2, 60, 0, 0, 0))] [] M1
            refine hgo.2.1 58 _ [(4, (0, 0, 0, 8, x4 + 1)), (1, (0, 0, 0, 7, a)), (2, (0, 0, 0, 8, m)), (3, (0, 0, (-2147483648), 2147483647, u)), (0, (2, 60, 0, 0, 0))] _ _ (xa_subI rfl rfl (fun _ _ _ _ => by omega) (xa_subI rfl rfl (fun _ _ _ _ => by omega) (xa_subI rfl rfl (fun _ _ _ _ => by omega) (xa_subI rfl rfl (fun _ _ _ _ => by omega) (xa_subR rfl xa_sub0))))) ?_
            exact ih2 (x4 + 1) M1 (by omega) hc (by omega)
          · intro (c3 : r2 = 0)
            refine And.intro ?_ ?_
            · intro (c4 : (M1 73 a) = 63)
              refine And.intro (show 0 ≤ x4 ∧ x4 ≤ 7 by omega) ?_
              show xa_C xm_I A h0 _ 282 [(2, 60, 0, 0, 0), (0, 0, 1, 8, a + 1), (0, 0, 0, 8, m), (0, 0, (-2147483648), 2147483647, xa_ib 4 u (xa_ib 6 1 x4))] (xa_up M1 95 a x4) _
              refine ih (d := d) (by omega) (by omega) (by omega) (fun M5 hc5 => ?_)
              show Q 58 [(4, (0, 0, 1, 9, x4 + 1)), (1, (0, 0, 0, 7, a)), (2, (0, 0, 0, 8, m)), (3, (0, 0, (-2147483648), 2147483647, u)), (0, (2, 60, 0, 0, 0))] [] M5
              refine hgo.2.1 58 _ [(4, (0, 0, 0, 8, x4 + 1)), (1, (0, 0, 0, 7, a)), (2, (0, 0, 0, 8, m)), (3, (0, 0, (-2147483648), 2147483647, u)), (0, (2, 60, 0, 0, 0))] _ _ (xa_subI rfl rfl (fun _ _ _ _ => by omega) (xa_subI rfl rfl (fun _ _ _ _ => by omega) (xa_subI rfl rfl (fun _ _ _ _ => by omega) (xa_subI rfl rfl (fun _ _ _ _ => by omega) (xa_subR rfl xa_sub0))))) ?_
              exact ih2 (x4 + 1) M5 (by omega) (xm_cor_t (xm_cor_a rfl hc) hc5) (by omega)
            · intro (c4 : ¬ (M1 73 a) = 63)
              refine And.intro (show 0 ≤ x4 ∧ x4 < 8 by omega) ?_
              refine And.intro ?_ ?_
              · intro (c6 : (M1 73 a) = (M1 72 x4))
                refine And.intro (show 0 ≤ x4 ∧ x4 ≤ 7 by omega) ?_
                show xa_C xm_I A h0 _ 282 [(2, 60, 0, 0, 0), (0, 0, 1, 8, a + 1), (0, 0, 0, 8, m), (0, 0, (-2147483648), 2147483647, xa_ib 4 u (xa_ib 6 1 x4))] (xa_up M1 95 a x4) _
                refine ih (d := d) (by omega) (by omega) (by omega) (fun M7 hc7 => ?_)
                show Q 58 [(4, (0, 0, 1, 9, x4 + 1)), (1, (0, 0, 0, 7, a)), (2, (0, 0, 0, 8, m)), (3, (0, 0, (-2147483648), 2147483647, u)), (0, (2, 60, 0, 0, 0))] [] M7
                refine hgo.2.1 58 _ [(4, (0, 0, 0, 8, x4 + 1)), (1, (0, 0, 0, 7, a)), (2, (0, 0, 0, 8, m)), (3, (0, 0, (-2147483648), 2147483647, u)), (0, (2, 60, 0, 0, 0))] _ _ (xa_subI rfl rfl (fun _ _ _ _ => by omega) (xa_subI rfl rfl (fun _ _ _ _ => by omega) (xa_subI rfl rfl (fun _ _ _ _ => by omega) (xa_subI rfl rfl (fun _ _ _ _ => by omega) (xa_subR rfl xa_sub0))))) ?_
                exact ih2 (x4 + 1) M7 (by omega) (xm_cor_t (xm_cor_a rfl hc) hc7) (by omega)
              · intro (c6 : ¬ (M1 73 a) = (M1 72 x4))
                show Q 58 [(4, (0, 0, 1, 9, x4 + 1)), (1, (0, 0, 0, 7, a)), (2, (0, 0, 0, 8, m)), (3, (0, 0, (-2147483648), 2147483647, u)), (0, (2, 60, 0, 0, 0))] [] M1
                refine hgo.2.1 58 _ [(4, (0, 0, 0, 8, x4 + 1)), (1, (0, 0, 0, 7, a)), (2, (0, 0, 0, 8, m)), (3, (0, 0, (-2147483648), 2147483647, u)), (0, (2, 60, 0, 0, 0))] _ _ (xa_subI rfl rfl (fun _ _ _ _ => by omega) (xa_subI rfl rfl (fun _ _ _ _ => by omega) (xa_subI rfl rfl (fun _ _ _ _ => by omega) (xa_subI rfl rfl (fun _ _ _ _ => by omega) (xa_subR rfl xa_sub0))))) ?_
                exact ih2 (x4 + 1) M1 (by omega) hc (by omega)
    refine hgo.1 17 [20, 58] 0 _ _ _ ?_
    refine And.intro ?_ ?_
    · intro (c1 : ¬ a = m)
      show Q 58 [(4, (0, 0, 0, 0, 0)), (0, (2, 60, 0, 0, 0)), (1, (0, 0, 0, 7, a)), (2, (0, 0, 0, 8, m)), (3, (0, 0, (-2147483648), 2147483647, u))] [] M
      refine hgo.2.1 58 _ [(4, (0, 0, 0, 8, 0)), (1, (0, 0, 0, 7, a)), (2, (0, 0, 0, 8, m)), (3, (0, 0, (-2147483648), 2147483647, u)), (0, (2, 60, 0, 0, 0))] _ _ (xa_subI rfl rfl (fun _ _ _ _ => by omega) (xa_subI rfl rfl (fun _ _ _ _ => by omega) (xa_subI rfl rfl (fun _ _ _ _ => by omega) (xa_subI rfl rfl (fun _ _ _ _ => by omega) (xa_subR rfl xa_sub0))))) ?_
      exact loop2 9 0 M (by omega) xm_cor_r (by omega)
    · intro (c1 : a = m)
      refine And.intro ?_ ?_
      · intro (c2 : ¬ (M 60 53) = 0)
        show post none (xa_up M 60 53 (xa_w32 ((M 60 53) + 1)))
        exact kk _ (xm_cor_f (by omega) xm_cor_r)
      · intro (c2 : (M 60 53) = 0)
        show Q 20 [(4, (0, 0, 0, 0, 0)), (0, (2, 60, 0, 0, 0)), (1, (0, 0, 0, 7, a)), (2, (0, 0, 0, 8, m)), (3, (0, 0, (-2147483648), 2147483647, u))] [] (xa_up M 60 20 0)
        exfalso
        omega
theorem ct_namesFrom8 {A : Nat → Nat} {h0 : g_H} {d : Nat} {M : xa_M} {post : Option xa_V → xa_M → Prop} {l1 u1 l2 u2 l3 u3 a m u : Int} (a0 : 0 ≤ a) (a1 : a ≤ m) (m8 : m ≤ 8) (k : ∀ M1 : xa_M, xm_cor M M1 → post none M1) : xa_C xm_I A h0 (d + 10) 282 [(2, 60, 0, 0, 0), (0, 0, l1, u1, a), (0, 0, l2, u2, m), (0, 0, l3, u3, u)] M post := by
  obtain ⟨n, hn⟩ : ∃ n : Nat, m - a = (n : Int) := ⟨(m - a).toNat, by omega⟩
  have hd : d + 10 = (d + (8 - n)) + n + 2 := by omega
  rw [hd]
  exact ct_namesFrom n hn a0 m8 k
end
section
-- the skeleton's names for the law's end
def R_law : String := "GreenGearsLaw"
def lw_P (b : Addr) (xs : List Int32) (args : Array Value) (s : State) : Prop := args = #[.ref b] ∧ s.IntsAt b xs ∧ xs.length ≤ 2560 ∧ (Jvm.Cond.and given_1 narrow_1).before args s = true
/-- what a walk over the start with the record d0 says of its end, said of the start itself -/
theorem lw_closed {s t : State} {o : Outcome} {d0 : Drawn} {L : List Loc} {k n : Nat} (hd0 : s.drawn.sameBut d0 lw_cs) (hv : ∃ v, o = .returned v) (hW : (s.setDrawn d0).WarmedH t.vm) (hs : (s.setDrawn d0).sameButNew ({ t with vm := s.vm } : State) L k n) : State.butDraws s t lw_cs (fun t1 => Framed s o t1 L k n) := by
  have h2 : t.drawn = d0 := congrArg State.drawn hs.1
  refine ⟨⟨hv, hW, State.sameButNew.setDrawn hs s.drawn⟩, ?_, by decide⟩
  rw [h2]
  exact hd0
def lw_Q (_ : Array Value) (s : State) (o : Outcome) (t : State) : Prop := o = .returned (some (.int 1)) ∧ State.butDraws s t lw_cs (fun t1 => Framed s o t1 [] 601024 7293034)
def lw_Z (below : List Frame) (a : Array Value) (s : State) : State → Prop := fun t => ∃ o, t.status = .running ∧ Ended t below o ∧ lw_Q a s o t
/-- the law's own end, with 1 on the stack, nothing written that was there before, its room as the claim has it; d0: the record of draws at this point (at the entry s.drawn: begin with 'refine W.base ?_' and 'have hd0 := Drawn.sameBut.refl s.drawn lw_cs') -/
theorem lw_ret {p : Program} {l : Launch} {e : Env} {s : State} {m : MethodId} {below : List Frame} {meth : Method} {c : Code} {b : Nat} {d0 : Drawn} (hd0 : s.drawn.sameBut d0 lw_cs) (hx : p.tables.exec = Jvm.exec) (hb : c.code = code) (hr : meth.sig.returnType = ret) (hlocks : meth.locks = false) {pc : Nat} {H : Heap} {ls : Array Slot} (hdg : decode code pc = .ok (.ireturn, 1)) : W p l e room_1 (s.setDrawn d0) m #[Value.ref b] below meth c H [] 601024 7293034 (lw_Z below #[Value.ref b] s) (F0 m pc ls [.int 1]) := by
  intro T hT X
  obtain ⟨fs, hret, hrun, hended, hW, hframe⟩ := X.leave (v := some (.int 1)) (hlocks := hlocks) (fun h => by rw [hr] at h; cases h)
  have hmeth' : T.vm.method? m = some meth := X.method'
  refine ⟨T.setFrames fs, ?_, .returned (some (.int 1)), hrun, hended, rfl, lw_closed hd0 ⟨_, rfl⟩ hW hframe⟩
  jvm_step X.here [X.here.top, hx, hb, hdg, hmeth', hr, ret, narrow_b1]
  (try refine ⟨rfl, ?_⟩); (try refine ⟨rfl, ?_⟩)
  first | (intro acts; rw [hret _ acts rfl rfl rfl]) | rw [hret _ _ rfl rfl rfl]
  exact Steps.refl _
/-- what holds at the law's entry: the machine, the code, the tables' words (any of lw_tbl by 'hts w (by decide +kernel)'), the script of L ints xs at the cell b, what the Statement gives of the start (any of its parts by flat_of_before) -/
def lw_At (p : Program) (s : State) (m : MethodId) (meth : Method) (c : Code) (b L : Nat) (xs : Nat → Int32) : Prop :=
  p.tables.exec = Jvm.exec ∧ c.code = code ∧ meth.sig.returnType = ret ∧ c.maxLocals = 8 ∧ s.vm.findClass R_law = some m.cls ∧ (∀ w ∈ lw_tbl, w.before #[Value.ref b] s = true) ∧ va_X b L xs s s.heap ∧ b < s.heap.size ∧ meth.locks = false ∧ (Jvm.Cond.and given_1 narrow_1).before #[Value.ref b] s = true
end
section
-- the world at the law's start; the law's own steps, and its loads of the script
set_option maxRecDepth 100000 in
theorem lw_cn : g_cn 13 = R_law := by decide +kernel
section L29
variable {p : Program} {l : Launch} {e : Env} {s : State} {m : MethodId} {below : List Frame} {meth : Method} {c : Code} {b L : Nat} {xs : Nat → Int32} {D : va_G} {dA : Nat → ClassId}
theorem lw_world (C0 : lw_At p s m meth c b L xs) : ∃ (D : va_G) (dA : Nat → ClassId), g_K4 D dA s := by
  obtain ⟨hx, hb, hr, hml, hown, hts, hX, hbl, hlocks, hgv⟩ := C0
  have hw : ∀ w ∈ g_wsl, w.before #[Value.ref b] s = true := fun w h => hts w (g_wsl_in w h)
  have hkn : ∀ r ∈ g_cl, ∃ (cC : ClassId) (iS : Nat → Nat), u_Kn s r.1 r.2.1 r.2.2 cC iS := fun r h => u_known hw (g_cl_in r h) (hts _ (of_decide_eq_true (List.all_eq_true.mp g_ins_ok r h)))
  have h : ∀ k : Nat, ∃ z : ClassId × (Nat → Nat), ∀ q : vw_C, g_cl[k]? = some q → u_Kn s q.1 q.2.1 q.2.2 z.1 z.2 := by
    intro k
    cases hc : g_cl[k]? with
    | none => exact ⟨(m.cls, fun _ => 0), fun q h => by cases h⟩
    | some r =>
      obtain ⟨cC, iS, h⟩ := hkn r (List.mem_of_getElem? hc)
      exact ⟨(cC, iS), fun q h' => by cases h'; exact h⟩
  have hA : ∀ t : FieldType, (t = .int ∨ t = .long ∨ t = .boolean ∨ t = .byte) → ∃ cA, ArrOfT s cA t ∧ va_RA s cA t := by
    intro t ht
    obtain ⟨cA, kA, comp, h1, h2, h3⟩ := Cond.arrayClass_spec (hw _ (g_arr_in ht))
    refine ⟨cA, fun n z => ⟨fun k h => (by cases h), kA, h2, comp, h3⟩, ?_⟩
    rcases ht with rfl | rfl | rfl | rfl <;> exact h1
  obtain ⟨a0, q0⟩ := hA .int (Or.inl rfl)
  obtain ⟨a1, q1⟩ := hA .long (Or.inr (Or.inl rfl))
  obtain ⟨a2, q2⟩ := hA .boolean (Or.inr (Or.inr (Or.inl rfl)))
  obtain ⟨a3, q3⟩ := hA .byte (Or.inr (Or.inr (Or.inr rfl)))
  obtain ⟨comp, a4, k4, e1, e2, e3, e4, e5⟩ := Cond.arrayOver_spec (hts _ g_bu_ok)
  refine ⟨(fun c => (Classical.choose (h c)).1, fun c => (Classical.choose (h c)).2), fun k => match k with | 0 => a0 | 1 => a1 | 2 => a2 | 3 => a3 | _ => a4, ⟨fun c q hc => Classical.choose_spec (h c) q hc, ?_⟩, va_AO.of (hts _ g_bu_ok), fun w hw' => va_Nw.of (g_nst (List.mem_filter.mp hw').2) (hts w (List.mem_filter.mp hw').1)⟩
  intro k q hk
  rcases k with _ | _ | _ | _ | _ | k
  · cases hk; exact q0
  · cases hk; exact q1
  · cases hk; exact q2
  · cases hk; exact q3
  · cases hk
    exact ⟨fun n z => ⟨fun k h => (by cases h), k4, e3, comp, e4⟩, k4, comp, e3, e4, e1, e5⟩
  · cases hk
/-- the law's own closure -/
def lw_PP (p : Program) (l : Launch) (e : Env) (s : State) (m : MethodId) (below : List Frame) (meth : Method) (c : Code) (b : Nat) (D : va_G) (dA : Nat → ClassId) : g_S → Prop :=
  g_G p l e room_1 s m #[Value.ref b] below meth c 8 D dA (fun q => s.heap.size ≤ q) s.heap (lw_Z below #[Value.ref b] s)
theorem lw_cl (C0 : lw_At p s m meth c b L xs) (hK : g_K4 D dA s) (S : g_S) (h : g_pre (g_run 60) 13 8 false 601024 7293034 code (lw_PP p l e s m below meth c b D dA) S) : lw_PP p l e s m below meth c b D dA S := by
  obtain ⟨hx, hb, hr, hml, hown, hts, hX, hbl, hlocks, hgv⟩ := C0
  have hw : ∀ w ∈ g_wsl, w.before #[Value.ref b] s = true := fun w h => hts w (g_wsl_in w h)
  have C : g_Cx p s m #[Value.ref b] meth c code 13 8 false D dA := ⟨hx, hb, hml, by rw [lw_cn]; exact hown, hw, hK, fun h => by cases h⟩
  exact g_sP C (fun q hq => hq) (by decide) (by decide) (by decide) (by decide) (g_sound l 60) S h
theorem lw_len (C0 : lw_At p s m meth c b L xs) {pc : Nat} {L' : g_L} {rest : List Value} {w : g_W} (hdg : decode code pc = .ok (.arraylength, 1)) (k : lw_PP p l e s m below meth c b D dA (pc + 1, L', .int (Int32.ofNat L) :: rest, w)) : lw_PP p l e s m below meth c b D dA (pc, L', .ref b :: rest, w) := by
  obtain ⟨hx, hb, hr, hml, hown, hts, hX, hbl, hlocks, hgv⟩ := C0
  have hbA : ¬ s.heap.size ≤ b := Nat.not_le.mpr hbl
  intro ls H locs hl hP hD hS
  refine va_slen hx hb hX hbl hbA hS hdg ?_
  exact k ls H locs hl hP hD hS
theorem lw_ld (C0 : lw_At p s m meth c b L xs) {pc : Nat} {L' : g_L} {rest : List Value} {w : g_W} {j : Int32} {k : Nat} (hdg : decode code pc = .ok (.iaload, 1)) (hk : k < L) (hj : j.toInt = (k : Int)) (kk : lw_PP p l e s m below meth c b D dA (pc + 1, L', .int (xs k) :: rest, w)) : lw_PP p l e s m below meth c b D dA (pc, L', .int j :: .ref b :: rest, w) := by
  obtain ⟨hx, hb, hr, hml, hown, hts, hX, hbl, hlocks, hgv⟩ := C0
  have hbA : ¬ s.heap.size ≤ b := Nat.not_le.mpr hbl
  intro ls H locs hl hP hD hS
  have e1 : j.toNatClampNeg = k := by rw [← Int32.toNat_toInt, hj]; rfl
  have hin : vp_in j L := by
    intro h
    rcases h with h | h
    · have := Int32.lt_iff_toInt_lt.mp h
      rw [hj] at this
      have h0 : (0 : Int32).toInt = 0 := rfl
      omega
    · omega
  refine va_sld hx hb hX hbl hbA hS hin hdg ?_
  rw [e1]
  exact kk ls H locs hl hP hD hS
/-- the law's end with true -/
theorem lw_good (C0 : lw_At p s m meth c b L xs) {pc : Nat} {L' : g_L} {cn sn : Nat} {h : g_H} (hdg : decode code pc = .ok (.ireturn, 1)) (h1 : cn ≤ 601024) (h2 : sn ≤ 7293034) : lw_PP p l e s m below meth c b D dA (pc, L', [.int 1], cn, sn, h) := by
  obtain ⟨hx, hb, hr, hml, hown, hts, hX, hbl, hlocks, hgv⟩ := C0
  intro ls H locs hl hP hD hS
  refine va_forget hS.2.2 ?_
  refine W.widen h1 h2 ?_
  refine W.base ?_
  have hd0 := Drawn.sameBut.refl s.drawn lw_cs
  exact lw_ret hd0 hx hb hr hlocks hdg
theorem lw_first (hS : lw_PP p l e s m below meth c b D dA (0, [(0, .ref b)], [], 0, 0, [])) : W p l e room_1 s m #[Value.ref b] below meth c s.heap [] 0 0 (lw_Z below #[Value.ref b] s) (entryFrame m ([Value.ref b] : List Value).toArray 8) := by
  rw [lg_entry_eq]
  have hl := lv_entry [Value.ref b] (n := 8) (show (1 : Nat) ≤ 8 by decide)
  exact hS _ s.heap [] hl (fun k q h => by cases h) ⟨fun i j p q h => (by cases h), fun k q h => by cases h⟩ va_S.rf
end L29
end
section
-- the law's start, run by the kernel up to its loop's head
set_option maxRecDepth 20000
def s_litH : List s_C := [
  (false, 11, 12, (0, 0), [(0, (5, 1)), (1, (5, 11)), (2, (5, 12)), (3, (5, 15)), (4, (5, 30)), (5, (5, 32)), (6, (5, 34)), (7, (5, 38)), (8, (5, 43)), (9, (5, 48)), (10, (5, 50)), (11, (5, 55))]),
  (false, 1, 11, (0, 0), [(0, (5, 2)), (1, (5, 3)), (2, (5, 4)), (3, (5, 5)), (4, (5, 6)), (5, (5, 7)), (6, (5, 8)), (7, (5, 9)), (8, (5, 10)), (9, (0, 0)), (10, (0, 0))]),
  (true, 0, 14, (0, 0), []),
  (true, 0, 14, (0, 0), []),
  (true, 0, 14, (0, 0), []),
  (true, 0, 14, (0, 0), []),
  (true, 0, 14, (0, 0), []),
  (true, 0, 16, (0, 0), []),
  (true, 0, 16, (0, 0), []),
  (true, 0, 10, (0, 0), []),
  (true, 0, 10, (0, 0), []),
  (true, 4, 4, (4, 0), []),
  (false, 9, 3, (0, 0), [(0, (5, 13)), (1, (5, 14)), (2, (0, 0))]),
  (true, 1, 10, (1, 0), []),
  (true, 1, 10, (1, 0), []),
  (false, 3, 14, (0, 0), [(0, (5, 16)), (1, (5, 21)), (2, (5, 22)), (3, (5, 23)), (4, (5, 24)), (5, (5, 25)), (6, (5, 26)), (7, (5, 27)), (8, (5, 28)), (9, (5, 29)), (10, (0, 0)), (11, (1, 0)), (12, (1, 0)), (13, (0, 0))]),
  (false, 10, 5, (0, 0), [(0, (5, 17)), (1, (5, 18)), (2, (5, 19)), (3, (5, 20)), (4, (0, 0))]),
  (true, 0, 10, (0, 0), []),
  (true, 0, 10, (0, 0), []),
  (true, 0, 10, (0, 0), []),
  (true, 0, 10, (0, 0), []),
  (true, 0, 14, (0, 0), []),
  (true, 0, 14, (0, 0), []),
  (true, 0, 14, (0, 0), []),
  (true, 0, 14, (0, 0), []),
  (true, 0, 14, (0, 0), []),
  (true, 1, 14, (1, 0), []),
  (true, 1, 14, (1, 0), []),
  (true, 0, 800, (0, 0), []),
  (true, 0, 14, (0, 0), []),
  (false, 8, 2, (0, 0), [(0, (5, 31)), (1, (0, 0))]),
  (true, 0, 80, (0, 0), []),
  (false, 7, 3, (0, 0), [(0, (0, 15)), (1, (0, 120)), (2, (5, 33))]),
  (true, 0, 61, (0, 0), []),
  (false, 4, 4, (0, 0), [(0, (5, 35)), (1, (5, 36)), (2, (5, 37)), (3, (0, 0))]),
  (true, 0, 14, (0, 0), []),
  (true, 0, 14, (0, 0), []),
  (true, 0, 14, (0, 0), []),
  (false, 2, 7, (0, 0), [(0, (5, 39)), (1, (5, 40)), (2, (5, 41)), (3, (5, 42)), (4, (0, 0)), (5, (0, 0)), (6, (0, 0))]),
  (true, 2, 223, (0, 0), []),
  (true, 0, 20, (0, 0), []),
  (true, 2, 20, (0, 0), []),
  (true, 0, 8, (0, 0), []),
  (false, 5, 5, (0, 0), [(0, (5, 44)), (1, (5, 45)), (2, (5, 46)), (3, (5, 47)), (4, (0, 0))]),
  (true, 0, 12, (0, 0), []),
  (true, 0, 12, (0, 0), []),
  (true, 0, 12, (0, 0), []),
  (true, 0, 12, (0, 0), []),
  (false, 6, 2, (0, 0), [(0, (5, 49)), (1, (0, 0))]),
  (true, 1, 16, (1, 0), []),
  (false, 0, 8, (0, 0), [(0, (5, 51)), (1, (5, 52)), (2, (5, 53)), (3, (5, 54)), (4, (0, 0)), (5, (0, 0)), (6, (0, 0)), (7, (0, 0))]),
  (true, 0, 8, (0, 0), []),
  (true, 0, 8, (0, 0), []),
  (true, 0, 8, (0, 0), []),
  (true, 0, 256, (0, 0), []),
  (false, 0, 8, (0, 0), [(0, (5, 56)), (1, (5, 57)), (2, (5, 58)), (3, (5, 59)), (4, (0, 0)), (5, (0, 0)), (6, (0, 0)), (7, (0, 0))]),
  (true, 0, 8, (0, 0), []),
  (true, 0, 8, (0, 0), []),
  (true, 0, 8, (0, 0), []),
  (true, 0, 256, (0, 0), []),
  (false, 12, 69, (0, 0), [(0, (0, 0)), (1, (5, 61)), (2, (5, 62)), (3, (5, 63)), (4, (5, 64)), (5, (5, 65)), (6, (0, 0)), (7, (5, 66)), (8, (5, 67)), (9, (5, 68)), (10, (5, 69)), (11, (0, 0)), (12, (5, 70)), (13, (5, 71)), (14, (5, 72)), (15, (0, 15)), (16, (0, 120)), (17, (5, 73)), (18, (0, 0)), (19, (5, 74)), (20, (0, 0)), (21, (0, 0)), (22, (5, 75)), (23, (5, 76)), (24, (5, 77)), (25, (1, 0)), (26, (1, 0)), (27, (5, 78)), (28, (5, 79)), (29, (0, 0)), (30, (5, 80)), (31, (5, 81)), (32, (0, 0)), (33, (5, 82)), (34, (5, 83)), (35, (5, 84)), (36, (5, 85)), (37, (5, 86)), (38, (5, 87)), (39, (0, 0)), (40, (0, 0)), (41, (0, 0)), (42, (0, 0)), (43, (5, 88)), (44, (5, 89)), (45, (5, 90)), (46, (5, 91)), (47, (5, 92)), (48, (5, 93)), (49, (5, 94)), (50, (1, 0)), (51, (1, 0)), (52, (5, 95)), (53, (0, 0)), (54, (5, 96)), (55, (0, 0)), (56, (0, 0)), (57, (5, 97)), (58, (5, 98)), (59, (0, 0)), (60, (5, 99)), (61, (0, 0)), (62, (5, 100)), (63, (5, 101)), (64, (5, 102)), (65, (5, 103)), (66, (5, 104)), (67, (5, 105)), (68, (0, 0))]),
  (true, 0, 14, (0, 0), []),
  (true, 0, 14, (0, 0), []),
  (true, 0, 14, (0, 0), []),
  (true, 0, 14, (0, 0), []),
  (true, 0, 14, (0, 0), []),
  (true, 0, 16, (0, 0), []),
  (true, 0, 16, (0, 0), []),
  (true, 0, 10, (0, 0), []),
  (true, 0, 10, (0, 0), []),
  (true, 0, 8, (0, 0), []),
  (true, 0, 8, (0, 0), []),
  (true, 0, 8, (0, 0), []),
  (true, 3, 80, (0, 0), []),
  (true, 1, 32, (1, 0), []),
  (true, 1, 10, (1, 0), []),
  (true, 1, 10, (1, 0), []),
  (true, 2, 10, (0, 0), []),
  (true, 0, 10, (0, 0), []),
  (true, 0, 10, (0, 0), []),
  (true, 0, 14, (0, 0), []),
  (true, 0, 14, (0, 0), []),
  (true, 0, 14, (0, 0), []),
  (true, 2, 14, (0, 0), []),
  (true, 0, 14, (0, 0), []),
  (true, 1, 15, (1, 0), []),
  (true, 1, 15, (1, 0), []),
  (true, 0, 5614, (0, 0), []),
  (true, 0, 8, (0, 0), []),
  (true, 0, 8, (0, 0), []),
  (true, 0, 8, (0, 0), []),
  (true, 0, 4, (0, 0), []),
  (true, 0, 401, (0, 0), []),
  (true, 0, 14, (0, 0), []),
  (true, 0, 14, (0, 0), []),
  (true, 0, 8, (0, 0), []),
  (true, 2, 223, (0, 0), []),
  (true, 0, 20, (0, 0), []),
  (true, 2, 20, (0, 0), []),
  (true, 0, 8, (0, 0), []),
  (true, 0, 12, (0, 0), []),
  (true, 0, 12, (0, 0), []),
  (true, 0, 12, (0, 0), []),
  (true, 0, 12, (0, 0), []),
  (true, 0, 496, (0, 0), []),
  (true, 2, 4, (0, 0), []),
  (true, 1, 1, (1, 0), [])]
def s_E0 : s_E := [(-2147483648, 2147483647), (-2147483648, 2147483647), (-2147483648, 2147483647), (-2147483648, 2147483647), (-2147483648, 2147483647)]
def s_eqC (c e : s_C) : Bool := match c, e with
  | (x, y, n, d, f), (x', y', n', d', f') => decide (x = x') && (Nat.beq y y' && (Nat.beq n n' && (decide (d = d') && decide (f = f'))))
def s_eqH : List s_C → List s_C → Bool
  | [], [] => true
  | c :: t, e :: u => s_eqC c e && s_eqH t u
  | _, _ => false
theorem s_eqH_eq : ∀ {l m : List s_C}, s_eqH l m = true → l = m
  | [], [], _ => rfl
  | c :: t, e :: u, h => by
    simp only [s_eqH, Bool.and_eq_true] at h
    obtain ⟨h1, h2⟩ := h
    obtain ⟨x, y, n, d, f⟩ := c
    obtain ⟨x', y', n', d', f'⟩ := e
    simp only [s_eqC, Bool.and_eq_true, decide_eq_true_eq, Nat.beq_eq] at h1
    obtain ⟨rfl, rfl, rfl, rfl, rfl⟩ := h1
    rw [s_eqH_eq h2]
  | [], _ :: _, h => by cases h
  | _ :: _, [], h => by cases h
def st_ov : Nat → List s_V → Option s_V := fun _ _ => none
def st_K : s_Call := s_run s_codes s_ft s_mi 1000000 st_ov 60
def st_cl : List s_I := t_stop [23] s_cl
def st_X0 : s_X := (st_cl, [(0, (7, 0))], [], 0, 0, (s_E0, [], [], []))
def st_L : s_L := [(4, (0, 0)), (3, (5, 106)), (2, (5, 60)), (1, (5, 0)), (0, (7, 0))]
/-- the run from the start comes to the loop's head with the state that is written out -/
def st_isl (r : Option (List s_X)) : Bool := match r with
  | some [(code, L, st, cn, sn, (_, _, _, H))] => Nat.beq (s_pc code) 23 && (decide (L = st_L) && (st.isEmpty && (Nat.beq cn 107 && (Nat.beq sn 9636 && s_eqH H s_litH))))
  | _ => false
set_option maxRecDepth 100000 in
theorem st_run : st_isl (s_loop st_K st_cl s_ft s_mi 0 13 8 false 601024 7293034 1000000 st_X0) = true := by decide +kernel
end
section
-- what holds between the law's calls: the class's cells keep their roles, the model's their invariant
set_option maxRecDepth 20000
/-- the roles of the first cells -/
def iv_rl : List Nat := [0, 1, 14, 15, 16, 17, 18, 19, 20, 21, 22, 13, 2, 23, 24, 3, 4, 34, 35, 36, 37, 25, 26, 27, 28, 29, 30, 31, 32, 33, 5, 38, 6, 39, 7, 40, 41, 42, 8, 43, 44, 45, 46, 9, 47, 48, 49, 50, 10, 51, 11, 52, 53, 54, 55, 11, 52, 53, 54, 55, 12, 56, 57, 58, 59, 60, 61, 62, 63, 64, 65, 66, 67, 68, 69, 70, 71, 72, 73, 74, 75, 76, 77, 78, 79, 80, 81, 82, 83, 84, 85, 86, 87, 88, 89, 90, 91, 92, 93, 94, 95, 96, 97, 98, 99, 100, 101]
/-- what stands in the cells -/
def iv_ct (h : g_H) (q j : Nat) : Value := match h[q]? with
  | some (_, _, _, _, f) => f j
  | none => .null
def iv_W (A : Nat → Nat) (W : y_W) : Prop := ∀ q r, iv_rl[q]? = some r → W[q]? = some (A q, r)
def iv_cls (A : Nat → Nat) (h : g_H) : Prop := ∃ (W : y_W) (β : Nat → Int), y_H (iv_ct h) y_Rc W β h ∧ iv_W A W
def iv_mod (A : Nat → Nat) (h : g_H) : Prop := ∃ M : xa_M, xa_H xm_I A M h h ∧ xm_Inv M
def iv_inv (A : Nat → Nat) (h : g_H) : Prop := iv_cls A h ∧ iv_mod A h
theorem y_H_ct {φ : Nat → Nat → Value} {R : y_R} {W : y_W} {β : Nat → Int} {h : g_H} (H : y_H φ R W β h) : y_H (iv_ct h) R W β h := by
  refine ⟨H.1, fun q a r hq => ?_, H.2.2⟩
  obtain ⟨ro, f, h1, h2, h3⟩ := H.2.1 q a r hq
  refine ⟨ro, f, h1, h2, fun j hj => ?_⟩
  rcases h3 j hj with h | h
  · exact Or.inl ⟨h.1, by unfold iv_ct; rw [h2]⟩
  · exact Or.inr ⟨h.1, fun _ => by unfold iv_ct; rw [h2]⟩
-- what a method's answer is like
def iv_rt (rt : Option FieldType) (r : Option Value) : Prop := match rt with
  | none => r = none
  | some .int => ∃ v, r = some (.int v)
  | some .boolean => ∃ v, r = some (.int v) ∧ (v = 0 ∨ v = 1)
  | _ => True
theorem iv_nar {v : Int32} (h : narrow .boolean (.int v) = .int v) : v = 0 ∨ v = 1 := by
  simp only [narrow, Value.int.injEq] at h
  have h2 : (v.toBitVec &&& 1#32).toNat = v.toBitVec.toNat := congrArg (fun x : Int32 => x.toBitVec.toNat) h
  rw [BitVec.toNat_and, show (1#32).toNat = 1 from rfl, Nat.and_one_is_mod] at h2
  rcases (show v.toBitVec.toNat = 0 ∨ v.toBitVec.toNat = 1 by omega) with h3 | h3
  · exact Or.inl (Int32.toBitVec_inj.mp (BitVec.eq_of_toNat_eq h3))
  · exact Or.inr (Int32.toBitVec_inj.mp (BitVec.eq_of_toNat_eq h3))
theorem g_end_rt {cc : ByteArray} {rt : Option FieldType} {bc bs : Nat} {post post2 : Option Value → g_H → Prop} (hp : ∀ r h, post r h → iv_rt rt r → post2 r h) (S : g_S) (h : g_end cc rt bc bs post S) : g_end cc rt bc bs post2 S := by
  obtain ⟨h1, h2, h3⟩ := h
  refine ⟨h1, h2, ?_⟩
  rcases h3 with ⟨v, ty, a1, a2, a3, a4, a5⟩ | ⟨v, a1, a2, a3, a4⟩ | ⟨v, n, a1, a2, a3, a4, a5⟩ | ⟨a1, a2, a3, a4⟩
  · refine Or.inl ⟨v, ty, a1, a2, a3, a4, hp _ _ a5 ?_⟩
    subst a2
    cases ty <;> first | exact ⟨v, rfl⟩ | exact ⟨v, rfl, iv_nar a3⟩ | trivial
  · refine Or.inr (Or.inl ⟨v, a1, a2, a3, hp _ _ a4 ?_⟩)
    subst a2
    trivial
  · refine Or.inr (Or.inr (Or.inl ⟨v, n, a1, a2, a3, a4, hp _ _ a5 ?_⟩))
    subst a2
    trivial
  · refine Or.inr (Or.inr (Or.inr ⟨a1, a2, a3, hp _ _ a4 ?_⟩))
    rw [a2]
    rfl
theorem g_run_rt {d j : Nat} {as : List Value} {h : g_H} {mc ms : Nat} {post post2 : Option Value → g_H → Prop} (hr : g_run d j as h mc ms post) (hp : ∀ r h, post r h → iv_rt (g_rt j) r → post2 r h) : g_run d j as h mc ms post2 := by
  cases d with
  | zero => exact hr.elim
  | succ d =>
    obtain ⟨h1, h2, h3⟩ := hr
    exact ⟨h1, h2, fun P hP hcl => h3 P (fun S hS => hP S (g_end_rt hp S hS)) hcl⟩
theorem g_run_mono {d j : Nat} {as : List Value} {h : g_H} {mc ms : Nat} {post post2 : Option Value → g_H → Prop} (hr : g_run d j as h mc ms post) (hp : ∀ r h, post r h → post2 r h) : g_run d j as h mc ms post2 := g_run_rt hr (fun r h h1 _ => hp r h h1)
-- a call of the class leaves the model as it is
def iv_fzB (q : Nat) : Bool := match xm_I q with
  | some (ro, _) => (match iv_rl[q]? with
    | some r => (match y_Rc.1[r]? with
      | some ro' => decide (ro'.1 = ro.1) && (Nat.beq ro'.2.1 ro.2.1 && (Nat.beq ro'.2.2.1 ro.2.2.1 && ro'.2.2.2.2.isEmpty))
      | none => false)
    | none => false)
  | none => true
theorem iv_fz_all : (List.range 106).all iv_fzB = true := by decide +kernel
theorem xm_I_lt {q : Nat} {ro : y_R1} {S : Nat → Nat} (h : xm_I q = some (ro, S)) : 60 ≤ q ∧ q ≤ 105 := by
  unfold xm_I at h
  obtain ⟨h1, -⟩ := s_bif h
  rw [Bool.and_eq_true, Nat.ble_eq, Nat.ble_eq] at h1
  exact h1
theorem iv_fz {q : Nat} {ro : y_R1} {S : Nat → Nat} (h : xm_I q = some (ro, S)) : ∃ r ro', iv_rl[q]? = some r ∧ y_Rc.1[r]? = some ro' ∧ ro'.1 = ro.1 ∧ ro'.2.1 = ro.2.1 ∧ ro'.2.2.1 = ro.2.2.1 ∧ ro'.2.2.2.2 = [] := by
  have hq := xm_I_lt h
  have h1 := List.all_eq_true.mp iv_fz_all q (List.mem_range.mpr (by omega))
  unfold iv_fzB at h1
  rw [h] at h1
  simp only at h1
  split at h1
  next r e1 =>
    split at h1
    next ro' e2 =>
      simp only [Bool.and_eq_true, decide_eq_true_eq, Nat.beq_eq, List.isEmpty_iff] at h1
      exact ⟨r, ro', e1, e2, h1.1, h1.2.1, h1.2.2.1, h1.2.2.2⟩
    next => cases h1
  next => cases h1
theorem y_g_no {W : y_W} {β : Nat → Int} {ro : y_R1} {j : Nat} {x : Value} (h0 : ro.2.2.2.2 = []) (h : y_g W β (y_spj β ro j) x) : False := by
  have e : y_spj β ro j = y_no := by
    unfold y_spj y_sp
    rw [h0]
    split
    · split <;> rfl
    · rfl
  rw [e] at h
  exact h
theorem iv_mod_k {A : Nat → Nat} {W W' : y_W} {β β' : Nat → Int} {h h' : g_H} {M : xa_M} (hM : xa_H xm_I A M h h) (hW' : iv_W A W') (hH' : y_H (iv_ct h) y_Rc W' β' h') : xa_H xm_I A M h' h' := by
  refine ⟨rfl, fun q ro S hq => ?_, fun _ _ => rfl⟩
  obtain ⟨r, ro', e1, e2, e3, e4, e5, e6⟩ := iv_fz hq
  obtain ⟨ro2, f', g1, g2, g3⟩ := hH'.2.1 q (A q) r (hW' q r e1)
  rw [e2] at g1
  cases g1
  obtain ⟨f, k1, k2⟩ := hM.2.1 q ro S hq
  rw [e3, e4, e5] at g2
  refine ⟨f', g2, fun j hj => ?_⟩
  have hj' : j < ro'.2.2.1 := by
    rw [e5]
    exact hj
  rcases g3 j hj' with g | g
  · have hc : iv_ct h q j = f j := by
      unfold iv_ct
      rw [k1]
    rw [g.2, hc]
    exact k2 j hj
  · exact (y_g_no e6 g.1).elim
-- a call of the model leaves the class as it is
theorem xm_I_none {q : Nat} (h : ¬ (60 ≤ q ∧ q ≤ 105)) : xm_I q = none := by
  cases e : xm_I q with
  | none => rfl
  | some p => exact absurd (xm_I_lt (ro := p.1) (S := p.2) e) h
end

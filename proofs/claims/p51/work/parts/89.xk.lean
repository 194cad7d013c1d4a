-- the lots of wheels led together: enough rounds
section XK
variable {n mm c : Int} {a b : Int → Int} {f f1 g : Int → Int}
/-- how many of the first k are at most c -/
def xk_n (f : Int → Int) (c : Int) : Nat → Int
  | 0 => 0
  | k + 1 => xk_n f c k + (if f (k : Int) ≤ c then 1 else 0)
theorem xk_b : ∀ k : Nat, 0 ≤ xk_n f c k ∧ xk_n f c k ≤ (k : Int)
  | 0 => ⟨Int.le_refl _, Int.le_refl _⟩
  | k + 1 => by
    have := xk_b k
    show 0 ≤ xk_n f c k + (if f (k : Int) ≤ c then 1 else 0) ∧ xk_n f c k + (if f (k : Int) ≤ c then 1 else 0) ≤ _
    split <;> omega
theorem xk_mn : ∀ k : Nat, (∀ w, 0 ≤ w → w < (k : Int) → f w ≤ c → g w ≤ c) → xk_n f c k ≤ xk_n g c k
  | 0, _ => Int.le_refl _
  | k + 1, h => by
    have h1 := xk_mn k (fun w w0 w1 => h w w0 (by omega))
    have h2 := h (k : Int) (by omega) (by omega)
    show xk_n f c k + (if f (k : Int) ≤ c then 1 else 0) ≤ xk_n g c k + (if g (k : Int) ≤ c then 1 else 0)
    split
    · rename_i e
      rw [if_pos (h2 e)]
      omega
    · split <;> omega
theorem xk_lt : ∀ (k : Nat) (v : Int), (∀ w, 0 ≤ w → w < (k : Int) → f w ≤ c → g w ≤ c) → 0 ≤ v → v < (k : Int) → g v ≤ c → ¬ f v ≤ c → xk_n f c k + 1 ≤ xk_n g c k
  | 0, v, _, v0, v1, _, _ => by omega
  | k + 1, v, h, v0, v1, hg, hf => by
    have h2 := h (k : Int) (by omega) (by omega)
    show xk_n f c k + (if f (k : Int) ≤ c then 1 else 0) + 1 ≤ xk_n g c k + (if g (k : Int) ≤ c then 1 else 0)
    by_cases e : v = (k : Int)
    · subst e
      have h1 := xk_mn (f := f) (g := g) k (fun w w0 w1 => h w w0 (by omega))
      rw [if_pos hg, if_neg hf]
      omega
    · have h1 := xk_lt k v (fun w w0 w1 => h w w0 (by omega)) v0 (by omega) hg hf
      split
      · rename_i e2
        rw [if_pos (h2 e2)]
        omega
      · split <;> omega
/-- closed under meshes -/
def xk_cl (mm : Int) (a b f : Int → Int) (c : Int) : Prop := ∀ m, 0 ≤ m → m < mm → (f (a m) ≤ c ↔ f (b m) ≤ c)
def xk_R (n mm : Int) (a b f : Int → Int) (r : Int) : Prop := ∀ c, 0 ≤ c → xk_cl mm a b f c ∨ r + 1 ≤ xk_n f c n.toNat
def xk_J (n mm : Int) (a b g f : Int → Int) (m : Int) : Prop := (∀ w, 0 ≤ w → w < n → f w ≤ g w) ∧ (∀ c, xk_cl mm a b g c → ∀ w, 0 ≤ w → w < n → f w ≤ c → g w ≤ c) ∧ (∀ c, (∀ w, 0 ≤ w → w < n → f w ≤ c → g w ≤ c) → ∀ i, 0 ≤ i → i < m → (f (a i) ≤ c ↔ f (b i) ≤ c))
def xk_K (n mm : Int) (a b f : Int → Int) : Prop := (∀ R : Int → Prop, (∀ m, 0 ≤ m → m < mm → (R (a m) ↔ R (b m))) → ∀ w, 0 ≤ w → w < n → (R w ↔ R (f w))) ∧ ∀ w, 0 ≤ w → w < n → 0 ≤ f w ∧ f w ≤ w
def xk_ab (n mm : Int) (a b : Int → Int) : Prop := ∀ i, 0 ≤ i → i < mm → (0 ≤ a i ∧ a i < n) ∧ (0 ≤ b i ∧ b i < n)
theorem xk_J0 : xk_J n mm a b g g 0 := ⟨fun _ _ _ => Int.le_refl _, fun _ _ _ _ _ h => h, fun _ _ i i0 i1 => by omega⟩
theorem xk_Js {m v : Int} (hab : xk_ab n mm a b) (hJ : xk_J n mm a b g f m) (m0 : 0 ≤ m) (m1 : m < mm) (v1 : v ≤ f (a m)) (v2 : v ≤ f (b m)) (v3 : v = f (a m) ∨ v = f (b m)) (e : ∀ w, f1 w = if w = b m then v else if w = a m then v else f w) : xk_J n mm a b g f1 (m + 1) := by
  obtain ⟨j1, j2, j3⟩ := hJ
  obtain ⟨ha, hb⟩ := hab m m0 m1
  have ea : f1 (a m) = v := by
    rw [e]
    split
    · rfl
    · rw [if_pos rfl]
  have eb : f1 (b m) = v := by rw [e, if_pos rfl]
  have le1 : ∀ w, f1 w ≤ f w := fun w => by
    rw [e]
    split
    · rename_i h
      rw [h]
      exact v2
    · split
      · rename_i h
        rw [h]
        exact v1
      · exact Int.le_refl _
  refine ⟨fun w w0 w1 => Int.le_trans (le1 w) (j1 w w0 w1), fun c hc w w0 w1 h => ?_, fun c H i i0 i1 => ?_⟩
  · have hv : v ≤ c → g (a m) ≤ c ∧ g (b m) ≤ c := fun hv => by
      rcases v3 with e3 | e3
      · have := j2 c hc (a m) ha.1 ha.2 (by omega)
        exact ⟨this, (hc m m0 m1).1 this⟩
      · have := j2 c hc (b m) hb.1 hb.2 (by omega)
        exact ⟨(hc m m0 m1).2 this, this⟩
    rw [e] at h
    split at h
    · rename_i h2
      rw [h2]
      exact (hv h).2
    · split at h
      · rename_i h2
        rw [h2]
        exact (hv h).1
      · exact j2 c hc w w0 w1 h
  · rcases Int.lt_or_eq_of_le (show i ≤ m by omega) with hi | hi
    · obtain ⟨hai, hbi⟩ := hab i i0 (by omega)
      have q : ∀ w, 0 ≤ w → w < n → (f1 w ≤ c ↔ f w ≤ c) := fun w w0 w1 => ⟨fun h => Int.le_trans (j1 w w0 w1) (H w w0 w1 h), fun h => Int.le_trans (le1 w) h⟩
      rw [q _ hai.1 hai.2, q _ hbi.1 hbi.2]
      exact j3 c (fun w w0 w1 h => H w w0 w1 (Int.le_trans (le1 w) h)) i i0 hi
    · rw [hi, ea, eb]
theorem xk_e {r : Int} (hJ : xk_J n mm a b g f mm) (hR : xk_R n mm a b g r) : xk_R n mm a b f (r + 1) := by
  obtain ⟨j1, j2, j3⟩ := hJ
  intro c c0
  by_cases H : ∀ w, 0 ≤ w → w < n → f w ≤ c → g w ≤ c
  · exact Or.inl (fun i i0 i1 => j3 c H i i0 i1)
  · rcases hR c c0 with h | h
    · exact absurd (j2 c h) H
    · refine Or.inr ?_
      have : ∃ w, 0 ≤ w ∧ w < n ∧ f w ≤ c ∧ ¬ g w ≤ c := by
        apply Classical.byContradiction
        intro hn
        exact H (fun w w0 w1 h1 => Classical.byContradiction (fun h2 => hn ⟨w, w0, w1, h1, h2⟩))
      obtain ⟨w, w0, w1, h1, h2⟩ := this
      have := xk_lt (f := g) (g := f) n.toNat w (fun w w0 w1 h => Int.le_trans (j1 w w0 (by omega)) h) w0 (by omega) h1 h2
      omega
theorem xk_R0 (hab : xk_ab n mm a b) (e : ∀ w, 0 ≤ w → w < n → f w = w) : xk_R n mm a b f 0 := by
  intro c c0
  by_cases h : 1 ≤ n
  · refine Or.inr ?_
    have := xk_lt (f := fun _ => c + 1) (g := f) (c := c) n.toNat 0 (fun w w0 w1 h => absurd h (by omega)) (by omega) (by omega) (by rw [e 0 (by omega) (by omega)]; exact c0) (by omega)
    have := (xk_b (f := fun _ => c + 1) (c := c) n.toNat).1
    omega
  · refine Or.inl (fun i i0 i1 => ?_)
    have := hab i i0 i1
    omega
theorem xk_K0 (e : ∀ w, 0 ≤ w → w < n → f w = w) : xk_K n mm a b f := ⟨fun R _ w w0 w1 => by rw [e w w0 w1], fun w w0 w1 => by rw [e w w0 w1]; omega⟩
theorem xk_Ks {m v : Int} (hab : xk_ab n mm a b) (hK : xk_K n mm a b f) (m0 : 0 ≤ m) (m1 : m < mm) (v1 : v ≤ f (a m)) (v2 : v ≤ f (b m)) (v3 : v = f (a m) ∨ v = f (b m)) (e : ∀ w, f1 w = if w = b m then v else if w = a m then v else f w) : xk_K n mm a b f1 := by
  obtain ⟨k1, k2⟩ := hK
  obtain ⟨ha, hb⟩ := hab m m0 m1
  have ka := k2 (a m) ha.1 ha.2
  have kb := k2 (b m) hb.1 hb.2
  refine ⟨fun R hR w w0 w1 => ?_, fun w w0 w1 => ?_⟩
  · have r1 := k1 R hR (a m) ha.1 ha.2
    have r2 := k1 R hR (b m) hb.1 hb.2
    have r3 := hR m m0 m1
    have rv : R (a m) ↔ R v := by
      rcases v3 with e3 | e3
      · rw [e3]
        exact r1
      · rw [e3]
        exact r3.trans r2
    rw [e]
    split
    · rename_i h
      rw [h]
      exact r3.symm.trans rv
    · split
      · rename_i h
        rw [h]
        exact rv
      · exact k1 R hR w w0 w1
  · rw [e]
    split
    · rename_i h
      subst h
      omega
    · split
      · rename_i h
        subst h
        omega
      · exact k2 w w0 w1
theorem xk_fin (hn : 0 ≤ n) (hab : xk_ab n mm a b) (hK : xk_K n mm a b f) (hR : xk_R n mm a b f n) (w : Int) (w0 : 0 ≤ w) (w1 : w < n) : f (f w) = f w := by
  have hcl : ∀ c, 0 ≤ c → xk_cl mm a b f c := fun c c0 => by
    rcases hR c c0 with h | h
    · exact h
    · have := (xk_b (f := f) (c := c) n.toNat).2
      omega
  have heq : ∀ i, 0 ≤ i → i < mm → f (a i) = f (b i) := fun i i0 i1 => by
    obtain ⟨ha, hb⟩ := hab i i0 i1
    have h1 := (hcl _ (hK.2 _ ha.1 ha.2).1 i i0 i1).1 (Int.le_refl _)
    have h2 := (hcl _ (hK.2 _ hb.1 hb.2).1 i i0 i1).2 (Int.le_refl _)
    omega
  exact (hK.1 (fun x => f x = f w) (fun i i0 i1 => by rw [heq i i0 i1]) w w0 w1).1 rfl
end XK

-- the wheels on the way: the class's list is the reference's (lemmas behind fw, wv; not tried)
set_option maxRecDepth 20000
theorem wq_ex {D : Int → Int} {w : Int} (n : Nat) : (∃ i : Int, 0 ≤ i ∧ i < n ∧ D i = w) ↔ 0 < wq_c D w n := by
  constructor
  · rintro ⟨i, i0, i1, e⟩
    induction n with
    | zero => omega
    | succ n ih =>
      have hb := (wq_cb (D := D) (w := w) n).1
      rw [wq_c1]
      by_cases c : i = (n : Int)
      · rw [if_pos (by rw [← c]; exact e)]
        omega
      · have := ih (by omega)
        by_cases d : D (n : Int) = w
        · rw [if_pos d]
          omega
        · rw [if_neg d]
          omega
  · intro h
    by_cases c : ∃ i : Int, 0 ≤ i ∧ i < n ∧ D i = w
    · exact c
    · rw [wq_0 n (fun i i0 i1 e => c ⟨i, i0, i1, e⟩)] at h
      omega
/-- 1 if it is among the first n, else 0 -/
def wf_b (D : Int → Int) (n w : Int) : Int := if 0 < wq_c D w n.toNat then 1 else 0
theorem wf_b01 {D : Int → Int} {n w : Int} : wf_b D n w = 0 ∨ wf_b D n w = 1 := by
  by_cases c : 0 < wq_c D w n.toNat
  · exact Or.inr (if_pos c)
  · exact Or.inl (if_neg c)
theorem wf_b1 {D : Int → Int} {n w : Int} (hn : 0 ≤ n) : wf_b D n w = 1 ↔ ∃ i : Int, 0 ≤ i ∧ i < n ∧ D i = w := by
  have h := wq_ex (D := D) (w := w) n.toNat
  rw [show ((n.toNat : Nat) : Int) = n by omega] at h
  rw [h]
  constructor
  · intro e
    by_cases c : 0 < wq_c D w n.toNat
    · exact c
    · rw [wf_b, if_neg c] at e
      omega
  · intro c
    exact if_pos c
/-- where all differ, a count is the 0 or 1 -/
theorem wf_bc {D : Int → Int} {n w : Int} (hn : 0 ≤ n) (hd : ∀ i j : Int, 0 ≤ i → i < n → 0 ≤ j → j < n → D i = D j → i = j) : wf_b D n w = wq_c D w n.toNat := by
  have en : ((n.toNat : Nat) : Int) = n := by omega
  by_cases c : ∃ i : Int, 0 ≤ i ∧ i < n ∧ D i = w
  · rw [(wf_b1 hn).mpr c, wq_1 n.toNat (fun i j i0 i1 j0 j1 => hd i j i0 (by omega) j0 (by omega)) (by rw [en]; exact c)]
  · rw [wq_0 n.toNat (fun i i0 i1 e => c ⟨i, i0, by omega, e⟩), wf_b, wq_0 n.toNat (fun i i0 i1 e => c ⟨i, i0, by omega, e⟩), if_neg (by omega)]
/-- on the way: it drives or is driven -/
def wf_g (Dr Dn : Int → Int) (n w : Int) : Int := if wf_b Dr n w = 1 ∨ wf_b Dn n w = 1 then 1 else 0
theorem wf_g01 {Dr Dn : Int → Int} {n w : Int} : wf_g Dr Dn n w = 0 ∨ wf_g Dr Dn n w = 1 := by
  by_cases c : wf_b Dr n w = 1 ∨ wf_b Dn n w = 1
  · exact Or.inr (if_pos c)
  · exact Or.inl (if_neg c)
theorem wf_g1 {Dr Dn : Int → Int} {n w : Int} : wf_g Dr Dn n w = 1 ↔ wf_b Dr n w = 1 ∨ wf_b Dn n w = 1 := by
  constructor
  · intro e
    by_cases c : wf_b Dr n w = 1 ∨ wf_b Dn n w = 1
    · exact c
    · rw [wf_g, if_neg c] at e
      omega
  · exact fun c => if_pos c
theorem wf_b0 {D : Int → Int} {n w : Int} (hn : 0 ≤ n) (h : ∀ i : Int, 0 ≤ i → i < n → ¬ D i = w) : wf_b D n w = 0 := by
  rcases wf_b01 (D := D) (n := n) (w := w) with q | q
  · exact q
  · obtain ⟨i, i0, i1, e⟩ := (wf_b1 hn).mp q
    exact absurd e (h i i0 i1)
theorem wf_sz {Dr Dn : Int → Int} {n : Int} (m : Nat) : 0 ≤ wq_s (wf_g Dr Dn n) m ∧ wq_s (wf_g Dr Dn n) m ≤ (m : Int) := by
  induction m with
  | zero => exact ⟨Int.le_refl 0, Int.le_refl 0⟩
  | succ m ih =>
    rw [wq_s1]
    rcases wf_g01 (Dr := Dr) (Dn := Dn) (n := n) (w := (m : Int)) with q | q
    · rw [q]
      omega
    · rw [q]
      omega
/-- the class's list so far: how many (f), which (W), roles (R), least (L), most (H) -/
def wf_W (Dr Dn Lo Hi : Int → Int) (n s : Int) (W R L H : Int → Int) (x : Int) : Prop := s = wq_s (wf_g Dr Dn n) x.toNat ∧ ∀ w : Int, 0 ≤ w → w < x → wf_g Dr Dn n w = 1 → W (wq_s (wf_g Dr Dn n) w.toNat) = w ∧ R (wq_s (wf_g Dr Dn n) w.toNat) = wf_b Dr n w - wf_b Dn n w ∧ L (wq_s (wf_g Dr Dn n) w.toNat) = Lo w ∧ H (wq_s (wf_g Dr Dn n) w.toNat) = Hi w
theorem wf_W0 {Dr Dn Lo Hi W R L H : Int → Int} {n s : Int} (h : s = 0) : wf_W Dr Dn Lo Hi n s W R L H 0 := ⟨h, fun w w0 w1 => by omega⟩
theorem wf_Wn {Dr Dn Lo Hi W R L H : Int → Int} {n s x : Int} (hx : 0 ≤ x) (h : wf_W Dr Dn Lo Hi n s W R L H x) (h0 : ¬ (wf_b Dr n x = 1 ∨ wf_b Dn n x = 1)) : wf_W Dr Dn Lo Hi n s W R L H (x + 1) := by
  have e0 : wf_g Dr Dn n x = 0 := if_neg h0
  refine ⟨?_, fun w w0 w1 w2 => h.2 w w0 ?_ w2⟩
  · rw [show (x + 1).toNat = x.toNat + 1 by omega, wq_s1, show ((x.toNat : Nat) : Int) = x by omega, e0, h.1]
    omega
  · by_cases e : w = x
    · rw [e, e0] at w2
      omega
    · omega
theorem wf_Wy {Dr Dn Lo Hi W R L H W' R' L' H' : Int → Int} {n s x : Int} (hx : 0 ≤ x) (h : wf_W Dr Dn Lo Hi n s W R L H x) (h0 : wf_b Dr n x = 1 ∨ wf_b Dn n x = 1) (eW : ∀ j, W' j = if j = s then x else W j) (eR : ∀ j, R' j = if j = s then wf_b Dr n x - wf_b Dn n x else R j) (eL : ∀ j, L' j = if j = s then Lo x else L j) (eH : ∀ j, H' j = if j = s then Hi x else H j) : wf_W Dr Dn Lo Hi n (s + 1) W' R' L' H' (x + 1) := by
  have e0 : wf_g Dr Dn n x = 1 := if_pos h0
  refine ⟨?_, fun w w0 w1 w2 => ?_⟩
  · rw [show (x + 1).toNat = x.toNat + 1 by omega, wq_s1, show ((x.toNat : Nat) : Int) = x by omega, e0, h.1]
  · rw [eW, eR, eL, eH]
    by_cases e : w = x
    · rw [e, if_pos h.1.symm, if_pos h.1.symm, if_pos h.1.symm, if_pos h.1.symm]
      exact ⟨rfl, rfl, rfl, rfl⟩
    · have hl := wq_sm (f := wf_g Dr Dn n) x.toNat (w.toNat + 1) (by omega) (fun i i0 i1 => by
        rcases wf_g01 (Dr := Dr) (Dn := Dn) (n := n) (w := i) with q | q
        · rw [q]
          exact Int.le_refl 0
        · rw [q]
          omega)
      rw [wq_s1, show ((w.toNat : Nat) : Int) = w by omega, w2, ← h.1] at hl
      rw [if_neg (by omega), if_neg (by omega), if_neg (by omega), if_neg (by omega)]
      exact h.2 w w0 (by omega) w2
/-- the reference's marks and roles are those -/
theorem wf_gv {M M1 : xa_M} {X : Int} (h : wv_D M X M1) (h0 : 0 ≤ M1 78 0) : ∃ Dr Dn : Int → Int, wp_Q (M 60 6) (M 64) (M 66) (M 67) (M1 78) (M1 78 0) (M1 79) Dr Dn (M1 78 0) ∧ ∀ w : Int, 0 ≤ w → w < 14 → M1 83 w = wf_g Dr Dn (M1 78 0) w ∧ M1 82 w = wf_b Dr (M1 78 0) w - wf_b Dn (M1 78 0) w := by
  obtain ⟨-, -, -, Dr, Dn, hQ, hR⟩ := h
  refine ⟨Dr, Dn, hQ, fun w w0 w1 => ?_⟩
  obtain ⟨a, b, c⟩ := hR w w0 w1
  have d1 : ∀ i j : Int, 0 ≤ i → i < M1 78 0 → 0 ≤ j → j < M1 78 0 → Dr i = Dr j → i = j := fun i j i0 i1 j0 j1 => (wp_inj hQ rfl i0 i1 j0 j1).1
  have d2 : ∀ i j : Int, 0 ≤ i → i < M1 78 0 → 0 ≤ j → j < M1 78 0 → Dn i = Dn j → i = j := fun i j i0 i1 j0 j1 => (wp_inj hQ rfl i0 i1 j0 j1).2
  refine ⟨?_, ?_⟩
  · by_cases q : M1 83 w = 1
    · rw [q]
      obtain ⟨k, k0, k1, k2⟩ := c.mp q
      refine (wf_g1.mpr ?_).symm
      rcases k2 with k2 | k2
      · exact Or.inl ((wf_b1 h0).mpr ⟨k, k0, k1, k2⟩)
      · exact Or.inr ((wf_b1 h0).mpr ⟨k, k0, k1, k2⟩)
    · have z : M1 83 w = 0 := by
        rcases b with b | b
        · exact b
        · exact absurd b q
      rw [z]
      refine (if_neg ?_).symm
      rintro (g | g)
      · obtain ⟨k, k0, k1, k2⟩ := (wf_b1 h0).mp g
        exact q (c.mpr ⟨k, k0, k1, Or.inl k2⟩)
      · obtain ⟨k, k0, k1, k2⟩ := (wf_b1 h0).mp g
        exact q (c.mpr ⟨k, k0, k1, Or.inr k2⟩)
  · rw [a, wf_bc h0 d1, wf_bc h0 d2]
-- the class's way and the reference's are one (lemmas behind wy, fw, wv, wx; not tried)
set_option maxRecDepth 20000
/-- the same meshes and axles, and the same nearness below 11 -/
def wz_E (n : Int) (Ax One Oth F Ax' One' Oth' F' : Int → Int) : Prop := (∀ i : Int, 0 ≤ i → i < n → One' i = One i ∧ Oth' i = Oth i ∧ Ax' (One i) = Ax (One i) ∧ Ax' (Oth i) = Ax (Oth i)) ∧ ∀ i : Int, 0 ≤ i → i < n → ∀ l : Int, l ≤ 11 → (F' (Ax (One i)) = l - 1 ↔ F (Ax (One i)) = l - 1) ∧ (F' (Ax (Oth i)) = l - 1 ↔ F (Ax (Oth i)) = l - 1)
theorem wz_c {n h l i : Int} {Ax One Oth F Ax' One' Oth' F' : Int → Int} (hE : wz_E n Ax One Oth F Ax' One' Oth' F') (hl : l ≤ 11) (i0 : 0 ≤ i) (i1 : i < n) : wp_c Ax' One' Oth' F' h l i ↔ wp_c Ax One Oth F h l i := by
  obtain ⟨a, b, c, d⟩ := hE.1 i i0 i1
  obtain ⟨e, f⟩ := hE.2 i i0 i1 l hl
  unfold wp_c
  rw [a, b, c, d, e, f]
theorem wz_S {n h l p dr dn : Int} {Ax One Oth F Ax' One' Oth' F' : Int → Int} (hE : wz_E n Ax One Oth F Ax' One' Oth' F') (hl : l ≤ 11) (hS : wp_S n Ax' One' Oth' F' h l p dr dn) : wp_S n Ax One Oth F h l p dr dn := by
  obtain ⟨h1, h2, h3, h4⟩ := hS
  refine ⟨h1, (wz_c hE hl h1.1 h1.2).mp h2, fun i i0 i1 hc => h3 i i0 i1 ((wz_c hE hl i0 (by omega)).mpr hc), ?_⟩
  obtain ⟨a, b, c, d⟩ := hE.1 p h1.1 h1.2
  rw [a, b, c] at h4
  exact h4
theorem wz_dn {n h l p dr dn : Int} {Ax One Oth F Ax' One' Oth' F' : Int → Int} (hE : wz_E n Ax One Oth F Ax' One' Oth' F') (hS : wp_S n Ax' One' Oth' F' h l p dr dn) : Ax' dn = Ax dn := by
  obtain ⟨h1, h2, h3, h4⟩ := hS
  obtain ⟨a, b, c, d⟩ := hE.1 p h1.1 h1.2
  rcases h4 with ⟨x1, x2, x3⟩ | ⟨x1, x2, x3⟩
  · rw [x3, b, d]
  · rw [x3, a, c]
theorem wz_Q {n L e : Int} {Ax One Oth F Ax' One' Oth' F' P Dr Dn : Int → Int} (hE : wz_E n Ax One Oth F Ax' One' Oth' F') (hL : L ≤ 11) (h : wp_Q n Ax' One' Oth' F' L P Dr Dn e) : wp_Q n Ax One Oth F L P Dr Dn e := by
  intro k k0 k1
  have hS := wz_S hE (by omega) (h k k0 k1)
  have eh : wp_h Ax' Dn k = wp_h Ax Dn k := by
    by_cases c : k ≤ 0
    · rw [wp_h0 c, wp_h0 c]
    · rw [wp_hs c, wp_hs c]
      exact wz_dn hE (h (k - 1) (by omega) (by omega))
  rw [← eh]
  exact hS
/-- a way is one -/
theorem wz_one {n L e : Int} {Ax One Oth F P Dr Dn P' Dr' Dn' : Int → Int} (h1 : wp_Q n Ax One Oth F L P Dr Dn e) (h2 : wp_Q n Ax One Oth F L P' Dr' Dn' e) : ∀ (m : Nat) (k : Int), 0 ≤ k → k < e → k ≤ (m : Int) → P k = P' k ∧ Dr k = Dr' k ∧ Dn k = Dn' k := by
  intro m
  induction m with
  | zero =>
    intro k k0 k1 k2
    have a := h1 k k0 k1
    have b := h2 k k0 k1
    have k3 : k ≤ 0 := by omega
    rw [wp_h0 k3] at a
    rw [wp_h0 k3] at b
    exact wp_S_one a b
  | succ m ih =>
    intro k k0 k1 k2
    by_cases c : k ≤ 0
    · exact ih k k0 k1 (by omega)
    · have a := h1 k k0 k1
      have b := h2 k k0 k1
      rw [wp_hs c] at a
      rw [wp_hs c] at b
      rw [← (ih (k - 1) (by omega) (by omega) (by omega)).2.2] at b
      exact wp_S_one a b
theorem wz_b {D D' : Int → Int} {n w : Int} (h : ∀ k : Int, 0 ≤ k → k < n → D' k = D k) : wf_b D' n w = wf_b D n w := by
  unfold wf_b
  by_cases hn : 0 ≤ n
  · rw [wq_ce n.toNat (fun i i0 i1 => h i i0 (by omega))]
  · rw [show n.toNat = 0 by omega]
    rfl
theorem wz_g {Dr Dn Dr' Dn' : Int → Int} {n w : Int} (h : ∀ k : Int, 0 ≤ k → k < n → Dr' k = Dr k ∧ Dn' k = Dn k) : wf_g Dr' Dn' n w = wf_g Dr Dn n w := by
  unfold wf_g
  rw [wz_b (D := Dr) (D' := Dr') (fun k k0 k1 => (h k k0 k1).1), wz_b (D := Dn) (D' := Dn') (fun k k0 k1 => (h k k0 k1).2)]
/-- each place of a list has its wheel -/
theorem wz_iv {f : Int → Int} (m : Nat) : (∀ w : Int, 0 ≤ w → w < m → f w = 0 ∨ f w = 1) → ∀ i : Int, 0 ≤ i → i < wq_s f m → ∃ w : Int, 0 ≤ w ∧ w < m ∧ f w = 1 ∧ wq_s f w.toNat = i := by
  induction m with
  | zero =>
    intro _ i i0 i1
    exact absurd i1 (by rw [show wq_s f 0 = 0 from rfl]; omega)
  | succ m ih =>
    intro h i i0 i1
    rw [wq_s1] at i1
    by_cases c : i < wq_s f m
    · obtain ⟨w, w0, w1, w2, w3⟩ := ih (fun w w0 w1 => h w w0 (by omega)) i i0 c
      exact ⟨w, w0, by omega, w2, w3⟩
    · have g := h m (by omega) (by omega)
      refine ⟨m, by omega, by omega, ?_, ?_⟩
      · rcases g with g | g
        · rw [g] at i1
          omega
        · exact g
      · rw [show ((m : Int)).toNat = m by omega]
        rcases g with g | g
        · rw [g] at i1
          omega
        · rw [g] at i1
          omega
/-- both lists are alike -/
theorem wz_W {Dr Dn Dr' Dn' Lo Hi W R L H f g T U : Int → Int} {n s z x : Int} (hx : 0 ≤ x) (hx1 : x ≤ 14) (hD : ∀ k : Int, 0 ≤ k → k < n → Dr' k = Dr k ∧ Dn' k = Dn k) (hW : wf_W Dr' Dn' Lo Hi n s W R L H x) (hf : ∀ w : Int, 0 ≤ w → w < 14 → f w = wf_g Dr Dn n w ∧ g w = wf_b Dr n w - wf_b Dn n w) (hz : z = wq_s f x.toNat) (hV : ∀ w : Int, 0 ≤ w → w < x → f w = 1 → T (wq_s f w.toNat) = w ∧ U (wq_s f w.toNat) = g w) : s = z ∧ (0 ≤ s ∧ s ≤ 14) ∧ ∀ i : Int, 0 ≤ i → i < s → W i = T i ∧ R i = U i ∧ L i = Lo (W i) ∧ H i = Hi (W i) ∧ 0 ≤ W i ∧ W i < x := by
  have eg : ∀ w : Int, 0 ≤ w → w < 14 → wf_g Dr' Dn' n w = f w := fun w w0 w1 => (wz_g hD).trans (hf w w0 w1).1.symm
  have es : ∀ m : Nat, m ≤ 14 → wq_s (wf_g Dr' Dn' n) m = wq_s f m := fun m hm => wq_se m (fun i i0 i1 => eg i i0 (by omega))
  have e1 : s = z := by rw [hW.1, hz, es x.toNat (by omega)]
  have hs := wf_sz (Dr := Dr') (Dn := Dn') (n := n) x.toNat
  refine ⟨e1, by rw [hW.1]; omega, fun i i0 i1 => ?_⟩
  rw [e1, hz] at i1
  obtain ⟨w, w0, w1, w2, w3⟩ := wz_iv x.toNat (fun w w0 w1 => by rw [← eg w w0 (by omega)]; exact wf_g01) i i0 i1
  have a := hW.2 w w0 (by omega) (by rw [eg w w0 (by omega)]; exact w2)
  have b := hV w w0 (by omega) w2
  rw [es w.toNat (by omega), w3] at a
  rw [w3] at b
  obtain ⟨a1, a2, a3, a4⟩ := a
  have br : wf_b Dr' n w = wf_b Dr n w := wz_b (fun k k0 k1 => (hD k k0 k1).1)
  have bn : wf_b Dn' n w = wf_b Dn n w := wz_b (fun k k0 k1 => (hD k k0 k1).2)
  rw [a1]
  refine ⟨b.1.symm, ?_, a3, a4, w0, by omega⟩
  rw [a2, b.2, (hf w w0 (by omega)).2, br, bn]
-- no product of teeth on the way is too great (lemmas behind fw, wv, wx; not tried)
set_option maxRecDepth 20000
theorem wb_s {g r R : Int → Int} (h01 : ∀ w : Int, g w = 0 ∨ g w = 1) (h0 : ∀ w : Int, g w = 0 → r w = 0) (x : Nat) : (∀ w : Int, 0 ≤ w → w < x → g w = 1 → R (wq_s g w.toNat) = r w) → 0 ≤ wq_s g x ∧ wq_s R (wq_s g x).toNat = wq_s r x := by
  induction x with
  | zero => exact fun _ => ⟨Int.le_refl 0, rfl⟩
  | succ x ih =>
    intro h
    obtain ⟨i1, i2⟩ := ih (fun w w0 w1 => h w w0 (by omega))
    rw [wq_s1, wq_s1]
    rcases h01 (x : Int) with q | q
    · rw [q, h0 _ q, Int.add_zero, Int.add_zero]
      exact ⟨i1, i2⟩
    · have e := h (x : Int) (by omega) (by omega) q
      rw [show ((x : Int)).toNat = x by omega] at e
      rw [q, show (wq_s g x + 1).toNat = (wq_s g x).toNat + 1 by omega, wq_s1, show (((wq_s g x).toNat : Nat) : Int) = wq_s g x by omega, e, i2]
      exact ⟨by omega, rfl⟩
/-- the roles' sum is 0 -/
theorem wb_0 {Dr Dn : Int → Int} {n : Int} {x : Nat} (hn : 0 ≤ n) (hr : ∀ k : Int, 0 ≤ k → k < n → (0 ≤ Dr k ∧ Dr k < x) ∧ 0 ≤ Dn k ∧ Dn k < x) (d1 : ∀ i j : Int, 0 ≤ i → i < n → 0 ≤ j → j < n → Dr i = Dr j → i = j) (d2 : ∀ i j : Int, 0 ≤ i → i < n → 0 ≤ j → j < n → Dn i = Dn j → i = j) : wq_s (fun w => wf_b Dr n w - wf_b Dn n w) x = 0 := by
  have en : ((n.toNat : Nat) : Int) = n := by omega
  have a : wq_s (fun w => wf_b Dr n w) x = n := by
    rw [wq_se (g := fun w => wq_c Dr w n.toNat) x (fun i _ _ => wf_bc hn d1), wq_all n.toNat (fun i i0 i1 => (hr i i0 (by omega)).1), en]
  have b : wq_s (fun w => wf_b Dn n w) x = n := by
    rw [wq_se (g := fun w => wq_c Dn w n.toNat) x (fun i _ _ => wf_bc hn d2), wq_all n.toNat (fun i i0 i1 => (hr i i0 (by omega)).2), en]
  rw [wq_sb (f := fun w => wf_b Dr n w) (g := fun w => wf_b Dn n w), a, b]
  omega
/-- so no product of the list's teeth is too great -/
theorem wb_B {Dr Dn Lo Hi W R L H : Int → Int} {n s : Int} {x : Nat} (hn : 0 ≤ n) (hx : x ≤ 14) (hr : ∀ k : Int, 0 ≤ k → k < n → (0 ≤ Dr k ∧ Dr k < x) ∧ 0 ≤ Dn k ∧ Dn k < x) (d1 : ∀ i j : Int, 0 ≤ i → i < n → 0 ≤ j → j < n → Dr i = Dr j → i = j) (d2 : ∀ i j : Int, 0 ≤ i → i < n → 0 ≤ j → j < n → Dn i = Dn j → i = j) (hW : wf_W Dr Dn Lo Hi n s W R L H (x : Int)) (V : Int → Int) (m : Nat) (hm : (m : Int) ≤ s) (hV : ∀ i : Int, 0 ≤ i → i < m → 0 ≤ V i ∧ V i ≤ 400) : (0 ≤ fs_u R V m ∧ fs_u R V m ≤ 1638400000000000000) ∧ (0 ≤ fs_d R V m ∧ fs_d R V m ≤ 1638400000000000000) := by
  obtain ⟨h1, h2⟩ := hW
  rw [show ((x : Int)).toNat = x by omega] at h1
  have hz := wf_sz (Dr := Dr) (Dn := Dn) (n := n) x
  have hs := wb_s (g := wf_g Dr Dn n) (r := fun w => wf_b Dr n w - wf_b Dn n w) (R := R) (fun w => wf_g01) (fun w hg => by
    have c : ¬ (wf_b Dr n w = 1 ∨ wf_b Dn n w = 1) := fun c => by
      rw [wf_g1.mpr c] at hg
      omega
    have c1 := wf_b01 (D := Dr) (n := n) (w := w)
    have c2 := wf_b01 (D := Dn) (n := n) (w := w)
    show wf_b Dr n w - wf_b Dn n w = 0
    omega) x (fun w w0 w1 w2 => (h2 w w0 w1 w2).2.1)
  rw [wb_0 hn hr d1 d2] at hs
  refine wq_B (s := s.toNat) (by omega) (fun i i0 i1 => ?_) ?_ V m (by omega) hV
  · obtain ⟨w, w0, w1, w2, w3⟩ := wz_iv (f := wf_g Dr Dn n) x (fun w _ _ => wf_g01) i i0 (by omega)
    have e := (h2 w w0 w1 w2).2.1
    rw [w3] at e
    have c1 := wf_b01 (D := Dr) (n := n) (w := w)
    have c2 := wf_b01 (D := Dn) (n := n) (w := w)
    omega
  · rw [h1]
    exact hs.2

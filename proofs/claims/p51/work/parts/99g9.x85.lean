set_option maxRecDepth 20000
/-- the first of those that count (c: how many) -/
def rw_R1 (P : Int → Prop) (m c f : Int) : Prop := (c = 0 → f = -1) ∧ (¬ c = 0 → (0 ≤ f ∧ f < m) ∧ P f ∧ pl_ct P f.toNat = 0)
def rw_R2 (P : Int → Int → Prop) (n c v w : Int) : Prop := (c = 0 → v = -1 ∧ w = -1) ∧ (¬ c = 0 → (0 ≤ v ∧ v < w ∧ w < n) ∧ P v w ∧ pl_sm (pl_nv P n.toNat) v.toNat + pl_ct (fun x => v < x ∧ P v x) w.toNat = 0)
theorem rw_ct0 {P : Int → Prop} : ∀ n : Nat, pl_ct P n = 0 → ∀ i : Int, 0 ≤ i → i < (n : Int) → ¬ P i
  | 0, _ => fun i i0 i1 => by
    exfalso
    omega
  | n + 1, h => fun i i0 i1 hP => by
    have b := (pl_ct_r (P := P) n).1
    by_cases c : P (n : Int)
    · rw [pl_ct1 c] at h
      omega
    · rw [pl_ct0 c] at h
      by_cases e : i = (n : Int)
      · rw [e] at hP
        exact c hP
      · exact rw_ct0 n h i i0 (by omega) hP
theorem rw_sm0 {f : Int → Int} (hf : ∀ v : Int, 0 ≤ f v ∧ f v ≤ 14) : ∀ n : Nat, pl_sm f n = 0 → ∀ i : Int, 0 ≤ i → i < (n : Int) → f i = 0
  | 0, _ => fun i i0 i1 => by
    exfalso
    omega
  | n + 1, h => fun i i0 i1 => by
    have b := (pl_sm_r hf n).1
    have b2 := (hf (n : Int)).1
    rw [pl_sm1] at h
    by_cases e : i = (n : Int)
    · rw [e]
      omega
    · exact rw_sm0 hf n (by omega) i i0 (by omega)
theorem rw_R1u {P P' : Int → Prop} {m c f f' : Int} (e : ∀ k : Int, 0 ≤ k → k < m → (P k ↔ P' k)) (h : rw_R1 P m c f) (h' : rw_R1 P' m c f') : f = f' := by
  by_cases hc : c = 0
  · rw [h.1 hc, h'.1 hc]
  · obtain ⟨a1, a2, a3⟩ := h.2 hc
    obtain ⟨b1, b2, b3⟩ := h'.2 hc
    rcases (show f < f' ∨ f = f' ∨ f' < f by omega) with g | g | g
    · exact absurd ((e f a1.1 a1.2).mp a2) (rw_ct0 _ b3 f a1.1 (by omega))
    · exact g
    · exact absurd ((e f' b1.1 b1.2).mpr b2) (rw_ct0 _ a3 f' b1.1 (by omega))
theorem rw_R2z {P : Int → Int → Prop} {n v w a b : Int} (hn : n ≤ 14) (h : pl_sm (pl_nv P n.toNat) v.toNat + pl_ct (fun x => v < x ∧ P v x) w.toNat = 0) (a0 : 0 ≤ a) (ab : a < b) (bn : b < n) (v0 : 0 ≤ v) (w0 : 0 ≤ w) (hl : a < v ∨ (a = v ∧ b < w)) : ¬ P a b := fun hP => by
  have hf := fun x => pl_nv_r (P := P) (n := n.toNat) (by omega) x
  have p1 := (pl_sm_r hf v.toNat).1
  have p2 := (pl_ct_r (P := fun x => v < x ∧ P v x) w.toNat).1
  rcases hl with g | ⟨g, g2⟩
  · have z := rw_sm0 hf v.toNat (by omega) a a0 (by omega)
    exact rw_ct0 (P := fun x => a < x ∧ P a x) n.toNat z b (by omega) (by omega) ⟨ab, hP⟩
  · subst g
    exact rw_ct0 (P := fun x => a < x ∧ P a x) w.toNat (by omega) b (by omega) (by omega) ⟨ab, hP⟩
theorem rw_R2u {P P' : Int → Int → Prop} {n c v w v' w' : Int} (hn : n ≤ 14) (e : ∀ a b : Int, 0 ≤ a → a < n → 0 ≤ b → b < n → (P a b ↔ P' a b)) (h : rw_R2 P n c v w) (h' : rw_R2 P' n c v' w') : v = v' ∧ w = w' := by
  by_cases hc : c = 0
  · have x := h.1 hc
    have y := h'.1 hc
    omega
  · obtain ⟨a1, a2, a3⟩ := h.2 hc
    obtain ⟨b1, b2, b3⟩ := h'.2 hc
    refine Classical.byContradiction (fun g => ?_)
    rcases (show (v < v' ∨ (v = v' ∧ w < w')) ∨ (v' < v ∨ (v' = v ∧ w' < w)) by omega) with k | k
    · exact rw_R2z hn b3 a1.1 a1.2.1 a1.2.2 b1.1 (by omega) k ((e v w a1.1 (by omega) (by omega) a1.2.2).mp a2)
    · exact rw_R2z hn a3 b1.1 b1.2.1 b1.2.2 a1.1 (by omega) k ((e v' w' b1.1 (by omega) (by omega) b1.2.2).mpr b2)
theorem rw_R1_0 {P : Int → Prop} {m : Int} : rw_R1 P m 0 (-1) := ⟨fun _ => rfl, fun h => absurd rfl h⟩
theorem rw_R1k {P : Int → Prop} {m c c' f : Int} (hc : ¬ c = 0) (hc' : ¬ c' = 0) (h : rw_R1 P m c f) : rw_R1 P m c' f := ⟨fun e => absurd e hc', fun _ => h.2 hc⟩
theorem rw_R1y {P : Int → Prop} {m c' f : Int} (hc' : ¬ c' = 0) (hf : 0 ≤ f ∧ f < m) (hP : P f) (h0 : pl_ct P f.toNat = 0) : rw_R1 P m c' f := ⟨fun e => absurd e hc', fun _ => ⟨hf, hP, h0⟩⟩
theorem rw_R2_0 {P : Int → Int → Prop} {n : Int} : rw_R2 P n 0 (-1) (-1) := ⟨fun _ => ⟨rfl, rfl⟩, fun h => absurd rfl h⟩
theorem rw_R2k {P : Int → Int → Prop} {n c c' v w : Int} (hc : ¬ c = 0) (hc' : ¬ c' = 0) (h : rw_R2 P n c v w) : rw_R2 P n c' v w := ⟨fun e => absurd e hc', fun _ => h.2 hc⟩
theorem rw_R2y {P : Int → Int → Prop} {n c' v w : Int} (hc' : ¬ c' = 0) (hf : 0 ≤ v ∧ v < w ∧ w < n) (hP : v < w ∧ P v w) (h0 : pl_sm (pl_nv P n.toNat) v.toNat + pl_ct (fun x => v < x ∧ P v x) w.toNat = 0) : rw_R2 P n c' v w := ⟨fun e => absurd e hc', fun _ => ⟨hf, hP.2, h0⟩⟩
/-- the reference goes down: the last that it finds -/
def rw_D1 (P : Int → Prop) (m x c f : Int) : Prop := (c = 0 → f = -1) ∧ (¬ c = 0 → (x < f ∧ f < m) ∧ P f ∧ pl_ct P f.toNat = pl_ct P (x + 1).toNat)
theorem rw_D1_0 {P : Int → Prop} {m x : Int} : rw_D1 P m x 0 (-1) := ⟨fun _ => rfl, fun h => absurd rfl h⟩
theorem rw_D1n {P : Int → Prop} {m x c f t : Int} (h1 : c + pl_ct P (x + 1).toNat = t) (h2 : c + pl_ct P (x + (-1) + 1).toNat = t) (h : rw_D1 P m x c f) : rw_D1 P m (x + (-1)) c f := ⟨h.1, fun hc => by
  obtain ⟨a, b, d⟩ := h.2 hc
  exact ⟨by omega, b, by omega⟩⟩
theorem rw_D1y {P : Int → Prop} {m x c : Int} (x0 : 0 ≤ x ∧ x < m) (hc : ¬ c = 0) (hP : P x) : rw_D1 P m (x + (-1)) c x := ⟨fun e => absurd e hc, fun _ => ⟨by omega, hP, by rw [show x + (-1) + 1 = x by omega]⟩⟩
theorem rw_D1e {P : Int → Prop} {m x c f t : Int} (hx : x = -1) (hc : c = t) (h : rw_D1 P m x c f) : rw_R1 P m t f := by
  subst hx
  subst hc
  refine ⟨h.1, fun hc => ?_⟩
  obtain ⟨a, b, d⟩ := h.2 hc
  exact ⟨by omega, b, d.trans rfl⟩
theorem rw_ctm {P : Int → Prop} {a : Nat} : ∀ b : Nat, a ≤ b → pl_ct P a ≤ pl_ct P b
  | 0, h => by
    rw [show a = 0 by omega]
    exact Int.le_refl _
  | b + 1, h => by
    by_cases e : a = b + 1
    · rw [e]
      exact Int.le_refl _
    · have ih := rw_ctm (P := P) (a := a) b (by omega)
      by_cases c : P (b : Int)
      · rw [pl_ct1 c]
        omega
      · rw [pl_ct0 c]
        exact ih
/-- the eight numbers of room -/
def rw_s140 (xs ys ax dp tk o p : Int → Int) (n m sl : Int) (V : Int → Int) : Prop := ∃ v w f g : Int, rw_R2 (pl_P1 xs ys ax dp tk o p m) n (pl_pa (pl_P1 xs ys ax dp tk o p m) n.toNat) v w ∧ rw_R1 (pl_sk dp o p) m (pl_ct (pl_sk dp o p) m.toNat) f ∧ rw_R1 (pl_of xs ys ax tk o p sl) m (pl_ct (pl_of xs ys ax tk o p sl) m.toNat) g ∧ rw_T V [pl_pa (pl_P1 xs ys ax dp tk o p m) n.toNat, v, w, pl_ct (pl_sk dp o p) m.toNat, f, pl_ct (pl_of xs ys ax tk o p sl) m.toNat, g, pl_pa (pl_P2 ax dp) n.toNat]
theorem rw_60k {b : Bool} {A : Nat → Nat} {h0 : g_H} {d : Nat} {M : xa_M} {post : Option xa_V → xa_M → Prop} {l1 u1 : Int} {x : Int} {N : xa_M} {c e : Int} {l : List Int} (hK : pl_K N M) (h48 : M 48 1 = c) (hl : c = (l.length : Int)) (hT : rw_T (M 49) l) (hce : 0 ≤ c ∧ c < 16 ∧ e = c + 1) (k : ∀ M1 : xa_M, pl_K N M1 → M1 48 1 = e → rw_T (M1 49) (l ++ [x]) → post none M1) : xa_C (xl_I b) A h0 (d + 2) 60 [(2, 48, 0, 0, 0), (1, 0, l1, u1, x)] M post :=
  rw_60 (l := l) (by omega) (h48.trans hl) hT (fun M1 a _ c9 t => k M1 (fun q j h1 h2 => (a q j (by omega)).trans (hK q j h1 h2)) (by omega) t)
theorem rw_len {l : List Int} {c x : Int} (h : c = (l.length : Int)) : c + 1 = ((l ++ [x]).length : Int) := by
  rw [List.length_append]
  show c + 1 = ((l.length + 1 : Nat) : Int)
  omega
theorem rw_s140u {xs ys ax dp tk o p xs' ys' ax' dp' tk' o' p' : Int → Int} {n m sl : Int} (hn : n ≤ 14) (hm : m ≤ 16) (ex : ∀ i, 0 ≤ i → i < 10 → xs i = xs' i) (ey : ∀ i, 0 ≤ i → i < 10 → ys i = ys' i) (ea : ∀ i, 0 ≤ i → i < 14 → ax i = ax' i) (ed : ∀ i, 0 ≤ i → i < 14 → dp i = dp' i) (et : ∀ i, 0 ≤ i → i < 14 → tk i = tk' i) (eo : ∀ i, 0 ≤ i → i < 16 → o i = o' i) (ep : ∀ i, 0 ≤ i → i < 16 → p i = p' i) (hr : ∀ i, 0 ≤ i → i < 14 → 0 ≤ ax' i ∧ ax' i ≤ 9) (ho : ∀ i, 0 ≤ i → i < m → 0 ≤ o' i ∧ o' i ≤ 13) (hp : ∀ i, 0 ≤ i → i < m → 0 ≤ p' i ∧ p' i ≤ 13) {V V' : Int → Int} (h : rw_s140 xs ys ax dp tk o p n m sl V) (h' : rw_s140 xs' ys' ax' dp' tk' o' p' n m sl V') : ∀ i, 0 ≤ i → i < 8 → V i = V' i := by
  have sq : ∀ a c, 0 ≤ a → a ≤ 9 → 0 ≤ c → c ≤ 9 → pl_sq xs ys a c = pl_sq xs' ys' a c := fun a c a0 a1 c0 c1 => by
    unfold pl_sq
    rw [ex a a0 (by omega), ex c c0 (by omega), ey a a0 (by omega), ey c c0 (by omega)]
  have me : ∀ a c, pl_me o p m a c ↔ pl_me o' p' m a c := fun a c => by
    refine ⟨fun ⟨k, k0, k1, h⟩ => ⟨k, k0, k1, ?_⟩, fun ⟨k, k0, k1, h⟩ => ⟨k, k0, k1, ?_⟩⟩
    · rw [← eo k k0 (by omega), ← ep k k0 (by omega)]
      exact h
    · rw [eo k k0 (by omega), ep k k0 (by omega)]
      exact h
  have qc1 : ∀ v w : Int, 0 ≤ v → v < n → 0 ≤ w → w < n → (pl_P1 xs ys ax dp tk o p m v w ↔ pl_P1 xs' ys' ax' dp' tk' o' p' m v w) := fun v w v0 hv w0 hw => by
    have rv := hr v (by omega) (by omega)
    have rw' := hr w (by omega) (by omega)
    unfold pl_P1 pl_cr
    rw [ed v (by omega) (by omega), ed w (by omega) (by omega), ea v (by omega) (by omega), ea w (by omega) (by omega), et v (by omega) (by omega), et w (by omega) (by omega), sq _ _ rv.1 rv.2 rw'.1 rw'.2, me]
  have c1 : pl_pa (pl_P1 xs ys ax dp tk o p m) n.toNat = pl_pa (pl_P1 xs' ys' ax' dp' tk' o' p' m) n.toNat := pl_pa_e (fun v w hv hw => qc1 v w (by omega) (by omega) (by omega) (by omega))
  have qc2 : ∀ k : Int, 0 ≤ k → k < m → (pl_sk dp o p k ↔ pl_sk dp' o' p' k) := fun k k0 hk => by
    have r1 := ho k (by omega) (by omega)
    have r2 := hp k (by omega) (by omega)
    unfold pl_sk
    rw [eo k (by omega) (by omega), ep k (by omega) (by omega), ed _ r1.1 (by omega), ed _ r2.1 (by omega)]
  have c2 : pl_ct (pl_sk dp o p) m.toNat = pl_ct (pl_sk dp' o' p') m.toNat := pl_ct_e _ (fun k hk => qc2 k (by omega) (by omega))
  have qc3 : ∀ k : Int, 0 ≤ k → k < m → (pl_of xs ys ax tk o p sl k ↔ pl_of xs' ys' ax' tk' o' p' sl k) := fun k k0 hk => by
    have r1 := ho k (by omega) (by omega)
    have r2 := hp k (by omega) (by omega)
    have q1 := hr _ r1.1 (by omega)
    have q2 := hr _ r2.1 (by omega)
    unfold pl_of
    rw [eo k (by omega) (by omega), ep k (by omega) (by omega), et _ r1.1 (by omega), et _ r2.1 (by omega), ea _ r1.1 (by omega), ea _ r2.1 (by omega), sq _ _ q1.1 q1.2 q2.1 q2.2]
  have c3 : pl_ct (pl_of xs ys ax tk o p sl) m.toNat = pl_ct (pl_of xs' ys' ax' tk' o' p' sl) m.toNat := pl_ct_e _ (fun k hk => qc3 k (by omega) (by omega))
  have qc4 : ∀ v w : Int, 0 ≤ v → v < n → 0 ≤ w → w < n → (pl_P2 ax dp v w ↔ pl_P2 ax' dp' v w) := fun v w v0 hv w0 hw => by
    unfold pl_P2
    rw [ed v (by omega) (by omega), ed w (by omega) (by omega), ea v (by omega) (by omega), ea w (by omega) (by omega)]
  have c4 : pl_pa (pl_P2 ax dp) n.toNat = pl_pa (pl_P2 ax' dp') n.toNat := pl_pa_e (fun v w hv hw => qc4 v w (by omega) (by omega) (by omega) (by omega))
  obtain ⟨v, w, f, g, h1, h2, h3, h4⟩ := h
  obtain ⟨v', w', f', g', h1', h2', h3', h4'⟩ := h'
  rw [c1] at h1 h4
  rw [c2] at h2 h4
  rw [c3] at h3 h4
  rw [c4] at h4
  obtain ⟨e1, e2⟩ := rw_R2u hn qc1 h1 h1'
  have e3 := rw_R1u qc2 h2 h2'
  have e4 := rw_R1u qc3 h3 h3'
  subst e1
  subst e2
  subst e3
  subst e4
  exact fun i i0 i1 => (h4 i i0 i1).trans (h4' i i0 i1).symm
theorem rw_148k {b : Bool} {A : Nat → Nat} {h0 : g_H} {d : Nat} {M : xa_M} {post : Option xa_V → xa_M → Prop} {c e : Int} {l0 u0 : Int} {x : Int} (h1 : 0 ≤ x ∧ x ≤ 196) (h48 : M 48 1 = c) {l : List Int} (hl : c = (l.length : Int)) (hT : rw_T (M 49) l) (hce : 0 ≤ c ∧ c < 14 ∧ e = c + 1) (k : ∀ M1 : xa_M, pl_K M M1 → M1 48 1 = e → rw_T (M1 49) (l ++ [x]) → post (some (0, 0, 0, 196, x)) M1) : xa_C (xl_I b) A h0 (d + 3) 148 [(0, 0, l0, u0, x), (2, 48, 0, 0, 0)] M post := by
  refine xa_C_arg [(0, 0, 0, 196, x), (2, 48, 0, 0, 0)] (xa_svI (fun _ _ _ _ => by omega) (xa_svR (xa_sv0))) ?_
  refine xa_meth (Q0 := (2, 1, false, 0, 0, 4)) (by decide +kernel) ⟨rfl, rfl⟩ (full := s_c_148) rfl rfl ?_
  intro hM hv Q hgo
  have hK0 : pl_K M M := fun _ _ _ _ => rfl
  refine hgo.1 10 [] 0 _ _ _ ?_
  show xa_C (xl_I b) A h0 _ 60 [(2, 48, 0, 0, 0), (1, 0, 0, 196, x)] M _
  refine rw_60k (N := M) (c := c) (e := c + 1) (l := l) (by first | assumption | exact hK0) h48 hl hT (by omega) ?_
  intro M101 (i1 : pl_K M M101) (i2 : M101 48 1 = c + 1) (t2 : rw_T (M101 49) (l ++ [x]))
  show post (some (0, 0, 0, 196, x)) M101
  exact k _ i1 (i2.trans hce.2.2.symm) t2
theorem rw_148kN {b : Bool} {A : Nat → Nat} {h0 : g_H} {d : Nat} {M : xa_M} {post : Option xa_V → xa_M → Prop} {c e : Int} {l0 u0 x : Int} {N : xa_M} (hK : pl_K N M) (h1 : 0 ≤ x ∧ x ≤ 196) (h48 : M 48 1 = c) {l : List Int} (hl : c = (l.length : Int)) (hT : rw_T (M 49) l) (hce : 0 ≤ c ∧ c < 14 ∧ e = c + 1) (k : ∀ M1 : xa_M, pl_K N M1 → M1 48 1 = e → rw_T (M1 49) (l ++ [x]) → post (some (0, 0, 0, 196, x)) M1) : xa_C (xl_I b) A h0 (d + 3) 148 [(0, 0, l0, u0, x), (2, 48, 0, 0, 0)] M post := by
  exact rw_148k h1 h48 hl hT hce (fun M1 g1 g2 g3 => k M1 (fun q j h1 h2 => (g1 q j h1 h2).trans (hK q j h1 h2)) g2 g3)
theorem rw_145a {b : Bool} {A : Nat → Nat} {h0 : g_H} {d : Nat} {M : xa_M} {post : Option xa_V → xa_M → Prop} {c e : Int} {l1 u1 : Int} (hF : pl_F M) (h48 : M 48 1 = c) {l : List Int} (hl : c = (l.length : Int)) (hT : rw_T (M 49) l) (hce : 0 ≤ c ∧ c < 14 ∧ e = c + 2) (k : ∀ (f : Int) (M1 : xa_M), rw_R1 (pl_sk (M 6) (M 7) (M 8)) (M 1 10) (pl_ct (pl_sk (M 6) (M 7) (M 8)) (M 1 10).toNat) f → pl_K M M1 → M1 48 1 = e → rw_T (M1 49) (l ++ [pl_ct (pl_sk (M 6) (M 7) (M 8)) (M 1 10).toNat] ++ [f]) → post (some (0, 0, 0, 16, pl_ct (pl_sk (M 6) (M 7) (M 8)) (M 1 10).toNat)) M1) : xa_C (xl_I b) A h0 (d + 4) 145 [(2, 1, 0, 0, 0), (0, 0, l1, u1, (-1)), (2, 48, 0, 0, 0)] M post := by
  refine xa_C_arg [(2, 1, 0, 0, 0), (0, 0, (-1), (-1), (-1)), (2, 48, 0, 0, 0)] (xa_svR (xa_svI (fun _ _ _ _ => by omega) (xa_svR (xa_sv0)))) ?_
  refine xa_meth (Q0 := (6, 1, false, 0, 0, 4)) (by decide +kernel) ⟨rfl, rfl⟩ (full := s_c_145) rfl rfl ?_
  intro hM hv Q hgo
  have hK0 : pl_K M M := fun _ _ _ _ => rfl
  have hm : 0 ≤ M 1 10 ∧ M 1 10 ≤ 16 := hF.2.1
  have loop : ∀ (n : Nat) (i nn f : Int), 0 ≤ i ∧ i ≤ M 1 10 → -1 ≤ f ∧ f ≤ 15 → nn = pl_ct (pl_sk (M 6) (M 7) (M 8)) i.toNat → rw_R1 (pl_sk (M 6) (M 7) (M 8)) (M 1 10) nn f → 16 - i < (n : Int) → Q 8 [(5, (0, 0, 0, 16, i)), (3, (0, 0, 0, 16, nn)), (4, (0, 0, (-1), 15, f)), (0, (2, 1, 0, 0, 0)), (1, (0, 0, (-1), (-1), (-1))), (2, (2, 48, 0, 0, 0))] [] M := by
    intro n
    induction n with
    | zero => intro i nn f i1 f1 hb hR hms; omega
    | succ n ih =>
      intro i nn f i1 f1 hb hR hms
      have ei : ((i.toNat : Nat) : Int) = i := Int.toNat_of_nonneg i1.1
      have hr1 := pl_ct_r (P := (pl_sk (M 6) (M 7) (M 8))) i.toNat
      rw [← hb] at hr1
      refine hgo.1 25 [8] 8 _ _ _ ?_
      refine And.intro ?_ ?_
      · intro (c1 : (M 1 10) ≤ i)
        show xa_C (xl_I b) A h0 _ 60 [(2, 48, 0, 0, 0), (1, 0, 0, 16, nn)] M _
        refine rw_60k (N := M) (c := c) (e := c + 1) (l := l) (by first | assumption | exact hK0) h48 hl hT (by omega) ?_
        intro M102 (i2 : pl_K M M102) (i3 : M102 48 1 = c + 1) (t2 : rw_T (M102 49) (l ++ [nn]))
        show xa_C (xl_I b) A h0 _ 60 [(2, 48, 0, 0, 0), (1, 0, (-1), 15, f)] M102 _
        refine rw_60k (N := M) (c := c + 1) (e := c + 2) (l := l ++ [nn]) (by first | assumption | exact hK0) i3 (rw_len hl) t2 (by omega) ?_
        intro M103 (i4 : pl_K M M103) (i5 : M103 48 1 = c + 2) (t3 : rw_T (M103 49) (l ++ [nn] ++ [f]))
        show post (some (0, 0, 0, 16, nn)) M103
        rw [show i = M 1 10 by omega] at hb
        subst hb
        exact k f _ hR i4 (i5.trans hce.2.2.symm) t3
      · intro (c1 : i < (M 1 10))
        show xa_C (xl_I b) A h0 _ 146 [(2, 1, 0, 0, 0), (0, 0, 0, 16, i)] M _
        refine cx_146p (show 0 ≤ i ∧ i < M 1 10 by omega) hF hm.2 ?_ ?_
        · intro (i6 : (pl_sk (M 6) (M 7) (M 8)) i)
          refine And.intro ?_ ?_
          · intro (c7 : ¬ nn = 0)
            show Q 8 [(5, (0, 0, 1, 17, i + 1)), (3, (0, 0, 1, 17, nn + 1)), (4, (0, 0, (-1), 15, f)), (0, (2, 1, 0, 0, 0)), (1, (0, 0, (-1), (-1), (-1))), (2, (2, 48, 0, 0, 0))] [] M
            have en : nn + 1 = pl_ct (pl_sk (M 6) (M 7) (M 8)) (i + 1).toNat := by
              rw [show (i + 1).toNat = i.toNat + 1 by omega, pl_ct1 (show (pl_sk (M 6) (M 7) (M 8)) ((i.toNat : Nat) : Int) by rw [ei]; exact i6), ← hb]
            refine hgo.2.1 8 _ [(5, (0, 0, 0, 16, i + 1)), (3, (0, 0, 0, 16, nn + 1)), (4, (0, 0, (-1), 15, f)), (0, (2, 1, 0, 0, 0)), (1, (0, 0, (-1), (-1), (-1))), (2, (2, 48, 0, 0, 0))] _ _ (xa_subI rfl rfl (fun _ _ _ _ => by omega) (xa_subI rfl rfl (fun _ _ _ _ => by omega) (xa_subI rfl rfl (fun _ _ _ _ => by omega) (xa_subR rfl (xa_subI rfl rfl (fun _ _ _ _ => by omega) (xa_subR rfl (xa_sub0))))))) ?_
            exact ih (i + 1) (nn + 1) f (by omega) (by omega) en (rw_R1k c7 (by omega) hR) (by omega)
          · intro (c7 : nn = 0)
            show Q 8 [(5, (0, 0, 1, 17, i + 1)), (3, (0, 0, 1, 17, nn + 1)), (4, (0, 0, 0, 16, i)), (0, (2, 1, 0, 0, 0)), (1, (0, 0, (-1), (-1), (-1))), (2, (2, 48, 0, 0, 0))] [] M
            have en : nn + 1 = pl_ct (pl_sk (M 6) (M 7) (M 8)) (i + 1).toNat := by
              rw [show (i + 1).toNat = i.toNat + 1 by omega, pl_ct1 (show (pl_sk (M 6) (M 7) (M 8)) ((i.toNat : Nat) : Int) by rw [ei]; exact i6), ← hb]
            refine hgo.2.1 8 _ [(5, (0, 0, 0, 16, i + 1)), (3, (0, 0, 0, 16, nn + 1)), (4, (0, 0, (-1), 15, i)), (0, (2, 1, 0, 0, 0)), (1, (0, 0, (-1), (-1), (-1))), (2, (2, 48, 0, 0, 0))] _ _ (xa_subI rfl rfl (fun _ _ _ _ => by omega) (xa_subI rfl rfl (fun _ _ _ _ => by omega) (xa_subI rfl rfl (fun _ _ _ _ => by omega) (xa_subR rfl (xa_subI rfl rfl (fun _ _ _ _ => by omega) (xa_subR rfl (xa_sub0))))))) ?_
            exact ih (i + 1) (nn + 1) i (by omega) (by omega) en (rw_R1y (by omega) (by omega) i6 (hb.symm.trans c7)) (by omega)
        · intro (i8 : ¬ (pl_sk (M 6) (M 7) (M 8)) i)
          show Q 8 [(5, (0, 0, 1, 17, i + 1)), (3, (0, 0, 0, 16, nn)), (4, (0, 0, (-1), 15, f)), (0, (2, 1, 0, 0, 0)), (1, (0, 0, (-1), (-1), (-1))), (2, (2, 48, 0, 0, 0))] [] M
          have en : nn = pl_ct (pl_sk (M 6) (M 7) (M 8)) (i + 1).toNat := by
            rw [show (i + 1).toNat = i.toNat + 1 by omega, pl_ct0 (show ¬ (pl_sk (M 6) (M 7) (M 8)) ((i.toNat : Nat) : Int) by rw [ei]; exact i8), ← hb]
          refine hgo.2.1 8 _ [(5, (0, 0, 0, 16, i + 1)), (3, (0, 0, 0, 16, nn)), (4, (0, 0, (-1), 15, f)), (0, (2, 1, 0, 0, 0)), (1, (0, 0, (-1), (-1), (-1))), (2, (2, 48, 0, 0, 0))] _ _ (xa_subI rfl rfl (fun _ _ _ _ => by omega) (xa_subI rfl rfl (fun _ _ _ _ => by omega) (xa_subI rfl rfl (fun _ _ _ _ => by omega) (xa_subR rfl (xa_subI rfl rfl (fun _ _ _ _ => by omega) (xa_subR rfl (xa_sub0))))))) ?_
          exact ih (i + 1) nn f (by omega) (by omega) en hR (by omega)
  refine hgo.1 11 [8] 0 _ _ _ ?_
  show Q 8 [(5, (0, 0, 0, 0, 0)), (4, (0, 0, (-1), (-1), (-1))), (3, (0, 0, 0, 0, 0)), (0, (2, 1, 0, 0, 0)), (1, (0, 0, (-1), (-1), (-1))), (2, (2, 48, 0, 0, 0))] [] M
  refine hgo.2.1 8 _ [(5, (0, 0, 0, 16, 0)), (3, (0, 0, 0, 16, 0)), (4, (0, 0, (-1), 15, (-1))), (0, (2, 1, 0, 0, 0)), (1, (0, 0, (-1), (-1), (-1))), (2, (2, 48, 0, 0, 0))] _ _ (xa_subI rfl rfl (fun _ _ _ _ => by omega) (xa_subI rfl rfl (fun _ _ _ _ => by omega) (xa_subI rfl rfl (fun _ _ _ _ => by omega) (xa_subR rfl (xa_subI rfl rfl (fun _ _ _ _ => by omega) (xa_subR rfl (xa_sub0))))))) ?_
  exact loop 17 0 0 (-1) (by omega) (by omega) rfl rw_R1_0 (by omega)
theorem rw_145aN {b : Bool} {A : Nat → Nat} {h0 : g_H} {d : Nat} {M : xa_M} {post : Option xa_V → xa_M → Prop} {c e : Int} {l1 u1 : Int} {N : xa_M} (hK : pl_K N M) (hF : pl_F N) (h48 : M 48 1 = c) {l : List Int} (hl : c = (l.length : Int)) (hT : rw_T (M 49) l) (hce : 0 ≤ c ∧ c < 14 ∧ e = c + 2) (k : ∀ (f : Int) (M1 : xa_M), rw_R1 (pl_sk (N 6) (N 7) (N 8)) (N 1 10) (pl_ct (pl_sk (N 6) (N 7) (N 8)) (N 1 10).toNat) f → pl_K N M1 → M1 48 1 = e → rw_T (M1 49) (l ++ [pl_ct (pl_sk (N 6) (N 7) (N 8)) (N 1 10).toNat] ++ [f]) → post (some (0, 0, 0, 16, pl_ct (pl_sk (N 6) (N 7) (N 8)) (N 1 10).toNat)) M1) : xa_C (xl_I b) A h0 (d + 4) 145 [(2, 1, 0, 0, 0), (0, 0, l1, u1, -1), (2, 48, 0, 0, 0)] M post := by
  refine rw_145a (pl_F_k hK hF) h48 hl hT hce (fun f M1 r g1 g2 t => ?_)
  rw [pl_Ke hK 6 (by decide) (by decide), pl_Ke hK 7 (by decide) (by decide), pl_Ke hK 8 (by decide) (by decide), pl_Ke hK 1 (by decide) (by decide)] at r t ⊢
  exact k f M1 r (fun q j h1 h2 => (g1 q j h1 h2).trans (hK q j h1 h2)) g2 t
theorem rw_145b {b : Bool} {A : Nat → Nat} {h0 : g_H} {d : Nat} {M : xa_M} {post : Option xa_V → xa_M → Prop} {c e : Int} {l1 u1 : Int} {sl : Int} (hF : pl_F M) (h2 : 0 ≤ sl ∧ sl ≤ 50) (h48 : M 48 1 = c) {l : List Int} (hl : c = (l.length : Int)) (hT : rw_T (M 49) l) (hce : 0 ≤ c ∧ c < 14 ∧ e = c + 2) (k : ∀ (f : Int) (M1 : xa_M), rw_R1 (pl_of (M 9) (M 10) (M 5) (M 4) (M 7) (M 8) sl) (M 1 10) (pl_ct (pl_of (M 9) (M 10) (M 5) (M 4) (M 7) (M 8) sl) (M 1 10).toNat) f → pl_K M M1 → M1 48 1 = e → rw_T (M1 49) (l ++ [pl_ct (pl_of (M 9) (M 10) (M 5) (M 4) (M 7) (M 8) sl) (M 1 10).toNat] ++ [f]) → post (some (0, 0, 0, 16, pl_ct (pl_of (M 9) (M 10) (M 5) (M 4) (M 7) (M 8) sl) (M 1 10).toNat)) M1) : xa_C (xl_I b) A h0 (d + 4) 145 [(2, 1, 0, 0, 0), (0, 0, l1, u1, sl), (2, 48, 0, 0, 0)] M post := by
  refine xa_C_arg [(2, 1, 0, 0, 0), (0, 0, 0, 50, sl), (2, 48, 0, 0, 0)] (xa_svR (xa_svI (fun _ _ _ _ => by omega) (xa_svR (xa_sv0)))) ?_
  refine xa_meth (Q0 := (6, 1, false, 0, 0, 4)) (by decide +kernel) ⟨rfl, rfl⟩ (full := s_c_145) rfl rfl ?_
  intro hM hv Q hgo
  have hK0 : pl_K M M := fun _ _ _ _ => rfl
  have hm : 0 ≤ M 1 10 ∧ M 1 10 ≤ 16 := hF.2.1
  have loop : ∀ (n : Nat) (i nn f : Int), 0 ≤ i ∧ i ≤ M 1 10 → -1 ≤ f ∧ f ≤ 15 → nn = pl_ct (pl_of (M 9) (M 10) (M 5) (M 4) (M 7) (M 8) sl) i.toNat → rw_R1 (pl_of (M 9) (M 10) (M 5) (M 4) (M 7) (M 8) sl) (M 1 10) nn f → 16 - i < (n : Int) → Q 8 [(5, (0, 0, 0, 16, i)), (3, (0, 0, 0, 16, nn)), (4, (0, 0, (-1), 15, f)), (0, (2, 1, 0, 0, 0)), (1, (0, 0, 0, 50, sl)), (2, (2, 48, 0, 0, 0))] [] M := by
    intro n
    induction n with
    | zero => intro i nn f i1 f1 hb hR hms; omega
    | succ n ih =>
      intro i nn f i1 f1 hb hR hms
      have ei : ((i.toNat : Nat) : Int) = i := Int.toNat_of_nonneg i1.1
      have hr1 := pl_ct_r (P := (pl_of (M 9) (M 10) (M 5) (M 4) (M 7) (M 8) sl)) i.toNat
      rw [← hb] at hr1
      refine hgo.1 25 [8] 8 _ _ _ ?_
      refine And.intro ?_ ?_
      · intro (c1 : (M 1 10) ≤ i)
        show xa_C (xl_I b) A h0 _ 60 [(2, 48, 0, 0, 0), (1, 0, 0, 16, nn)] M _
        refine rw_60k (N := M) (c := c) (e := c + 1) (l := l) (by first | assumption | exact hK0) h48 hl hT (by omega) ?_
        intro M104 (i2 : pl_K M M104) (i3 : M104 48 1 = c + 1) (t2 : rw_T (M104 49) (l ++ [nn]))
        show xa_C (xl_I b) A h0 _ 60 [(2, 48, 0, 0, 0), (1, 0, (-1), 15, f)] M104 _
        refine rw_60k (N := M) (c := c + 1) (e := c + 2) (l := l ++ [nn]) (by first | assumption | exact hK0) i3 (rw_len hl) t2 (by omega) ?_
        intro M105 (i4 : pl_K M M105) (i5 : M105 48 1 = c + 2) (t3 : rw_T (M105 49) (l ++ [nn] ++ [f]))
        show post (some (0, 0, 0, 16, nn)) M105
        rw [show i = M 1 10 by omega] at hb
        subst hb
        exact k f _ hR i4 (i5.trans hce.2.2.symm) t3
      · intro (c1 : i < (M 1 10))
        show xa_C (xl_I b) A h0 _ 147 [(2, 1, 0, 0, 0), (0, 0, 0, 16, i), (0, 0, 0, 50, sl)] M _
        refine cx_147p (show 0 ≤ i ∧ i < M 1 10 by omega) h2 hF hm.2 ?_ ?_
        · intro (i6 : (pl_of (M 9) (M 10) (M 5) (M 4) (M 7) (M 8) sl) i)
          refine And.intro ?_ ?_
          · intro (c7 : ¬ nn = 0)
            show Q 8 [(5, (0, 0, 1, 17, i + 1)), (3, (0, 0, 1, 17, nn + 1)), (4, (0, 0, (-1), 15, f)), (0, (2, 1, 0, 0, 0)), (1, (0, 0, 0, 50, sl)), (2, (2, 48, 0, 0, 0))] [] M
            have en : nn + 1 = pl_ct (pl_of (M 9) (M 10) (M 5) (M 4) (M 7) (M 8) sl) (i + 1).toNat := by
              rw [show (i + 1).toNat = i.toNat + 1 by omega, pl_ct1 (show (pl_of (M 9) (M 10) (M 5) (M 4) (M 7) (M 8) sl) ((i.toNat : Nat) : Int) by rw [ei]; exact i6), ← hb]
            refine hgo.2.1 8 _ [(5, (0, 0, 0, 16, i + 1)), (3, (0, 0, 0, 16, nn + 1)), (4, (0, 0, (-1), 15, f)), (0, (2, 1, 0, 0, 0)), (1, (0, 0, 0, 50, sl)), (2, (2, 48, 0, 0, 0))] _ _ (xa_subI rfl rfl (fun _ _ _ _ => by omega) (xa_subI rfl rfl (fun _ _ _ _ => by omega) (xa_subI rfl rfl (fun _ _ _ _ => by omega) (xa_subR rfl (xa_subI rfl rfl (fun _ _ _ _ => by omega) (xa_subR rfl (xa_sub0))))))) ?_
            exact ih (i + 1) (nn + 1) f (by omega) (by omega) en (rw_R1k c7 (by omega) hR) (by omega)
          · intro (c7 : nn = 0)
            show Q 8 [(5, (0, 0, 1, 17, i + 1)), (3, (0, 0, 1, 17, nn + 1)), (4, (0, 0, 0, 16, i)), (0, (2, 1, 0, 0, 0)), (1, (0, 0, 0, 50, sl)), (2, (2, 48, 0, 0, 0))] [] M
            have en : nn + 1 = pl_ct (pl_of (M 9) (M 10) (M 5) (M 4) (M 7) (M 8) sl) (i + 1).toNat := by
              rw [show (i + 1).toNat = i.toNat + 1 by omega, pl_ct1 (show (pl_of (M 9) (M 10) (M 5) (M 4) (M 7) (M 8) sl) ((i.toNat : Nat) : Int) by rw [ei]; exact i6), ← hb]
            refine hgo.2.1 8 _ [(5, (0, 0, 0, 16, i + 1)), (3, (0, 0, 0, 16, nn + 1)), (4, (0, 0, (-1), 15, i)), (0, (2, 1, 0, 0, 0)), (1, (0, 0, 0, 50, sl)), (2, (2, 48, 0, 0, 0))] _ _ (xa_subI rfl rfl (fun _ _ _ _ => by omega) (xa_subI rfl rfl (fun _ _ _ _ => by omega) (xa_subI rfl rfl (fun _ _ _ _ => by omega) (xa_subR rfl (xa_subI rfl rfl (fun _ _ _ _ => by omega) (xa_subR rfl (xa_sub0))))))) ?_
            exact ih (i + 1) (nn + 1) i (by omega) (by omega) en (rw_R1y (by omega) (by omega) i6 (hb.symm.trans c7)) (by omega)
        · intro (i8 : ¬ (pl_of (M 9) (M 10) (M 5) (M 4) (M 7) (M 8) sl) i)
          show Q 8 [(5, (0, 0, 1, 17, i + 1)), (3, (0, 0, 0, 16, nn)), (4, (0, 0, (-1), 15, f)), (0, (2, 1, 0, 0, 0)), (1, (0, 0, 0, 50, sl)), (2, (2, 48, 0, 0, 0))] [] M
          have en : nn = pl_ct (pl_of (M 9) (M 10) (M 5) (M 4) (M 7) (M 8) sl) (i + 1).toNat := by
            rw [show (i + 1).toNat = i.toNat + 1 by omega, pl_ct0 (show ¬ (pl_of (M 9) (M 10) (M 5) (M 4) (M 7) (M 8) sl) ((i.toNat : Nat) : Int) by rw [ei]; exact i8), ← hb]
          refine hgo.2.1 8 _ [(5, (0, 0, 0, 16, i + 1)), (3, (0, 0, 0, 16, nn)), (4, (0, 0, (-1), 15, f)), (0, (2, 1, 0, 0, 0)), (1, (0, 0, 0, 50, sl)), (2, (2, 48, 0, 0, 0))] _ _ (xa_subI rfl rfl (fun _ _ _ _ => by omega) (xa_subI rfl rfl (fun _ _ _ _ => by omega) (xa_subI rfl rfl (fun _ _ _ _ => by omega) (xa_subR rfl (xa_subI rfl rfl (fun _ _ _ _ => by omega) (xa_subR rfl (xa_sub0))))))) ?_
          exact ih (i + 1) nn f (by omega) (by omega) en hR (by omega)
  refine hgo.1 11 [8] 0 _ _ _ ?_
  show Q 8 [(5, (0, 0, 0, 0, 0)), (4, (0, 0, (-1), (-1), (-1))), (3, (0, 0, 0, 0, 0)), (0, (2, 1, 0, 0, 0)), (1, (0, 0, 0, 50, sl)), (2, (2, 48, 0, 0, 0))] [] M
  refine hgo.2.1 8 _ [(5, (0, 0, 0, 16, 0)), (3, (0, 0, 0, 16, 0)), (4, (0, 0, (-1), 15, (-1))), (0, (2, 1, 0, 0, 0)), (1, (0, 0, 0, 50, sl)), (2, (2, 48, 0, 0, 0))] _ _ (xa_subI rfl rfl (fun _ _ _ _ => by omega) (xa_subI rfl rfl (fun _ _ _ _ => by omega) (xa_subI rfl rfl (fun _ _ _ _ => by omega) (xa_subR rfl (xa_subI rfl rfl (fun _ _ _ _ => by omega) (xa_subR rfl (xa_sub0))))))) ?_
  exact loop 17 0 0 (-1) (by omega) (by omega) rfl rw_R1_0 (by omega)
theorem rw_145bN {b : Bool} {A : Nat → Nat} {h0 : g_H} {d : Nat} {M : xa_M} {post : Option xa_V → xa_M → Prop} {c e : Int} {l1 u1 sl : Int} {N : xa_M} (hK : pl_K N M) (hF : pl_F N) (h2 : 0 ≤ sl ∧ sl ≤ 50) (h48 : M 48 1 = c) {l : List Int} (hl : c = (l.length : Int)) (hT : rw_T (M 49) l) (hce : 0 ≤ c ∧ c < 14 ∧ e = c + 2) (k : ∀ (f : Int) (M1 : xa_M), rw_R1 (pl_of (N 9) (N 10) (N 5) (N 4) (N 7) (N 8) sl) (N 1 10) (pl_ct (pl_of (N 9) (N 10) (N 5) (N 4) (N 7) (N 8) sl) (N 1 10).toNat) f → pl_K N M1 → M1 48 1 = e → rw_T (M1 49) (l ++ [pl_ct (pl_of (N 9) (N 10) (N 5) (N 4) (N 7) (N 8) sl) (N 1 10).toNat] ++ [f]) → post (some (0, 0, 0, 16, pl_ct (pl_of (N 9) (N 10) (N 5) (N 4) (N 7) (N 8) sl) (N 1 10).toNat)) M1) : xa_C (xl_I b) A h0 (d + 4) 145 [(2, 1, 0, 0, 0), (0, 0, l1, u1, sl), (2, 48, 0, 0, 0)] M post := by
  refine rw_145b (pl_F_k hK hF) h2 h48 hl hT hce (fun f M1 r g1 g2 t => ?_)
  rw [pl_Ke hK 9 (by decide) (by decide), pl_Ke hK 10 (by decide) (by decide), pl_Ke hK 5 (by decide) (by decide), pl_Ke hK 4 (by decide) (by decide), pl_Ke hK 7 (by decide) (by decide), pl_Ke hK 8 (by decide) (by decide), pl_Ke hK 1 (by decide) (by decide)] at r t ⊢
  exact k f M1 r (fun q j h1 h2 => (g1 q j h1 h2).trans (hK q j h1 h2)) g2 t
theorem rw_141p {b : Bool} {A : Nat → Nat} {h0 : g_H} {d : Nat} {M : xa_M} {post : Option xa_V → xa_M → Prop} {l2 u2 : Int} {sl : Int} (hF : pl_F M) (h2 : 0 ≤ sl ∧ sl ≤ 50) (h48 : M 48 1 = 0) (k : ∀ M1 : xa_M, pl_K M M1 → M1 48 1 = 8 → rw_s140 (M 9) (M 10) (M 5) (M 6) (M 4) (M 7) (M 8) (M 1 9) (M 1 10) sl (M1 49) → post (some (0, 0, 0, 1000, pl_all (M 9) (M 10) (M 5) (M 6) (M 4) (M 7) (M 8) (M 1 9) (M 1 10) sl)) M1) : xa_C (xl_I b) A h0 (d + 6) 141 [(2, 34, 0, 0, 0), (2, 1, 0, 0, 0), (0, 0, l2, u2, sl), (2, 48, 0, 0, 0)] M post := by
  refine xa_C_wk ?_
  refine xa_C_arg [(2, 34, 0, 0, 0), (2, 1, 0, 0, 0), (0, 0, 0, 50, sl), (2, 48, 0, 0, 0)] (xa_svR (xa_svR (xa_svI (fun _ _ _ _ => by omega) (xa_svR (xa_sv0))))) ?_
  refine xa_meth (Q0 := (11, 1, false, 0, 0, 4)) (by decide +kernel) ⟨rfl, rfl⟩ (full := s_c_141) rfl rfl ?_
  intro hM hv Q hgo
  have hK0 : pl_K M M := fun _ _ _ _ => rfl
  have hn : 0 ≤ M 1 9 ∧ M 1 9 ≤ 14 := hF.1
  have hm : 0 ≤ M 1 10 ∧ M 1 10 ≤ 16 := hF.2.1
  have s1 := fun k => pl_sm_r (f := pl_nv (pl_P1 (M 9) (M 10) (M 5) (M 6) (M 4) (M 7) (M 8) (M 1 10)) (M 1 9).toNat) (fun v => pl_nv_r (by omega) v) k
  have s2 := fun k => pl_sm_r (f := pl_nv (pl_P2 (M 5) (M 6)) (M 1 9).toNat) (fun v => pl_nv_r (by omega) v) k
  have loop : ∀ (n : Nat) (v cr st fv fw : Int), 0 ≤ v ∧ v ≤ M 1 9 → -1 ≤ fv ∧ fv ≤ 13 → -1 ≤ fw ∧ fw ≤ 13 → cr = pl_sm (pl_nv (pl_P1 (M 9) (M 10) (M 5) (M 6) (M 4) (M 7) (M 8) (M 1 10)) (M 1 9).toNat) v.toNat → st = pl_sm (pl_nv (pl_P2 (M 5) (M 6)) (M 1 9).toNat) v.toNat → rw_R2 (pl_P1 (M 9) (M 10) (M 5) (M 6) (M 4) (M 7) (M 8) (M 1 10)) (M 1 9) cr fv fw → 14 - v < (n : Int) → Q 15 [(8, (0, 0, 0, 14, v)), (4, (0, 0, 0, 196, cr)), (5, (0, 0, 0, 196, st)), (6, (0, 0, (-1), 13, fv)), (7, (0, 0, (-1), 13, fw)), (0, (2, 34, 0, 0, 0)), (1, (2, 1, 0, 0, 0)), (2, (0, 0, 0, 50, sl)), (3, (2, 48, 0, 0, 0))] [] M := by
    intro n
    induction n with
    | zero => intro v cr st fv fw i1 f1 f2 h4 h5 hR hms; omega
    | succ n ih =>
      intro v cr st fv fw i1 f1 f2 h4 h5 hR hms
      have ev : ((v.toNat : Nat) : Int) = v := Int.toNat_of_nonneg i1.1
      have v1 := s1 v.toNat
      have v2 := s2 v.toNat
      have inner : v < M 1 9 → ∀ (n : Nat) (w cr st fv fw : Int), v + 1 ≤ w ∧ w ≤ M 1 9 → -1 ≤ fv ∧ fv ≤ 13 → -1 ≤ fw ∧ fw ≤ 13 → cr = pl_sm (pl_nv (pl_P1 (M 9) (M 10) (M 5) (M 6) (M 4) (M 7) (M 8) (M 1 10)) (M 1 9).toNat) v.toNat + pl_ct (fun w => v < w ∧ (pl_P1 (M 9) (M 10) (M 5) (M 6) (M 4) (M 7) (M 8) (M 1 10)) v w) w.toNat → st = pl_sm (pl_nv (pl_P2 (M 5) (M 6)) (M 1 9).toNat) v.toNat + pl_ct (fun w => v < w ∧ (pl_P2 (M 5) (M 6)) v w) w.toNat → rw_R2 (pl_P1 (M 9) (M 10) (M 5) (M 6) (M 4) (M 7) (M 8) (M 1 10)) (M 1 9) cr fv fw → 14 - w < (n : Int) → Q 30 [(9, (0, 0, 1, 14, w)), (8, (0, 0, 0, 13, v)), (4, (0, 0, 0, 196, cr)), (5, (0, 0, 0, 196, st)), (6, (0, 0, (-1), 13, fv)), (7, (0, 0, (-1), 13, fw)), (0, (2, 34, 0, 0, 0)), (1, (2, 1, 0, 0, 0)), (2, (0, 0, 0, 50, sl)), (3, (2, 48, 0, 0, 0))] [] M := by
        intro hv1 n
        induction n with
        | zero => intro w cr st fv fw j1 f1 f2 h4 h5 hR hms; omega
        | succ n ih2 =>
          intro w cr st fv fw j1 f1 f2 h4 h5 hR hms
          have ew : ((w.toNat : Nat) : Int) = w := Int.toNat_of_nonneg (by omega)
          have w1 := pl_ct_r (P := (fun w => v < w ∧ (pl_P1 (M 9) (M 10) (M 5) (M 6) (M 4) (M 7) (M 8) (M 1 10)) v w)) w.toNat
          have w2 := pl_ct_r (P := (fun w => v < w ∧ (pl_P2 (M 5) (M 6)) v w)) w.toNat
          refine hgo.1 53 [15, 30] 30 _ _ _ ?_
          refine And.intro ?_ ?_
          · intro (c1 : (M 1 9) ≤ w)
            show Q 15 [(8, (0, 0, 1, 14, v + 1)), (9, (0, 0, 1, 14, w)), (4, (0, 0, 0, 196, cr)), (5, (0, 0, 0, 196, st)), (6, (0, 0, (-1), 13, fv)), (7, (0, 0, (-1), 13, fw)), (0, (2, 34, 0, 0, 0)), (1, (2, 1, 0, 0, 0)), (2, (0, 0, 0, 50, sl)), (3, (2, 48, 0, 0, 0))] [] M
            have en1 : cr = pl_sm (pl_nv (pl_P1 (M 9) (M 10) (M 5) (M 6) (M 4) (M 7) (M 8) (M 1 10)) (M 1 9).toNat) (v + 1).toNat := by
              rw [show (v + 1).toNat = v.toNat + 1 by omega, pl_sm1, ev, h4, show w = M 1 9 by omega]
              rfl
            have en2 : st = pl_sm (pl_nv (pl_P2 (M 5) (M 6)) (M 1 9).toNat) (v + 1).toNat := by
              rw [show (v + 1).toNat = v.toNat + 1 by omega, pl_sm1, ev, h5, show w = M 1 9 by omega]
              rfl
            refine hgo.2.1 15 _ [(8, (0, 0, 0, 14, v + 1)), (4, (0, 0, 0, 196, cr)), (5, (0, 0, 0, 196, st)), (6, (0, 0, (-1), 13, fv)), (7, (0, 0, (-1), 13, fw)), (0, (2, 34, 0, 0, 0)), (1, (2, 1, 0, 0, 0)), (2, (0, 0, 0, 50, sl)), (3, (2, 48, 0, 0, 0))] _ _ (xa_subI rfl rfl (fun _ _ _ _ => by omega) (xa_subI rfl rfl (fun _ _ _ _ => by omega) (xa_subI rfl rfl (fun _ _ _ _ => by omega) (xa_subI rfl rfl (fun _ _ _ _ => by omega) (xa_subI rfl rfl (fun _ _ _ _ => by omega) (xa_subR rfl (xa_subR rfl (xa_subI rfl rfl (fun _ _ _ _ => by omega) (xa_subR rfl (xa_sub0)))))))))) ?_
            exact ih (v + 1) cr st fv fw (by omega) (by omega) (by omega) en1 en2 hR (by omega)
          · intro (c1 : w < (M 1 9))
            show xa_C (xl_I b) A h0 _ 142 [(2, 1, 0, 0, 0), (0, 0, 0, 13, v)] M _
            refine cx_142_1 (show 0 ≤ v ∧ v < 14 by omega) ?_
            show xa_C (xl_I b) A h0 _ 142 [(2, 1, 0, 0, 0), (0, 0, 1, 14, w)] M _
            refine cx_142_1 (show 0 ≤ w ∧ w < 14 by omega) ?_
            refine And.intro ?_ ?_
            · intro (c2 : ¬ (M 6 v) = (M 6 w))
              show Q 30 [(9, (0, 0, 2, 15, w + 1)), (5, (0, 0, 0, 196, st + 0)), (10, (0, 0, 0, 0, 0)), (8, (0, 0, 0, 13, v)), (4, (0, 0, 0, 196, cr)), (6, (0, 0, (-1), 13, fv)), (7, (0, 0, (-1), 13, fw)), (0, (2, 34, 0, 0, 0)), (1, (2, 1, 0, 0, 0)), (2, (0, 0, 0, 50, sl)), (3, (2, 48, 0, 0, 0))] [] M
              have en1 : cr = pl_sm (pl_nv (pl_P1 (M 9) (M 10) (M 5) (M 6) (M 4) (M 7) (M 8) (M 1 10)) (M 1 9).toNat) v.toNat + pl_ct (fun w => v < w ∧ (pl_P1 (M 9) (M 10) (M 5) (M 6) (M 4) (M 7) (M 8) (M 1 10)) v w) (w + 1).toNat := by
                rw [show (w + 1).toNat = w.toNat + 1 by omega, pl_ct0 (show ¬ (fun w => v < w ∧ (pl_P1 (M 9) (M 10) (M 5) (M 6) (M 4) (M 7) (M 8) (M 1 10)) v w) ((w.toNat : Nat) : Int) by rw [ew]; exact (fun h => c2 h.2.1)), h4]
              have en2 : st + 0 = pl_sm (pl_nv (pl_P2 (M 5) (M 6)) (M 1 9).toNat) v.toNat + pl_ct (fun w => v < w ∧ (pl_P2 (M 5) (M 6)) v w) (w + 1).toNat := by
                rw [show (w + 1).toNat = w.toNat + 1 by omega, pl_ct0 (show ¬ (fun w => v < w ∧ (pl_P2 (M 5) (M 6)) v w) ((w.toNat : Nat) : Int) by rw [ew]; exact (fun h => c2 h.2.1)), h5]
                omega
              refine hgo.2.1 30 _ [(9, (0, 0, 1, 14, w + 1)), (8, (0, 0, 0, 13, v)), (4, (0, 0, 0, 196, cr)), (5, (0, 0, 0, 196, st + 0)), (6, (0, 0, (-1), 13, fv)), (7, (0, 0, (-1), 13, fw)), (0, (2, 34, 0, 0, 0)), (1, (2, 1, 0, 0, 0)), (2, (0, 0, 0, 50, sl)), (3, (2, 48, 0, 0, 0))] _ _ (xa_subI rfl rfl (fun _ _ _ _ => by omega) (xa_subI rfl rfl (fun _ _ _ _ => by omega) (xa_subI rfl rfl (fun _ _ _ _ => by omega) (xa_subI rfl rfl (fun _ _ _ _ => by omega) (xa_subI rfl rfl (fun _ _ _ _ => by omega) (xa_subI rfl rfl (fun _ _ _ _ => by omega) (xa_subR rfl (xa_subR rfl (xa_subI rfl rfl (fun _ _ _ _ => by omega) (xa_subR rfl (xa_sub0))))))))))) ?_
              exact ih2 (w + 1) cr (st + 0) fv fw (by omega) (by omega) (by omega) en1 en2 hR (by omega)
            · intro (c2 : (M 6 v) = (M 6 w))
              show xa_C (xl_I b) A h0 _ 143 [(2, 1, 0, 0, 0), (0, 0, 0, 13, v), (0, 0, 1, 14, w)] M _
              refine cx_143p (show 0 ≤ v ∧ v ≤ 13 by omega) (show 0 ≤ w ∧ w ≤ 13 by omega) hF ?_ ?_
              · intro (i3 : pl_cr (M 9) (M 10) (M 5) (M 4) (M 7) (M 8) (M 1 10) v w)
                refine And.intro ?_ ?_
                · intro (c4 : ¬ cr = 0)
                  refine And.intro ?_ ?_
                  · intro (c5 : ¬ cr = 0)
                    show xa_C (xl_I b) A h0 _ 37 [(2, 1, 0, 0, 0), (0, 0, 0, 13, v)] M _
                    refine cx_37_1 (show 0 ≤ v ∧ v < 14 by omega) ?_
                    show xa_C (xl_I b) A h0 _ 37 [(2, 1, 0, 0, 0), (0, 0, 1, 14, w)] M _
                    refine cx_37_1 (show 0 ≤ w ∧ w < 14 by omega) ?_
                    refine And.intro ?_ ?_
                    · intro (c6 : ¬ (M 5 v) = (M 5 w))
                      show Q 30 [(9, (0, 0, 2, 15, w + 1)), (5, (0, 0, 0, 196, st + 0)), (4, (0, 0, 1, 197, cr + 1)), (7, (0, 0, (-1), 13, fw)), (6, (0, 0, (-1), 13, fv)), (10, (0, 0, 1, 1, 1)), (8, (0, 0, 0, 13, v)), (0, (2, 34, 0, 0, 0)), (1, (2, 1, 0, 0, 0)), (2, (0, 0, 0, 50, sl)), (3, (2, 48, 0, 0, 0))] [] M
                      have en1 : cr + 1 = pl_sm (pl_nv (pl_P1 (M 9) (M 10) (M 5) (M 6) (M 4) (M 7) (M 8) (M 1 10)) (M 1 9).toNat) v.toNat + pl_ct (fun w => v < w ∧ (pl_P1 (M 9) (M 10) (M 5) (M 6) (M 4) (M 7) (M 8) (M 1 10)) v w) (w + 1).toNat := by
                        rw [show (w + 1).toNat = w.toNat + 1 by omega, pl_ct1 (show (fun w => v < w ∧ (pl_P1 (M 9) (M 10) (M 5) (M 6) (M 4) (M 7) (M 8) (M 1 10)) v w) ((w.toNat : Nat) : Int) by rw [ew]; exact ⟨by omega, c2, i3⟩), h4]
                        omega
                      have en2 : st + 0 = pl_sm (pl_nv (pl_P2 (M 5) (M 6)) (M 1 9).toNat) v.toNat + pl_ct (fun w => v < w ∧ (pl_P2 (M 5) (M 6)) v w) (w + 1).toNat := by
                        rw [show (w + 1).toNat = w.toNat + 1 by omega, pl_ct0 (show ¬ (fun w => v < w ∧ (pl_P2 (M 5) (M 6)) v w) ((w.toNat : Nat) : Int) by rw [ew]; exact (fun h => c6 h.2.2)), h5]
                        omega
                      refine hgo.2.1 30 _ [(9, (0, 0, 1, 14, w + 1)), (8, (0, 0, 0, 13, v)), (4, (0, 0, 0, 196, cr + 1)), (5, (0, 0, 0, 196, st + 0)), (6, (0, 0, (-1), 13, fv)), (7, (0, 0, (-1), 13, fw)), (0, (2, 34, 0, 0, 0)), (1, (2, 1, 0, 0, 0)), (2, (0, 0, 0, 50, sl)), (3, (2, 48, 0, 0, 0))] _ _ (xa_subI rfl rfl (fun _ _ _ _ => by omega) (xa_subI rfl rfl (fun _ _ _ _ => by omega) (xa_subI rfl rfl (fun _ _ _ _ => by omega) (xa_subI rfl rfl (fun _ _ _ _ => by omega) (xa_subI rfl rfl (fun _ _ _ _ => by omega) (xa_subI rfl rfl (fun _ _ _ _ => by omega) (xa_subR rfl (xa_subR rfl (xa_subI rfl rfl (fun _ _ _ _ => by omega) (xa_subR rfl (xa_sub0))))))))))) ?_
                      exact ih2 (w + 1) (cr + 1) (st + 0) fv fw (by omega) (by omega) (by omega) en1 en2 (rw_R2k c4 (by omega) hR) (by omega)
                    · intro (c6 : (M 5 v) = (M 5 w))
                      show Q 30 [(9, (0, 0, 2, 15, w + 1)), (5, (0, 0, 1, 197, st + 1)), (4, (0, 0, 1, 197, cr + 1)), (7, (0, 0, (-1), 13, fw)), (6, (0, 0, (-1), 13, fv)), (10, (0, 0, 1, 1, 1)), (8, (0, 0, 0, 13, v)), (0, (2, 34, 0, 0, 0)), (1, (2, 1, 0, 0, 0)), (2, (0, 0, 0, 50, sl)), (3, (2, 48, 0, 0, 0))] [] M
                      have en1 : cr + 1 = pl_sm (pl_nv (pl_P1 (M 9) (M 10) (M 5) (M 6) (M 4) (M 7) (M 8) (M 1 10)) (M 1 9).toNat) v.toNat + pl_ct (fun w => v < w ∧ (pl_P1 (M 9) (M 10) (M 5) (M 6) (M 4) (M 7) (M 8) (M 1 10)) v w) (w + 1).toNat := by
                        rw [show (w + 1).toNat = w.toNat + 1 by omega, pl_ct1 (show (fun w => v < w ∧ (pl_P1 (M 9) (M 10) (M 5) (M 6) (M 4) (M 7) (M 8) (M 1 10)) v w) ((w.toNat : Nat) : Int) by rw [ew]; exact ⟨by omega, c2, i3⟩), h4]
                        omega
                      have en2 : st + 1 = pl_sm (pl_nv (pl_P2 (M 5) (M 6)) (M 1 9).toNat) v.toNat + pl_ct (fun w => v < w ∧ (pl_P2 (M 5) (M 6)) v w) (w + 1).toNat := by
                        rw [show (w + 1).toNat = w.toNat + 1 by omega, pl_ct1 (show (fun w => v < w ∧ (pl_P2 (M 5) (M 6)) v w) ((w.toNat : Nat) : Int) by rw [ew]; exact ⟨by omega, c2, c6⟩), h5]
                        omega
                      refine hgo.2.1 30 _ [(9, (0, 0, 1, 14, w + 1)), (8, (0, 0, 0, 13, v)), (4, (0, 0, 0, 196, cr + 1)), (5, (0, 0, 0, 196, st + 1)), (6, (0, 0, (-1), 13, fv)), (7, (0, 0, (-1), 13, fw)), (0, (2, 34, 0, 0, 0)), (1, (2, 1, 0, 0, 0)), (2, (0, 0, 0, 50, sl)), (3, (2, 48, 0, 0, 0))] _ _ (xa_subI rfl rfl (fun _ _ _ _ => by omega) (xa_subI rfl rfl (fun _ _ _ _ => by omega) (xa_subI rfl rfl (fun _ _ _ _ => by omega) (xa_subI rfl rfl (fun _ _ _ _ => by omega) (xa_subI rfl rfl (fun _ _ _ _ => by omega) (xa_subI rfl rfl (fun _ _ _ _ => by omega) (xa_subR rfl (xa_subR rfl (xa_subI rfl rfl (fun _ _ _ _ => by omega) (xa_subR rfl (xa_sub0))))))))))) ?_
                      exact ih2 (w + 1) (cr + 1) (st + 1) fv fw (by omega) (by omega) (by omega) en1 en2 (rw_R2k c4 (by omega) hR) (by omega)
                  · intro (c5 : cr = 0)
                    show xa_C (xl_I b) A h0 _ 37 [(2, 1, 0, 0, 0), (0, 0, 0, 13, v)] M _
                    refine cx_37_1 (show 0 ≤ v ∧ v < 14 by omega) ?_
                    show xa_C (xl_I b) A h0 _ 37 [(2, 1, 0, 0, 0), (0, 0, 1, 14, w)] M _
                    refine cx_37_1 (show 0 ≤ w ∧ w < 14 by omega) ?_
                    refine And.intro ?_ ?_
                    · intro (c7 : ¬ (M 5 v) = (M 5 w))
                      show Q 30 [(9, (0, 0, 2, 15, w + 1)), (5, (0, 0, 0, 196, st + 0)), (4, (0, 0, 1, 197, cr + 1)), (7, (0, 0, 1, 14, w)), (6, (0, 0, (-1), 13, fv)), (10, (0, 0, 1, 1, 1)), (8, (0, 0, 0, 13, v)), (0, (2, 34, 0, 0, 0)), (1, (2, 1, 0, 0, 0)), (2, (0, 0, 0, 50, sl)), (3, (2, 48, 0, 0, 0))] [] M
                      have en1 : cr + 1 = pl_sm (pl_nv (pl_P1 (M 9) (M 10) (M 5) (M 6) (M 4) (M 7) (M 8) (M 1 10)) (M 1 9).toNat) v.toNat + pl_ct (fun w => v < w ∧ (pl_P1 (M 9) (M 10) (M 5) (M 6) (M 4) (M 7) (M 8) (M 1 10)) v w) (w + 1).toNat := by
                        rw [show (w + 1).toNat = w.toNat + 1 by omega, pl_ct1 (show (fun w => v < w ∧ (pl_P1 (M 9) (M 10) (M 5) (M 6) (M 4) (M 7) (M 8) (M 1 10)) v w) ((w.toNat : Nat) : Int) by rw [ew]; exact ⟨by omega, c2, i3⟩), h4]
                        omega
                      have en2 : st + 0 = pl_sm (pl_nv (pl_P2 (M 5) (M 6)) (M 1 9).toNat) v.toNat + pl_ct (fun w => v < w ∧ (pl_P2 (M 5) (M 6)) v w) (w + 1).toNat := by
                        rw [show (w + 1).toNat = w.toNat + 1 by omega, pl_ct0 (show ¬ (fun w => v < w ∧ (pl_P2 (M 5) (M 6)) v w) ((w.toNat : Nat) : Int) by rw [ew]; exact (fun h => c7 h.2.2)), h5]
                        omega
                      refine hgo.2.1 30 _ [(9, (0, 0, 1, 14, w + 1)), (8, (0, 0, 0, 13, v)), (4, (0, 0, 0, 196, cr + 1)), (5, (0, 0, 0, 196, st + 0)), (6, (0, 0, (-1), 13, fv)), (7, (0, 0, (-1), 13, w)), (0, (2, 34, 0, 0, 0)), (1, (2, 1, 0, 0, 0)), (2, (0, 0, 0, 50, sl)), (3, (2, 48, 0, 0, 0))] _ _ (xa_subI rfl rfl (fun _ _ _ _ => by omega) (xa_subI rfl rfl (fun _ _ _ _ => by omega) (xa_subI rfl rfl (fun _ _ _ _ => by omega) (xa_subI rfl rfl (fun _ _ _ _ => by omega) (xa_subI rfl rfl (fun _ _ _ _ => by omega) (xa_subI rfl rfl (fun _ _ _ _ => by omega) (xa_subR rfl (xa_subR rfl (xa_subI rfl rfl (fun _ _ _ _ => by omega) (xa_subR rfl (xa_sub0))))))))))) ?_
                      exact ih2 (w + 1) (cr + 1) (st + 0) fv w (by omega) (by omega) (by omega) en1 en2 (by exfalso; omega) (by omega)
                    · intro (c7 : (M 5 v) = (M 5 w))
                      show Q 30 [(9, (0, 0, 2, 15, w + 1)), (5, (0, 0, 1, 197, st + 1)), (4, (0, 0, 1, 197, cr + 1)), (7, (0, 0, 1, 14, w)), (6, (0, 0, (-1), 13, fv)), (10, (0, 0, 1, 1, 1)), (8, (0, 0, 0, 13, v)), (0, (2, 34, 0, 0, 0)), (1, (2, 1, 0, 0, 0)), (2, (0, 0, 0, 50, sl)), (3, (2, 48, 0, 0, 0))] [] M
                      have en1 : cr + 1 = pl_sm (pl_nv (pl_P1 (M 9) (M 10) (M 5) (M 6) (M 4) (M 7) (M 8) (M 1 10)) (M 1 9).toNat) v.toNat + pl_ct (fun w => v < w ∧ (pl_P1 (M 9) (M 10) (M 5) (M 6) (M 4) (M 7) (M 8) (M 1 10)) v w) (w + 1).toNat := by
                        rw [show (w + 1).toNat = w.toNat + 1 by omega, pl_ct1 (show (fun w => v < w ∧ (pl_P1 (M 9) (M 10) (M 5) (M 6) (M 4) (M 7) (M 8) (M 1 10)) v w) ((w.toNat : Nat) : Int) by rw [ew]; exact ⟨by omega, c2, i3⟩), h4]
                        omega
                      have en2 : st + 1 = pl_sm (pl_nv (pl_P2 (M 5) (M 6)) (M 1 9).toNat) v.toNat + pl_ct (fun w => v < w ∧ (pl_P2 (M 5) (M 6)) v w) (w + 1).toNat := by
                        rw [show (w + 1).toNat = w.toNat + 1 by omega, pl_ct1 (show (fun w => v < w ∧ (pl_P2 (M 5) (M 6)) v w) ((w.toNat : Nat) : Int) by rw [ew]; exact ⟨by omega, c2, c7⟩), h5]
                        omega
                      refine hgo.2.1 30 _ [(9, (0, 0, 1, 14, w + 1)), (8, (0, 0, 0, 13, v)), (4, (0, 0, 0, 196, cr + 1)), (5, (0, 0, 0, 196, st + 1)), (6, (0, 0, (-1), 13, fv)), (7, (0, 0, (-1), 13, w)), (0, (2, 34, 0, 0, 0)), (1, (2, 1, 0, 0, 0)), (2, (0, 0, 0, 50, sl)), (3, (2, 48, 0, 0, 0))] _ _ (xa_subI rfl rfl (fun _ _ _ _ => by omega) (xa_subI rfl rfl (fun _ _ _ _ => by omega) (xa_subI rfl rfl (fun _ _ _ _ => by omega) (xa_subI rfl rfl (fun _ _ _ _ => by omega) (xa_subI rfl rfl (fun _ _ _ _ => by omega) (xa_subI rfl rfl (fun _ _ _ _ => by omega) (xa_subR rfl (xa_subR rfl (xa_subI rfl rfl (fun _ _ _ _ => by omega) (xa_subR rfl (xa_sub0))))))))))) ?_
                      exact ih2 (w + 1) (cr + 1) (st + 1) fv w (by omega) (by omega) (by omega) en1 en2 (by exfalso; omega) (by omega)
                · intro (c4 : cr = 0)
                  refine And.intro ?_ ?_
                  · intro (c8 : ¬ cr = 0)
                    show xa_C (xl_I b) A h0 _ 37 [(2, 1, 0, 0, 0), (0, 0, 0, 13, v)] M _
                    refine cx_37_1 (show 0 ≤ v ∧ v < 14 by omega) ?_
                    show xa_C (xl_I b) A h0 _ 37 [(2, 1, 0, 0, 0), (0, 0, 1, 14, w)] M _
                    refine cx_37_1 (show 0 ≤ w ∧ w < 14 by omega) ?_
                    refine And.intro ?_ ?_
                    · intro (c9 : ¬ (M 5 v) = (M 5 w))
                      show Q 30 [(9, (0, 0, 2, 15, w + 1)), (5, (0, 0, 0, 196, st + 0)), (4, (0, 0, 1, 197, cr + 1)), (7, (0, 0, (-1), 13, fw)), (6, (0, 0, 0, 13, v)), (10, (0, 0, 1, 1, 1)), (8, (0, 0, 0, 13, v)), (0, (2, 34, 0, 0, 0)), (1, (2, 1, 0, 0, 0)), (2, (0, 0, 0, 50, sl)), (3, (2, 48, 0, 0, 0))] [] M
                      have en1 : cr + 1 = pl_sm (pl_nv (pl_P1 (M 9) (M 10) (M 5) (M 6) (M 4) (M 7) (M 8) (M 1 10)) (M 1 9).toNat) v.toNat + pl_ct (fun w => v < w ∧ (pl_P1 (M 9) (M 10) (M 5) (M 6) (M 4) (M 7) (M 8) (M 1 10)) v w) (w + 1).toNat := by
                        rw [show (w + 1).toNat = w.toNat + 1 by omega, pl_ct1 (show (fun w => v < w ∧ (pl_P1 (M 9) (M 10) (M 5) (M 6) (M 4) (M 7) (M 8) (M 1 10)) v w) ((w.toNat : Nat) : Int) by rw [ew]; exact ⟨by omega, c2, i3⟩), h4]
                        omega
                      have en2 : st + 0 = pl_sm (pl_nv (pl_P2 (M 5) (M 6)) (M 1 9).toNat) v.toNat + pl_ct (fun w => v < w ∧ (pl_P2 (M 5) (M 6)) v w) (w + 1).toNat := by
                        rw [show (w + 1).toNat = w.toNat + 1 by omega, pl_ct0 (show ¬ (fun w => v < w ∧ (pl_P2 (M 5) (M 6)) v w) ((w.toNat : Nat) : Int) by rw [ew]; exact (fun h => c9 h.2.2)), h5]
                        omega
                      refine hgo.2.1 30 _ [(9, (0, 0, 1, 14, w + 1)), (8, (0, 0, 0, 13, v)), (4, (0, 0, 0, 196, cr + 1)), (5, (0, 0, 0, 196, st + 0)), (6, (0, 0, (-1), 13, v)), (7, (0, 0, (-1), 13, fw)), (0, (2, 34, 0, 0, 0)), (1, (2, 1, 0, 0, 0)), (2, (0, 0, 0, 50, sl)), (3, (2, 48, 0, 0, 0))] _ _ (xa_subI rfl rfl (fun _ _ _ _ => by omega) (xa_subI rfl rfl (fun _ _ _ _ => by omega) (xa_subI rfl rfl (fun _ _ _ _ => by omega) (xa_subI rfl rfl (fun _ _ _ _ => by omega) (xa_subI rfl rfl (fun _ _ _ _ => by omega) (xa_subI rfl rfl (fun _ _ _ _ => by omega) (xa_subR rfl (xa_subR rfl (xa_subI rfl rfl (fun _ _ _ _ => by omega) (xa_subR rfl (xa_sub0))))))))))) ?_
                      exact ih2 (w + 1) (cr + 1) (st + 0) v fw (by omega) (by omega) (by omega) en1 en2 (by exfalso; omega) (by omega)
                    · intro (c9 : (M 5 v) = (M 5 w))
                      show Q 30 [(9, (0, 0, 2, 15, w + 1)), (5, (0, 0, 1, 197, st + 1)), (4, (0, 0, 1, 197, cr + 1)), (7, (0, 0, (-1), 13, fw)), (6, (0, 0, 0, 13, v)), (10, (0, 0, 1, 1, 1)), (8, (0, 0, 0, 13, v)), (0, (2, 34, 0, 0, 0)), (1, (2, 1, 0, 0, 0)), (2, (0, 0, 0, 50, sl)), (3, (2, 48, 0, 0, 0))] [] M
                      have en1 : cr + 1 = pl_sm (pl_nv (pl_P1 (M 9) (M 10) (M 5) (M 6) (M 4) (M 7) (M 8) (M 1 10)) (M 1 9).toNat) v.toNat + pl_ct (fun w => v < w ∧ (pl_P1 (M 9) (M 10) (M 5) (M 6) (M 4) (M 7) (M 8) (M 1 10)) v w) (w + 1).toNat := by
                        rw [show (w + 1).toNat = w.toNat + 1 by omega, pl_ct1 (show (fun w => v < w ∧ (pl_P1 (M 9) (M 10) (M 5) (M 6) (M 4) (M 7) (M 8) (M 1 10)) v w) ((w.toNat : Nat) : Int) by rw [ew]; exact ⟨by omega, c2, i3⟩), h4]
                        omega
                      have en2 : st + 1 = pl_sm (pl_nv (pl_P2 (M 5) (M 6)) (M 1 9).toNat) v.toNat + pl_ct (fun w => v < w ∧ (pl_P2 (M 5) (M 6)) v w) (w + 1).toNat := by
                        rw [show (w + 1).toNat = w.toNat + 1 by omega, pl_ct1 (show (fun w => v < w ∧ (pl_P2 (M 5) (M 6)) v w) ((w.toNat : Nat) : Int) by rw [ew]; exact ⟨by omega, c2, c9⟩), h5]
                        omega
                      refine hgo.2.1 30 _ [(9, (0, 0, 1, 14, w + 1)), (8, (0, 0, 0, 13, v)), (4, (0, 0, 0, 196, cr + 1)), (5, (0, 0, 0, 196, st + 1)), (6, (0, 0, (-1), 13, v)), (7, (0, 0, (-1), 13, fw)), (0, (2, 34, 0, 0, 0)), (1, (2, 1, 0, 0, 0)), (2, (0, 0, 0, 50, sl)), (3, (2, 48, 0, 0, 0))] _ _ (xa_subI rfl rfl (fun _ _ _ _ => by omega) (xa_subI rfl rfl (fun _ _ _ _ => by omega) (xa_subI rfl rfl (fun _ _ _ _ => by omega) (xa_subI rfl rfl (fun _ _ _ _ => by omega) (xa_subI rfl rfl (fun _ _ _ _ => by omega) (xa_subI rfl rfl (fun _ _ _ _ => by omega) (xa_subR rfl (xa_subR rfl (xa_subI rfl rfl (fun _ _ _ _ => by omega) (xa_subR rfl (xa_sub0))))))))))) ?_
                      exact ih2 (w + 1) (cr + 1) (st + 1) v fw (by omega) (by omega) (by omega) en1 en2 (by exfalso; omega) (by omega)
                  · intro (c8 : cr = 0)
                    show xa_C (xl_I b) A h0 _ 37 [(2, 1, 0, 0, 0), (0, 0, 0, 13, v)] M _
                    refine cx_37_1 (show 0 ≤ v ∧ v < 14 by omega) ?_
                    show xa_C (xl_I b) A h0 _ 37 [(2, 1, 0, 0, 0), (0, 0, 1, 14, w)] M _
                    refine cx_37_1 (show 0 ≤ w ∧ w < 14 by omega) ?_
                    refine And.intro ?_ ?_
                    · intro (c10 : ¬ (M 5 v) = (M 5 w))
                      show Q 30 [(9, (0, 0, 2, 15, w + 1)), (5, (0, 0, 0, 196, st + 0)), (4, (0, 0, 1, 197, cr + 1)), (7, (0, 0, 1, 14, w)), (6, (0, 0, 0, 13, v)), (10, (0, 0, 1, 1, 1)), (8, (0, 0, 0, 13, v)), (0, (2, 34, 0, 0, 0)), (1, (2, 1, 0, 0, 0)), (2, (0, 0, 0, 50, sl)), (3, (2, 48, 0, 0, 0))] [] M
                      have en1 : cr + 1 = pl_sm (pl_nv (pl_P1 (M 9) (M 10) (M 5) (M 6) (M 4) (M 7) (M 8) (M 1 10)) (M 1 9).toNat) v.toNat + pl_ct (fun w => v < w ∧ (pl_P1 (M 9) (M 10) (M 5) (M 6) (M 4) (M 7) (M 8) (M 1 10)) v w) (w + 1).toNat := by
                        rw [show (w + 1).toNat = w.toNat + 1 by omega, pl_ct1 (show (fun w => v < w ∧ (pl_P1 (M 9) (M 10) (M 5) (M 6) (M 4) (M 7) (M 8) (M 1 10)) v w) ((w.toNat : Nat) : Int) by rw [ew]; exact ⟨by omega, c2, i3⟩), h4]
                        omega
                      have en2 : st + 0 = pl_sm (pl_nv (pl_P2 (M 5) (M 6)) (M 1 9).toNat) v.toNat + pl_ct (fun w => v < w ∧ (pl_P2 (M 5) (M 6)) v w) (w + 1).toNat := by
                        rw [show (w + 1).toNat = w.toNat + 1 by omega, pl_ct0 (show ¬ (fun w => v < w ∧ (pl_P2 (M 5) (M 6)) v w) ((w.toNat : Nat) : Int) by rw [ew]; exact (fun h => c10 h.2.2)), h5]
                        omega
                      refine hgo.2.1 30 _ [(9, (0, 0, 1, 14, w + 1)), (8, (0, 0, 0, 13, v)), (4, (0, 0, 0, 196, cr + 1)), (5, (0, 0, 0, 196, st + 0)), (6, (0, 0, (-1), 13, v)), (7, (0, 0, (-1), 13, w)), (0, (2, 34, 0, 0, 0)), (1, (2, 1, 0, 0, 0)), (2, (0, 0, 0, 50, sl)), (3, (2, 48, 0, 0, 0))] _ _ (xa_subI rfl rfl (fun _ _ _ _ => by omega) (xa_subI rfl rfl (fun _ _ _ _ => by omega) (xa_subI rfl rfl (fun _ _ _ _ => by omega) (xa_subI rfl rfl (fun _ _ _ _ => by omega) (xa_subI rfl rfl (fun _ _ _ _ => by omega) (xa_subI rfl rfl (fun _ _ _ _ => by omega) (xa_subR rfl (xa_subR rfl (xa_subI rfl rfl (fun _ _ _ _ => by omega) (xa_subR rfl (xa_sub0))))))))))) ?_
                      exact ih2 (w + 1) (cr + 1) (st + 0) v w (by omega) (by omega) (by omega) en1 en2 (rw_R2y (by omega) (by omega) ⟨by omega, c2, i3⟩ (h4.symm.trans c4)) (by omega)
                    · intro (c10 : (M 5 v) = (M 5 w))
                      show Q 30 [(9, (0, 0, 2, 15, w + 1)), (5, (0, 0, 1, 197, st + 1)), (4, (0, 0, 1, 197, cr + 1)), (7, (0, 0, 1, 14, w)), (6, (0, 0, 0, 13, v)), (10, (0, 0, 1, 1, 1)), (8, (0, 0, 0, 13, v)), (0, (2, 34, 0, 0, 0)), (1, (2, 1, 0, 0, 0)), (2, (0, 0, 0, 50, sl)), (3, (2, 48, 0, 0, 0))] [] M
                      have en1 : cr + 1 = pl_sm (pl_nv (pl_P1 (M 9) (M 10) (M 5) (M 6) (M 4) (M 7) (M 8) (M 1 10)) (M 1 9).toNat) v.toNat + pl_ct (fun w => v < w ∧ (pl_P1 (M 9) (M 10) (M 5) (M 6) (M 4) (M 7) (M 8) (M 1 10)) v w) (w + 1).toNat := by
                        rw [show (w + 1).toNat = w.toNat + 1 by omega, pl_ct1 (show (fun w => v < w ∧ (pl_P1 (M 9) (M 10) (M 5) (M 6) (M 4) (M 7) (M 8) (M 1 10)) v w) ((w.toNat : Nat) : Int) by rw [ew]; exact ⟨by omega, c2, i3⟩), h4]
                        omega
                      have en2 : st + 1 = pl_sm (pl_nv (pl_P2 (M 5) (M 6)) (M 1 9).toNat) v.toNat + pl_ct (fun w => v < w ∧ (pl_P2 (M 5) (M 6)) v w) (w + 1).toNat := by
                        rw [show (w + 1).toNat = w.toNat + 1 by omega, pl_ct1 (show (fun w => v < w ∧ (pl_P2 (M 5) (M 6)) v w) ((w.toNat : Nat) : Int) by rw [ew]; exact ⟨by omega, c2, c10⟩), h5]
                        omega
                      refine hgo.2.1 30 _ [(9, (0, 0, 1, 14, w + 1)), (8, (0, 0, 0, 13, v)), (4, (0, 0, 0, 196, cr + 1)), (5, (0, 0, 0, 196, st + 1)), (6, (0, 0, (-1), 13, v)), (7, (0, 0, (-1), 13, w)), (0, (2, 34, 0, 0, 0)), (1, (2, 1, 0, 0, 0)), (2, (0, 0, 0, 50, sl)), (3, (2, 48, 0, 0, 0))] _ _ (xa_subI rfl rfl (fun _ _ _ _ => by omega) (xa_subI rfl rfl (fun _ _ _ _ => by omega) (xa_subI rfl rfl (fun _ _ _ _ => by omega) (xa_subI rfl rfl (fun _ _ _ _ => by omega) (xa_subI rfl rfl (fun _ _ _ _ => by omega) (xa_subI rfl rfl (fun _ _ _ _ => by omega) (xa_subR rfl (xa_subR rfl (xa_subI rfl rfl (fun _ _ _ _ => by omega) (xa_subR rfl (xa_sub0))))))))))) ?_
                      exact ih2 (w + 1) (cr + 1) (st + 1) v w (by omega) (by omega) (by omega) en1 en2 (rw_R2y (by omega) (by omega) ⟨by omega, c2, i3⟩ (h4.symm.trans c4)) (by omega)
              · intro (i11 : ¬ pl_cr (M 9) (M 10) (M 5) (M 4) (M 7) (M 8) (M 1 10) v w)
                show xa_C (xl_I b) A h0 _ 37 [(2, 1, 0, 0, 0), (0, 0, 0, 13, v)] M _
                refine cx_37_1 (show 0 ≤ v ∧ v < 14 by omega) ?_
                show xa_C (xl_I b) A h0 _ 37 [(2, 1, 0, 0, 0), (0, 0, 1, 14, w)] M _
                refine cx_37_1 (show 0 ≤ w ∧ w < 14 by omega) ?_
                refine And.intro ?_ ?_
                · intro (c12 : ¬ (M 5 v) = (M 5 w))
                  show Q 30 [(9, (0, 0, 2, 15, w + 1)), (5, (0, 0, 0, 196, st + 0)), (10, (0, 0, 1, 1, 1)), (8, (0, 0, 0, 13, v)), (4, (0, 0, 0, 196, cr)), (6, (0, 0, (-1), 13, fv)), (7, (0, 0, (-1), 13, fw)), (0, (2, 34, 0, 0, 0)), (1, (2, 1, 0, 0, 0)), (2, (0, 0, 0, 50, sl)), (3, (2, 48, 0, 0, 0))] [] M
                  have en1 : cr = pl_sm (pl_nv (pl_P1 (M 9) (M 10) (M 5) (M 6) (M 4) (M 7) (M 8) (M 1 10)) (M 1 9).toNat) v.toNat + pl_ct (fun w => v < w ∧ (pl_P1 (M 9) (M 10) (M 5) (M 6) (M 4) (M 7) (M 8) (M 1 10)) v w) (w + 1).toNat := by
                    rw [show (w + 1).toNat = w.toNat + 1 by omega, pl_ct0 (show ¬ (fun w => v < w ∧ (pl_P1 (M 9) (M 10) (M 5) (M 6) (M 4) (M 7) (M 8) (M 1 10)) v w) ((w.toNat : Nat) : Int) by rw [ew]; exact (fun h => i11 h.2.2)), h4]
                  have en2 : st + 0 = pl_sm (pl_nv (pl_P2 (M 5) (M 6)) (M 1 9).toNat) v.toNat + pl_ct (fun w => v < w ∧ (pl_P2 (M 5) (M 6)) v w) (w + 1).toNat := by
                    rw [show (w + 1).toNat = w.toNat + 1 by omega, pl_ct0 (show ¬ (fun w => v < w ∧ (pl_P2 (M 5) (M 6)) v w) ((w.toNat : Nat) : Int) by rw [ew]; exact (fun h => c12 h.2.2)), h5]
                    omega
                  refine hgo.2.1 30 _ [(9, (0, 0, 1, 14, w + 1)), (8, (0, 0, 0, 13, v)), (4, (0, 0, 0, 196, cr)), (5, (0, 0, 0, 196, st + 0)), (6, (0, 0, (-1), 13, fv)), (7, (0, 0, (-1), 13, fw)), (0, (2, 34, 0, 0, 0)), (1, (2, 1, 0, 0, 0)), (2, (0, 0, 0, 50, sl)), (3, (2, 48, 0, 0, 0))] _ _ (xa_subI rfl rfl (fun _ _ _ _ => by omega) (xa_subI rfl rfl (fun _ _ _ _ => by omega) (xa_subI rfl rfl (fun _ _ _ _ => by omega) (xa_subI rfl rfl (fun _ _ _ _ => by omega) (xa_subI rfl rfl (fun _ _ _ _ => by omega) (xa_subI rfl rfl (fun _ _ _ _ => by omega) (xa_subR rfl (xa_subR rfl (xa_subI rfl rfl (fun _ _ _ _ => by omega) (xa_subR rfl (xa_sub0))))))))))) ?_
                  exact ih2 (w + 1) cr (st + 0) fv fw (by omega) (by omega) (by omega) en1 en2 hR (by omega)
                · intro (c12 : (M 5 v) = (M 5 w))
                  show Q 30 [(9, (0, 0, 2, 15, w + 1)), (5, (0, 0, 1, 197, st + 1)), (10, (0, 0, 1, 1, 1)), (8, (0, 0, 0, 13, v)), (4, (0, 0, 0, 196, cr)), (6, (0, 0, (-1), 13, fv)), (7, (0, 0, (-1), 13, fw)), (0, (2, 34, 0, 0, 0)), (1, (2, 1, 0, 0, 0)), (2, (0, 0, 0, 50, sl)), (3, (2, 48, 0, 0, 0))] [] M
                  have en1 : cr = pl_sm (pl_nv (pl_P1 (M 9) (M 10) (M 5) (M 6) (M 4) (M 7) (M 8) (M 1 10)) (M 1 9).toNat) v.toNat + pl_ct (fun w => v < w ∧ (pl_P1 (M 9) (M 10) (M 5) (M 6) (M 4) (M 7) (M 8) (M 1 10)) v w) (w + 1).toNat := by
                    rw [show (w + 1).toNat = w.toNat + 1 by omega, pl_ct0 (show ¬ (fun w => v < w ∧ (pl_P1 (M 9) (M 10) (M 5) (M 6) (M 4) (M 7) (M 8) (M 1 10)) v w) ((w.toNat : Nat) : Int) by rw [ew]; exact (fun h => i11 h.2.2)), h4]
                  have en2 : st + 1 = pl_sm (pl_nv (pl_P2 (M 5) (M 6)) (M 1 9).toNat) v.toNat + pl_ct (fun w => v < w ∧ (pl_P2 (M 5) (M 6)) v w) (w + 1).toNat := by
                    rw [show (w + 1).toNat = w.toNat + 1 by omega, pl_ct1 (show (fun w => v < w ∧ (pl_P2 (M 5) (M 6)) v w) ((w.toNat : Nat) : Int) by rw [ew]; exact ⟨by omega, c2, c12⟩), h5]
                    omega
                  refine hgo.2.1 30 _ [(9, (0, 0, 1, 14, w + 1)), (8, (0, 0, 0, 13, v)), (4, (0, 0, 0, 196, cr)), (5, (0, 0, 0, 196, st + 1)), (6, (0, 0, (-1), 13, fv)), (7, (0, 0, (-1), 13, fw)), (0, (2, 34, 0, 0, 0)), (1, (2, 1, 0, 0, 0)), (2, (0, 0, 0, 50, sl)), (3, (2, 48, 0, 0, 0))] _ _ (xa_subI rfl rfl (fun _ _ _ _ => by omega) (xa_subI rfl rfl (fun _ _ _ _ => by omega) (xa_subI rfl rfl (fun _ _ _ _ => by omega) (xa_subI rfl rfl (fun _ _ _ _ => by omega) (xa_subI rfl rfl (fun _ _ _ _ => by omega) (xa_subI rfl rfl (fun _ _ _ _ => by omega) (xa_subR rfl (xa_subR rfl (xa_subI rfl rfl (fun _ _ _ _ => by omega) (xa_subR rfl (xa_sub0))))))))))) ?_
                  exact ih2 (w + 1) cr (st + 1) fv fw (by omega) (by omega) (by omega) en1 en2 hR (by omega)
      refine hgo.1 36 [15, 30] 15 _ _ _ ?_
      refine And.intro ?_ ?_
      · intro (c1 : (M 1 9) ≤ v)
        show xa_C (xl_I b) A h0 _ 60 [(2, 48, 0, 0, 0), (1, 0, 0, 196, cr)] M _
        refine rw_60k (N := M) (c := 0) (e := 0 + 1) (l := []) (by first | assumption | exact hK0) h48 rfl rw_T0 (by omega) ?_
        intro M106 (i2 : pl_K M M106) (i3 : M106 48 1 = 0 + 1) (tM106 : rw_T (M106 49) [cr])
        show xa_C (xl_I b) A h0 _ 60 [(2, 48, 0, 0, 0), (1, 0, (-1), 13, fv)] M106 _
        refine rw_60k (N := M) (c := 0 + 1) (e := 0 + 2) (l := [cr]) (by first | assumption | exact hK0) i3 rfl tM106 (by omega) ?_
        intro M107 (i4 : pl_K M M107) (i5 : M107 48 1 = 0 + 2) (tM107 : rw_T (M107 49) [cr, fv])
        show xa_C (xl_I b) A h0 _ 60 [(2, 48, 0, 0, 0), (1, 0, (-1), 13, fw)] M107 _
        refine rw_60k (N := M) (c := 0 + 2) (e := 0 + 3) (l := [cr, fv]) (by first | assumption | exact hK0) i5 rfl tM107 (by omega) ?_
        intro M108 (i6 : pl_K M M108) (i7 : M108 48 1 = 0 + 3) (tM108 : rw_T (M108 49) [cr, fv, fw])
        show xa_C (xl_I b) A h0 _ 145 [(2, 1, 0, 0, 0), (0, 0, (-1), (-1), (-1)), (2, 48, 0, 0, 0)] M108 _
        refine rw_145aN (N := M) (c := 0 + 3) (e := 0 + 5) (l := [cr, fv, fw]) (by first | assumption | exact hK0) hF i7 rfl tM108 (by omega) ?_
        intro fM109 M109 (rM109 : rw_R1 (pl_sk (M 6) (M 7) (M 8)) (M 1 10) (pl_ct (pl_sk (M 6) (M 7) (M 8)) (M 1 10).toNat) fM109) (i8 : pl_K M M109) (i9 : M109 48 1 = 0 + 5) (tM109 : rw_T (M109 49) [cr, fv, fw, pl_ct (pl_sk (M 6) (M 7) (M 8)) (M 1 10).toNat, fM109])
        show xa_C (xl_I b) A h0 _ 145 [(2, 1, 0, 0, 0), (0, 0, 0, 50, sl), (2, 48, 0, 0, 0)] M109 _
        refine rw_145bN (N := M) (c := 0 + 5) (e := 0 + 7) (l := [cr, fv, fw, pl_ct (pl_sk (M 6) (M 7) (M 8)) (M 1 10).toNat, fM109]) (by first | assumption | exact hK0) hF h2 i9 rfl tM109 (by omega) ?_
        intro fM110 M110 (rM110 : rw_R1 (pl_of (M 9) (M 10) (M 5) (M 4) (M 7) (M 8) sl) (M 1 10) (pl_ct (pl_of (M 9) (M 10) (M 5) (M 4) (M 7) (M 8) sl) (M 1 10).toNat) fM110) (i10 : pl_K M M110) (i11 : M110 48 1 = 0 + 7) (tM110 : rw_T (M110 49) [cr, fv, fw, pl_ct (pl_sk (M 6) (M 7) (M 8)) (M 1 10).toNat, fM109, pl_ct (pl_of (M 9) (M 10) (M 5) (M 4) (M 7) (M 8) sl) (M 1 10).toNat, fM110])
        show xa_C (xl_I b) A h0 _ 148 [(0, 0, 0, 196, st), (2, 48, 0, 0, 0)] M110 _
        refine rw_148kN (N := M) (c := 0 + 7) (e := 0 + 8) (l := [cr, fv, fw, pl_ct (pl_sk (M 6) (M 7) (M 8)) (M 1 10).toNat, fM109, pl_ct (pl_of (M 9) (M 10) (M 5) (M 4) (M 7) (M 8) sl) (M 1 10).toNat, fM110]) (by first | assumption | exact hK0) (show 0 ≤ st ∧ st ≤ 196 by omega) i11 rfl tM110 (by omega) ?_
        intro M111 (i12 : pl_K M M111) (i13 : M111 48 1 = 0 + 8) (tM111 : rw_T (M111 49) [cr, fv, fw, pl_ct (pl_sk (M 6) (M 7) (M 8)) (M 1 10).toNat, fM109, pl_ct (pl_of (M 9) (M 10) (M 5) (M 4) (M 7) (M 8) sl) (M 1 10).toNat, fM110, st])
        show xa_wk post (some (0, 0, 0, 424, ((cr + (pl_ct (pl_sk (M 6) (M 7) (M 8)) (M 1 10).toNat)) + (pl_ct (pl_of (M 9) (M 10) (M 5) (M 4) (M 7) (M 8) sl) (M 1 10).toNat)) + st)) M111
        have ev : v = M 1 9 := by omega
        rw [ev] at h4 h5
        have q1 := pl_ct_r (P := (pl_sk (M 6) (M 7) (M 8))) (M 1 10).toNat
        have q2 := pl_ct_r (P := (pl_of (M 9) (M 10) (M 5) (M 4) (M 7) (M 8) sl)) (M 1 10).toNat
        have ex : ((cr + (pl_ct (pl_sk (M 6) (M 7) (M 8)) (M 1 10).toNat)) + (pl_ct (pl_of (M 9) (M 10) (M 5) (M 4) (M 7) (M 8) sl) (M 1 10).toNat)) + st = pl_all (M 9) (M 10) (M 5) (M 6) (M 4) (M 7) (M 8) (M 1 9) (M 1 10) sl := by
          unfold pl_all pl_pa
          rw [← h4, ← h5]
        exact xa_wkI _ ex (fun _ _ => by omega) (k _ i12 i13 ⟨fv, fw, fM109, fM110, (by rw [show pl_pa (pl_P1 (M 9) (M 10) (M 5) (M 6) (M 4) (M 7) (M 8) (M 1 10)) (M 1 9).toNat = cr from h4.symm]; exact hR), rM109, rM110, by rw [show pl_pa (pl_P1 (M 9) (M 10) (M 5) (M 6) (M 4) (M 7) (M 8) (M 1 10)) (M 1 9).toNat = cr from h4.symm, show pl_pa (pl_P2 (M 5) (M 6)) (M 1 9).toNat = st from h5.symm]; exact tM111⟩)
      · intro (c1 : v < (M 1 9))
        show Q 30 [(9, (0, 0, 1, 15, v + 1)), (8, (0, 0, 0, 14, v)), (4, (0, 0, 0, 196, cr)), (5, (0, 0, 0, 196, st)), (6, (0, 0, (-1), 13, fv)), (7, (0, 0, (-1), 13, fw)), (0, (2, 34, 0, 0, 0)), (1, (2, 1, 0, 0, 0)), (2, (0, 0, 0, 50, sl)), (3, (2, 48, 0, 0, 0))] [] M
        have hz1 : pl_ct (fun w => v < w ∧ (pl_P1 (M 9) (M 10) (M 5) (M 6) (M 4) (M 7) (M 8) (M 1 10)) v w) (v + 1).toNat = 0 := pl_ct_z _ (fun k hk h => by have := h.1; omega)
        have hz2 : pl_ct (fun w => v < w ∧ (pl_P2 (M 5) (M 6)) v w) (v + 1).toNat = 0 := pl_ct_z _ (fun k hk h => by have := h.1; omega)
        refine hgo.2.1 30 _ [(9, (0, 0, 1, 14, v + 1)), (8, (0, 0, 0, 13, v)), (4, (0, 0, 0, 196, cr)), (5, (0, 0, 0, 196, st)), (6, (0, 0, (-1), 13, fv)), (7, (0, 0, (-1), 13, fw)), (0, (2, 34, 0, 0, 0)), (1, (2, 1, 0, 0, 0)), (2, (0, 0, 0, 50, sl)), (3, (2, 48, 0, 0, 0))] _ _ (xa_subI rfl rfl (fun _ _ _ _ => by omega) (xa_subI rfl rfl (fun _ _ _ _ => by omega) (xa_subI rfl rfl (fun _ _ _ _ => by omega) (xa_subI rfl rfl (fun _ _ _ _ => by omega) (xa_subI rfl rfl (fun _ _ _ _ => by omega) (xa_subI rfl rfl (fun _ _ _ _ => by omega) (xa_subR rfl (xa_subR rfl (xa_subI rfl rfl (fun _ _ _ _ => by omega) (xa_subR rfl (xa_sub0))))))))))) ?_
        exact inner (by omega) 15 (v + 1) cr st fv fw (by omega) (by omega) (by omega) (by rw [hz1, ← h4]; omega) (by rw [hz2, ← h5]; omega) hR (by omega)
  refine hgo.1 15 [15, 30] 0 _ _ _ ?_
  show Q 15 [(8, (0, 0, 0, 0, 0)), (7, (0, 0, (-1), (-1), (-1))), (6, (0, 0, (-1), (-1), (-1))), (5, (0, 0, 0, 0, 0)), (4, (0, 0, 0, 0, 0)), (0, (2, 34, 0, 0, 0)), (1, (2, 1, 0, 0, 0)), (2, (0, 0, 0, 50, sl)), (3, (2, 48, 0, 0, 0))] [] M
  refine hgo.2.1 15 _ [(8, (0, 0, 0, 14, 0)), (4, (0, 0, 0, 196, 0)), (5, (0, 0, 0, 196, 0)), (6, (0, 0, (-1), 13, (-1))), (7, (0, 0, (-1), 13, (-1))), (0, (2, 34, 0, 0, 0)), (1, (2, 1, 0, 0, 0)), (2, (0, 0, 0, 50, sl)), (3, (2, 48, 0, 0, 0))] _ _ (xa_subI rfl rfl (fun _ _ _ _ => by omega) (xa_subI rfl rfl (fun _ _ _ _ => by omega) (xa_subI rfl rfl (fun _ _ _ _ => by omega) (xa_subI rfl rfl (fun _ _ _ _ => by omega) (xa_subI rfl rfl (fun _ _ _ _ => by omega) (xa_subR rfl (xa_subR rfl (xa_subI rfl rfl (fun _ _ _ _ => by omega) (xa_subR rfl (xa_sub0)))))))))) ?_
  exact loop 15 0 0 0 (-1) (-1) (by omega) (by omega) (by omega) rfl rfl rw_R2_0 (by omega)
theorem rw_141pN {b : Bool} {A : Nat → Nat} {h0 : g_H} {d : Nat} {M : xa_M} {post : Option xa_V → xa_M → Prop} {l2 u2 sl : Int} {N : xa_M} (hK : pl_K N M) (hF : pl_F N) (h2 : 0 ≤ sl ∧ sl ≤ 50) (h48 : M 48 1 = 0) (k : ∀ M1 : xa_M, pl_K N M1 → M1 48 1 = 8 → rw_s140 (N 9) (N 10) (N 5) (N 6) (N 4) (N 7) (N 8) (N 1 9) (N 1 10) sl (M1 49) → post (some (0, 0, 0, 1000, pl_all (N 9) (N 10) (N 5) (N 6) (N 4) (N 7) (N 8) (N 1 9) (N 1 10) sl)) M1) : xa_C (xl_I b) A h0 (d + 6) 141 [(2, 34, 0, 0, 0), (2, 1, 0, 0, 0), (0, 0, l2, u2, sl), (2, 48, 0, 0, 0)] M post := by
  refine rw_141p (pl_F_k hK hF) h2 h48 (fun M1 g1 g2 t => ?_)
  rw [pl_Ke hK 9 (by decide) (by decide), pl_Ke hK 10 (by decide) (by decide), pl_Ke hK 5 (by decide) (by decide), pl_Ke hK 6 (by decide) (by decide), pl_Ke hK 4 (by decide) (by decide), pl_Ke hK 7 (by decide) (by decide), pl_Ke hK 8 (by decide) (by decide), pl_Ke hK 1 (by decide) (by decide)] at t ⊢
  exact k M1 (fun q j h1 h2 => (g1 q j h1 h2).trans (hK q j h1 h2)) g2 t
theorem rw_140 {b : Bool} {A : Nat → Nat} {h0 : g_H} {d : Nat} {M : xa_M} {post : Option xa_V → xa_M → Prop} {l1 u1 sl : Int} (hF : pl_F M) (k1 : (0 ≤ sl ∧ sl ≤ 50) → ∀ M1 : xa_M, pl_K M M1 → M1 48 1 = 8 → rw_s140 (M 9) (M 10) (M 5) (M 6) (M 4) (M 7) (M 8) (M 1 9) (M 1 10) sl (M1 49) → post (some (0, 0, 0, 1000, pl_all (M 9) (M 10) (M 5) (M 6) (M 4) (M 7) (M 8) (M 1 9) (M 1 10) sl)) M1) (k0 : ¬ (0 ≤ sl ∧ sl ≤ 50) → post (some (0, 0, (-1), (-1), (-1))) M) : xa_C (xl_I b) A h0 (d + 7) 140 [(2, 0, 0, 0, 0), (0, 0, l1, u1, sl)] M post := by
  refine xa_C_arg [(2, 0, 0, 0, 0), (0, 0, (-2147483648), 2147483647, sl)] (xa_svR (xa_svI (fun _ _ _ _ => by omega) (xa_sv0))) ?_
  refine xa_meth (Q0 := (2, 1, false, 0, 0, 11)) (by decide +kernel) ⟨rfl, rfl⟩ (full := s_c_140) rfl rfl ?_
  intro hM hv Q hgo
  refine hgo.1 21 [] 0 _ _ _ ?_
  refine And.intro ?_ ?_
  · intro (c1 : sl < 0)
    show post (some (0, 0, (-1), (-1), (-1))) M
    exact k0 (by omega)
  · intro (c1 : 0 ≤ sl)
    refine And.intro ?_ ?_
    · intro (c2 : sl ≤ 50)
      show xa_C (xl_I b) A h0 _ 59 [(2, 48, 0, 0, 0)] M _
      refine cx_59_48 ?_
      show xa_C (xl_I b) A h0 _ 141 [(2, 34, 0, 0, 0), (2, 1, 0, 0, 0), (0, 0, (-2147483648), 2147483647, sl), (2, 48, 0, 0, 0)] (xa_up M 48 1 0) _
      refine rw_141pN (N := M) (fun q j h1 h2 => by first | rfl | (simp [xa_up, h1, h2])) hF (show 0 ≤ sl ∧ sl ≤ 50 by omega) xa_up_eq ?_
      intro M112 (i3 : pl_K M M112) (z9 : M112 48 1 = 8) (y9 : rw_s140 (M 9) (M 10) (M 5) (M 6) (M 4) (M 7) (M 8) (M 1 9) (M 1 10) sl (M112 49))
      show post (some (0, 0, 0, 1000, pl_all (M 9) (M 10) (M 5) (M 6) (M 4) (M 7) (M 8) (M 1 9) (M 1 10) sl)) M112
      exact k1 (by omega) _ i3 z9 y9
    · intro (c2 : 50 < sl)
      show post (some (0, 0, (-1), (-1), (-1))) M
      exact k0 (by omega)
theorem rw_m140 {A : Nat → Nat} {h0 : g_H} {d : Nat} {M : xa_M} {post : Option xa_V → xa_M → Prop} {l1 u1 a : Int} (hI : xm_Inv M) (k1 : (0 ≤ a ∧ a ≤ 50) → ∀ M1 : xa_M, xm_cor M M1 → M1 60 20 = 8 → rw_s140 (M 68) (M 69) (M 64) (M 65) (M 63) (M 66) (M 67) (M 60 0) (M 60 6) a (M1 74) → post (some (0, 0, 0, 1000, pl_all (M 68) (M 69) (M 64) (M 65) (M 63) (M 66) (M 67) (M 60 0) (M 60 6) a)) M1) (k0 : ¬ (0 ≤ a ∧ a ≤ 50) → ∀ M1 : xa_M, xm_cor M M1 → M1 60 20 = M 60 20 → (∀ i : Int, M1 74 i = M 74 i) → post (some (0, 0, (-1), (-1), (-1))) M1) : xa_C xm_I A h0 (d + 3) 263 [(2, 60, 0, 0, 0), (0, 0, l1, u1, a)] M post := by
  refine xa_C_wk ?_
  refine xa_C_arg [(2, 60, 0, 0, 0), (0, 0, (-2147483648), 2147483647, a)] (xa_svR (xa_svI (fun _ _ _ _ => by omega) (xa_sv0))) ?_
  refine xa_meth (Q0 := (16, 1, false, 0, 0, 12)) (by decide +kernel) ⟨rfl, rfl⟩ (full := s_c_263) rfl rfl ?_
  intro hM hv Q hgo
  have b0 := xm_f0 hM
  have b6 := xm_f6 hM
  have loops : ∀ (M1 : xa_M), xm_cor M M1 → 0 ≤ a ∧ a ≤ 50 → ∀ (n : Nat) (x6 x5 x4 x3 x2 : Int), 0 ≤ x6 ∧ x6 ≤ M1 60 0 → x2 = pl_sm (pl_nv (pl_P1 (M1 68) (M1 69) (M1 64) (M1 65) (M1 63) (M1 66) (M1 67) (M1 60 6)) (M1 60 0).toNat) x6.toNat → x5 = pl_sm (pl_nv (pl_P2 (M1 64) (M1 65)) (M1 60 0).toNat) x6.toNat → rw_R2 (pl_P1 (M1 68) (M1 69) (M1 64) (M1 65) (M1 63) (M1 66) (M1 67) (M1 60 6)) (M1 60 0) x2 x3 x4 → 14 - x6 < (n : Int) → Q 30 [(6, (0, 0, 0, 14, x6)), (5, (0, 0, 0, 196, x5)), (4, (0, 0, (-2147483648), 2147483647, x4)), (3, (0, 0, (-2147483648), 2147483647, x3)), (2, (0, 0, 0, 196, x2)), (1, (0, 0, 0, 50, a)), (0, (2, 60, 0, 0, 0))] [] M1 := by
    intro M1 hc b1
    have f63 : M1 63 = M 63 := funext (xm_corq hc 63 rfl)
    have f64 : M1 64 = M 64 := funext (xm_corq hc 64 rfl)
    have f65 : M1 65 = M 65 := funext (xm_corq hc 65 rfl)
    have f66 : M1 66 = M 66 := funext (xm_corq hc 66 rfl)
    have f67 : M1 67 = M 67 := funext (xm_corq hc 67 rfl)
    have f68 : M1 68 = M 68 := funext (xm_corq hc 68 rfl)
    have f69 : M1 69 = M 69 := funext (xm_corq hc 69 rfl)
    have e0 := xm_corf hc 0 (by omega)
    have e6 := xm_corf hc 6 (by omega)
    have t64 : ∀ v, 0 ≤ v → v < 14 → 0 ≤ M1 64 v ∧ M1 64 v ≤ 9 := fun v v0 v1 => by rw [f64]; exact xm_t64 hM v v0 v1
    have t66 : ∀ v, 0 ≤ v → v < 16 → 0 ≤ M1 66 v ∧ M1 66 v ≤ 13 := fun v v0 v1 => by rw [f66]; exact xm_t66 hM v v0 v1
    have t67 : ∀ v, 0 ≤ v → v < 16 → 0 ≤ M1 67 v ∧ M1 67 v ≤ 13 := fun v v0 v1 => by rw [f67]; exact xm_t67 hM v v0 v1
    have s1 := fun k => pl_sm_r (f := pl_nv (pl_P1 (M1 68) (M1 69) (M1 64) (M1 65) (M1 63) (M1 66) (M1 67) (M1 60 6)) (M1 60 0).toNat) (fun v => pl_nv_r (by omega) v) k
    have s2 := fun k => pl_sm_r (f := pl_nv (pl_P2 (M1 64) (M1 65)) (M1 60 0).toNat) (fun v => pl_nv_r (by omega) v) k
    have loop2 : ∀ (x5 x4 x3 x2 : Int), x2 = pl_sm (pl_nv (pl_P1 (M1 68) (M1 69) (M1 64) (M1 65) (M1 63) (M1 66) (M1 67) (M1 60 6)) (M1 60 0).toNat) (M1 60 0).toNat → x5 = pl_sm (pl_nv (pl_P2 (M1 64) (M1 65)) (M1 60 0).toNat) (M1 60 0).toNat → rw_R2 (pl_P1 (M1 68) (M1 69) (M1 64) (M1 65) (M1 63) (M1 66) (M1 67) (M1 60 6)) (M1 60 0) x2 x3 x4 → ∀ (n : Nat) (x10 x9 x8 x7 x6 : Int), -1 ≤ x10 ∧ x10 < M1 60 6 → x6 + pl_ct (pl_sk (M1 65) (M1 66) (M1 67)) (x10 + 1).toNat = pl_ct (pl_sk (M1 65) (M1 66) (M1 67)) (M1 60 6).toNat → x8 + pl_ct (pl_of (M1 68) (M1 69) (M1 64) (M1 63) (M1 66) (M1 67) a) (x10 + 1).toNat = pl_ct (pl_of (M1 68) (M1 69) (M1 64) (M1 63) (M1 66) (M1 67) a) (M1 60 6).toNat → rw_D1 (pl_sk (M1 65) (M1 66) (M1 67)) (M1 60 6) x10 x6 x7 → rw_D1 (pl_of (M1 68) (M1 69) (M1 64) (M1 63) (M1 66) (M1 67) a) (M1 60 6) x10 x8 x9 → x10 + 1 < (n : Int) → Q 165 [(10, (0, 0, (-1), 15, x10)), (9, (0, 0, (-2147483648), 2147483647, x9)), (8, (0, 0, 0, 16, x8)), (7, (0, 0, (-2147483648), 2147483647, x7)), (6, (0, 0, 0, 16, x6)), (5, (0, 0, 0, 196, x5)), (4, (0, 0, (-2147483648), 2147483647, x4)), (3, (0, 0, (-2147483648), 2147483647, x3)), (2, (0, 0, 0, 196, x2)), (1, (0, 0, 0, 50, a)), (0, (2, 60, 0, 0, 0))] [] M1 := by
      intro x5 x4 x3 x2 h2x h5x hR2 n
      have v1 := s1 (M1 60 0).toNat
      have v2 := s2 (M1 60 0).toNat
      have c1 := pl_ct_r (P := (pl_sk (M1 65) (M1 66) (M1 67))) (M1 60 6).toNat
      have c2 := pl_ct_r (P := (pl_of (M1 68) (M1 69) (M1 64) (M1 63) (M1 66) (M1 67) a)) (M1 60 6).toNat
      induction n with
      | zero => intro x10 x9 x8 x7 x6 b10 h6 h8 hD6 hD8 hms; omega
      | succ n ih =>
        intro x10 x9 x8 x7 x6 b10 h6 h8 hD6 hD8 hms
        have w1 := pl_ct_r (P := (pl_sk (M1 65) (M1 66) (M1 67))) (x10 + 1).toNat
        have w2 := pl_ct_r (P := (pl_of (M1 68) (M1 69) (M1 64) (M1 63) (M1 66) (M1 67) a)) (x10 + 1).toNat
        have g66 : 0 ≤ x10 → 0 ≤ M1 66 x10 ∧ M1 66 x10 ≤ 13 := fun h => t66 x10 h (by omega)
        have g67 : 0 ≤ x10 → 0 ≤ M1 67 x10 ∧ M1 67 x10 ≤ 13 := fun h => t67 x10 h (by omega)
        have g64 : 0 ≤ x10 → (0 ≤ M1 64 (M1 66 x10) ∧ M1 64 (M1 66 x10) ≤ 9) ∧ (0 ≤ M1 64 (M1 67 x10) ∧ M1 64 (M1 67 x10) ≤ 9) := fun h => ⟨t64 _ (g66 h).1 (by have := g66 h; omega), t64 _ (g67 h).1 (by have := g67 h; omega)⟩
        have ex10 : 0 ≤ x10 → ((x10.toNat : Nat) : Int) = x10 := fun h => Int.toNat_of_nonneg h
        refine hgo.1 81 [30, 45, 165] 165 _ _ _ ?_
        refine And.intro ?_ ?_
        · intro (c1 : x10 < 0)
          show xa_C xm_I A h0 _ 231 [(2, 60, 0, 0, 0), (1, 0, 0, 196, x2)] (xa_up M1 60 20 0) _
          refine ct_tell (n := 0) (by first | rfl | (simp [xa_up]; done) | omega) (by omega) (by omega) ?_
          show xa_C xm_I A h0 _ 231 [(2, 60, 0, 0, 0), (1, 0, (-2147483648), 2147483647, x3)] (xa_up (xa_up (xa_up M1 60 20 0) 74 0 x2) 60 20 1) _
          refine ct_tell (n := 1) (by first | rfl | (simp [xa_up]; done) | omega) (by omega) (by omega) ?_
          show xa_C xm_I A h0 _ 231 [(2, 60, 0, 0, 0), (1, 0, (-2147483648), 2147483647, x4)] (xa_up (xa_up (xa_up (xa_up (xa_up M1 60 20 0) 74 0 x2) 60 20 1) 74 1 x3) 60 20 2) _
          refine ct_tell (n := 2) (by first | rfl | (simp [xa_up]; done) | omega) (by omega) (by omega) ?_
          show xa_C xm_I A h0 _ 231 [(2, 60, 0, 0, 0), (1, 0, 0, 16, x6)] (xa_up (xa_up (xa_up (xa_up (xa_up (xa_up (xa_up M1 60 20 0) 74 0 x2) 60 20 1) 74 1 x3) 60 20 2) 74 2 x4) 60 20 3) _
          refine ct_tell (n := 3) (by first | rfl | (simp [xa_up]; done) | omega) (by omega) (by omega) ?_
          show xa_C xm_I A h0 _ 231 [(2, 60, 0, 0, 0), (1, 0, (-2147483648), 2147483647, x7)] (xa_up (xa_up (xa_up (xa_up (xa_up (xa_up (xa_up (xa_up (xa_up M1 60 20 0) 74 0 x2) 60 20 1) 74 1 x3) 60 20 2) 74 2 x4) 60 20 3) 74 3 x6) 60 20 4) _
          refine ct_tell (n := 4) (by first | rfl | (simp [xa_up]; done) | omega) (by omega) (by omega) ?_
          show xa_C xm_I A h0 _ 231 [(2, 60, 0, 0, 0), (1, 0, 0, 16, x8)] (xa_up (xa_up (xa_up (xa_up (xa_up (xa_up (xa_up (xa_up (xa_up (xa_up (xa_up M1 60 20 0) 74 0 x2) 60 20 1) 74 1 x3) 60 20 2) 74 2 x4) 60 20 3) 74 3 x6) 60 20 4) 74 4 x7) 60 20 5) _
          refine ct_tell (n := 5) (by first | rfl | (simp [xa_up]; done) | omega) (by omega) (by omega) ?_
          show xa_C xm_I A h0 _ 231 [(2, 60, 0, 0, 0), (1, 0, (-2147483648), 2147483647, x9)] (xa_up (xa_up (xa_up (xa_up (xa_up (xa_up (xa_up (xa_up (xa_up (xa_up (xa_up (xa_up (xa_up M1 60 20 0) 74 0 x2) 60 20 1) 74 1 x3) 60 20 2) 74 2 x4) 60 20 3) 74 3 x6) 60 20 4) 74 4 x7) 60 20 5) 74 5 x8) 60 20 6) _
          refine ct_tell (n := 6) (by first | rfl | (simp [xa_up]; done) | omega) (by omega) (by omega) ?_
          show xa_C xm_I A h0 _ 231 [(2, 60, 0, 0, 0), (1, 0, 0, 196, x5)] (xa_up (xa_up (xa_up (xa_up (xa_up (xa_up (xa_up (xa_up (xa_up (xa_up (xa_up (xa_up (xa_up (xa_up (xa_up M1 60 20 0) 74 0 x2) 60 20 1) 74 1 x3) 60 20 2) 74 2 x4) 60 20 3) 74 3 x6) 60 20 4) 74 4 x7) 60 20 5) 74 5 x8) 60 20 6) 74 6 x9) 60 20 7) _
          refine ct_tell (n := 7) (by first | rfl | (simp [xa_up]; done) | omega) (by omega) (by omega) ?_
          show xa_wk post (some (0, 0, 0, 424, ((x2 + x6) + x8) + x5)) (xa_up (xa_up (xa_up (xa_up (xa_up (xa_up (xa_up (xa_up (xa_up (xa_up (xa_up (xa_up (xa_up (xa_up (xa_up (xa_up (xa_up M1 60 20 0) 74 0 x2) 60 20 1) 74 1 x3) 60 20 2) 74 2 x4) 60 20 3) 74 3 x6) 60 20 4) 74 4 x7) 60 20 5) 74 5 x8) 60 20 6) 74 6 x9) 60 20 7) 74 7 x5) 60 20 8)
          have e10 : x10 = -1 := by omega
          rw [e10] at h6 h8
          have z6 : x6 + 0 = _ := h6
          have z8 : x8 + 0 = _ := h8
          refine xa_wkI _ ?_ (fun _ _ => by omega) (k1 b1 _ ?_ xa_up_eq ?_)
          · unfold pl_all pl_pa
            rw [← f68, ← f69, ← f64, ← f65, ← f63, ← f66, ← f67, ← e0, ← e6]
            omega
          · exact (xm_cor_f (by omega) (xm_cor_a rfl (xm_cor_f (by omega) (xm_cor_a rfl (xm_cor_f (by omega) (xm_cor_a rfl (xm_cor_f (by omega) (xm_cor_a rfl (xm_cor_f (by omega) (xm_cor_a rfl (xm_cor_f (by omega) (xm_cor_a rfl (xm_cor_f (by omega) (xm_cor_a rfl (xm_cor_f (by omega) (xm_cor_a rfl (xm_cor_f (by omega) hc)))))))))))))))))
          · rw [← f68, ← f69, ← f64, ← f65, ← f63, ← f66, ← f67, ← e0, ← e6]
            have z2 : pl_pa (pl_P1 (M1 68) (M1 69) (M1 64) (M1 65) (M1 63) (M1 66) (M1 67) (M1 60 6)) (M1 60 0).toNat = x2 := h2x.symm
            have z5 : pl_pa (pl_P2 (M1 64) (M1 65)) (M1 60 0).toNat = x5 := h5x.symm
            refine ⟨x3, x4, x7, x9, by rw [z2]; exact hR2, rw_D1e (c := x6) rfl (by omega) (by rw [e10] at hD6; exact hD6), rw_D1e (c := x8) rfl (by omega) (by rw [e10] at hD8; exact hD8), fun i i0 i1 => ?_⟩
            have i2 : i < 8 := i1
            rw [z2, z5, ← z6, ← z8, Int.add_zero, Int.add_zero]
            rcases (show i = 0 ∨ i = 1 ∨ i = 2 ∨ i = 3 ∨ i = 4 ∨ i = 5 ∨ i = 6 ∨ i = 7 by omega) with rfl | rfl | rfl | rfl | rfl | rfl | rfl | rfl <;> first | rfl | (simp [xa_up, rw_v]; done)
        · intro (c1 : 0 ≤ x10)
          refine And.intro (show 0 ≤ x10 ∧ x10 < 16 by omega) ?_
          refine And.intro (show 0 ≤ x10 ∧ x10 < 16 by omega) ?_
          refine And.intro ?_ ?_
          · intro (c2 : (M1 65 (M1 66 x10)) = (M1 65 (M1 67 x10)))
            show xa_C xm_I A h0 _ 265 [(2, 60, 0, 0, 0), (0, 0, 0, 9, M1 64 (M1 66 x10)), (0, 0, 0, 9, M1 64 (M1 67 x10))] M1 _
            refine ct_apart (by omega) (by omega) (by omega) (by omega) ?_
            intro r113 (i3 : r113 = (M1 68 (M1 64 (M1 66 x10)) - M1 68 (M1 64 (M1 67 x10))) * (M1 68 (M1 64 (M1 66 x10)) - M1 68 (M1 64 (M1 67 x10))) + (M1 69 (M1 64 (M1 66 x10)) - M1 69 (M1 64 (M1 67 x10))) * (M1 69 (M1 64 (M1 66 x10)) - M1 69 (M1 64 (M1 67 x10))))
            refine And.intro ?_ ?_
            · intro (c4 : ((((M1 63 (M1 66 x10)) + (M1 63 (M1 67 x10))) + a) * (((M1 63 (M1 66 x10)) + (M1 63 (M1 67 x10))) + a)) < r113)
              show Q 165 [(10, (0, 0, (-2), 14, x10 + (-1))), (9, (0, 0, (-1), 15, x10)), (8, (0, 0, 1, 17, x8 + 1)), (15, (0, 0, (-50), 800, ((M1 63 (M1 66 x10)) + (M1 63 (M1 67 x10))) - a)), (14, (0, 0, 0, 850, ((M1 63 (M1 66 x10)) + (M1 63 (M1 67 x10))) + a)), (13, (0, 0, 0, 2000000, r113)), (12, (0, 0, 0, 13, M1 67 x10)), (11, (0, 0, 0, 13, M1 66 x10)), (7, (0, 0, (-2147483648), 2147483647, x7)), (6, (0, 0, 0, 16, x6)), (5, (0, 0, 0, 196, x5)), (4, (0, 0, (-2147483648), 2147483647, x4)), (3, (0, 0, (-2147483648), 2147483647, x3)), (2, (0, 0, 0, 196, x2)), (1, (0, 0, 0, 50, a)), (0, (2, 60, 0, 0, 0))] [] M1
              have y1 := pl_ct_r (P := (pl_sk (M1 65) (M1 66) (M1 67))) (x10 + (-1) + 1).toNat
              have y2 := pl_ct_r (P := (pl_of (M1 68) (M1 69) (M1 64) (M1 63) (M1 66) (M1 67) a)) (x10 + (-1) + 1).toNat
              have ep : (x10 + (-1) + 1).toNat = x10.toNat := by omega
              have e6x : x6 + pl_ct (pl_sk (M1 65) (M1 66) (M1 67)) (x10 + (-1) + 1).toNat = pl_ct (pl_sk (M1 65) (M1 66) (M1 67)) (M1 60 6).toNat := by
                rw [ep, ← h6, show (x10 + 1).toNat = x10.toNat + 1 by omega, pl_ct0 (show ¬ (pl_sk (M1 65) (M1 66) (M1 67)) ((x10.toNat : Nat) : Int) by rw [ex10 (by omega)]; unfold pl_sk; omega)]
              have e8x : x8 + 1 + pl_ct (pl_of (M1 68) (M1 69) (M1 64) (M1 63) (M1 66) (M1 67) a) (x10 + (-1) + 1).toNat = pl_ct (pl_of (M1 68) (M1 69) (M1 64) (M1 63) (M1 66) (M1 67) a) (M1 60 6).toNat := by
                rw [ep, ← h8, show (x10 + 1).toNat = x10.toNat + 1 by omega, pl_ct1 (show (pl_of (M1 68) (M1 69) (M1 64) (M1 63) (M1 66) (M1 67) a) ((x10.toNat : Nat) : Int) by rw [ex10 (by omega)]; unfold pl_of pl_sq; omega)]
                omega
              refine hgo.2.1 165 _ [(10, (0, 0, (-1), 15, x10 + (-1))), (9, (0, 0, (-2147483648), 2147483647, x10)), (8, (0, 0, 0, 16, x8 + 1)), (7, (0, 0, (-2147483648), 2147483647, x7)), (6, (0, 0, 0, 16, x6)), (5, (0, 0, 0, 196, x5)), (4, (0, 0, (-2147483648), 2147483647, x4)), (3, (0, 0, (-2147483648), 2147483647, x3)), (2, (0, 0, 0, 196, x2)), (1, (0, 0, 0, 50, a)), (0, (2, 60, 0, 0, 0))] _ _ (xa_subI rfl rfl (fun _ _ _ _ => by omega) (xa_subI rfl rfl (fun _ _ _ _ => by omega) (xa_subI rfl rfl (fun _ _ _ _ => by omega) (xa_subI rfl rfl (fun _ _ _ _ => by omega) (xa_subI rfl rfl (fun _ _ _ _ => by omega) (xa_subI rfl rfl (fun _ _ _ _ => by omega) (xa_subI rfl rfl (fun _ _ _ _ => by omega) (xa_subI rfl rfl (fun _ _ _ _ => by omega) (xa_subI rfl rfl (fun _ _ _ _ => by omega) (xa_subI rfl rfl (fun _ _ _ _ => by omega) (xa_subR rfl (xa_sub0)))))))))))) ?_
              exact ih (x10 + (-1)) x10 (x8 + 1) x7 x6 (by omega) e6x e8x (rw_D1n h6 e6x hD6) (rw_D1y (by omega) (by have q := rw_ctm (P := (pl_of (M1 68) (M1 69) (M1 64) (M1 63) (M1 66) (M1 67) a)) (a := (x10 + 1).toNat) (M1 60 6).toNat (by omega); omega) (by unfold pl_of pl_sq; omega)) (by omega)
            · intro (c4 : r113 ≤ ((((M1 63 (M1 66 x10)) + (M1 63 (M1 67 x10))) + a) * (((M1 63 (M1 66 x10)) + (M1 63 (M1 67 x10))) + a)))
              refine And.intro ?_ ?_
              · intro (c5 : (((M1 63 (M1 66 x10)) + (M1 63 (M1 67 x10))) - a) ≤ 0)
                show Q 165 [(10, (0, 0, (-2), 14, x10 + (-1))), (15, (0, 0, (-50), 800, ((M1 63 (M1 66 x10)) + (M1 63 (M1 67 x10))) - a)), (14, (0, 0, 0, 850, ((M1 63 (M1 66 x10)) + (M1 63 (M1 67 x10))) + a)), (13, (0, 0, 0, 2000000, r113)), (12, (0, 0, 0, 13, M1 67 x10)), (11, (0, 0, 0, 13, M1 66 x10)), (9, (0, 0, (-2147483648), 2147483647, x9)), (8, (0, 0, 0, 16, x8)), (7, (0, 0, (-2147483648), 2147483647, x7)), (6, (0, 0, 0, 16, x6)), (5, (0, 0, 0, 196, x5)), (4, (0, 0, (-2147483648), 2147483647, x4)), (3, (0, 0, (-2147483648), 2147483647, x3)), (2, (0, 0, 0, 196, x2)), (1, (0, 0, 0, 50, a)), (0, (2, 60, 0, 0, 0))] [] M1
                have y1 := pl_ct_r (P := (pl_sk (M1 65) (M1 66) (M1 67))) (x10 + (-1) + 1).toNat
                have y2 := pl_ct_r (P := (pl_of (M1 68) (M1 69) (M1 64) (M1 63) (M1 66) (M1 67) a)) (x10 + (-1) + 1).toNat
                have ep : (x10 + (-1) + 1).toNat = x10.toNat := by omega
                have e6x : x6 + pl_ct (pl_sk (M1 65) (M1 66) (M1 67)) (x10 + (-1) + 1).toNat = pl_ct (pl_sk (M1 65) (M1 66) (M1 67)) (M1 60 6).toNat := by
                  rw [ep, ← h6, show (x10 + 1).toNat = x10.toNat + 1 by omega, pl_ct0 (show ¬ (pl_sk (M1 65) (M1 66) (M1 67)) ((x10.toNat : Nat) : Int) by rw [ex10 (by omega)]; unfold pl_sk; omega)]
                have e8x : x8 + pl_ct (pl_of (M1 68) (M1 69) (M1 64) (M1 63) (M1 66) (M1 67) a) (x10 + (-1) + 1).toNat = pl_ct (pl_of (M1 68) (M1 69) (M1 64) (M1 63) (M1 66) (M1 67) a) (M1 60 6).toNat := by
                  rw [ep, ← h8, show (x10 + 1).toNat = x10.toNat + 1 by omega, pl_ct0 (show ¬ (pl_of (M1 68) (M1 69) (M1 64) (M1 63) (M1 66) (M1 67) a) ((x10.toNat : Nat) : Int) by rw [ex10 (by omega)]; unfold pl_of pl_sq; omega)]
                refine hgo.2.1 165 _ [(10, (0, 0, (-1), 15, x10 + (-1))), (9, (0, 0, (-2147483648), 2147483647, x9)), (8, (0, 0, 0, 16, x8)), (7, (0, 0, (-2147483648), 2147483647, x7)), (6, (0, 0, 0, 16, x6)), (5, (0, 0, 0, 196, x5)), (4, (0, 0, (-2147483648), 2147483647, x4)), (3, (0, 0, (-2147483648), 2147483647, x3)), (2, (0, 0, 0, 196, x2)), (1, (0, 0, 0, 50, a)), (0, (2, 60, 0, 0, 0))] _ _ (xa_subI rfl rfl (fun _ _ _ _ => by omega) (xa_subI rfl rfl (fun _ _ _ _ => by omega) (xa_subI rfl rfl (fun _ _ _ _ => by omega) (xa_subI rfl rfl (fun _ _ _ _ => by omega) (xa_subI rfl rfl (fun _ _ _ _ => by omega) (xa_subI rfl rfl (fun _ _ _ _ => by omega) (xa_subI rfl rfl (fun _ _ _ _ => by omega) (xa_subI rfl rfl (fun _ _ _ _ => by omega) (xa_subI rfl rfl (fun _ _ _ _ => by omega) (xa_subI rfl rfl (fun _ _ _ _ => by omega) (xa_subR rfl (xa_sub0)))))))))))) ?_
                exact ih (x10 + (-1)) x9 x8 x7 x6 (by omega) e6x e8x (rw_D1n h6 e6x hD6) (rw_D1n h8 e8x hD8) (by omega)
              · intro (c5 : 0 < (((M1 63 (M1 66 x10)) + (M1 63 (M1 67 x10))) - a))
                refine And.intro ?_ ?_
                · intro (c6 : ((((M1 63 (M1 66 x10)) + (M1 63 (M1 67 x10))) - a) * (((M1 63 (M1 66 x10)) + (M1 63 (M1 67 x10))) - a)) ≤ r113)
                  show Q 165 [(10, (0, 0, (-2), 14, x10 + (-1))), (15, (0, 0, (-50), 800, ((M1 63 (M1 66 x10)) + (M1 63 (M1 67 x10))) - a)), (14, (0, 0, 0, 850, ((M1 63 (M1 66 x10)) + (M1 63 (M1 67 x10))) + a)), (13, (0, 0, 0, 2000000, r113)), (12, (0, 0, 0, 13, M1 67 x10)), (11, (0, 0, 0, 13, M1 66 x10)), (9, (0, 0, (-2147483648), 2147483647, x9)), (8, (0, 0, 0, 16, x8)), (7, (0, 0, (-2147483648), 2147483647, x7)), (6, (0, 0, 0, 16, x6)), (5, (0, 0, 0, 196, x5)), (4, (0, 0, (-2147483648), 2147483647, x4)), (3, (0, 0, (-2147483648), 2147483647, x3)), (2, (0, 0, 0, 196, x2)), (1, (0, 0, 0, 50, a)), (0, (2, 60, 0, 0, 0))] [] M1
                  have y1 := pl_ct_r (P := (pl_sk (M1 65) (M1 66) (M1 67))) (x10 + (-1) + 1).toNat
                  have y2 := pl_ct_r (P := (pl_of (M1 68) (M1 69) (M1 64) (M1 63) (M1 66) (M1 67) a)) (x10 + (-1) + 1).toNat
                  have ep : (x10 + (-1) + 1).toNat = x10.toNat := by omega
                  have e6x : x6 + pl_ct (pl_sk (M1 65) (M1 66) (M1 67)) (x10 + (-1) + 1).toNat = pl_ct (pl_sk (M1 65) (M1 66) (M1 67)) (M1 60 6).toNat := by
                    rw [ep, ← h6, show (x10 + 1).toNat = x10.toNat + 1 by omega, pl_ct0 (show ¬ (pl_sk (M1 65) (M1 66) (M1 67)) ((x10.toNat : Nat) : Int) by rw [ex10 (by omega)]; unfold pl_sk; omega)]
                  have e8x : x8 + pl_ct (pl_of (M1 68) (M1 69) (M1 64) (M1 63) (M1 66) (M1 67) a) (x10 + (-1) + 1).toNat = pl_ct (pl_of (M1 68) (M1 69) (M1 64) (M1 63) (M1 66) (M1 67) a) (M1 60 6).toNat := by
                    rw [ep, ← h8, show (x10 + 1).toNat = x10.toNat + 1 by omega, pl_ct0 (show ¬ (pl_of (M1 68) (M1 69) (M1 64) (M1 63) (M1 66) (M1 67) a) ((x10.toNat : Nat) : Int) by rw [ex10 (by omega)]; unfold pl_of pl_sq; omega)]
                  refine hgo.2.1 165 _ [(10, (0, 0, (-1), 15, x10 + (-1))), (9, (0, 0, (-2147483648), 2147483647, x9)), (8, (0, 0, 0, 16, x8)), (7, (0, 0, (-2147483648), 2147483647, x7)), (6, (0, 0, 0, 16, x6)), (5, (0, 0, 0, 196, x5)), (4, (0, 0, (-2147483648), 2147483647, x4)), (3, (0, 0, (-2147483648), 2147483647, x3)), (2, (0, 0, 0, 196, x2)), (1, (0, 0, 0, 50, a)), (0, (2, 60, 0, 0, 0))] _ _ (xa_subI rfl rfl (fun _ _ _ _ => by omega) (xa_subI rfl rfl (fun _ _ _ _ => by omega) (xa_subI rfl rfl (fun _ _ _ _ => by omega) (xa_subI rfl rfl (fun _ _ _ _ => by omega) (xa_subI rfl rfl (fun _ _ _ _ => by omega) (xa_subI rfl rfl (fun _ _ _ _ => by omega) (xa_subI rfl rfl (fun _ _ _ _ => by omega) (xa_subI rfl rfl (fun _ _ _ _ => by omega) (xa_subI rfl rfl (fun _ _ _ _ => by omega) (xa_subI rfl rfl (fun _ _ _ _ => by omega) (xa_subR rfl (xa_sub0)))))))))))) ?_
                  exact ih (x10 + (-1)) x9 x8 x7 x6 (by omega) e6x e8x (rw_D1n h6 e6x hD6) (rw_D1n h8 e8x hD8) (by omega)
                · intro (c6 : r113 < ((((M1 63 (M1 66 x10)) + (M1 63 (M1 67 x10))) - a) * (((M1 63 (M1 66 x10)) + (M1 63 (M1 67 x10))) - a)))
                  show Q 165 [(10, (0, 0, (-2), 14, x10 + (-1))), (9, (0, 0, (-1), 15, x10)), (8, (0, 0, 1, 17, x8 + 1)), (15, (0, 0, (-50), 800, ((M1 63 (M1 66 x10)) + (M1 63 (M1 67 x10))) - a)), (14, (0, 0, 0, 850, ((M1 63 (M1 66 x10)) + (M1 63 (M1 67 x10))) + a)), (13, (0, 0, 0, 2000000, r113)), (12, (0, 0, 0, 13, M1 67 x10)), (11, (0, 0, 0, 13, M1 66 x10)), (7, (0, 0, (-2147483648), 2147483647, x7)), (6, (0, 0, 0, 16, x6)), (5, (0, 0, 0, 196, x5)), (4, (0, 0, (-2147483648), 2147483647, x4)), (3, (0, 0, (-2147483648), 2147483647, x3)), (2, (0, 0, 0, 196, x2)), (1, (0, 0, 0, 50, a)), (0, (2, 60, 0, 0, 0))] [] M1
                  have y1 := pl_ct_r (P := (pl_sk (M1 65) (M1 66) (M1 67))) (x10 + (-1) + 1).toNat
                  have y2 := pl_ct_r (P := (pl_of (M1 68) (M1 69) (M1 64) (M1 63) (M1 66) (M1 67) a)) (x10 + (-1) + 1).toNat
                  have ep : (x10 + (-1) + 1).toNat = x10.toNat := by omega
                  have e6x : x6 + pl_ct (pl_sk (M1 65) (M1 66) (M1 67)) (x10 + (-1) + 1).toNat = pl_ct (pl_sk (M1 65) (M1 66) (M1 67)) (M1 60 6).toNat := by
                    rw [ep, ← h6, show (x10 + 1).toNat = x10.toNat + 1 by omega, pl_ct0 (show ¬ (pl_sk (M1 65) (M1 66) (M1 67)) ((x10.toNat : Nat) : Int) by rw [ex10 (by omega)]; unfold pl_sk; omega)]
                  have e8x : x8 + 1 + pl_ct (pl_of (M1 68) (M1 69) (M1 64) (M1 63) (M1 66) (M1 67) a) (x10 + (-1) + 1).toNat = pl_ct (pl_of (M1 68) (M1 69) (M1 64) (M1 63) (M1 66) (M1 67) a) (M1 60 6).toNat := by
                    rw [ep, ← h8, show (x10 + 1).toNat = x10.toNat + 1 by omega, pl_ct1 (show (pl_of (M1 68) (M1 69) (M1 64) (M1 63) (M1 66) (M1 67) a) ((x10.toNat : Nat) : Int) by rw [ex10 (by omega)]; unfold pl_of pl_sq; omega)]
                    omega
                  refine hgo.2.1 165 _ [(10, (0, 0, (-1), 15, x10 + (-1))), (9, (0, 0, (-2147483648), 2147483647, x10)), (8, (0, 0, 0, 16, x8 + 1)), (7, (0, 0, (-2147483648), 2147483647, x7)), (6, (0, 0, 0, 16, x6)), (5, (0, 0, 0, 196, x5)), (4, (0, 0, (-2147483648), 2147483647, x4)), (3, (0, 0, (-2147483648), 2147483647, x3)), (2, (0, 0, 0, 196, x2)), (1, (0, 0, 0, 50, a)), (0, (2, 60, 0, 0, 0))] _ _ (xa_subI rfl rfl (fun _ _ _ _ => by omega) (xa_subI rfl rfl (fun _ _ _ _ => by omega) (xa_subI rfl rfl (fun _ _ _ _ => by omega) (xa_subI rfl rfl (fun _ _ _ _ => by omega) (xa_subI rfl rfl (fun _ _ _ _ => by omega) (xa_subI rfl rfl (fun _ _ _ _ => by omega) (xa_subI rfl rfl (fun _ _ _ _ => by omega) (xa_subI rfl rfl (fun _ _ _ _ => by omega) (xa_subI rfl rfl (fun _ _ _ _ => by omega) (xa_subI rfl rfl (fun _ _ _ _ => by omega) (xa_subR rfl (xa_sub0)))))))))))) ?_
                  exact ih (x10 + (-1)) x10 (x8 + 1) x7 x6 (by omega) e6x e8x (rw_D1n h6 e6x hD6) (rw_D1y (by omega) (by have q := rw_ctm (P := (pl_of (M1 68) (M1 69) (M1 64) (M1 63) (M1 66) (M1 67) a)) (a := (x10 + 1).toNat) (M1 60 6).toNat (by omega); omega) (by unfold pl_of pl_sq; omega)) (by omega)
          · intro (c2 : ¬ (M1 65 (M1 66 x10)) = (M1 65 (M1 67 x10)))
            show xa_C xm_I A h0 _ 265 [(2, 60, 0, 0, 0), (0, 0, 0, 9, M1 64 (M1 66 x10)), (0, 0, 0, 9, M1 64 (M1 67 x10))] M1 _
            refine ct_apart (by omega) (by omega) (by omega) (by omega) ?_
            intro r114 (i7 : r114 = (M1 68 (M1 64 (M1 66 x10)) - M1 68 (M1 64 (M1 67 x10))) * (M1 68 (M1 64 (M1 66 x10)) - M1 68 (M1 64 (M1 67 x10))) + (M1 69 (M1 64 (M1 66 x10)) - M1 69 (M1 64 (M1 67 x10))) * (M1 69 (M1 64 (M1 66 x10)) - M1 69 (M1 64 (M1 67 x10))))
            refine And.intro ?_ ?_
            · intro (c8 : ((((M1 63 (M1 66 x10)) + (M1 63 (M1 67 x10))) + a) * (((M1 63 (M1 66 x10)) + (M1 63 (M1 67 x10))) + a)) < r114)
              show Q 165 [(10, (0, 0, (-2), 14, x10 + (-1))), (9, (0, 0, (-1), 15, x10)), (8, (0, 0, 1, 17, x8 + 1)), (15, (0, 0, (-50), 800, ((M1 63 (M1 66 x10)) + (M1 63 (M1 67 x10))) - a)), (14, (0, 0, 0, 850, ((M1 63 (M1 66 x10)) + (M1 63 (M1 67 x10))) + a)), (13, (0, 0, 0, 2000000, r114)), (7, (0, 0, (-1), 15, x10)), (6, (0, 0, 1, 17, x6 + 1)), (12, (0, 0, 0, 13, M1 67 x10)), (11, (0, 0, 0, 13, M1 66 x10)), (5, (0, 0, 0, 196, x5)), (4, (0, 0, (-2147483648), 2147483647, x4)), (3, (0, 0, (-2147483648), 2147483647, x3)), (2, (0, 0, 0, 196, x2)), (1, (0, 0, 0, 50, a)), (0, (2, 60, 0, 0, 0))] [] M1
              have y1 := pl_ct_r (P := (pl_sk (M1 65) (M1 66) (M1 67))) (x10 + (-1) + 1).toNat
              have y2 := pl_ct_r (P := (pl_of (M1 68) (M1 69) (M1 64) (M1 63) (M1 66) (M1 67) a)) (x10 + (-1) + 1).toNat
              have ep : (x10 + (-1) + 1).toNat = x10.toNat := by omega
              have e6x : x6 + 1 + pl_ct (pl_sk (M1 65) (M1 66) (M1 67)) (x10 + (-1) + 1).toNat = pl_ct (pl_sk (M1 65) (M1 66) (M1 67)) (M1 60 6).toNat := by
                rw [ep, ← h6, show (x10 + 1).toNat = x10.toNat + 1 by omega, pl_ct1 (show (pl_sk (M1 65) (M1 66) (M1 67)) ((x10.toNat : Nat) : Int) by rw [ex10 (by omega)]; unfold pl_sk; omega)]
                omega
              have e8x : x8 + 1 + pl_ct (pl_of (M1 68) (M1 69) (M1 64) (M1 63) (M1 66) (M1 67) a) (x10 + (-1) + 1).toNat = pl_ct (pl_of (M1 68) (M1 69) (M1 64) (M1 63) (M1 66) (M1 67) a) (M1 60 6).toNat := by
                rw [ep, ← h8, show (x10 + 1).toNat = x10.toNat + 1 by omega, pl_ct1 (show (pl_of (M1 68) (M1 69) (M1 64) (M1 63) (M1 66) (M1 67) a) ((x10.toNat : Nat) : Int) by rw [ex10 (by omega)]; unfold pl_of pl_sq; omega)]
                omega
              refine hgo.2.1 165 _ [(10, (0, 0, (-1), 15, x10 + (-1))), (9, (0, 0, (-2147483648), 2147483647, x10)), (8, (0, 0, 0, 16, x8 + 1)), (7, (0, 0, (-2147483648), 2147483647, x10)), (6, (0, 0, 0, 16, x6 + 1)), (5, (0, 0, 0, 196, x5)), (4, (0, 0, (-2147483648), 2147483647, x4)), (3, (0, 0, (-2147483648), 2147483647, x3)), (2, (0, 0, 0, 196, x2)), (1, (0, 0, 0, 50, a)), (0, (2, 60, 0, 0, 0))] _ _ (xa_subI rfl rfl (fun _ _ _ _ => by omega) (xa_subI rfl rfl (fun _ _ _ _ => by omega) (xa_subI rfl rfl (fun _ _ _ _ => by omega) (xa_subI rfl rfl (fun _ _ _ _ => by omega) (xa_subI rfl rfl (fun _ _ _ _ => by omega) (xa_subI rfl rfl (fun _ _ _ _ => by omega) (xa_subI rfl rfl (fun _ _ _ _ => by omega) (xa_subI rfl rfl (fun _ _ _ _ => by omega) (xa_subI rfl rfl (fun _ _ _ _ => by omega) (xa_subI rfl rfl (fun _ _ _ _ => by omega) (xa_subR rfl (xa_sub0)))))))))))) ?_
              exact ih (x10 + (-1)) x10 (x8 + 1) x10 (x6 + 1) (by omega) e6x e8x (rw_D1y (by omega) (by have q := rw_ctm (P := (pl_sk (M1 65) (M1 66) (M1 67))) (a := (x10 + 1).toNat) (M1 60 6).toNat (by omega); omega) (by unfold pl_sk; omega)) (rw_D1y (by omega) (by have q := rw_ctm (P := (pl_of (M1 68) (M1 69) (M1 64) (M1 63) (M1 66) (M1 67) a)) (a := (x10 + 1).toNat) (M1 60 6).toNat (by omega); omega) (by unfold pl_of pl_sq; omega)) (by omega)
            · intro (c8 : r114 ≤ ((((M1 63 (M1 66 x10)) + (M1 63 (M1 67 x10))) + a) * (((M1 63 (M1 66 x10)) + (M1 63 (M1 67 x10))) + a)))
              refine And.intro ?_ ?_
              · intro (c9 : (((M1 63 (M1 66 x10)) + (M1 63 (M1 67 x10))) - a) ≤ 0)
                show Q 165 [(10, (0, 0, (-2), 14, x10 + (-1))), (15, (0, 0, (-50), 800, ((M1 63 (M1 66 x10)) + (M1 63 (M1 67 x10))) - a)), (14, (0, 0, 0, 850, ((M1 63 (M1 66 x10)) + (M1 63 (M1 67 x10))) + a)), (13, (0, 0, 0, 2000000, r114)), (7, (0, 0, (-1), 15, x10)), (6, (0, 0, 1, 17, x6 + 1)), (12, (0, 0, 0, 13, M1 67 x10)), (11, (0, 0, 0, 13, M1 66 x10)), (9, (0, 0, (-2147483648), 2147483647, x9)), (8, (0, 0, 0, 16, x8)), (5, (0, 0, 0, 196, x5)), (4, (0, 0, (-2147483648), 2147483647, x4)), (3, (0, 0, (-2147483648), 2147483647, x3)), (2, (0, 0, 0, 196, x2)), (1, (0, 0, 0, 50, a)), (0, (2, 60, 0, 0, 0))] [] M1
                have y1 := pl_ct_r (P := (pl_sk (M1 65) (M1 66) (M1 67))) (x10 + (-1) + 1).toNat
                have y2 := pl_ct_r (P := (pl_of (M1 68) (M1 69) (M1 64) (M1 63) (M1 66) (M1 67) a)) (x10 + (-1) + 1).toNat
                have ep : (x10 + (-1) + 1).toNat = x10.toNat := by omega
                have e6x : x6 + 1 + pl_ct (pl_sk (M1 65) (M1 66) (M1 67)) (x10 + (-1) + 1).toNat = pl_ct (pl_sk (M1 65) (M1 66) (M1 67)) (M1 60 6).toNat := by
                  rw [ep, ← h6, show (x10 + 1).toNat = x10.toNat + 1 by omega, pl_ct1 (show (pl_sk (M1 65) (M1 66) (M1 67)) ((x10.toNat : Nat) : Int) by rw [ex10 (by omega)]; unfold pl_sk; omega)]
                  omega
                have e8x : x8 + pl_ct (pl_of (M1 68) (M1 69) (M1 64) (M1 63) (M1 66) (M1 67) a) (x10 + (-1) + 1).toNat = pl_ct (pl_of (M1 68) (M1 69) (M1 64) (M1 63) (M1 66) (M1 67) a) (M1 60 6).toNat := by
                  rw [ep, ← h8, show (x10 + 1).toNat = x10.toNat + 1 by omega, pl_ct0 (show ¬ (pl_of (M1 68) (M1 69) (M1 64) (M1 63) (M1 66) (M1 67) a) ((x10.toNat : Nat) : Int) by rw [ex10 (by omega)]; unfold pl_of pl_sq; omega)]
                refine hgo.2.1 165 _ [(10, (0, 0, (-1), 15, x10 + (-1))), (9, (0, 0, (-2147483648), 2147483647, x9)), (8, (0, 0, 0, 16, x8)), (7, (0, 0, (-2147483648), 2147483647, x10)), (6, (0, 0, 0, 16, x6 + 1)), (5, (0, 0, 0, 196, x5)), (4, (0, 0, (-2147483648), 2147483647, x4)), (3, (0, 0, (-2147483648), 2147483647, x3)), (2, (0, 0, 0, 196, x2)), (1, (0, 0, 0, 50, a)), (0, (2, 60, 0, 0, 0))] _ _ (xa_subI rfl rfl (fun _ _ _ _ => by omega) (xa_subI rfl rfl (fun _ _ _ _ => by omega) (xa_subI rfl rfl (fun _ _ _ _ => by omega) (xa_subI rfl rfl (fun _ _ _ _ => by omega) (xa_subI rfl rfl (fun _ _ _ _ => by omega) (xa_subI rfl rfl (fun _ _ _ _ => by omega) (xa_subI rfl rfl (fun _ _ _ _ => by omega) (xa_subI rfl rfl (fun _ _ _ _ => by omega) (xa_subI rfl rfl (fun _ _ _ _ => by omega) (xa_subI rfl rfl (fun _ _ _ _ => by omega) (xa_subR rfl (xa_sub0)))))))))))) ?_
                exact ih (x10 + (-1)) x9 x8 x10 (x6 + 1) (by omega) e6x e8x (rw_D1y (by omega) (by have q := rw_ctm (P := (pl_sk (M1 65) (M1 66) (M1 67))) (a := (x10 + 1).toNat) (M1 60 6).toNat (by omega); omega) (by unfold pl_sk; omega)) (rw_D1n h8 e8x hD8) (by omega)
              · intro (c9 : 0 < (((M1 63 (M1 66 x10)) + (M1 63 (M1 67 x10))) - a))
                refine And.intro ?_ ?_
                · intro (c10 : ((((M1 63 (M1 66 x10)) + (M1 63 (M1 67 x10))) - a) * (((M1 63 (M1 66 x10)) + (M1 63 (M1 67 x10))) - a)) ≤ r114)
                  show Q 165 [(10, (0, 0, (-2), 14, x10 + (-1))), (15, (0, 0, (-50), 800, ((M1 63 (M1 66 x10)) + (M1 63 (M1 67 x10))) - a)), (14, (0, 0, 0, 850, ((M1 63 (M1 66 x10)) + (M1 63 (M1 67 x10))) + a)), (13, (0, 0, 0, 2000000, r114)), (7, (0, 0, (-1), 15, x10)), (6, (0, 0, 1, 17, x6 + 1)), (12, (0, 0, 0, 13, M1 67 x10)), (11, (0, 0, 0, 13, M1 66 x10)), (9, (0, 0, (-2147483648), 2147483647, x9)), (8, (0, 0, 0, 16, x8)), (5, (0, 0, 0, 196, x5)), (4, (0, 0, (-2147483648), 2147483647, x4)), (3, (0, 0, (-2147483648), 2147483647, x3)), (2, (0, 0, 0, 196, x2)), (1, (0, 0, 0, 50, a)), (0, (2, 60, 0, 0, 0))] [] M1
                  have y1 := pl_ct_r (P := (pl_sk (M1 65) (M1 66) (M1 67))) (x10 + (-1) + 1).toNat
                  have y2 := pl_ct_r (P := (pl_of (M1 68) (M1 69) (M1 64) (M1 63) (M1 66) (M1 67) a)) (x10 + (-1) + 1).toNat
                  have ep : (x10 + (-1) + 1).toNat = x10.toNat := by omega
                  have e6x : x6 + 1 + pl_ct (pl_sk (M1 65) (M1 66) (M1 67)) (x10 + (-1) + 1).toNat = pl_ct (pl_sk (M1 65) (M1 66) (M1 67)) (M1 60 6).toNat := by
                    rw [ep, ← h6, show (x10 + 1).toNat = x10.toNat + 1 by omega, pl_ct1 (show (pl_sk (M1 65) (M1 66) (M1 67)) ((x10.toNat : Nat) : Int) by rw [ex10 (by omega)]; unfold pl_sk; omega)]
                    omega
                  have e8x : x8 + pl_ct (pl_of (M1 68) (M1 69) (M1 64) (M1 63) (M1 66) (M1 67) a) (x10 + (-1) + 1).toNat = pl_ct (pl_of (M1 68) (M1 69) (M1 64) (M1 63) (M1 66) (M1 67) a) (M1 60 6).toNat := by
                    rw [ep, ← h8, show (x10 + 1).toNat = x10.toNat + 1 by omega, pl_ct0 (show ¬ (pl_of (M1 68) (M1 69) (M1 64) (M1 63) (M1 66) (M1 67) a) ((x10.toNat : Nat) : Int) by rw [ex10 (by omega)]; unfold pl_of pl_sq; omega)]
                  refine hgo.2.1 165 _ [(10, (0, 0, (-1), 15, x10 + (-1))), (9, (0, 0, (-2147483648), 2147483647, x9)), (8, (0, 0, 0, 16, x8)), (7, (0, 0, (-2147483648), 2147483647, x10)), (6, (0, 0, 0, 16, x6 + 1)), (5, (0, 0, 0, 196, x5)), (4, (0, 0, (-2147483648), 2147483647, x4)), (3, (0, 0, (-2147483648), 2147483647, x3)), (2, (0, 0, 0, 196, x2)), (1, (0, 0, 0, 50, a)), (0, (2, 60, 0, 0, 0))] _ _ (xa_subI rfl rfl (fun _ _ _ _ => by omega) (xa_subI rfl rfl (fun _ _ _ _ => by omega) (xa_subI rfl rfl (fun _ _ _ _ => by omega) (xa_subI rfl rfl (fun _ _ _ _ => by omega) (xa_subI rfl rfl (fun _ _ _ _ => by omega) (xa_subI rfl rfl (fun _ _ _ _ => by omega) (xa_subI rfl rfl (fun _ _ _ _ => by omega) (xa_subI rfl rfl (fun _ _ _ _ => by omega) (xa_subI rfl rfl (fun _ _ _ _ => by omega) (xa_subI rfl rfl (fun _ _ _ _ => by omega) (xa_subR rfl (xa_sub0)))))))))))) ?_
                  exact ih (x10 + (-1)) x9 x8 x10 (x6 + 1) (by omega) e6x e8x (rw_D1y (by omega) (by have q := rw_ctm (P := (pl_sk (M1 65) (M1 66) (M1 67))) (a := (x10 + 1).toNat) (M1 60 6).toNat (by omega); omega) (by unfold pl_sk; omega)) (rw_D1n h8 e8x hD8) (by omega)
                · intro (c10 : r114 < ((((M1 63 (M1 66 x10)) + (M1 63 (M1 67 x10))) - a) * (((M1 63 (M1 66 x10)) + (M1 63 (M1 67 x10))) - a)))
                  show Q 165 [(10, (0, 0, (-2), 14, x10 + (-1))), (9, (0, 0, (-1), 15, x10)), (8, (0, 0, 1, 17, x8 + 1)), (15, (0, 0, (-50), 800, ((M1 63 (M1 66 x10)) + (M1 63 (M1 67 x10))) - a)), (14, (0, 0, 0, 850, ((M1 63 (M1 66 x10)) + (M1 63 (M1 67 x10))) + a)), (13, (0, 0, 0, 2000000, r114)), (7, (0, 0, (-1), 15, x10)), (6, (0, 0, 1, 17, x6 + 1)), (12, (0, 0, 0, 13, M1 67 x10)), (11, (0, 0, 0, 13, M1 66 x10)), (5, (0, 0, 0, 196, x5)), (4, (0, 0, (-2147483648), 2147483647, x4)), (3, (0, 0, (-2147483648), 2147483647, x3)), (2, (0, 0, 0, 196, x2)), (1, (0, 0, 0, 50, a)), (0, (2, 60, 0, 0, 0))] [] M1
                  have y1 := pl_ct_r (P := (pl_sk (M1 65) (M1 66) (M1 67))) (x10 + (-1) + 1).toNat
                  have y2 := pl_ct_r (P := (pl_of (M1 68) (M1 69) (M1 64) (M1 63) (M1 66) (M1 67) a)) (x10 + (-1) + 1).toNat
                  have ep : (x10 + (-1) + 1).toNat = x10.toNat := by omega
                  have e6x : x6 + 1 + pl_ct (pl_sk (M1 65) (M1 66) (M1 67)) (x10 + (-1) + 1).toNat = pl_ct (pl_sk (M1 65) (M1 66) (M1 67)) (M1 60 6).toNat := by
                    rw [ep, ← h6, show (x10 + 1).toNat = x10.toNat + 1 by omega, pl_ct1 (show (pl_sk (M1 65) (M1 66) (M1 67)) ((x10.toNat : Nat) : Int) by rw [ex10 (by omega)]; unfold pl_sk; omega)]
                    omega
                  have e8x : x8 + 1 + pl_ct (pl_of (M1 68) (M1 69) (M1 64) (M1 63) (M1 66) (M1 67) a) (x10 + (-1) + 1).toNat = pl_ct (pl_of (M1 68) (M1 69) (M1 64) (M1 63) (M1 66) (M1 67) a) (M1 60 6).toNat := by
                    rw [ep, ← h8, show (x10 + 1).toNat = x10.toNat + 1 by omega, pl_ct1 (show (pl_of (M1 68) (M1 69) (M1 64) (M1 63) (M1 66) (M1 67) a) ((x10.toNat : Nat) : Int) by rw [ex10 (by omega)]; unfold pl_of pl_sq; omega)]
                    omega
                  refine hgo.2.1 165 _ [(10, (0, 0, (-1), 15, x10 + (-1))), (9, (0, 0, (-2147483648), 2147483647, x10)), (8, (0, 0, 0, 16, x8 + 1)), (7, (0, 0, (-2147483648), 2147483647, x10)), (6, (0, 0, 0, 16, x6 + 1)), (5, (0, 0, 0, 196, x5)), (4, (0, 0, (-2147483648), 2147483647, x4)), (3, (0, 0, (-2147483648), 2147483647, x3)), (2, (0, 0, 0, 196, x2)), (1, (0, 0, 0, 50, a)), (0, (2, 60, 0, 0, 0))] _ _ (xa_subI rfl rfl (fun _ _ _ _ => by omega) (xa_subI rfl rfl (fun _ _ _ _ => by omega) (xa_subI rfl rfl (fun _ _ _ _ => by omega) (xa_subI rfl rfl (fun _ _ _ _ => by omega) (xa_subI rfl rfl (fun _ _ _ _ => by omega) (xa_subI rfl rfl (fun _ _ _ _ => by omega) (xa_subI rfl rfl (fun _ _ _ _ => by omega) (xa_subI rfl rfl (fun _ _ _ _ => by omega) (xa_subI rfl rfl (fun _ _ _ _ => by omega) (xa_subI rfl rfl (fun _ _ _ _ => by omega) (xa_subR rfl (xa_sub0)))))))))))) ?_
                  exact ih (x10 + (-1)) x10 (x8 + 1) x10 (x6 + 1) (by omega) e6x e8x (rw_D1y (by omega) (by have q := rw_ctm (P := (pl_sk (M1 65) (M1 66) (M1 67))) (a := (x10 + 1).toNat) (M1 60 6).toNat (by omega); omega) (by unfold pl_sk; omega)) (rw_D1y (by omega) (by have q := rw_ctm (P := (pl_of (M1 68) (M1 69) (M1 64) (M1 63) (M1 66) (M1 67) a)) (a := (x10 + 1).toNat) (M1 60 6).toNat (by omega); omega) (by unfold pl_of pl_sq; omega)) (by omega)
    intro n
    induction n with
    | zero => intro x6 x5 x4 x3 x2 b6x h4 h5 hR hms; omega
    | succ n ih =>
      intro x6 x5 x4 x3 x2 b6x h4 h5 hR hms
      have ev : ((x6.toNat : Nat) : Int) = x6 := Int.toNat_of_nonneg b6x.1
      have v1 := s1 x6.toNat
      have v2 := s2 x6.toNat
      have inner : x6 < M1 60 0 → ∀ (n : Nat) (x7 x5 x4 x3 x2 : Int), x6 + 1 ≤ x7 ∧ x7 ≤ M1 60 0 → x2 = pl_sm (pl_nv (pl_P1 (M1 68) (M1 69) (M1 64) (M1 65) (M1 63) (M1 66) (M1 67) (M1 60 6)) (M1 60 0).toNat) x6.toNat + pl_ct (fun w => x6 < w ∧ (pl_P1 (M1 68) (M1 69) (M1 64) (M1 65) (M1 63) (M1 66) (M1 67) (M1 60 6)) x6 w) x7.toNat → x5 = pl_sm (pl_nv (pl_P2 (M1 64) (M1 65)) (M1 60 0).toNat) x6.toNat + pl_ct (fun w => x6 < w ∧ (pl_P2 (M1 64) (M1 65)) x6 w) x7.toNat → rw_R2 (pl_P1 (M1 68) (M1 69) (M1 64) (M1 65) (M1 63) (M1 66) (M1 67) (M1 60 6)) (M1 60 0) x2 x3 x4 → 14 - x7 < (n : Int) → Q 45 [(7, (0, 0, 1, 15, x7)), (6, (0, 0, 0, 13, x6)), (5, (0, 0, 0, 196, x5)), (4, (0, 0, (-2147483648), 2147483647, x4)), (3, (0, 0, (-2147483648), 2147483647, x3)), (2, (0, 0, 0, 196, x2)), (1, (0, 0, 0, 50, a)), (0, (2, 60, 0, 0, 0))] [] M1 := by
        intro hv1 n
        induction n with
        | zero => intro x7 x5 x4 x3 x2 b7 h4 h5 hR hms; omega
        | succ n ih2 =>
          intro x7 x5 x4 x3 x2 b7 h4 h5 hR hms
          have ew : ((x7.toNat : Nat) : Int) = x7 := Int.toNat_of_nonneg (by omega)
          have w1 := pl_ct_r (P := (fun w => x6 < w ∧ (pl_P1 (M1 68) (M1 69) (M1 64) (M1 65) (M1 63) (M1 66) (M1 67) (M1 60 6)) x6 w)) x7.toNat
          have w2 := pl_ct_r (P := (fun w => x6 < w ∧ (pl_P2 (M1 64) (M1 65)) x6 w)) x7.toNat
          refine hgo.1 47 [30, 45, 165] 45 _ _ _ ?_
          refine And.intro ?_ ?_
          · intro (c1 : (M1 60 0) ≤ x7)
            show Q 30 [(6, (0, 0, 1, 14, x6 + 1)), (7, (0, 0, 1, 15, x7)), (5, (0, 0, 0, 196, x5)), (4, (0, 0, (-2147483648), 2147483647, x4)), (3, (0, 0, (-2147483648), 2147483647, x3)), (2, (0, 0, 0, 196, x2)), (1, (0, 0, 0, 50, a)), (0, (2, 60, 0, 0, 0))] [] M1
            have en1 : x2 = pl_sm (pl_nv (pl_P1 (M1 68) (M1 69) (M1 64) (M1 65) (M1 63) (M1 66) (M1 67) (M1 60 6)) (M1 60 0).toNat) (x6 + 1).toNat := by
              rw [show (x6 + 1).toNat = x6.toNat + 1 by omega, pl_sm1, ev, h4, show x7 = M1 60 0 by omega]
              rfl
            have en2 : x5 = pl_sm (pl_nv (pl_P2 (M1 64) (M1 65)) (M1 60 0).toNat) (x6 + 1).toNat := by
              rw [show (x6 + 1).toNat = x6.toNat + 1 by omega, pl_sm1, ev, h5, show x7 = M1 60 0 by omega]
              rfl
            refine hgo.2.1 30 _ [(6, (0, 0, 0, 14, x6 + 1)), (5, (0, 0, 0, 196, x5)), (4, (0, 0, (-2147483648), 2147483647, x4)), (3, (0, 0, (-2147483648), 2147483647, x3)), (2, (0, 0, 0, 196, x2)), (1, (0, 0, 0, 50, a)), (0, (2, 60, 0, 0, 0))] _ _ (xa_subI rfl rfl (fun _ _ _ _ => by omega) (xa_subI rfl rfl (fun _ _ _ _ => by omega) (xa_subI rfl rfl (fun _ _ _ _ => by omega) (xa_subI rfl rfl (fun _ _ _ _ => by omega) (xa_subI rfl rfl (fun _ _ _ _ => by omega) (xa_subI rfl rfl (fun _ _ _ _ => by omega) (xa_subR rfl (xa_sub0)))))))) ?_
            exact ih (x6 + 1) x5 x4 x3 x2 (by omega) en1 en2 hR (by omega)
          · intro (c1 : x7 < (M1 60 0))
            refine And.intro (show 0 ≤ x7 ∧ x7 < 14 by omega) ?_
            refine And.intro ?_ ?_
            · intro (c2 : (M1 65 x6) = (M1 65 x7))
              refine And.intro (show 0 ≤ x7 ∧ x7 < 14 by omega) ?_
              refine And.intro ?_ ?_
              · intro (c3 : ¬ (M1 64 x6) = (M1 64 x7))
                show xa_C xm_I A h0 _ 264 [(2, 60, 0, 0, 0), (0, 0, 0, 13, x6), (0, 0, 1, 15, x7)] M1 _
                refine ct_areNearF (by omega) (by omega) (by omega) (by omega) ?_
                intro r115 (i4 : r115 = 0 ∨ r115 = 1) (i5 : r115 = 1 ↔ xm_near M1 x6 x7)
                refine And.intro ?_ ?_
                · intro (c6 : r115 = 0)
                  show Q 45 [(7, (0, 0, 2, 16, x7 + 1)), (6, (0, 0, 0, 13, x6)), (5, (0, 0, 0, 196, x5)), (4, (0, 0, (-2147483648), 2147483647, x4)), (3, (0, 0, (-2147483648), 2147483647, x3)), (2, (0, 0, 0, 196, x2)), (1, (0, 0, 0, 50, a)), (0, (2, 60, 0, 0, 0))] [] M1
                  have en1 : x2 = pl_sm (pl_nv (pl_P1 (M1 68) (M1 69) (M1 64) (M1 65) (M1 63) (M1 66) (M1 67) (M1 60 6)) (M1 60 0).toNat) x6.toNat + pl_ct (fun w => x6 < w ∧ (pl_P1 (M1 68) (M1 69) (M1 64) (M1 65) (M1 63) (M1 66) (M1 67) (M1 60 6)) x6 w) (x7 + 1).toNat := by
                    rw [show (x7 + 1).toNat = x7.toNat + 1 by omega, pl_ct0 (show ¬ (fun w => x6 < w ∧ (pl_P1 (M1 68) (M1 69) (M1 64) (M1 65) (M1 63) (M1 66) (M1 67) (M1 60 6)) x6 w) ((x7.toNat : Nat) : Int) by rw [ew]; exact (fun h => by have n1 := i5.mpr ⟨h.2.2.1, h.2.2.2.2⟩; first | omega | exact h.2.2.2.1 (i5.mp (by omega)))), h4]
                  have en2 : x5 = pl_sm (pl_nv (pl_P2 (M1 64) (M1 65)) (M1 60 0).toNat) x6.toNat + pl_ct (fun w => x6 < w ∧ (pl_P2 (M1 64) (M1 65)) x6 w) (x7 + 1).toNat := by
                    rw [show (x7 + 1).toNat = x7.toNat + 1 by omega, pl_ct0 (show ¬ (fun w => x6 < w ∧ (pl_P2 (M1 64) (M1 65)) x6 w) ((x7.toNat : Nat) : Int) by rw [ew]; exact (fun h => c3 h.2.2)), h5]
                  refine hgo.2.1 45 _ [(7, (0, 0, 1, 15, x7 + 1)), (6, (0, 0, 0, 13, x6)), (5, (0, 0, 0, 196, x5)), (4, (0, 0, (-2147483648), 2147483647, x4)), (3, (0, 0, (-2147483648), 2147483647, x3)), (2, (0, 0, 0, 196, x2)), (1, (0, 0, 0, 50, a)), (0, (2, 60, 0, 0, 0))] _ _ (xa_subI rfl rfl (fun _ _ _ _ => by omega) (xa_subI rfl rfl (fun _ _ _ _ => by omega) (xa_subI rfl rfl (fun _ _ _ _ => by omega) (xa_subI rfl rfl (fun _ _ _ _ => by omega) (xa_subI rfl rfl (fun _ _ _ _ => by omega) (xa_subI rfl rfl (fun _ _ _ _ => by omega) (xa_subI rfl rfl (fun _ _ _ _ => by omega) (xa_subR rfl (xa_sub0))))))))) ?_
                  exact ih2 (x7 + 1) x5 x4 x3 x2 (by omega) en1 en2 hR (by omega)
                · intro (c6 : ¬ r115 = 0)
                  show xa_C xm_I A h0 _ 221 [(2, 60, 0, 0, 0), (0, 0, 0, 13, x6), (0, 0, 1, 15, x7)] M1 _
                  refine ct_areMeshed ?_
                  intro r116 (i7 : r116 = 0 ∨ r116 = 1) (i8 : r116 = 1 ↔ xm_meshed M1 x6 x7)
                  refine And.intro ?_ ?_
                  · intro (c9 : r116 = 0)
                    refine And.intro ?_ ?_
                    · intro (c10 : ¬ x2 = 0)
                      show Q 45 [(7, (0, 0, 2, 16, x7 + 1)), (2, (0, 0, 1, 197, x2 + 1)), (6, (0, 0, 0, 13, x6)), (5, (0, 0, 0, 196, x5)), (4, (0, 0, (-2147483648), 2147483647, x4)), (3, (0, 0, (-2147483648), 2147483647, x3)), (1, (0, 0, 0, 50, a)), (0, (2, 60, 0, 0, 0))] [] M1
                      have en1 : x2 + 1 = pl_sm (pl_nv (pl_P1 (M1 68) (M1 69) (M1 64) (M1 65) (M1 63) (M1 66) (M1 67) (M1 60 6)) (M1 60 0).toNat) x6.toNat + pl_ct (fun w => x6 < w ∧ (pl_P1 (M1 68) (M1 69) (M1 64) (M1 65) (M1 63) (M1 66) (M1 67) (M1 60 6)) x6 w) (x7 + 1).toNat := by
                        rw [show (x7 + 1).toNat = x7.toNat + 1 by omega, pl_ct1 (show (fun w => x6 < w ∧ (pl_P1 (M1 68) (M1 69) (M1 64) (M1 65) (M1 63) (M1 66) (M1 67) (M1 60 6)) x6 w) ((x7.toNat : Nat) : Int) by rw [ew]; exact ⟨by omega, c2, (i5.mp (by omega)).1, fun h => by have := i8.mpr h; omega, (i5.mp (by omega)).2⟩), h4]
                        omega
                      have en2 : x5 = pl_sm (pl_nv (pl_P2 (M1 64) (M1 65)) (M1 60 0).toNat) x6.toNat + pl_ct (fun w => x6 < w ∧ (pl_P2 (M1 64) (M1 65)) x6 w) (x7 + 1).toNat := by
                        rw [show (x7 + 1).toNat = x7.toNat + 1 by omega, pl_ct0 (show ¬ (fun w => x6 < w ∧ (pl_P2 (M1 64) (M1 65)) x6 w) ((x7.toNat : Nat) : Int) by rw [ew]; exact (fun h => c3 h.2.2)), h5]
                      refine hgo.2.1 45 _ [(7, (0, 0, 1, 15, x7 + 1)), (6, (0, 0, 0, 13, x6)), (5, (0, 0, 0, 196, x5)), (4, (0, 0, (-2147483648), 2147483647, x4)), (3, (0, 0, (-2147483648), 2147483647, x3)), (2, (0, 0, 0, 196, x2 + 1)), (1, (0, 0, 0, 50, a)), (0, (2, 60, 0, 0, 0))] _ _ (xa_subI rfl rfl (fun _ _ _ _ => by omega) (xa_subI rfl rfl (fun _ _ _ _ => by omega) (xa_subI rfl rfl (fun _ _ _ _ => by omega) (xa_subI rfl rfl (fun _ _ _ _ => by omega) (xa_subI rfl rfl (fun _ _ _ _ => by omega) (xa_subI rfl rfl (fun _ _ _ _ => by omega) (xa_subI rfl rfl (fun _ _ _ _ => by omega) (xa_subR rfl (xa_sub0))))))))) ?_
                      exact ih2 (x7 + 1) x5 x4 x3 (x2 + 1) (by omega) en1 en2 (rw_R2k (show ¬ x2 = 0 by omega) (by omega) hR) (by omega)
                    · intro (c10 : x2 = 0)
                      show Q 45 [(7, (0, 0, 2, 16, x7 + 1)), (2, (0, 0, 1, 197, x2 + 1)), (4, (0, 0, 1, 15, x7)), (3, (0, 0, 0, 13, x6)), (6, (0, 0, 0, 13, x6)), (5, (0, 0, 0, 196, x5)), (1, (0, 0, 0, 50, a)), (0, (2, 60, 0, 0, 0))] [] M1
                      have en1 : x2 + 1 = pl_sm (pl_nv (pl_P1 (M1 68) (M1 69) (M1 64) (M1 65) (M1 63) (M1 66) (M1 67) (M1 60 6)) (M1 60 0).toNat) x6.toNat + pl_ct (fun w => x6 < w ∧ (pl_P1 (M1 68) (M1 69) (M1 64) (M1 65) (M1 63) (M1 66) (M1 67) (M1 60 6)) x6 w) (x7 + 1).toNat := by
                        rw [show (x7 + 1).toNat = x7.toNat + 1 by omega, pl_ct1 (show (fun w => x6 < w ∧ (pl_P1 (M1 68) (M1 69) (M1 64) (M1 65) (M1 63) (M1 66) (M1 67) (M1 60 6)) x6 w) ((x7.toNat : Nat) : Int) by rw [ew]; exact ⟨by omega, c2, (i5.mp (by omega)).1, fun h => by have := i8.mpr h; omega, (i5.mp (by omega)).2⟩), h4]
                        omega
                      have en2 : x5 = pl_sm (pl_nv (pl_P2 (M1 64) (M1 65)) (M1 60 0).toNat) x6.toNat + pl_ct (fun w => x6 < w ∧ (pl_P2 (M1 64) (M1 65)) x6 w) (x7 + 1).toNat := by
                        rw [show (x7 + 1).toNat = x7.toNat + 1 by omega, pl_ct0 (show ¬ (fun w => x6 < w ∧ (pl_P2 (M1 64) (M1 65)) x6 w) ((x7.toNat : Nat) : Int) by rw [ew]; exact (fun h => c3 h.2.2)), h5]
                      refine hgo.2.1 45 _ [(7, (0, 0, 1, 15, x7 + 1)), (6, (0, 0, 0, 13, x6)), (5, (0, 0, 0, 196, x5)), (4, (0, 0, (-2147483648), 2147483647, x7)), (3, (0, 0, (-2147483648), 2147483647, x6)), (2, (0, 0, 0, 196, x2 + 1)), (1, (0, 0, 0, 50, a)), (0, (2, 60, 0, 0, 0))] _ _ (xa_subI rfl rfl (fun _ _ _ _ => by omega) (xa_subI rfl rfl (fun _ _ _ _ => by omega) (xa_subI rfl rfl (fun _ _ _ _ => by omega) (xa_subI rfl rfl (fun _ _ _ _ => by omega) (xa_subI rfl rfl (fun _ _ _ _ => by omega) (xa_subI rfl rfl (fun _ _ _ _ => by omega) (xa_subI rfl rfl (fun _ _ _ _ => by omega) (xa_subR rfl (xa_sub0))))))))) ?_
                      exact ih2 (x7 + 1) x5 x7 x6 (x2 + 1) (by omega) en1 en2 (rw_R2y (by omega) (by omega) ⟨by omega, c2, (i5.mp (by omega)).1, fun h => by have := i8.mpr h; omega, (i5.mp (by omega)).2⟩ (h4.symm.trans (show x2 = 0 by omega))) (by omega)
                  · intro (c9 : ¬ r116 = 0)
                    show Q 45 [(7, (0, 0, 2, 16, x7 + 1)), (6, (0, 0, 0, 13, x6)), (5, (0, 0, 0, 196, x5)), (4, (0, 0, (-2147483648), 2147483647, x4)), (3, (0, 0, (-2147483648), 2147483647, x3)), (2, (0, 0, 0, 196, x2)), (1, (0, 0, 0, 50, a)), (0, (2, 60, 0, 0, 0))] [] M1
                    have en1 : x2 = pl_sm (pl_nv (pl_P1 (M1 68) (M1 69) (M1 64) (M1 65) (M1 63) (M1 66) (M1 67) (M1 60 6)) (M1 60 0).toNat) x6.toNat + pl_ct (fun w => x6 < w ∧ (pl_P1 (M1 68) (M1 69) (M1 64) (M1 65) (M1 63) (M1 66) (M1 67) (M1 60 6)) x6 w) (x7 + 1).toNat := by
                      rw [show (x7 + 1).toNat = x7.toNat + 1 by omega, pl_ct0 (show ¬ (fun w => x6 < w ∧ (pl_P1 (M1 68) (M1 69) (M1 64) (M1 65) (M1 63) (M1 66) (M1 67) (M1 60 6)) x6 w) ((x7.toNat : Nat) : Int) by rw [ew]; exact (fun h => by have n1 := i5.mpr ⟨h.2.2.1, h.2.2.2.2⟩; first | omega | exact h.2.2.2.1 (i8.mp (by omega)))), h4]
                    have en2 : x5 = pl_sm (pl_nv (pl_P2 (M1 64) (M1 65)) (M1 60 0).toNat) x6.toNat + pl_ct (fun w => x6 < w ∧ (pl_P2 (M1 64) (M1 65)) x6 w) (x7 + 1).toNat := by
                      rw [show (x7 + 1).toNat = x7.toNat + 1 by omega, pl_ct0 (show ¬ (fun w => x6 < w ∧ (pl_P2 (M1 64) (M1 65)) x6 w) ((x7.toNat : Nat) : Int) by rw [ew]; exact (fun h => c3 h.2.2)), h5]
                    refine hgo.2.1 45 _ [(7, (0, 0, 1, 15, x7 + 1)), (6, (0, 0, 0, 13, x6)), (5, (0, 0, 0, 196, x5)), (4, (0, 0, (-2147483648), 2147483647, x4)), (3, (0, 0, (-2147483648), 2147483647, x3)), (2, (0, 0, 0, 196, x2)), (1, (0, 0, 0, 50, a)), (0, (2, 60, 0, 0, 0))] _ _ (xa_subI rfl rfl (fun _ _ _ _ => by omega) (xa_subI rfl rfl (fun _ _ _ _ => by omega) (xa_subI rfl rfl (fun _ _ _ _ => by omega) (xa_subI rfl rfl (fun _ _ _ _ => by omega) (xa_subI rfl rfl (fun _ _ _ _ => by omega) (xa_subI rfl rfl (fun _ _ _ _ => by omega) (xa_subI rfl rfl (fun _ _ _ _ => by omega) (xa_subR rfl (xa_sub0))))))))) ?_
                    exact ih2 (x7 + 1) x5 x4 x3 x2 (by omega) en1 en2 hR (by omega)
              · intro (c3 : (M1 64 x6) = (M1 64 x7))
                show xa_C xm_I A h0 _ 264 [(2, 60, 0, 0, 0), (0, 0, 0, 13, x6), (0, 0, 1, 15, x7)] M1 _
                refine ct_areNearF (by omega) (by omega) (by omega) (by omega) ?_
                intro r117 (i11 : r117 = 0 ∨ r117 = 1) (i12 : r117 = 1 ↔ xm_near M1 x6 x7)
                refine And.intro ?_ ?_
                · intro (c13 : r117 = 0)
                  show Q 45 [(7, (0, 0, 2, 16, x7 + 1)), (5, (0, 0, 1, 197, x5 + 1)), (6, (0, 0, 0, 13, x6)), (4, (0, 0, (-2147483648), 2147483647, x4)), (3, (0, 0, (-2147483648), 2147483647, x3)), (2, (0, 0, 0, 196, x2)), (1, (0, 0, 0, 50, a)), (0, (2, 60, 0, 0, 0))] [] M1
                  have en1 : x2 = pl_sm (pl_nv (pl_P1 (M1 68) (M1 69) (M1 64) (M1 65) (M1 63) (M1 66) (M1 67) (M1 60 6)) (M1 60 0).toNat) x6.toNat + pl_ct (fun w => x6 < w ∧ (pl_P1 (M1 68) (M1 69) (M1 64) (M1 65) (M1 63) (M1 66) (M1 67) (M1 60 6)) x6 w) (x7 + 1).toNat := by
                    rw [show (x7 + 1).toNat = x7.toNat + 1 by omega, pl_ct0 (show ¬ (fun w => x6 < w ∧ (pl_P1 (M1 68) (M1 69) (M1 64) (M1 65) (M1 63) (M1 66) (M1 67) (M1 60 6)) x6 w) ((x7.toNat : Nat) : Int) by rw [ew]; exact (fun h => by have n1 := i12.mpr ⟨h.2.2.1, h.2.2.2.2⟩; first | omega | exact h.2.2.2.1 (i12.mp (by omega)))), h4]
                  have en2 : x5 + 1 = pl_sm (pl_nv (pl_P2 (M1 64) (M1 65)) (M1 60 0).toNat) x6.toNat + pl_ct (fun w => x6 < w ∧ (pl_P2 (M1 64) (M1 65)) x6 w) (x7 + 1).toNat := by
                    rw [show (x7 + 1).toNat = x7.toNat + 1 by omega, pl_ct1 (show (fun w => x6 < w ∧ (pl_P2 (M1 64) (M1 65)) x6 w) ((x7.toNat : Nat) : Int) by rw [ew]; exact ⟨by omega, c2, c3⟩), h5]
                    omega
                  refine hgo.2.1 45 _ [(7, (0, 0, 1, 15, x7 + 1)), (6, (0, 0, 0, 13, x6)), (5, (0, 0, 0, 196, x5 + 1)), (4, (0, 0, (-2147483648), 2147483647, x4)), (3, (0, 0, (-2147483648), 2147483647, x3)), (2, (0, 0, 0, 196, x2)), (1, (0, 0, 0, 50, a)), (0, (2, 60, 0, 0, 0))] _ _ (xa_subI rfl rfl (fun _ _ _ _ => by omega) (xa_subI rfl rfl (fun _ _ _ _ => by omega) (xa_subI rfl rfl (fun _ _ _ _ => by omega) (xa_subI rfl rfl (fun _ _ _ _ => by omega) (xa_subI rfl rfl (fun _ _ _ _ => by omega) (xa_subI rfl rfl (fun _ _ _ _ => by omega) (xa_subI rfl rfl (fun _ _ _ _ => by omega) (xa_subR rfl (xa_sub0))))))))) ?_
                  exact ih2 (x7 + 1) (x5 + 1) x4 x3 x2 (by omega) en1 en2 hR (by omega)
                · intro (c13 : ¬ r117 = 0)
                  show xa_C xm_I A h0 _ 221 [(2, 60, 0, 0, 0), (0, 0, 0, 13, x6), (0, 0, 1, 15, x7)] M1 _
                  refine ct_areMeshed ?_
                  intro r118 (i14 : r118 = 0 ∨ r118 = 1) (i15 : r118 = 1 ↔ xm_meshed M1 x6 x7)
                  refine And.intro ?_ ?_
                  · intro (c16 : r118 = 0)
                    refine And.intro ?_ ?_
                    · intro (c17 : ¬ x2 = 0)
                      show Q 45 [(7, (0, 0, 2, 16, x7 + 1)), (2, (0, 0, 1, 197, x2 + 1)), (5, (0, 0, 1, 197, x5 + 1)), (6, (0, 0, 0, 13, x6)), (4, (0, 0, (-2147483648), 2147483647, x4)), (3, (0, 0, (-2147483648), 2147483647, x3)), (1, (0, 0, 0, 50, a)), (0, (2, 60, 0, 0, 0))] [] M1
                      have en1 : x2 + 1 = pl_sm (pl_nv (pl_P1 (M1 68) (M1 69) (M1 64) (M1 65) (M1 63) (M1 66) (M1 67) (M1 60 6)) (M1 60 0).toNat) x6.toNat + pl_ct (fun w => x6 < w ∧ (pl_P1 (M1 68) (M1 69) (M1 64) (M1 65) (M1 63) (M1 66) (M1 67) (M1 60 6)) x6 w) (x7 + 1).toNat := by
                        rw [show (x7 + 1).toNat = x7.toNat + 1 by omega, pl_ct1 (show (fun w => x6 < w ∧ (pl_P1 (M1 68) (M1 69) (M1 64) (M1 65) (M1 63) (M1 66) (M1 67) (M1 60 6)) x6 w) ((x7.toNat : Nat) : Int) by rw [ew]; exact ⟨by omega, c2, (i12.mp (by omega)).1, fun h => by have := i15.mpr h; omega, (i12.mp (by omega)).2⟩), h4]
                        omega
                      have en2 : x5 + 1 = pl_sm (pl_nv (pl_P2 (M1 64) (M1 65)) (M1 60 0).toNat) x6.toNat + pl_ct (fun w => x6 < w ∧ (pl_P2 (M1 64) (M1 65)) x6 w) (x7 + 1).toNat := by
                        rw [show (x7 + 1).toNat = x7.toNat + 1 by omega, pl_ct1 (show (fun w => x6 < w ∧ (pl_P2 (M1 64) (M1 65)) x6 w) ((x7.toNat : Nat) : Int) by rw [ew]; exact ⟨by omega, c2, c3⟩), h5]
                        omega
                      refine hgo.2.1 45 _ [(7, (0, 0, 1, 15, x7 + 1)), (6, (0, 0, 0, 13, x6)), (5, (0, 0, 0, 196, x5 + 1)), (4, (0, 0, (-2147483648), 2147483647, x4)), (3, (0, 0, (-2147483648), 2147483647, x3)), (2, (0, 0, 0, 196, x2 + 1)), (1, (0, 0, 0, 50, a)), (0, (2, 60, 0, 0, 0))] _ _ (xa_subI rfl rfl (fun _ _ _ _ => by omega) (xa_subI rfl rfl (fun _ _ _ _ => by omega) (xa_subI rfl rfl (fun _ _ _ _ => by omega) (xa_subI rfl rfl (fun _ _ _ _ => by omega) (xa_subI rfl rfl (fun _ _ _ _ => by omega) (xa_subI rfl rfl (fun _ _ _ _ => by omega) (xa_subI rfl rfl (fun _ _ _ _ => by omega) (xa_subR rfl (xa_sub0))))))))) ?_
                      exact ih2 (x7 + 1) (x5 + 1) x4 x3 (x2 + 1) (by omega) en1 en2 (rw_R2k (show ¬ x2 = 0 by omega) (by omega) hR) (by omega)
                    · intro (c17 : x2 = 0)
                      show Q 45 [(7, (0, 0, 2, 16, x7 + 1)), (2, (0, 0, 1, 197, x2 + 1)), (4, (0, 0, 1, 15, x7)), (3, (0, 0, 0, 13, x6)), (5, (0, 0, 1, 197, x5 + 1)), (6, (0, 0, 0, 13, x6)), (1, (0, 0, 0, 50, a)), (0, (2, 60, 0, 0, 0))] [] M1
                      have en1 : x2 + 1 = pl_sm (pl_nv (pl_P1 (M1 68) (M1 69) (M1 64) (M1 65) (M1 63) (M1 66) (M1 67) (M1 60 6)) (M1 60 0).toNat) x6.toNat + pl_ct (fun w => x6 < w ∧ (pl_P1 (M1 68) (M1 69) (M1 64) (M1 65) (M1 63) (M1 66) (M1 67) (M1 60 6)) x6 w) (x7 + 1).toNat := by
                        rw [show (x7 + 1).toNat = x7.toNat + 1 by omega, pl_ct1 (show (fun w => x6 < w ∧ (pl_P1 (M1 68) (M1 69) (M1 64) (M1 65) (M1 63) (M1 66) (M1 67) (M1 60 6)) x6 w) ((x7.toNat : Nat) : Int) by rw [ew]; exact ⟨by omega, c2, (i12.mp (by omega)).1, fun h => by have := i15.mpr h; omega, (i12.mp (by omega)).2⟩), h4]
                        omega
                      have en2 : x5 + 1 = pl_sm (pl_nv (pl_P2 (M1 64) (M1 65)) (M1 60 0).toNat) x6.toNat + pl_ct (fun w => x6 < w ∧ (pl_P2 (M1 64) (M1 65)) x6 w) (x7 + 1).toNat := by
                        rw [show (x7 + 1).toNat = x7.toNat + 1 by omega, pl_ct1 (show (fun w => x6 < w ∧ (pl_P2 (M1 64) (M1 65)) x6 w) ((x7.toNat : Nat) : Int) by rw [ew]; exact ⟨by omega, c2, c3⟩), h5]
                        omega
                      refine hgo.2.1 45 _ [(7, (0, 0, 1, 15, x7 + 1)), (6, (0, 0, 0, 13, x6)), (5, (0, 0, 0, 196, x5 + 1)), (4, (0, 0, (-2147483648), 2147483647, x7)), (3, (0, 0, (-2147483648), 2147483647, x6)), (2, (0, 0, 0, 196, x2 + 1)), (1, (0, 0, 0, 50, a)), (0, (2, 60, 0, 0, 0))] _ _ (xa_subI rfl rfl (fun _ _ _ _ => by omega) (xa_subI rfl rfl (fun _ _ _ _ => by omega) (xa_subI rfl rfl (fun _ _ _ _ => by omega) (xa_subI rfl rfl (fun _ _ _ _ => by omega) (xa_subI rfl rfl (fun _ _ _ _ => by omega) (xa_subI rfl rfl (fun _ _ _ _ => by omega) (xa_subI rfl rfl (fun _ _ _ _ => by omega) (xa_subR rfl (xa_sub0))))))))) ?_
                      exact ih2 (x7 + 1) (x5 + 1) x7 x6 (x2 + 1) (by omega) en1 en2 (rw_R2y (by omega) (by omega) ⟨by omega, c2, (i12.mp (by omega)).1, fun h => by have := i15.mpr h; omega, (i12.mp (by omega)).2⟩ (h4.symm.trans (show x2 = 0 by omega))) (by omega)
                  · intro (c16 : ¬ r118 = 0)
                    show Q 45 [(7, (0, 0, 2, 16, x7 + 1)), (5, (0, 0, 1, 197, x5 + 1)), (6, (0, 0, 0, 13, x6)), (4, (0, 0, (-2147483648), 2147483647, x4)), (3, (0, 0, (-2147483648), 2147483647, x3)), (2, (0, 0, 0, 196, x2)), (1, (0, 0, 0, 50, a)), (0, (2, 60, 0, 0, 0))] [] M1
                    have en1 : x2 = pl_sm (pl_nv (pl_P1 (M1 68) (M1 69) (M1 64) (M1 65) (M1 63) (M1 66) (M1 67) (M1 60 6)) (M1 60 0).toNat) x6.toNat + pl_ct (fun w => x6 < w ∧ (pl_P1 (M1 68) (M1 69) (M1 64) (M1 65) (M1 63) (M1 66) (M1 67) (M1 60 6)) x6 w) (x7 + 1).toNat := by
                      rw [show (x7 + 1).toNat = x7.toNat + 1 by omega, pl_ct0 (show ¬ (fun w => x6 < w ∧ (pl_P1 (M1 68) (M1 69) (M1 64) (M1 65) (M1 63) (M1 66) (M1 67) (M1 60 6)) x6 w) ((x7.toNat : Nat) : Int) by rw [ew]; exact (fun h => by have n1 := i12.mpr ⟨h.2.2.1, h.2.2.2.2⟩; first | omega | exact h.2.2.2.1 (i15.mp (by omega)))), h4]
                    have en2 : x5 + 1 = pl_sm (pl_nv (pl_P2 (M1 64) (M1 65)) (M1 60 0).toNat) x6.toNat + pl_ct (fun w => x6 < w ∧ (pl_P2 (M1 64) (M1 65)) x6 w) (x7 + 1).toNat := by
                      rw [show (x7 + 1).toNat = x7.toNat + 1 by omega, pl_ct1 (show (fun w => x6 < w ∧ (pl_P2 (M1 64) (M1 65)) x6 w) ((x7.toNat : Nat) : Int) by rw [ew]; exact ⟨by omega, c2, c3⟩), h5]
                      omega
                    refine hgo.2.1 45 _ [(7, (0, 0, 1, 15, x7 + 1)), (6, (0, 0, 0, 13, x6)), (5, (0, 0, 0, 196, x5 + 1)), (4, (0, 0, (-2147483648), 2147483647, x4)), (3, (0, 0, (-2147483648), 2147483647, x3)), (2, (0, 0, 0, 196, x2)), (1, (0, 0, 0, 50, a)), (0, (2, 60, 0, 0, 0))] _ _ (xa_subI rfl rfl (fun _ _ _ _ => by omega) (xa_subI rfl rfl (fun _ _ _ _ => by omega) (xa_subI rfl rfl (fun _ _ _ _ => by omega) (xa_subI rfl rfl (fun _ _ _ _ => by omega) (xa_subI rfl rfl (fun _ _ _ _ => by omega) (xa_subI rfl rfl (fun _ _ _ _ => by omega) (xa_subI rfl rfl (fun _ _ _ _ => by omega) (xa_subR rfl (xa_sub0))))))))) ?_
                    exact ih2 (x7 + 1) (x5 + 1) x4 x3 x2 (by omega) en1 en2 hR (by omega)
            · intro (c2 : ¬ (M1 65 x6) = (M1 65 x7))
              show Q 45 [(7, (0, 0, 2, 16, x7 + 1)), (6, (0, 0, 0, 13, x6)), (5, (0, 0, 0, 196, x5)), (4, (0, 0, (-2147483648), 2147483647, x4)), (3, (0, 0, (-2147483648), 2147483647, x3)), (2, (0, 0, 0, 196, x2)), (1, (0, 0, 0, 50, a)), (0, (2, 60, 0, 0, 0))] [] M1
              have en1 : x2 = pl_sm (pl_nv (pl_P1 (M1 68) (M1 69) (M1 64) (M1 65) (M1 63) (M1 66) (M1 67) (M1 60 6)) (M1 60 0).toNat) x6.toNat + pl_ct (fun w => x6 < w ∧ (pl_P1 (M1 68) (M1 69) (M1 64) (M1 65) (M1 63) (M1 66) (M1 67) (M1 60 6)) x6 w) (x7 + 1).toNat := by
                rw [show (x7 + 1).toNat = x7.toNat + 1 by omega, pl_ct0 (show ¬ (fun w => x6 < w ∧ (pl_P1 (M1 68) (M1 69) (M1 64) (M1 65) (M1 63) (M1 66) (M1 67) (M1 60 6)) x6 w) ((x7.toNat : Nat) : Int) by rw [ew]; exact (fun h => c2 h.2.1)), h4]
              have en2 : x5 = pl_sm (pl_nv (pl_P2 (M1 64) (M1 65)) (M1 60 0).toNat) x6.toNat + pl_ct (fun w => x6 < w ∧ (pl_P2 (M1 64) (M1 65)) x6 w) (x7 + 1).toNat := by
                rw [show (x7 + 1).toNat = x7.toNat + 1 by omega, pl_ct0 (show ¬ (fun w => x6 < w ∧ (pl_P2 (M1 64) (M1 65)) x6 w) ((x7.toNat : Nat) : Int) by rw [ew]; exact (fun h => c2 h.2.1)), h5]
              refine hgo.2.1 45 _ [(7, (0, 0, 1, 15, x7 + 1)), (6, (0, 0, 0, 13, x6)), (5, (0, 0, 0, 196, x5)), (4, (0, 0, (-2147483648), 2147483647, x4)), (3, (0, 0, (-2147483648), 2147483647, x3)), (2, (0, 0, 0, 196, x2)), (1, (0, 0, 0, 50, a)), (0, (2, 60, 0, 0, 0))] _ _ (xa_subI rfl rfl (fun _ _ _ _ => by omega) (xa_subI rfl rfl (fun _ _ _ _ => by omega) (xa_subI rfl rfl (fun _ _ _ _ => by omega) (xa_subI rfl rfl (fun _ _ _ _ => by omega) (xa_subI rfl rfl (fun _ _ _ _ => by omega) (xa_subI rfl rfl (fun _ _ _ _ => by omega) (xa_subI rfl rfl (fun _ _ _ _ => by omega) (xa_subR rfl (xa_sub0))))))))) ?_
              exact ih2 (x7 + 1) x5 x4 x3 x2 (by omega) en1 en2 hR (by omega)
      refine hgo.1 22 [30, 45, 165] 30 _ _ _ ?_
      refine And.intro ?_ ?_
      · intro (c1 : (M1 60 0) ≤ x6)
        show Q 165 [(10, (0, 0, (-1), 15, (M1 60 6) - 1)), (9, (0, 0, (-1), (-1), (-1))), (8, (0, 0, 0, 0, 0)), (7, (0, 0, (-1), (-1), (-1))), (6, (0, 0, 0, 0, 0)), (5, (0, 0, 0, 196, x5)), (4, (0, 0, (-2147483648), 2147483647, x4)), (3, (0, 0, (-2147483648), 2147483647, x3)), (2, (0, 0, 0, 196, x2)), (1, (0, 0, 0, 50, a)), (0, (2, 60, 0, 0, 0))] [] M1
        refine hgo.2.1 165 _ [(10, (0, 0, (-1), 15, (M1 60 6) - 1)), (9, (0, 0, (-2147483648), 2147483647, (-1))), (8, (0, 0, 0, 16, 0)), (7, (0, 0, (-2147483648), 2147483647, (-1))), (6, (0, 0, 0, 16, 0)), (5, (0, 0, 0, 196, x5)), (4, (0, 0, (-2147483648), 2147483647, x4)), (3, (0, 0, (-2147483648), 2147483647, x3)), (2, (0, 0, 0, 196, x2)), (1, (0, 0, 0, 50, a)), (0, (2, 60, 0, 0, 0))] _ _ (xa_subI rfl rfl (fun _ _ _ _ => by omega) (xa_subI rfl rfl (fun _ _ _ _ => by omega) (xa_subI rfl rfl (fun _ _ _ _ => by omega) (xa_subI rfl rfl (fun _ _ _ _ => by omega) (xa_subI rfl rfl (fun _ _ _ _ => by omega) (xa_subI rfl rfl (fun _ _ _ _ => by omega) (xa_subI rfl rfl (fun _ _ _ _ => by omega) (xa_subI rfl rfl (fun _ _ _ _ => by omega) (xa_subI rfl rfl (fun _ _ _ _ => by omega) (xa_subI rfl rfl (fun _ _ _ _ => by omega) (xa_subR rfl (xa_sub0)))))))))))) ?_
        exact loop2 x5 x4 x3 x2 (by rw [h4, show x6 = M1 60 0 by omega]) (by rw [h5, show x6 = M1 60 0 by omega]) hR 17 ((M1 60 6) - 1) (-1) 0 (-1) 0 (by omega) (by rw [show M1 60 6 - 1 + 1 = M1 60 6 by omega, Int.zero_add]) (by rw [show M1 60 6 - 1 + 1 = M1 60 6 by omega, Int.zero_add]) rw_D1_0 rw_D1_0 (by omega)
      · intro (c1 : x6 < (M1 60 0))
        show Q 45 [(7, (0, 0, 1, 15, x6 + 1)), (6, (0, 0, 0, 14, x6)), (5, (0, 0, 0, 196, x5)), (4, (0, 0, (-2147483648), 2147483647, x4)), (3, (0, 0, (-2147483648), 2147483647, x3)), (2, (0, 0, 0, 196, x2)), (1, (0, 0, 0, 50, a)), (0, (2, 60, 0, 0, 0))] [] M1
        have hz1 : pl_ct (fun w => x6 < w ∧ (pl_P1 (M1 68) (M1 69) (M1 64) (M1 65) (M1 63) (M1 66) (M1 67) (M1 60 6)) x6 w) (x6 + 1).toNat = 0 := pl_ct_z _ (fun k hk h => by have := h.1; omega)
        have hz2 : pl_ct (fun w => x6 < w ∧ (pl_P2 (M1 64) (M1 65)) x6 w) (x6 + 1).toNat = 0 := pl_ct_z _ (fun k hk h => by have := h.1; omega)
        refine hgo.2.1 45 _ [(7, (0, 0, 1, 15, x6 + 1)), (6, (0, 0, 0, 13, x6)), (5, (0, 0, 0, 196, x5)), (4, (0, 0, (-2147483648), 2147483647, x4)), (3, (0, 0, (-2147483648), 2147483647, x3)), (2, (0, 0, 0, 196, x2)), (1, (0, 0, 0, 50, a)), (0, (2, 60, 0, 0, 0))] _ _ (xa_subI rfl rfl (fun _ _ _ _ => by omega) (xa_subI rfl rfl (fun _ _ _ _ => by omega) (xa_subI rfl rfl (fun _ _ _ _ => by omega) (xa_subI rfl rfl (fun _ _ _ _ => by omega) (xa_subI rfl rfl (fun _ _ _ _ => by omega) (xa_subI rfl rfl (fun _ _ _ _ => by omega) (xa_subI rfl rfl (fun _ _ _ _ => by omega) (xa_subR rfl (xa_sub0))))))))) ?_
        exact inner (by omega) 16 (x6 + 1) x5 x4 x3 x2 (by omega) (by rw [hz1, ← h4]; omega) (by rw [hz2, ← h5]; omega) hR (by omega)
  refine hgo.1 23 [30, 45, 165] 0 _ _ _ ?_
  show xa_C xm_I A h0 _ 214 [(0, 0, (-2147483648), 2147483647, a), (0, 0, 0, 0, 0), (0, 0, 50, 50, 50)] (xa_up M 60 21 0) _
  refine ct_in ?_ ?_
  · intro (i1 : 0 ≤ a ∧ a ≤ 50)
    show Q 30 [(6, (0, 0, 0, 0, 0)), (5, (0, 0, 0, 0, 0)), (4, (0, 0, (-1), (-1), (-1))), (3, (0, 0, (-1), (-1), (-1))), (2, (0, 0, 0, 0, 0)), (0, (2, 60, 0, 0, 0)), (1, (0, 0, (-2147483648), 2147483647, a))] [] (xa_up M 60 21 0)
    refine hgo.2.1 30 _ [(6, (0, 0, 0, 14, 0)), (5, (0, 0, 0, 196, 0)), (4, (0, 0, (-2147483648), 2147483647, (-1))), (3, (0, 0, (-2147483648), 2147483647, (-1))), (2, (0, 0, 0, 196, 0)), (1, (0, 0, 0, 50, a)), (0, (2, 60, 0, 0, 0))] _ _ (xa_subI rfl rfl (fun _ _ _ _ => by omega) (xa_subI rfl rfl (fun _ _ _ _ => by omega) (xa_subI rfl rfl (fun _ _ _ _ => by omega) (xa_subI rfl rfl (fun _ _ _ _ => by omega) (xa_subI rfl rfl (fun _ _ _ _ => by omega) (xa_subI rfl rfl (fun _ _ _ _ => by omega) (xa_subR rfl (xa_sub0)))))))) ?_
    exact loops (xa_up M 60 21 0) (xm_cor_f (by omega) xm_cor_r) (by omega) 15 0 0 (-1) (-1) 0 (by rw [xa_up_ne (by omega)]; omega) rfl rfl rw_R2_0 (by omega)
  · intro (i2 : ¬ (0 ≤ a ∧ a ≤ 50))
    show xa_wk post (some (0, 0, (-1), (-1), (-1))) (xa_up M 60 21 0)
    exact xa_wkI (-1) rfl (fun _ _ => by omega) (k0 (by omega) _ (xm_cor_f (by omega) xm_cor_r) (xa_up_ne (by omega)) (fun i => xa_up_ne (by omega)))
theorem rw_p140 (A : Nat → Nat) (cmp : Bool) : iv_pair (rw_J A) A 140 263 [0] cmp false := rw_armV (fun W b h as M hJ hM hInv hs hR hz => by
  obtain ⟨m1, ys, rfl, -, hs⟩ := iv_spc hs
  obtain rfl := iv_sp0 hs
  have b0 := xm_f0 (xa_H_Mok hM)
  have b6 := xm_f6 (xa_H_Mok hM)
  have r1 : iv_num h 1 9 = M 60 0 := hR.1.1
  have r2 : iv_num h 1 10 = M 60 6 := hR.1.2.1
  have r3 : ∀ i, 0 ≤ i → i < 14 → iv_num h 2 i = M 61 i ∧ iv_num h 3 i = M 62 i ∧ iv_num h 5 i = M 64 i ∧ iv_num h 6 i = M 65 i ∧ iv_num h 4 i = M 63 i := hR.1.2.2.1
  have r4 : ∀ i, 0 ≤ i → i < 16 → iv_num h 7 i = M 66 i ∧ iv_num h 8 i = M 67 i := hR.1.2.2.2
  have hS := hR.2
  have hX : lm_X (xj (iv_num h) M) := hR.2.2
  have hMk := xa_H_Mok hM
  have p9 : ∀ i, 0 ≤ i → i < 10 → iv_num h 9 i = M 68 i := hX.2.2.2.2.2.2.2.2.2.2.2.2.2.2.1
  have p10 : ∀ i, 0 ≤ i → i < 10 → iv_num h 10 i = M 69 i := hX.2.2.2.2.2.2.2.2.2.2.2.2.2.2.2
  have q9 : ∀ i, 0 ≤ i → i < 10 → -500 ≤ iv_num h 9 i ∧ iv_num h 9 i ≤ 500 := fun i i0 i1 => by rw [p9 i i0 i1]; exact xm_t68 hMk i i0 i1
  have q10 : ∀ i, 0 ≤ i → i < 10 → -500 ≤ iv_num h 10 i ∧ iv_num h 10 i ≤ 500 := fun i i0 i1 => by rw [p10 i i0 i1]; exact xm_t69 hMk i i0 i1
  have q5 : ∀ i, 0 ≤ i → i < 14 → 0 ≤ iv_num h 5 i ∧ iv_num h 5 i ≤ 9 := fun i i0 i1 => by rw [(r3 i i0 i1).2.2.1]; exact xm_t64 hMk i i0 i1
  have q6 : ∀ i, 0 ≤ i → i < 14 → 0 ≤ iv_num h 6 i ∧ iv_num h 6 i ≤ 9 := fun i i0 i1 => by rw [(r3 i i0 i1).2.2.2.1]; exact xm_t65 hMk i i0 i1
  have o66 : ∀ i, 0 ≤ i → i < M 60 6 → 0 ≤ M 66 i ∧ M 66 i ≤ 13 := fun i i0 i1 => xm_t66 hMk i i0 (by omega)
  have o67 : ∀ i, 0 ≤ i → i < M 60 6 → 0 ≤ M 67 i ∧ M 67 i ≤ 13 := fun i i0 i1 => xm_t67 hMk i i0 (by omega)
  have e : pl_all (iv_num h 9) (iv_num h 10) (iv_num h 5) (iv_num h 6) (iv_num h 4) (iv_num h 7) (iv_num h 8) (iv_num h 1 9) (iv_num h 1 10) m1.toInt = pl_all (M 68) (M 69) (M 64) (M 65) (M 63) (M 66) (M 67) (M 60 0) (M 60 6) m1.toInt := by
    rw [r1, r2]
    exact pl_all_e b0.2 b6.2 p9 p10 (fun i i0 i1 => (r3 i i0 i1).2.2.1) (fun i i0 i1 => (r3 i i0 i1).2.2.2.1) (fun i i0 i1 => (r3 i i0 i1).2.2.2.2) (fun i i0 i1 => (r4 i i0 i1).1) (fun i i0 i1 => (r4 i i0 i1).2) (fun i i0 i1 => xm_t64 hMk i i0 i1) o66 o67
  have hF : pl_F (iv_num h) := ⟨by omega, by omega, fun k k0 k1 => by
    have a1 := (r4 k k0 (by omega)).1
    have a2 := (r4 k k0 (by omega)).2
    have u1 := o66 k k0 (by omega)
    have u2 := o67 k k0 (by omega)
    omega, q9, q10, q5, q6, fun i i0 i1 => by
    have a1 := (r3 i i0 i1).2.2.2.2
    have a2 := xm_t63 hMk i i0 i1
    omega⟩
  have hc := rw_140 (b := b) (A := A) (h0 := h) (d := 53) (M := iv_num h) (l1 := -2147483648) (u1 := 2147483647) (sl := m1.toInt) (post := fun o M1 => ∃ lo hi n, o = some (0, 0, lo, hi, n) ∧ ((pl_An m1.toInt (pl_all (M 68) (M 69) (M 64) (M 65) (M 63) (M 66) (M 67) (M 60 0) (M 60 6) m1.toInt) n ∧ pl_K (iv_num h) M1) ∧ rw_k (0 ≤ m1.toInt ∧ m1.toInt ≤ 50) (iv_num h 48 1) (iv_num h 49) (M1 48 1) (M1 49) 8 (rw_s140 (iv_num h 9) (iv_num h 10) (iv_num h 5) (iv_num h 6) (iv_num h 4) (iv_num h 7) (iv_num h 8) (iv_num h 1 9) (iv_num h 1 10) m1.toInt))) hF (fun hs M1 hK z y => ⟨_, _, _, rfl, ⟨Or.inl ⟨hs, e⟩, hK⟩, rw_yes (V := M1 49) hs z (fun _ _ _ => rfl) y⟩) (fun hs => ⟨_, _, _, rfl, ⟨Or.inr ⟨hs, rfl⟩, fun _ _ _ _ => rfl⟩, rw_no hs rfl (fun _ _ _ => rfl)⟩)
  have hm := fun (h1 : g_H) => rw_m140 (A := A) (h0 := h1) (d := 57) (M := M) (l1 := -2147483648) (u1 := 2147483647) (a := m1.toInt) (post := fun o M2 => (∃ lo hi n, o = some (0, 0, lo, hi, n) ∧ ((pl_An m1.toInt (pl_all (M 68) (M 69) (M 64) (M 65) (M 63) (M 66) (M 67) (M 60 0) (M 60 6) m1.toInt) n ∧ xm_cor M M2) ∧ rw_k (0 ≤ m1.toInt ∧ m1.toInt ≤ 50) (M 60 20) (M 74) (M2 60 20) (M2 74) 8 (rw_s140 (M 68) (M 69) (M 64) (M 65) (M 63) (M 66) (M 67) (M 60 0) (M 60 6) m1.toInt))) ∧ xm_Inv M2) hInv (fun hs M2 hc z y => ⟨⟨_, _, _, rfl, ⟨Or.inl ⟨hs, rfl⟩, hc⟩, rw_yes (V := M2 74) hs z (fun _ _ _ => rfl) y⟩, xm_Inv_cor hc hInv⟩) (fun hs M2 hc z y => ⟨⟨_, _, _, rfl, ⟨Or.inr ⟨hs, rfl⟩, hc⟩, rw_no hs z (fun i _ _ => y i)⟩, xm_Inv_cor hc hInv⟩)
  refine ⟨[(2, 0, 0, 0, 0), (0, 0, -2147483648, 2147483647, m1.toInt)], [(2, 60, 0, 0, 0), (0, 0, -2147483648, 2147483647, m1.toInt)], _, _, ⟨rfl, iv_i m1, trivial⟩, ⟨rfl, iv_i m1, trivial⟩, fun n n' M1 M2 h1 h2 => ⟨fun _ => ?_, fun x => h2.1.2 104 x (by unfold xm_scr; omega), fun x => h2.1.2 105 x (by unfold xm_scr; omega), xq_lmR hR (fun q j hC hq => h1.1.2 q j (by first | (have t9 := lm_Cq hC; omega) | (unfold lm_C at hC; omega)) (by first | (have t9 := lm_Cq hC; omega) | (unfold lm_C at hC; omega))) h2.1.2, rw_k1 h1.2 h2.2 Iff.rfl (fun _ => by decide) (fun V V' _ g1 g2 i i0 i1 => by
    rw [r1, r2] at g1
    exact rw_s140u b0.2 b6.2 p9 p10 (fun i i0 i1 => (r3 i i0 i1).2.2.1) (fun i i0 i1 => (r3 i i0 i1).2.2.2.1) (fun i i0 i1 => (r3 i i0 i1).2.2.2.2) (fun i i0 i1 => (r4 i i0 i1).1) (fun i i0 i1 => (r4 i i0 i1).2) (fun i i0 i1 => xm_t64 hMk i i0 i1) o66 o67 g1 g2 i i0 i1) hz⟩, hc, hm⟩
  rcases h1.1.1 with ⟨a1, a2⟩ | ⟨a1, a2⟩
  · rcases h2.1.1 with ⟨c1, c2⟩ | ⟨c1, c2⟩
    · exact a2.trans c2.symm
    · exact absurd a1 c1
  · rcases h2.1.1 with ⟨c1, c2⟩ | ⟨c1, c2⟩
    · exact absurd c1 a1
    · exact a2.trans c2.symm)

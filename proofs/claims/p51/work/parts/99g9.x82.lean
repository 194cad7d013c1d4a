set_option maxRecDepth 20000
/-- of a pair's (y = 1) or two pairs' numbers: the fourth, what counts, the sum -/
def rw_trd (y u v a b c : Int) : Int := if y = 1 then 1 else a * b * v / (c * u)
def rw_trG (y L H u v a b c : Int) : Prop := (L ≤ a ∧ a ≤ H) ∧ ((y = 1 ∧ b = 1) ∨ (¬ y = 1 ∧ a ≤ b ∧ b ≤ H)) ∧ (L ≤ c ∧ c ≤ H) ∧ sh_q y L H u v a b c = 1
def rw_trS (y u v a b c : Int) : Int := a + b + c + rw_trd y u v a b c
/-- the best of those that stand before P: the least sum, the first of such -/
def rw_bt (y L H u v P a b c : Int) : Prop := rw_trG y L H u v a b c ∧ 1000000 * a + 1000 * b + c < P ∧ ∀ x w z, rw_trG y L H u v x w z → 1000000 * x + 1000 * w + z < P → rw_trS y u v a b c < rw_trS y u v x w z ∨ (rw_trS y u v x w z = rw_trS y u v a b c ∧ 1000000 * a + 1000 * b + c ≤ 1000000 * x + 1000 * w + z)
/-- what is found before P -/
def rw_tq (y L H u v n P w : Int) (T : Int → Int) : Prop := (n = 0 → ∀ x t z, rw_trG y L H u v x t z → P ≤ 1000000 * x + 1000 * t + z) ∧ (¬ n = 0 → ∃ a b c, rw_bt y L H u v P a b c ∧ w = rw_trS y u v a b c ∧ T 0 = a ∧ T 1 = b ∧ T 2 = c ∧ T 3 = rw_trd y u v a b c)
theorem rw_tGb {y L H u v a b c : Int} (hL : 1 ≤ L ∧ H ≤ 400) (h : rw_trG y L H u v a b c) : (1 ≤ a ∧ a ≤ 400) ∧ (1 ≤ b ∧ b ≤ 400) ∧ (1 ≤ c ∧ c ≤ 400) ∧ L ≤ a ∧ a ≤ H ∧ L ≤ c ∧ c ≤ H := by
  obtain ⟨h1, h2, h3, -⟩ := h
  omega
theorem rw_tGe {y L H u v a b c x t z : Int} (hL : 1 ≤ L ∧ H ≤ 400) (h : rw_trG y L H u v a b c) (h' : rw_trG y L H u v x t z) (e : 1000000 * a + 1000 * b + c = 1000000 * x + 1000 * t + z) : a = x ∧ b = t ∧ c = z := by
  have p := rw_tGb hL h
  have q := rw_tGb hL h'
  omega
theorem rw_bt_one {y L H u v P a b c a' b' c' : Int} (hL : 1 ≤ L ∧ H ≤ 400) (h : rw_bt y L H u v P a b c) (h' : rw_bt y L H u v P a' b' c') : a = a' ∧ b = b' ∧ c = c' := by
  obtain ⟨g, p, h⟩ := h
  obtain ⟨g', p', h'⟩ := h'
  have k := h _ _ _ g' p'
  have k' := h' _ _ _ g p
  exact rw_tGe hL g g' (by omega)
theorem rw_tq_0 {y L H u v w : Int} {T : Int → Int} (hL : 1 ≤ L ∧ H ≤ 400) : rw_tq y L H u v 0 (1000000 * L) w T := ⟨fun _ x t z g => by
  have p := rw_tGb hL g
  omega, fun h => absurd rfl h⟩
theorem rw_tq_go {y L H u v n P P' w : Int} {T : Int → Int} (h : rw_tq y L H u v n P w T) (hP : P ≤ P') (hz : ∀ x t z, rw_trG y L H u v x t z → P ≤ 1000000 * x + 1000 * t + z → 1000000 * x + 1000 * t + z < P' → False) : rw_tq y L H u v n P' w T := by
  refine ⟨fun e x t z g => ?_, fun e => ?_⟩
  · have q := h.1 e x t z g
    have q2 : ¬ (1000000 * x + 1000 * t + z < P') := hz x t z g q
    omega
  · obtain ⟨a, b, c, ⟨g, p, k⟩, h2⟩ := h.2 e
    refine ⟨a, b, c, ⟨g, by omega, fun x t z g' p' => ?_⟩, h2⟩
    by_cases c' : 1000000 * x + 1000 * t + z < P
    · exact k x t z g' c'
    · exact absurd (hz x t z g' (by omega) p') id
theorem rw_tq_new {y L H u v n n' w w' a b c : Int} {T T' : Int → Int} (hL : 1 ≤ L ∧ H ≤ 400) (g : rw_trG y L H u v a b c) (h : rw_tq y L H u v n (1000000 * a + 1000 * b + c) w T) (hn : n = 0 ∨ rw_trS y u v a b c < w) (hn' : ¬ n' = 0) (hw : w' = rw_trS y u v a b c) (hT : T' 0 = a ∧ T' 1 = b ∧ T' 2 = c ∧ T' 3 = rw_trd y u v a b c) : rw_tq y L H u v n' (1000000 * a + 1000 * b + (c + 1)) w' T' := by
  refine ⟨fun e => absurd e hn', fun _ => ⟨a, b, c, ⟨g, by omega, fun x t z g' p' => ?_⟩, hw, hT⟩⟩
  by_cases c' : 1000000 * x + 1000 * t + z < 1000000 * a + 1000 * b + c
  · by_cases e : n = 0
    · have := h.1 e x t z g'
      omega
    · obtain ⟨a0, b0, c0, ⟨-, -, k⟩, hw0, -⟩ := h.2 e
      have := k x t z g' c'
      omega
  · obtain ⟨e1, e2, e3⟩ := rw_tGe hL g g' (by omega)
    rw [e1, e2, e3]
    exact Or.inr ⟨rfl, Int.le_refl _⟩
theorem rw_tq_keep {y L H u v n n' w a b c : Int} {T : Int → Int} (hL : 1 ≤ L ∧ H ≤ 400) (g : rw_trG y L H u v a b c) (h : rw_tq y L H u v n (1000000 * a + 1000 * b + c) w T) (hn : ¬ n = 0) (hw : w ≤ rw_trS y u v a b c) (hn' : ¬ n' = 0) : rw_tq y L H u v n' (1000000 * a + 1000 * b + (c + 1)) w T := by
  obtain ⟨a0, b0, c0, ⟨g0, p0, k⟩, hw0, hT⟩ := h.2 hn
  refine ⟨fun e => absurd e hn', fun _ => ⟨a0, b0, c0, ⟨g0, by omega, fun x t z g' p' => ?_⟩, hw0, hT⟩⟩
  by_cases c' : 1000000 * x + 1000 * t + z < 1000000 * a + 1000 * b + c
  · exact k x t z g' c'
  · obtain ⟨e1, e2, e3⟩ := rw_tGe hL g g' (by omega)
    rw [← e1, ← e2, ← e3]
    omega
theorem rw_tq_no {y L H u v n w a b c : Int} {T : Int → Int} (hL : 1 ≤ L ∧ H ≤ 400) (hc : 0 ≤ c ∧ c ≤ 400) (hb : 0 ≤ b ∧ b ≤ 400) (g : ¬ sh_q y L H u v a b c = 1) (h : rw_tq y L H u v n (1000000 * a + 1000 * b + c) w T) : rw_tq y L H u v n (1000000 * a + 1000 * b + (c + 1)) w T := rw_tq_go h (by omega) (fun x t z g' h1 h2 => by
  have q := rw_tGb hL g'
  obtain ⟨rfl, rfl, rfl⟩ : x = a ∧ t = b ∧ z = c := by omega
  exact g g'.2.2.2)
theorem rw_tq_a {y L H u v n w a b : Int} {T : Int → Int} (hL : 1 ≤ L ∧ H ≤ 400) (hb : 0 ≤ b ∧ b ≤ 400) (hs : (y = 1 ∧ b = 1) ∨ (¬ y = 1 ∧ b = a)) (h : rw_tq y L H u v n (1000000 * a) w T) : rw_tq y L H u v n (1000000 * a + 1000 * b) w T := rw_tq_go h (by omega) (fun x t z g' h1 h2 => by
  have q := rw_tGb hL g'
  have q2 := g'.2.1
  omega)
theorem rw_tq_l {y L H u v n w a b l : Int} {T : Int → Int} (hL : 1 ≤ L ∧ H ≤ 400) (hb : 0 ≤ b ∧ b ≤ 400) (hl : 0 ≤ l ∧ l ≤ L ∧ L ≤ 400) (h : rw_tq y L H u v n (1000000 * a + 1000 * b) w T) : rw_tq y L H u v n (1000000 * a + 1000 * b + l) w T := rw_tq_go h (by omega) (fun x t z g' h1 h2 => by
  have q := rw_tGb hL g'
  omega)
theorem rw_tq_c {y L H u v n w a b c : Int} {T : Int → Int} (hL : 1 ≤ L ∧ H ≤ 400) (hb : 0 ≤ b ∧ b ≤ 400) (hc : H + 1 ≤ c ∧ c ≤ 999) (h : rw_tq y L H u v n (1000000 * a + 1000 * b + c) w T) : rw_tq y L H u v n (1000000 * a + 1000 * (b + 1)) w T := rw_tq_go h (by omega) (fun x t z g' h1 h2 => by
  have q := rw_tGb hL g'
  omega)
theorem rw_tq_b {y L H u v n w a b : Int} {T : Int → Int} (hL : 1 ≤ L ∧ H ≤ 400) (hb : 0 ≤ b ∧ b ≤ 401) (hs : (y = 1 ∧ 2 ≤ b) ∨ (¬ y = 1 ∧ H + 1 ≤ b)) (h : rw_tq y L H u v n (1000000 * a + 1000 * b) w T) : rw_tq y L H u v n (1000000 * (a + 1)) w T := rw_tq_go h (by omega) (fun x t z g' h1 h2 => by
  have q := rw_tGb hL g'
  have q2 := g'.2.1
  omega)
/-- the best of all -/
def rw_g122 (y L H u v : Int) (T : Int → Int) : Prop := ∃ a b c, rw_bt y L H u v (1000000 * (H + 1)) a b c ∧ T 0 = a ∧ T 1 = b ∧ T 2 = c ∧ T 3 = rw_trd y u v a b c
theorem rw_g122_k {y L H u v : Int} {T T' : Int → Int} (e : ∀ i, T' i = T i) (h : rw_g122 y L H u v T) : rw_g122 y L H u v T' := by
  obtain ⟨a, b, c, h1, h3⟩ := h
  exact ⟨a, b, c, h1, by rw [e, e, e, e]; exact h3⟩
theorem rw_tq_g {y L H u v n w a : Int} {T : Int → Int} (h : rw_tq y L H u v n (1000000 * a) w T) (ha : a = H + 1) (hn : ¬ n = 0) : rw_g122 y L H u v T := by
  subst ha
  obtain ⟨a, b, c, h1, -, h3⟩ := h.2 hn
  exact ⟨a, b, c, h1, h3⟩
def rw_l122 (y a b c d : Int) : List Int := if y = 1 then [a, c] else [a, b, c, d]
def rw_h122 (y L H u v : Int) (R : Int → Int) : Prop := ∃ a b c, rw_bt y L H u v (1000000 * (H + 1)) a b c ∧ ∀ i, 0 ≤ i → i < 2 * y → R i = rw_v (rw_l122 y a b c (rw_trd y u v a b c)) i
/-- the row behind trains -/
def rw_t122 (y L H u v r s : Int) (R : Int → Int) (s' : Int) (R' : Int → Int) : Prop := (r < 0 ∧ s' = s ∧ ∀ i, 0 ≤ i → i < s → R' i = R i) ∨ (r = 0 ∧ s' = 0) ∨ (0 < r ∧ s' = 2 * y ∧ rw_h122 y L H u v R')
theorem rw_t122_e {y L H u v u' v' r s s' : Int} {R R' : Int → Int} (h : rw_t122 y L H u v r s R s' R') (e : 0 < r → u = u' ∧ v = v') : rw_t122 y L H u' v' r s R s' R' := by
  rcases h with h | h | ⟨h1, h2, h3⟩
  · exact Or.inl h
  · exact Or.inr (Or.inl h)
  · obtain ⟨rfl, rfl⟩ := e h1
    exact Or.inr (Or.inr ⟨h1, h2, h3⟩)
theorem rw_t122u {M K M1 K1 : xa_M} {y L H u v r r' : Int} (hL : 1 ≤ L ∧ H ≤ 400) (e : r = r') (hy : 0 < r → y ≤ 8) (h : rw_t122 y L H u v r (M 48 1) (M 49) (M1 48 1) (M1 49)) (h' : rw_t122 y L H u v r' (K 60 20) (K 74) (K1 60 20) (K1 74)) (hI : rw_I M K) : rw_I M1 K1 := by
  subst e
  rcases h with ⟨a, b, c⟩ | ⟨a, b⟩ | ⟨a, b, a1, b1, c1, g1, k1⟩
  · rcases h' with ⟨-, b', c'⟩ | ⟨a', -⟩ | ⟨a', -⟩
    · exact rw_I_k hI b b' c c'
    · exfalso
      omega
    · exfalso
      omega
  · rcases h' with ⟨a', -⟩ | ⟨-, b'⟩ | ⟨a', -⟩
    · exfalso
      omega
    · exact ⟨by omega, by omega, fun i i0 i1 => absurd i1 (by omega)⟩
    · exfalso
      omega
  · rcases h' with ⟨a', -⟩ | ⟨a', -⟩ | ⟨-, b', a2, b2, c2, g2, k2⟩
    · exfalso
      omega
    · exfalso
      omega
    · have hy := hy a
      obtain ⟨rfl, rfl, rfl⟩ := rw_bt_one hL g1 g2
      exact ⟨by omega, by omega, fun i i0 i1 => (k1 i i0 (by omega)).trans (k2 i i0 (by omega)).symm⟩
/-- the class's two pairs: where the third stands -/
def rw_tp (L H u v n a b c w : Int) (T : Int → Int) : Prop := ∃ P, (c = -1 → P = 1000000 * a + 1000 * b + 999) ∧ (¬ c = -1 → P = 1000000 * a + 1000 * b + c) ∧ rw_tq 2 L H u v n P w T
theorem rw_tp_e {L H u v n a b c w : Int} {T : Int → Int} (hL : 1 ≤ L ∧ H ≤ 400) (hb : 0 ≤ b ∧ b ≤ 400) (h : rw_tp L H u v n a b c w T) (hc : c = -1) : rw_tq 2 L H u v n (1000000 * a + 1000 * (b + 1)) w T := by
  obtain ⟨P, h1, -, h2⟩ := h
  rw [h1 hc] at h2
  exact rw_tq_c hL hb (by omega) h2
theorem rw_trq {L H u v a b c : Int} (h : sh_q 2 L H u v a b c = 1) : sh_f L H (sh_d u v a b) c := by
  rw [sh_q2 (by decide)] at h
  refine Classical.byContradiction (fun e => ?_)
  rw [sh_i0 e] at h
  exact absurd h (by decide)
theorem rw_tp_n {L H u v n a b x r w : Int} {T : Int → Int} (hL : 1 ≤ L ∧ H ≤ 400) (hb : 0 ≤ b ∧ b ≤ 400) (hx : 0 ≤ x ∧ x ≤ 401) (h : rw_tq 2 L H u v n (1000000 * a + 1000 * b + x) w T) (hr : sh_n L H (sh_d u v a b) x r) : rw_tp L H u v n a b r w T := by
  rcases hr with ⟨e, k⟩ | ⟨r1, r2, -, k⟩
  · refine ⟨_, fun _ => rfl, fun h => absurd e h, rw_tq_go h (by omega) (fun x' t z g h1 h2 => ?_)⟩
    have q := rw_tGb hL g
    obtain ⟨rfl, rfl⟩ : x' = a ∧ t = b := by omega
    exact k z (by omega) (by omega) (rw_trq g.2.2.2)
  · refine ⟨_, fun h => absurd h (by omega), fun _ => rfl, rw_tq_go h (by omega) (fun x' t z g h1 h2 => ?_)⟩
    have q := rw_tGb hL g
    obtain ⟨rfl, rfl⟩ : x' = a ∧ t = b := by omega
    exact k z (by omega) (by omega) (rw_trq g.2.2.2)
theorem rw_trd2 {L H u v a b c : Int} (hu : 1 ≤ u) (hL : 1 ≤ L) (hc : L ≤ c) (h : sh_f L H (sh_d u v a b) c) : sh_d u v a b / c = rw_trd 2 u v a b c := by
  have e0 : rw_trd 2 u v a b c = a * b * v / (c * u) := if_neg (by decide)
  rw [e0]
  obtain ⟨h1, h2, -, -⟩ := h
  by_cases hd : u ∣ a * b * v
  · have e : sh_d u v a b = a * b * v / u := if_pos hd
    rw [e] at h2 ⊢
    obtain ⟨k, hk⟩ := h2
    have e1 : a * b * v = c * u * k := by
      have := Int.mul_ediv_cancel' hd
      rw [← this, hk, ← Int.mul_assoc, Int.mul_comm u c]
    have hcu : 0 < c * u := Int.mul_pos (by omega) (by omega)
    rw [hk, e1, Int.mul_ediv_cancel_left k (show ¬ c = 0 by omega), Int.mul_ediv_cancel_left k (show ¬ c * u = 0 by omega)]
  · exfalso
    have e : sh_d u v a b = 0 := if_neg hd
    rw [e] at h1
    have := Int.mul_pos (show 0 < c by omega) (show 0 < c by omega)
    omega
theorem rw_trS2 {L H u v a b c : Int} (hu : 1 ≤ u) (hL : 1 ≤ L) (hc : L ≤ c) (h : sh_f L H (sh_d u v a b) c) : a + b + c + sh_d u v a b / c = rw_trS 2 u v a b c := by
  unfold rw_trS
  rw [rw_trd2 hu hL hc h]
theorem rw_trG2 {L H u v a b c : Int} (ha : L ≤ a ∧ a ≤ b ∧ b ≤ H) (hc : L ≤ c ∧ c ≤ H) (h : sh_f L H (sh_d u v a b) c) : rw_trG 2 L H u v a b c := ⟨by omega, Or.inr ⟨by decide, by omega⟩, hc, by rw [sh_q2 (by decide), sh_i1 h]⟩
theorem rw_tp_new {L H u v n n' a b c w w' r : Int} {T T' : Int → Int} (hL : 1 ≤ L ∧ H ≤ 400) (hu : 1 ≤ u) (ha : L ≤ a ∧ a ≤ b ∧ b ≤ H) (hc : L ≤ c ∧ c ≤ H) (hf : sh_f L H (sh_d u v a b) c) (h : rw_tp L H u v n a b c w T) (hn : n = 0 ∨ a + b + c + sh_d u v a b / c < w) (hn' : ¬ n' = 0) (hw : w' = a + b + c + sh_d u v a b / c) (hT : rw_T T' [a, b, c, sh_d u v a b / c]) (hr : sh_n L H (sh_d u v a b) (c + 1) r) : rw_tp L H u v n' a b r w' T' := by
  obtain ⟨P, -, h1, h2⟩ := h
  rw [h1 (by omega)] at h2
  have e := rw_trS2 hu hL.1 hc.1 hf
  rw [e] at hn hw
  exact rw_tp_n hL (by omega) (by omega) (rw_tq_new hL (rw_trG2 ha hc hf) h2 hn hn' hw ⟨hT 0 (by decide) (by show (0 : Int) < 4; decide), hT 1 (by decide) (by show (1 : Int) < 4; decide), hT 2 (by decide) (by show (2 : Int) < 4; decide), (hT 3 (by decide) (by show (3 : Int) < 4; decide)).trans (rw_trd2 hu hL.1 hc.1 hf)⟩) hr
theorem rw_tp_keep {L H u v n n' a b c w r : Int} {T : Int → Int} (hL : 1 ≤ L ∧ H ≤ 400) (hu : 1 ≤ u) (ha : L ≤ a ∧ a ≤ b ∧ b ≤ H) (hc : L ≤ c ∧ c ≤ H) (hf : sh_f L H (sh_d u v a b) c) (h : rw_tp L H u v n a b c w T) (hn : ¬ n = 0) (hn' : ¬ n' = 0) (hw : w ≤ a + b + c + sh_d u v a b / c) (hr : sh_n L H (sh_d u v a b) (c + 1) r) : rw_tp L H u v n' a b r w T := by
  obtain ⟨P, -, h1, h2⟩ := h
  rw [h1 (by omega)] at h2
  have e := rw_trS2 hu hL.1 hc.1 hf
  rw [e] at hw
  exact rw_tp_n hL (by omega) (by omega) (rw_tq_keep hL (rw_trG2 ha hc hf) h2 hn hw hn') hr
theorem rw_g122_2 {L H u v : Int} {T : Int → Int} (h : rw_g122 2 L H u v T) : rw_h122 2 L H u v T := by
  obtain ⟨a, b, c, h1, h2, h3, h4, h5⟩ := h
  refine ⟨a, b, c, h1, fun i i0 i1 => ?_⟩
  have e : rw_l122 2 a b c (rw_trd 2 u v a b c) = [a, b, c, rw_trd 2 u v a b c] := if_neg (by decide)
  rw [e]
  rcases (show i = 0 ∨ i = 1 ∨ i = 2 ∨ i = 3 by omega) with rfl | rfl | rfl | rfl
  · exact h2
  · exact h3
  · exact h4
  · exact h5
/-- the class's pair: the first -/
def rw_p1 (L H u v n t : Int) (R : Int → Int) : Prop := (n = 0 → ∀ x, L ≤ x → x < t → ¬ sh_g L H u v x = 1) ∧ (¬ n = 0 → ∃ a, (L ≤ a ∧ a < t) ∧ sh_g L H u v a = 1 ∧ (∀ x, L ≤ x → x < a → ¬ sh_g L H u v x = 1) ∧ rw_T R [a, a * v / u])
theorem rw_p1_0 {L H u v : Int} {R : Int → Int} : rw_p1 L H u v 0 L R := ⟨fun _ x h1 h2 => absurd h2 (by omega), fun h => absurd rfl h⟩
theorem rw_p1_n {L H u v n t : Int} {R : Int → Int} (g : sh_g L H u v t = 0) (h : rw_p1 L H u v n t R) : rw_p1 L H u v n (t + 1) R := ⟨fun e x h1 h2 => by
  by_cases c : x = t
  · rw [c, g]
    decide
  · exact h.1 e x h1 (by omega), fun e => by
  obtain ⟨a, ha, h1, h2, h3⟩ := h.2 e
  exact ⟨a, by omega, h1, h2, h3⟩⟩
theorem rw_p1_k {L H u v n n' t : Int} {R : Int → Int} (e : ¬ n = 0) (e' : ¬ n' = 0) (h : rw_p1 L H u v n t R) : rw_p1 L H u v n' (t + 1) R := ⟨fun c => absurd c e', fun _ => by
  obtain ⟨a, ha, h1, h2, h3⟩ := h.2 e
  exact ⟨a, by omega, h1, h2, h3⟩⟩
theorem rw_p1_1 {L H u v n n' t : Int} {R R' : Int → Int} (e : n = 0) (e' : ¬ n' = 0) (ht : L ≤ t) (g : sh_g L H u v t = 1) (hT : rw_T R' [t, t * v / u]) (h : rw_p1 L H u v n t R) : rw_p1 L H u v n' (t + 1) R' := ⟨fun c => absurd c e', fun _ => ⟨t, by omega, g, fun x h1 h2 => h.1 e x h1 h2, hT⟩⟩
theorem rw_shh {u v a c : Int} (hu : 1 ≤ u) (hc : 1 ≤ c) : sh_h u v a c = 1 ↔ a * v = c * u := by
  have hcu : 0 < c * u := Int.mul_pos (by omega) (by omega)
  unfold sh_h
  rw [Int.mul_one]
  constructor
  · intro h
    by_cases g : a * v % (c * u) = 0 ∧ a * v / (c * u) = 1
    · have := Int.mul_ediv_cancel' (Int.dvd_of_emod_eq_zero g.1)
      rw [g.2, Int.mul_one] at this
      exact this.symm
    · rw [if_neg g] at h
      exact absurd h (by decide)
  · intro h
    rw [h]
    exact if_pos ⟨Int.emod_self, Int.ediv_self (by omega)⟩
theorem rw_p1_h {L H u v n t : Int} {R : Int → Int} (hL : 1 ≤ L ∧ H ≤ 400) (hu : 1 ≤ u) (hv : 1 ≤ v) (ht : t = H + 1) (hn : ¬ n = 0) (h : rw_p1 L H u v n t R) : rw_h122 1 L H u v R := by
  obtain ⟨a, ha, h1, h2, h3⟩ := h.2 hn
  have g : u ∣ a * v ∧ L ≤ a * v / u ∧ a * v / u ≤ H := by
    refine Classical.byContradiction (fun c => ?_)
    have : sh_g L H u v a = 0 := if_neg c
    rw [this] at h1
    exact absurd h1 (by decide)
  have e : a * v = a * v / u * u := (Int.ediv_mul_cancel g.1).symm
  refine ⟨a, 1, a * v / u, ⟨⟨by omega, Or.inl ⟨rfl, rfl⟩, g.2, by rw [sh_q1 rfl]; exact (rw_shh hu (by omega)).mpr e⟩, by omega, fun x w z g' _ => ?_⟩, fun i i0 i1 => ?_⟩
  · obtain ⟨gx, gw, gz, gq⟩ := g'
    obtain ⟨-, rfl⟩ : (1 : Int) = 1 ∧ w = 1 := by omega
    rw [sh_q1 rfl] at gq
    have e2 := (rw_shh hu (by omega)).mp gq
    have gg : sh_g L H u v x = 1 := by
      refine if_pos ?_
      rw [e2, Int.mul_ediv_cancel z (by omega)]
      exact ⟨Int.dvd_mul_left _ _, gz⟩
    have hx : a ≤ x := by
      refine Classical.byContradiction (fun c => ?_)
      exact h2 x gx.1 (by omega) gg
    have hz : a * v / u ≤ z := by
      refine Int.le_of_mul_le_mul_right (a := u) ?_ (by omega)
      rw [← e, ← e2]
      exact Int.mul_le_mul_of_nonneg_right hx (by omega)
    have d1 : rw_trd 1 u v a 1 (a * v / u) = 1 := if_pos rfl
    have d2 : rw_trd 1 u v x 1 z = 1 := if_pos rfl
    unfold rw_trS
    rw [d1, d2]
    by_cases c : a = x
    · subst c
      have : a * v / u = z := by rw [e2, Int.mul_ediv_cancel z (by omega)]
      rw [this]
      exact Or.inr ⟨rfl, Int.le_refl _⟩
    · exact Or.inl (by omega)
  · exact h3 i i0 (by show i < 2; omega)
theorem rw_tz2 {y w L H u v r s s' : Int} {R R' : Int → Int} (h : rz_z w r s') (hg : ¬ r = 0 → rw_h122 y L H u v R') (h0 : 0 ≤ r) (hw : w = 2 * y) : rw_t122 y L H u v r s R s' R' := by
  by_cases c : r = 0
  · exact Or.inr (Or.inl ⟨c, h.1 c⟩)
  · exact Or.inr (Or.inr ⟨by omega, (h.2 c).trans hw, hg c⟩)
/-- the reference's row so far -/
def rw_w3 (y x : Int) (R K : Int → Int) : Prop := (y = 2 → ∀ i, 0 ≤ i → i < x → R i = K i) ∧ (¬ y = 2 → (1 ≤ x → R 0 = K 0) ∧ (3 ≤ x → R 1 = K 2))
theorem rw_w3_0 {y : Int} {R K : Int → Int} : rw_w3 y 0 R K := ⟨fun _ i i0 i1 => absurd i1 (by omega), fun _ => ⟨fun h => absurd h (by omega), fun h => absurd h (by omega)⟩⟩
theorem rw_w3_2 {y x n : Int} {R K R' K' : Int → Int} (c : y = 2) (en : n = x) (e : ∀ i, ¬ i = n → R' i = R i) (ex : R' n = K x) (eK : ∀ i, K' i = K i) (h : rw_w3 y x R K) : rw_w3 y (x + 1) R' K' := ⟨fun _ i i0 i1 => by
  rw [eK]
  by_cases ci : i = n
  · rw [ci, ex, en]
  · rw [e i ci]
    exact h.1 c i i0 (by omega), fun g => absurd c g⟩
theorem rw_w3_o {y x : Int} {R K : Int → Int} (c : ¬ y = 2) (x0 : 0 ≤ x) (cx : ¬ x % 2 = 0) (h : rw_w3 y x R K) : rw_w3 y (x + 1) R K := ⟨fun g => absurd g c, fun _ => ⟨fun _ => (h.2 c).1 (by omega), fun g => (h.2 c).2 (by omega)⟩⟩
theorem rw_w3_1 {y x n : Int} {R K R' K' : Int → Int} (c : ¬ y = 2) (x0 : 0 ≤ x ∧ x < 4) (cx : x % 2 = 0) (en : n = (x + 1) / 2) (e : ∀ i, ¬ i = n → R' i = R i) (ex : R' n = K x) (eK : ∀ i, K' i = K i) (h : rw_w3 y x R K) : rw_w3 y (x + 1) R' K' := ⟨fun g => absurd g c, fun _ => by
  rw [eK, eK]
  by_cases c0 : x = 0
  · obtain rfl : n = 0 := by omega
    rw [c0] at ex
    exact ⟨fun _ => ex, fun g => absurd g (by omega)⟩
  · obtain rfl : x = 2 := by omega
    obtain rfl : n = 1 := by omega
    exact ⟨fun _ => (e 0 (by decide)).trans ((h.2 c).1 (by decide)), fun _ => ex⟩⟩
theorem rw_w3_h {y x L H u v : Int} {R K : Int → Int} (hy : 1 ≤ y ∧ y ≤ 2) (hx : 4 ≤ x) (g : rw_g122 y L H u v K) (h : rw_w3 y x R K) : rw_h122 y L H u v R := by
  obtain ⟨a, b, c, h1, h2, h3, h4, h5⟩ := g
  refine ⟨a, b, c, h1, fun i i0 i1 => ?_⟩
  by_cases e : y = 2
  · subst e
    have el : rw_l122 2 a b c (rw_trd 2 u v a b c) = [a, b, c, rw_trd 2 u v a b c] := if_neg (by decide)
    rw [el, h.1 rfl i i0 (by omega)]
    rcases (show i = 0 ∨ i = 1 ∨ i = 2 ∨ i = 3 by omega) with rfl | rfl | rfl | rfl
    · exact h2
    · exact h3
    · exact h4
    · exact h5
  · obtain rfl : y = 1 := by omega
    obtain ⟨k1, k2⟩ := h.2 e
    have el : rw_l122 1 a b c (rw_trd 1 u v a b c) = [a, c] := if_pos rfl
    rw [el]
    rcases (show i = 0 ∨ i = 1 by omega) with rfl | rfl
    · exact (k1 (by omega)).trans h2
    · exact (k2 (by omega)).trans h4
theorem rw_ra {y H u v a b c r : Int} (h : ¬ y = 1) (hc : 1 ≤ c) (hH : H ≤ 400) (e : tr_r u v a b c r) (i : c ≤ r ∧ r ≤ H) : rw_trd y u v a b c = r := by
  have e0 : rw_trd y u v a b c = a * b * v / (c * u) := if_neg h
  rw [e0]
  rcases e with ⟨e1, e2⟩ | ⟨e1, e2, e3, e4⟩ <;> omega
theorem rw_rc {y u v a b c r : Int} (h : y = 1) (i : r = 1) : rw_trd y u v a b c = r := by
  rw [i]
  exact if_pos h
theorem rw_u4 {M : xa_M} {x y z t : Int} : xa_up (xa_up (xa_up (xa_up M 91 0 x) 91 1 y) 91 2 z) 91 3 t 91 0 = x ∧ xa_up (xa_up (xa_up (xa_up M 91 0 x) 91 1 y) 91 2 z) 91 3 t 91 1 = y ∧ xa_up (xa_up (xa_up (xa_up M 91 0 x) 91 1 y) 91 2 z) 91 3 t 91 2 = z ∧ xa_up (xa_up (xa_up (xa_up M 91 0 x) 91 1 y) 91 2 z) 91 3 t 91 3 = t := ⟨(xa_up_ne (by omega)).trans ((xa_up_ne (by omega)).trans ((xa_up_ne (by omega)).trans xa_up_eq)), (xa_up_ne (by omega)).trans ((xa_up_ne (by omega)).trans xa_up_eq), (xa_up_ne (by omega)).trans xa_up_eq, xa_up_eq⟩
theorem rw_tq_rn {y L H u v n n' w a b c r : Int} {T T' : Int → Int} (hL : 1 ≤ L ∧ H ≤ 400) (g : rw_trG y L H u v a b c) (hd : rw_trd y u v a b c = r) (h : rw_tq y L H u v n (1000000 * a + 1000 * b + c) w T) (hn : n = 0 ∨ a + b + c + r < w) (hn' : ¬ n' = 0) (hT : T' 0 = a ∧ T' 1 = b ∧ T' 2 = c ∧ T' 3 = r) : rw_tq y L H u v n' (1000000 * a + 1000 * b + (c + 1)) (a + b + c + r) T' := by
  subst hd
  exact rw_tq_new hL g h hn hn' rfl hT
theorem rw_tq_rk {y L H u v n n' w a b c r : Int} {T : Int → Int} (hL : 1 ≤ L ∧ H ≤ 400) (g : rw_trG y L H u v a b c) (hd : rw_trd y u v a b c = r) (h : rw_tq y L H u v n (1000000 * a + 1000 * b + c) w T) (hn : ¬ n = 0) (hw : w ≤ a + b + c + r) (hn' : ¬ n' = 0) : rw_tq y L H u v n' (1000000 * a + 1000 * b + (c + 1)) w T := by
  subst hd
  exact rw_tq_keep hL g h hn hw hn'
theorem rw_126 {b : Bool} {A : Nat → Nat} {h0 : g_H} {d : Nat} {M : xa_M} {post : Option xa_V → xa_M → Prop} {l1 u1 l2 u2 uu vv : Int} (hL : 10 ≤ M 32 0 ∧ M 32 0 ≤ M 32 1 ∧ M 32 1 ≤ 400) (hW : M 32 1 - M 32 0 ≤ 60) (hU : 1 ≤ uu ∧ uu ≤ 2000) (hV : 1 ≤ vv ∧ vv ≤ 2000) (k : ∀ M1 : xa_M, (∀ (q : Nat) (j : Int), ¬ (q = 48 ∨ q = 49) → M1 q j = M q j) → 0 ≤ sh_t2 (M 32 0) (M 32 1) uu vv → rz_z 4 (sh_t2 (M 32 0) (M 32 1) uu vv) (M1 48 1) → (¬ sh_t2 (M 32 0) (M 32 1) uu vv = 0 → rw_h122 2 (M 32 0) (M 32 1) uu vv (M1 49)) → post (some (0, 0, 0, 300000, sh_t2 (M 32 0) (M 32 1) uu vv)) M1) : xa_C (xl_I b) A h0 (d + 3) 126 [(2, 32, 0, 0, 0), (1, 0, l1, u1, uu), (1, 0, l2, u2, vv), (2, 48, 0, 0, 0)] M post := by
  refine xa_C_wk ?_
  refine xa_C_arg [(2, 32, 0, 0, 0), (1, 0, 1, 2000, uu), (1, 0, 1, 2000, vv), (2, 48, 0, 0, 0)] (xa_svR (xa_svL (fun _ _ _ _ => by omega) (xa_svL (fun _ _ _ _ => by omega) (xa_svR xa_sv0)))) ?_
  refine xa_meth (Q0 := (17, 1, false, 0, 0, 7)) (by decide +kernel) ⟨rfl, rfl⟩ (full := s_c_126) rfl rfl ?_
  intro hM hv Q hgo
  have hkr : ∀ (q : Nat) (j : Int), ¬ (q = 48 ∨ q = 49) → M q j = M q j := fun _ _ _ => rfl
  have loop17 : ∀ (f : Nat) (ta tn tw : Int) (M1 : xa_M), (∀ (q : Nat) (j : Int), ¬ (q = 48 ∨ q = 49) → M1 q j = M q j) → rz_z 4 tn (M1 48 1) → rw_tq 2 (M 32 0) (M 32 1) uu vv tn (1000000 * ta) tw (M1 49) → M 32 0 ≤ ta ∧ ta ≤ M 32 1 + 1 → 0 ≤ tn ∧ tn ≤ (ta - M 32 0) * 3721 → tn = sh_s (sh_ta (M 32 0) (M 32 1) uu vv) (M 32 0) (ta - M 32 0).toNat → 401 - ta < (f : Int) → Q 17 [(9, (0, 0, 10, 401, ta)), (6, (0, 0, 0, 300000, tn)), (7, (1, 0, (-9223372036854775808), 9223372036854775807, tw)), (0, (2, 32, 0, 0, 0)), (1, (1, 0, 1, 2000, uu)), (3, (1, 0, 1, 2000, vv)), (5, (2, 48, 0, 0, 0))] [] M1 := by
    intro f
    induction f with
    | zero => intro ta tn tw M1 hk h48 hQ ha hb hn hms; omega
    | succ f ih17 =>
      intro ta tn tw M1 hk h48 hQ ha hb hn hms
      have e0 : M1 32 0 = M 32 0 := hk 32 0 (by decide)
      have e1 : M1 32 1 = M 32 1 := hk 32 1 (by decide)
      have loop30 : ta ≤ M 32 1 → ∀ (f : Nat) (tb tn tw : Int) (M1 : xa_M), (∀ (q : Nat) (j : Int), ¬ (q = 48 ∨ q = 49) → M1 q j = M q j) → rz_z 4 tn (M1 48 1) → rw_tq 2 (M 32 0) (M 32 1) uu vv tn (1000000 * ta + 1000 * tb) tw (M1 49) → ta ≤ tb ∧ tb ≤ M 32 1 + 1 → 0 ≤ tn ∧ tn ≤ (ta - M 32 0) * 3721 + (tb - ta) * 61 → tn = sh_s (sh_ta (M 32 0) (M 32 1) uu vv) (M 32 0) (ta - M 32 0).toNat + sh_s (sh_tb (M 32 0) (M 32 1) uu vv ta) ta (tb - ta).toNat → 401 - tb < (f : Int) → Q 30 [(10, (0, 0, 10, 401, tb)), (9, (0, 0, 10, 400, ta)), (6, (0, 0, 0, 300000, tn)), (7, (1, 0, (-9223372036854775808), 9223372036854775807, tw)), (0, (2, 32, 0, 0, 0)), (1, (1, 0, 1, 2000, uu)), (3, (1, 0, 1, 2000, vv)), (5, (2, 48, 0, 0, 0))] [] M1 := by
        intro ha2 f
        induction f with
        | zero => intro tb tn tw M1 hk h48 hQ hb hb2 hn hms; omega
        | succ f ih30 =>
          intro tb tn tw M1 hk h48 hQ hb hb2 hn hms
          have e0 : M1 32 0 = M 32 0 := hk 32 0 (by decide)
          have e1 : M1 32 1 = M 32 1 := hk 32 1 (by decide)
          have loop66 : tb ≤ M 32 1 → ∀ (f : Nat) (tk tc tn tw : Int) (M1 : xa_M), (∀ (q : Nat) (j : Int), ¬ (q = 48 ∨ q = 49) → M1 q j = M q j) → rz_z 4 tn (M1 48 1) → rw_tp (M 32 0) (M 32 1) uu vv tn ta tb tc tw (M1 49) → 0 ≤ tk ∧ tk ≤ 61 → (tc = -1 ∨ (M 32 0 ≤ tc ∧ tc ≤ M 32 1 ∧ tk ≤ tc - M 32 0)) → (0 ≤ tn ∧ tn ≤ (ta - M 32 0) * 3721 + (tb - ta) * 61 + 61 ∧ (¬ tc = -1 → tn ≤ (ta - M 32 0) * 3721 + (tb - ta) * 61 + (tc - M 32 0))) → ((tc = -1 → tn = sh_s (sh_ta (M 32 0) (M 32 1) uu vv) (M 32 0) (ta - M 32 0).toNat + sh_s (sh_tb (M 32 0) (M 32 1) uu vv ta) ta (tb - ta).toNat + sh_s (sh_i (M 32 0) (M 32 1) (sh_d uu vv ta tb)) (M 32 0) (M 32 1 + 1 - M 32 0).toNat) ∧ (¬ tc = -1 → sh_f (M 32 0) (M 32 1) (sh_d uu vv ta tb) tc ∧ tn = sh_s (sh_ta (M 32 0) (M 32 1) uu vv) (M 32 0) (ta - M 32 0).toNat + sh_s (sh_tb (M 32 0) (M 32 1) uu vv ta) ta (tb - ta).toNat + sh_s (sh_i (M 32 0) (M 32 1) (sh_d uu vv ta tb)) (M 32 0) (tc - M 32 0).toNat)) → 61 - tk < (f : Int) → Q 66 [(14, (0, 0, 0, 61, tk)), (13, (0, 0, (-1), 400, tc)), (11, (1, 0, 0, 320000000, sh_d uu vv ta tb)), (10, (0, 0, 10, 400, tb)), (9, (0, 0, 10, 400, ta)), (6, (0, 0, 0, 300000, tn)), (7, (1, 0, (-9223372036854775808), 9223372036854775807, tw)), (0, (2, 32, 0, 0, 0)), (1, (1, 0, 1, 2000, uu)), (3, (1, 0, 1, 2000, vv)), (5, (2, 48, 0, 0, 0))] [] M1 := by
            intro hb3 f
            have hdb := sh_db (u := uu) (v := vv) (a := ta) (b := tb) hU.1 (by omega) (by omega) (by omega)
            induction f with
            | zero => intro tk tc tn tw M1 hk h48 hQ h1 hc h2 hs hms; omega
            | succ f ih66 =>
              intro tk tc tn tw M1 hk h48 hQ h1 hc h2 hs hms
              refine hgo.1 64 [17, 30, 66] 66 _ _ _ ?_
              refine And.intro ?_ ?_
              · intro (c1 : 60 < tk)
                show Q 30 [(10, (0, 0, 11, 401, tb + 1)), (14, (0, 0, 0, 61, tk)), (13, (0, 0, (-1), 400, tc)), (11, (1, 0, 0, 320000000, sh_d uu vv ta tb)), (9, (0, 0, 10, 400, ta)), (6, (0, 0, 0, 300000, tn)), (7, (1, 0, (-9223372036854775808), 9223372036854775807, tw)), (0, (2, 32, 0, 0, 0)), (1, (1, 0, 1, 2000, uu)), (3, (1, 0, 1, 2000, vv)), (5, (2, 48, 0, 0, 0))] [] M1
                refine hgo.2.1 30 _ [(10, (0, 0, 10, 401, tb + 1)), (9, (0, 0, 10, 400, ta)), (6, (0, 0, 0, 300000, tn)), (7, (1, 0, (-9223372036854775808), 9223372036854775807, tw)), (0, (2, 32, 0, 0, 0)), (1, (1, 0, 1, 2000, uu)), (3, (1, 0, 1, 2000, vv)), (5, (2, 48, 0, 0, 0))] _ _ (xa_subI rfl rfl (fun _ _ _ _ => by omega) (xa_subI rfl rfl (fun _ _ _ _ => by omega) (xa_subI rfl rfl (fun _ _ _ _ => by omega) (xa_subL rfl rfl (fun _ _ _ _ => by omega) (xa_subR rfl (xa_subL rfl rfl (fun _ _ _ _ => by omega) (xa_subL rfl rfl (fun _ _ _ _ => by omega) (xa_subR rfl (xa_sub0))))))))) ?_
                have hz : tc = -1 := by omega
                have q1 := hs.1 hz
                exact ih30 (tb + 1) tn tw M1 hk h48 (rw_tp_e (by omega) (by omega) hQ hz) (by omega) (by omega) (by rw [sh_p (show ta ≤ tb by omega)]; show _ = _ + (_ + sh_s (sh_i (M 32 0) (M 32 1) (sh_d uu vv ta tb)) (M 32 0) (M 32 1 + 1 - M 32 0).toNat); omega) (by omega)
              · intro (c1 : tk ≤ 60)
                refine And.intro ?_ ?_
                · intro (c2 : tc = (-1))
                  show Q 30 [(10, (0, 0, 11, 401, tb + 1)), (14, (0, 0, 0, 61, tk)), (13, (0, 0, (-1), 400, tc)), (11, (1, 0, 0, 320000000, sh_d uu vv ta tb)), (9, (0, 0, 10, 400, ta)), (6, (0, 0, 0, 300000, tn)), (7, (1, 0, (-9223372036854775808), 9223372036854775807, tw)), (0, (2, 32, 0, 0, 0)), (1, (1, 0, 1, 2000, uu)), (3, (1, 0, 1, 2000, vv)), (5, (2, 48, 0, 0, 0))] [] M1
                  refine hgo.2.1 30 _ [(10, (0, 0, 10, 401, tb + 1)), (9, (0, 0, 10, 400, ta)), (6, (0, 0, 0, 300000, tn)), (7, (1, 0, (-9223372036854775808), 9223372036854775807, tw)), (0, (2, 32, 0, 0, 0)), (1, (1, 0, 1, 2000, uu)), (3, (1, 0, 1, 2000, vv)), (5, (2, 48, 0, 0, 0))] _ _ (xa_subI rfl rfl (fun _ _ _ _ => by omega) (xa_subI rfl rfl (fun _ _ _ _ => by omega) (xa_subI rfl rfl (fun _ _ _ _ => by omega) (xa_subL rfl rfl (fun _ _ _ _ => by omega) (xa_subR rfl (xa_subL rfl rfl (fun _ _ _ _ => by omega) (xa_subL rfl rfl (fun _ _ _ _ => by omega) (xa_subR rfl (xa_sub0))))))))) ?_
                  have hz : tc = -1 := by omega
                  have q1 := hs.1 hz
                  exact ih30 (tb + 1) tn tw M1 hk h48 (rw_tp_e (by omega) (by omega) hQ hz) (by omega) (by omega) (by rw [sh_p (show ta ≤ tb by omega)]; show _ = _ + (_ + sh_s (sh_i (M 32 0) (M 32 1) (sh_d uu vv ta tb)) (M 32 0) (M 32 1 + 1 - M 32 0).toNat); omega) (by omega)
                · intro (c2 : ¬ tc = (-1))
                  show xa_C (xl_I b) A h0 _ 21 [(1, 0, 0, 320000000, sh_d uu vv ta tb), (1, 0, (-1), 400, tc)] M1 _
                  refine cx_21h (by omega) (by omega) ?_
                  refine And.intro ?_ ?_
                  · intro (c3 : tn = 0)
                    show xa_C (xl_I b) A h0 _ 59 [(2, 48, 0, 0, 0)] M1 _
                    refine rw_59n (N := M) (by assumption) ?_
                    intro M101 (i4 : ∀ (q : Nat) (j : Int), ¬ (q = 48 ∨ q = 49) → M101 q j = M q j) (i5 : M101 48 1 = 0) (tM101 : rw_T (M101 49) [])
                    show xa_C (xl_I b) A h0 _ 60 [(2, 48, 0, 0, 0), (1, 0, 10, 400, ta)] M101 _
                    refine rw_60n (N := M) (c := 0) (e := 1) (l := []) (by assumption) (by assumption) rfl tM101 (by decide) ?_
                    intro M102 (i6 : ∀ (q : Nat) (j : Int), ¬ (q = 48 ∨ q = 49) → M102 q j = M q j) (i7 : M102 48 1 = 1) (tM102 : rw_T (M102 49) [ta])
                    show xa_C (xl_I b) A h0 _ 60 [(2, 48, 0, 0, 0), (1, 0, 10, 400, tb)] M102 _
                    refine rw_60n (N := M) (c := 1) (e := 2) (l := [ta]) (by assumption) (by assumption) rfl tM102 (by decide) ?_
                    intro M103 (i8 : ∀ (q : Nat) (j : Int), ¬ (q = 48 ∨ q = 49) → M103 q j = M q j) (i9 : M103 48 1 = 2) (tM103 : rw_T (M103 49) [ta, tb])
                    show xa_C (xl_I b) A h0 _ 60 [(2, 48, 0, 0, 0), (1, 0, (-1), 400, tc)] M103 _
                    refine rw_60n (N := M) (c := 2) (e := 3) (l := [ta, tb]) (by assumption) (by assumption) rfl tM103 (by decide) ?_
                    intro M104 (i10 : ∀ (q : Nat) (j : Int), ¬ (q = 48 ∨ q = 49) → M104 q j = M q j) (i11 : M104 48 1 = 3) (tM104 : rw_T (M104 49) [ta, tb, tc])
                    show xa_C (xl_I b) A h0 _ 60 [(2, 48, 0, 0, 0), (1, 0, 0, 320000000, (sh_d uu vv ta tb) / tc)] M104 _
                    refine rw_60n (N := M) (c := 3) (e := 4) (l := [ta, tb, tc]) (by assumption) (by assumption) rfl tM104 (by decide) ?_
                    intro M105 (i12 : ∀ (q : Nat) (j : Int), ¬ (q = 48 ∨ q = 49) → M105 q j = M q j) (i13 : M105 48 1 = 4) (tM105 : rw_T (M105 49) [ta, tb, tc, (sh_d uu vv ta tb) / tc])
                    show xa_C (xl_I b) A h0 _ 128 [(2, 32, 0, 0, 0), (0, 0, 0, 401, tc + 1), (1, 0, 0, 320000000, sh_d uu vv ta tb)] M105 _
                    refine cx_128n (N := M) (by assumption) hL (by omega) (by omega) ?_
                    intro r106 (i14 : sh_n (M 32 0) (M 32 1) (sh_d uu vv ta tb) (tc + 1) r106) (i15 : -1 ≤ r106 ∧ r106 ≤ 400)
                    show Q 66 [(14, (0, 0, 1, 62, tk + 1)), (13, (0, 0, (-1), 400, r106)), (6, (0, 0, 1, 300001, tn + 1)), (7, (1, 0, 19, 320001200, ((ta + tb) + tc) + ((sh_d uu vv ta tb) / tc))), (15, (1, 0, 0, 320000000, (sh_d uu vv ta tb) / tc)), (11, (1, 0, 0, 320000000, sh_d uu vv ta tb)), (10, (0, 0, 10, 400, tb)), (9, (0, 0, 10, 400, ta)), (0, (2, 32, 0, 0, 0)), (1, (1, 0, 1, 2000, uu)), (3, (1, 0, 1, 2000, vv)), (5, (2, 48, 0, 0, 0))] [] M105
                    refine hgo.2.1 66 _ [(14, (0, 0, 0, 61, tk + 1)), (13, (0, 0, (-1), 400, r106)), (11, (1, 0, 0, 320000000, sh_d uu vv ta tb)), (10, (0, 0, 10, 400, tb)), (9, (0, 0, 10, 400, ta)), (6, (0, 0, 0, 300000, tn + 1)), (7, (1, 0, (-9223372036854775808), 9223372036854775807, ((ta + tb) + tc) + ((sh_d uu vv ta tb) / tc))), (0, (2, 32, 0, 0, 0)), (1, (1, 0, 1, 2000, uu)), (3, (1, 0, 1, 2000, vv)), (5, (2, 48, 0, 0, 0))] _ _ (xa_subI rfl rfl (fun _ _ _ _ => by omega) (xa_subI rfl rfl (fun _ _ _ _ => by omega) (xa_subL rfl rfl (fun _ _ _ _ => by omega) (xa_subI rfl rfl (fun _ _ _ _ => by omega) (xa_subI rfl rfl (fun _ _ _ _ => by omega) (xa_subI rfl rfl (fun _ _ _ _ => by omega) (xa_subL rfl rfl (fun _ _ _ _ => by omega) (xa_subR rfl (xa_subL rfl rfl (fun _ _ _ _ => by omega) (xa_subL rfl rfl (fun _ _ _ _ => by omega) (xa_subR rfl (xa_sub0)))))))))))) ?_
                    have hne : ¬ tc = -1 := by omega
                    have q1 := (hs.2 hne).2
                    have q2 : sh_s (sh_i (M 32 0) (M 32 1) (sh_d uu vv ta tb)) (M 32 0) (tc + 1 - M 32 0).toNat = sh_s (sh_i (M 32 0) (M 32 1) (sh_d uu vv ta tb)) (M 32 0) (tc - M 32 0).toNat + 1 := by
                      rw [sh_p (by omega), sh_i1 (hs.2 hne).1]
                    rcases sh_ns (by omega) (by omega) i14 with ⟨g1, g2⟩ | ⟨g1, g2, g3, g4⟩
                    · exact ih66 (tk + 1) r106 (tn + 1) (((ta + tb) + tc) + ((sh_d uu vv ta tb) / tc)) M105 i12 (rz_z1 i13 (by omega)) (rw_tp_new (by omega) hU.1 (by omega) (by omega) (hs.2 hne).1 hQ (Or.inl c3) (by omega) rfl tM105 i14) (by omega) (Or.inl g1) (by omega) ⟨fun _ => by omega, fun h => absurd g1 h⟩ (by omega)
                    · exact ih66 (tk + 1) r106 (tn + 1) (((ta + tb) + tc) + ((sh_d uu vv ta tb) / tc)) M105 i12 (rz_z1 i13 (by omega)) (rw_tp_new (by omega) hU.1 (by omega) (by omega) (hs.2 hne).1 hQ (Or.inl c3) (by omega) rfl tM105 i14) (by omega) (Or.inr (by omega)) (by omega) ⟨fun h => by omega, fun _ => ⟨g3, by omega⟩⟩ (by omega)
                  · intro (c3 : ¬ tn = 0)
                    refine And.intro ?_ ?_
                    · intro (c16 : tw ≤ (((ta + tb) + tc) + ((sh_d uu vv ta tb) / tc)))
                      show xa_C (xl_I b) A h0 _ 128 [(2, 32, 0, 0, 0), (0, 0, 0, 401, tc + 1), (1, 0, 0, 320000000, sh_d uu vv ta tb)] M1 _
                      refine cx_128n (N := M) (by assumption) hL (by omega) (by omega) ?_
                      intro r107 (i17 : sh_n (M 32 0) (M 32 1) (sh_d uu vv ta tb) (tc + 1) r107) (i18 : -1 ≤ r107 ∧ r107 ≤ 400)
                      show Q 66 [(14, (0, 0, 1, 62, tk + 1)), (13, (0, 0, (-1), 400, r107)), (6, (0, 0, 1, 300001, tn + 1)), (15, (1, 0, 0, 320000000, (sh_d uu vv ta tb) / tc)), (11, (1, 0, 0, 320000000, sh_d uu vv ta tb)), (10, (0, 0, 10, 400, tb)), (9, (0, 0, 10, 400, ta)), (7, (1, 0, (-9223372036854775808), 9223372036854775807, tw)), (0, (2, 32, 0, 0, 0)), (1, (1, 0, 1, 2000, uu)), (3, (1, 0, 1, 2000, vv)), (5, (2, 48, 0, 0, 0))] [] M1
                      refine hgo.2.1 66 _ [(14, (0, 0, 0, 61, tk + 1)), (13, (0, 0, (-1), 400, r107)), (11, (1, 0, 0, 320000000, sh_d uu vv ta tb)), (10, (0, 0, 10, 400, tb)), (9, (0, 0, 10, 400, ta)), (6, (0, 0, 0, 300000, tn + 1)), (7, (1, 0, (-9223372036854775808), 9223372036854775807, tw)), (0, (2, 32, 0, 0, 0)), (1, (1, 0, 1, 2000, uu)), (3, (1, 0, 1, 2000, vv)), (5, (2, 48, 0, 0, 0))] _ _ (xa_subI rfl rfl (fun _ _ _ _ => by omega) (xa_subI rfl rfl (fun _ _ _ _ => by omega) (xa_subL rfl rfl (fun _ _ _ _ => by omega) (xa_subI rfl rfl (fun _ _ _ _ => by omega) (xa_subI rfl rfl (fun _ _ _ _ => by omega) (xa_subI rfl rfl (fun _ _ _ _ => by omega) (xa_subL rfl rfl (fun _ _ _ _ => by omega) (xa_subR rfl (xa_subL rfl rfl (fun _ _ _ _ => by omega) (xa_subL rfl rfl (fun _ _ _ _ => by omega) (xa_subR rfl (xa_sub0)))))))))))) ?_
                      have hne : ¬ tc = -1 := by omega
                      have q1 := (hs.2 hne).2
                      have q2 : sh_s (sh_i (M 32 0) (M 32 1) (sh_d uu vv ta tb)) (M 32 0) (tc + 1 - M 32 0).toNat = sh_s (sh_i (M 32 0) (M 32 1) (sh_d uu vv ta tb)) (M 32 0) (tc - M 32 0).toNat + 1 := by
                        rw [sh_p (by omega), sh_i1 (hs.2 hne).1]
                      rcases sh_ns (by omega) (by omega) i17 with ⟨g1, g2⟩ | ⟨g1, g2, g3, g4⟩
                      · exact ih66 (tk + 1) r107 (tn + 1) tw M1 hk (rz_z2 h48 c3 (by omega)) (rw_tp_keep (by omega) hU.1 (by omega) (by omega) (hs.2 hne).1 hQ c3 (by omega) c16 i17) (by omega) (Or.inl g1) (by omega) ⟨fun _ => by omega, fun h => absurd g1 h⟩ (by omega)
                      · exact ih66 (tk + 1) r107 (tn + 1) tw M1 hk (rz_z2 h48 c3 (by omega)) (rw_tp_keep (by omega) hU.1 (by omega) (by omega) (hs.2 hne).1 hQ c3 (by omega) c16 i17) (by omega) (Or.inr (by omega)) (by omega) ⟨fun h => by omega, fun _ => ⟨g3, by omega⟩⟩ (by omega)
                    · intro (c16 : (((ta + tb) + tc) + ((sh_d uu vv ta tb) / tc)) < tw)
                      show xa_C (xl_I b) A h0 _ 59 [(2, 48, 0, 0, 0)] M1 _
                      refine rw_59n (N := M) (by assumption) ?_
                      intro M108 (i19 : ∀ (q : Nat) (j : Int), ¬ (q = 48 ∨ q = 49) → M108 q j = M q j) (i20 : M108 48 1 = 0) (tM108 : rw_T (M108 49) [])
                      show xa_C (xl_I b) A h0 _ 60 [(2, 48, 0, 0, 0), (1, 0, 10, 400, ta)] M108 _
                      refine rw_60n (N := M) (c := 0) (e := 1) (l := []) (by assumption) (by assumption) rfl tM108 (by decide) ?_
                      intro M109 (i21 : ∀ (q : Nat) (j : Int), ¬ (q = 48 ∨ q = 49) → M109 q j = M q j) (i22 : M109 48 1 = 1) (tM109 : rw_T (M109 49) [ta])
                      show xa_C (xl_I b) A h0 _ 60 [(2, 48, 0, 0, 0), (1, 0, 10, 400, tb)] M109 _
                      refine rw_60n (N := M) (c := 1) (e := 2) (l := [ta]) (by assumption) (by assumption) rfl tM109 (by decide) ?_
                      intro M110 (i23 : ∀ (q : Nat) (j : Int), ¬ (q = 48 ∨ q = 49) → M110 q j = M q j) (i24 : M110 48 1 = 2) (tM110 : rw_T (M110 49) [ta, tb])
                      show xa_C (xl_I b) A h0 _ 60 [(2, 48, 0, 0, 0), (1, 0, (-1), 400, tc)] M110 _
                      refine rw_60n (N := M) (c := 2) (e := 3) (l := [ta, tb]) (by assumption) (by assumption) rfl tM110 (by decide) ?_
                      intro M111 (i25 : ∀ (q : Nat) (j : Int), ¬ (q = 48 ∨ q = 49) → M111 q j = M q j) (i26 : M111 48 1 = 3) (tM111 : rw_T (M111 49) [ta, tb, tc])
                      show xa_C (xl_I b) A h0 _ 60 [(2, 48, 0, 0, 0), (1, 0, 0, 320000000, (sh_d uu vv ta tb) / tc)] M111 _
                      refine rw_60n (N := M) (c := 3) (e := 4) (l := [ta, tb, tc]) (by assumption) (by assumption) rfl tM111 (by decide) ?_
                      intro M112 (i27 : ∀ (q : Nat) (j : Int), ¬ (q = 48 ∨ q = 49) → M112 q j = M q j) (i28 : M112 48 1 = 4) (tM112 : rw_T (M112 49) [ta, tb, tc, (sh_d uu vv ta tb) / tc])
                      show xa_C (xl_I b) A h0 _ 128 [(2, 32, 0, 0, 0), (0, 0, 0, 401, tc + 1), (1, 0, 0, 320000000, sh_d uu vv ta tb)] M112 _
                      refine cx_128n (N := M) (by assumption) hL (by omega) (by omega) ?_
                      intro r113 (i29 : sh_n (M 32 0) (M 32 1) (sh_d uu vv ta tb) (tc + 1) r113) (i30 : -1 ≤ r113 ∧ r113 ≤ 400)
                      show Q 66 [(14, (0, 0, 1, 62, tk + 1)), (13, (0, 0, (-1), 400, r113)), (6, (0, 0, 1, 300001, tn + 1)), (7, (1, 0, 19, 320001200, ((ta + tb) + tc) + ((sh_d uu vv ta tb) / tc))), (15, (1, 0, 0, 320000000, (sh_d uu vv ta tb) / tc)), (11, (1, 0, 0, 320000000, sh_d uu vv ta tb)), (10, (0, 0, 10, 400, tb)), (9, (0, 0, 10, 400, ta)), (0, (2, 32, 0, 0, 0)), (1, (1, 0, 1, 2000, uu)), (3, (1, 0, 1, 2000, vv)), (5, (2, 48, 0, 0, 0))] [] M112
                      refine hgo.2.1 66 _ [(14, (0, 0, 0, 61, tk + 1)), (13, (0, 0, (-1), 400, r113)), (11, (1, 0, 0, 320000000, sh_d uu vv ta tb)), (10, (0, 0, 10, 400, tb)), (9, (0, 0, 10, 400, ta)), (6, (0, 0, 0, 300000, tn + 1)), (7, (1, 0, (-9223372036854775808), 9223372036854775807, ((ta + tb) + tc) + ((sh_d uu vv ta tb) / tc))), (0, (2, 32, 0, 0, 0)), (1, (1, 0, 1, 2000, uu)), (3, (1, 0, 1, 2000, vv)), (5, (2, 48, 0, 0, 0))] _ _ (xa_subI rfl rfl (fun _ _ _ _ => by omega) (xa_subI rfl rfl (fun _ _ _ _ => by omega) (xa_subL rfl rfl (fun _ _ _ _ => by omega) (xa_subI rfl rfl (fun _ _ _ _ => by omega) (xa_subI rfl rfl (fun _ _ _ _ => by omega) (xa_subI rfl rfl (fun _ _ _ _ => by omega) (xa_subL rfl rfl (fun _ _ _ _ => by omega) (xa_subR rfl (xa_subL rfl rfl (fun _ _ _ _ => by omega) (xa_subL rfl rfl (fun _ _ _ _ => by omega) (xa_subR rfl (xa_sub0)))))))))))) ?_
                      have hne : ¬ tc = -1 := by omega
                      have q1 := (hs.2 hne).2
                      have q2 : sh_s (sh_i (M 32 0) (M 32 1) (sh_d uu vv ta tb)) (M 32 0) (tc + 1 - M 32 0).toNat = sh_s (sh_i (M 32 0) (M 32 1) (sh_d uu vv ta tb)) (M 32 0) (tc - M 32 0).toNat + 1 := by
                        rw [sh_p (by omega), sh_i1 (hs.2 hne).1]
                      rcases sh_ns (by omega) (by omega) i29 with ⟨g1, g2⟩ | ⟨g1, g2, g3, g4⟩
                      · exact ih66 (tk + 1) r113 (tn + 1) (((ta + tb) + tc) + ((sh_d uu vv ta tb) / tc)) M112 i27 (rz_z1 i28 (by omega)) (rw_tp_new (by omega) hU.1 (by omega) (by omega) (hs.2 hne).1 hQ (Or.inr c16) (by omega) rfl tM112 i29) (by omega) (Or.inl g1) (by omega) ⟨fun _ => by omega, fun h => absurd g1 h⟩ (by omega)
                      · exact ih66 (tk + 1) r113 (tn + 1) (((ta + tb) + tc) + ((sh_d uu vv ta tb) / tc)) M112 i27 (rz_z1 i28 (by omega)) (rw_tp_new (by omega) hU.1 (by omega) (by omega) (hs.2 hne).1 hQ (Or.inr c16) (by omega) rfl tM112 i29) (by omega) (Or.inr (by omega)) (by omega) ⟨fun h => by omega, fun _ => ⟨g3, by omega⟩⟩ (by omega)
          refine hgo.1 24 [17, 30, 66] 30 _ _ _ ?_
          refine And.intro ?_ ?_
          · intro (c1 : (M1 32 1) < tb)
            show Q 17 [(9, (0, 0, 11, 401, ta + 1)), (10, (0, 0, 10, 401, tb)), (6, (0, 0, 0, 300000, tn)), (7, (1, 0, (-9223372036854775808), 9223372036854775807, tw)), (0, (2, 32, 0, 0, 0)), (1, (1, 0, 1, 2000, uu)), (3, (1, 0, 1, 2000, vv)), (5, (2, 48, 0, 0, 0))] [] M1
            refine hgo.2.1 17 _ [(9, (0, 0, 10, 401, ta + 1)), (6, (0, 0, 0, 300000, tn)), (7, (1, 0, (-9223372036854775808), 9223372036854775807, tw)), (0, (2, 32, 0, 0, 0)), (1, (1, 0, 1, 2000, uu)), (3, (1, 0, 1, 2000, vv)), (5, (2, 48, 0, 0, 0))] _ _ (xa_subI rfl rfl (fun _ _ _ _ => by omega) (xa_subI rfl rfl (fun _ _ _ _ => by omega) (xa_subL rfl rfl (fun _ _ _ _ => by omega) (xa_subR rfl (xa_subL rfl rfl (fun _ _ _ _ => by omega) (xa_subL rfl rfl (fun _ _ _ _ => by omega) (xa_subR rfl (xa_sub0)))))))) ?_
            exact ih17 (ta + 1) tn tw M1 hk h48 (rw_tq_b (by omega) (by omega) (Or.inr ⟨by decide, by omega⟩) hQ) (by omega) (by omega) (by
              rw [sh_p (show M 32 0 ≤ ta by omega)]
              have e : tb = M 32 1 + 1 := by omega
              rw [e] at hn
              show _ = _ + sh_s (sh_tb (M 32 0) (M 32 1) uu vv ta) ta (M 32 1 + 1 - ta).toNat
              omega) (by omega)
          · intro (c1 : tb ≤ (M1 32 1))
            have hdb := sh_db (u := uu) (v := vv) (a := ta) (b := tb) hU.1 (by omega) (by omega) (by omega)
            show xa_C (xl_I b) A h0 _ 127 [(2, 32, 0, 0, 0), (0, 0, 10, 400, ta), (0, 0, 10, 401, tb), (1, 0, 1, 2000, uu), (1, 0, 1, 2000, vv)] M1 _
            refine cx_127f (by omega) (by omega) hU hV ?_
            show xa_C (xl_I b) A h0 _ 128 [(2, 32, 0, 0, 0), (0, 0, 10, 400, M1 32 0), (1, 0, 0, 320000000, sh_d uu vv ta tb)] M1 _
            refine cx_128n (N := M) (by assumption) hL (by omega) (by omega) ?_
            intro r114 (i2 : sh_n (M 32 0) (M 32 1) (sh_d uu vv ta tb) (M1 32 0) r114) (i3 : -1 ≤ r114 ∧ r114 ≤ 400)
            show Q 66 [(14, (0, 0, 0, 0, 0)), (13, (0, 0, (-1), 400, r114)), (11, (1, 0, 0, 320000000, sh_d uu vv ta tb)), (10, (0, 0, 10, 401, tb)), (9, (0, 0, 10, 400, ta)), (6, (0, 0, 0, 300000, tn)), (7, (1, 0, (-9223372036854775808), 9223372036854775807, tw)), (0, (2, 32, 0, 0, 0)), (1, (1, 0, 1, 2000, uu)), (3, (1, 0, 1, 2000, vv)), (5, (2, 48, 0, 0, 0))] [] M1
            refine hgo.2.1 66 _ [(14, (0, 0, 0, 61, 0)), (13, (0, 0, (-1), 400, r114)), (11, (1, 0, 0, 320000000, sh_d uu vv ta tb)), (10, (0, 0, 10, 400, tb)), (9, (0, 0, 10, 400, ta)), (6, (0, 0, 0, 300000, tn)), (7, (1, 0, (-9223372036854775808), 9223372036854775807, tw)), (0, (2, 32, 0, 0, 0)), (1, (1, 0, 1, 2000, uu)), (3, (1, 0, 1, 2000, vv)), (5, (2, 48, 0, 0, 0))] _ _ (xa_subI rfl rfl (fun _ _ _ _ => by omega) (xa_subI rfl rfl (fun _ _ _ _ => by omega) (xa_subL rfl rfl (fun _ _ _ _ => by omega) (xa_subI rfl rfl (fun _ _ _ _ => by omega) (xa_subI rfl rfl (fun _ _ _ _ => by omega) (xa_subI rfl rfl (fun _ _ _ _ => by omega) (xa_subL rfl rfl (fun _ _ _ _ => by omega) (xa_subR rfl (xa_subL rfl rfl (fun _ _ _ _ => by omega) (xa_subL rfl rfl (fun _ _ _ _ => by omega) (xa_subR rfl (xa_sub0)))))))))))) ?_
            rcases sh_ns (by omega) (by omega) i2 with ⟨g1, g2⟩ | ⟨g1, g2, g3, g4⟩
            · have g5 : sh_s (sh_i (M 32 0) (M 32 1) (sh_d uu vv ta tb)) (M 32 0) (M 32 1 + 1 - M 32 0).toNat = 0 := by
                rw [g2]
                exact sh_0 (fun c q0 q1 => by omega)
              exact loop66 (by omega) 62 0 r114 tn tw M1 hk h48 (rw_tp_n (by omega) (by omega) (by omega) (rw_tq_l (by omega) (by omega) (by omega) hQ) i2) (by omega) (Or.inl g1) (by omega) ⟨fun _ => by omega, fun h => absurd g1 h⟩ (by omega)
            · have g5 : sh_s (sh_i (M 32 0) (M 32 1) (sh_d uu vv ta tb)) (M 32 0) (r114 - M 32 0).toNat = 0 := by
                rw [g4]
                exact sh_0 (fun c q0 q1 => by omega)
              exact loop66 (by omega) 62 0 r114 tn tw M1 hk h48 (rw_tp_n (by omega) (by omega) (by omega) (rw_tq_l (by omega) (by omega) (by omega) hQ) i2) (by omega) (Or.inr (by omega)) (by omega) ⟨fun h => by omega, fun _ => ⟨g3, by omega⟩⟩ (by omega)
      refine hgo.1 11 [17, 30, 66] 17 _ _ _ ?_
      refine And.intro ?_ ?_
      · intro (c1 : (M1 32 1) < ta)
        show xa_wk post (some (0, 0, 0, 300000, tn)) M1
        have e : ta = M 32 1 + 1 := by omega
        rw [e] at hn
        exact xa_wkI (sh_t2 (M 32 0) (M 32 1) uu vv) hn (fun _ _ => by have : sh_t2 (M 32 0) (M 32 1) uu vv = tn := hn.symm; omega) (k M1 hk (by have q9 : sh_t2 (M 32 0) (M 32 1) uu vv = tn := hn.symm; omega) (by have q9 : sh_t2 (M 32 0) (M 32 1) uu vv = tn := hn.symm; rw [q9]; exact h48) (fun h => rw_g122_2 (rw_tq_g hQ e (by have q9 : sh_t2 (M 32 0) (M 32 1) uu vv = tn := hn.symm; omega))))
      · intro (c1 : ta ≤ (M1 32 1))
        show Q 30 [(10, (0, 0, 10, 401, ta)), (9, (0, 0, 10, 401, ta)), (6, (0, 0, 0, 300000, tn)), (7, (1, 0, (-9223372036854775808), 9223372036854775807, tw)), (0, (2, 32, 0, 0, 0)), (1, (1, 0, 1, 2000, uu)), (3, (1, 0, 1, 2000, vv)), (5, (2, 48, 0, 0, 0))] [] M1
        refine hgo.2.1 30 _ [(10, (0, 0, 10, 401, ta)), (9, (0, 0, 10, 400, ta)), (6, (0, 0, 0, 300000, tn)), (7, (1, 0, (-9223372036854775808), 9223372036854775807, tw)), (0, (2, 32, 0, 0, 0)), (1, (1, 0, 1, 2000, uu)), (3, (1, 0, 1, 2000, vv)), (5, (2, 48, 0, 0, 0))] _ _ (xa_subI rfl rfl (fun _ _ _ _ => by omega) (xa_subI rfl rfl (fun _ _ _ _ => by omega) (xa_subI rfl rfl (fun _ _ _ _ => by omega) (xa_subL rfl rfl (fun _ _ _ _ => by omega) (xa_subR rfl (xa_subL rfl rfl (fun _ _ _ _ => by omega) (xa_subL rfl rfl (fun _ _ _ _ => by omega) (xa_subR rfl (xa_sub0))))))))) ?_
        exact loop30 (by omega) 402 ta tn tw M1 hk h48 (rw_tq_a (by omega) (by omega) (Or.inr ⟨by decide, rfl⟩) hQ) (by omega) (by omega) (by rw [show (ta - ta).toNat = 0 by omega]; show _ = _ + 0; omega) (by omega)
  refine hgo.1 14 [17, 30, 66] 0 _ _ _ ?_
  show xa_C (xl_I b) A h0 _ 59 [(2, 48, 0, 0, 0)] M _
  refine rw_59n (N := M) (by assumption) ?_
  intro M115 (i1 : ∀ (q : Nat) (j : Int), ¬ (q = 48 ∨ q = 49) → M115 q j = M q j) (i2 : M115 48 1 = 0) (tM115 : rw_T (M115 49) [])
  show Q 17 [(9, (0, 0, 10, 400, M115 32 0)), (7, (1, 0, 0, 0, 0)), (6, (0, 0, 0, 0, 0)), (0, (2, 32, 0, 0, 0)), (1, (1, 0, 1, 2000, uu)), (3, (1, 0, 1, 2000, vv)), (5, (2, 48, 0, 0, 0))] [] M115
  refine hgo.2.1 17 _ [(9, (0, 0, 10, 401, M115 32 0)), (6, (0, 0, 0, 300000, 0)), (7, (1, 0, (-9223372036854775808), 9223372036854775807, 0)), (0, (2, 32, 0, 0, 0)), (1, (1, 0, 1, 2000, uu)), (3, (1, 0, 1, 2000, vv)), (5, (2, 48, 0, 0, 0))] _ _ (xa_subI rfl rfl (fun _ _ _ _ => by omega) (xa_subI rfl rfl (fun _ _ _ _ => by omega) (xa_subL rfl rfl (fun _ _ _ _ => by omega) (xa_subR rfl (xa_subL rfl rfl (fun _ _ _ _ => by omega) (xa_subL rfl rfl (fun _ _ _ _ => by omega) (xa_subR rfl (xa_sub0)))))))) ?_
  have e0 : M115 32 0 = M 32 0 := i1 32 0 (by decide)
  rw [e0]
  exact loop17 402 (M 32 0) 0 0 M115 i1 (rz_z0 i2) (rw_tq_0 (by omega)) (by omega) (by omega) (by rw [show (M 32 0 - M 32 0).toNat = 0 by omega]; rfl) (by omega)
theorem rw_123 {b : Bool} {A : Nat → Nat} {h0 : g_H} {d : Nat} {M : xa_M} {post : Option xa_V → xa_M → Prop} {l1 u1 l2 u2 uu vv : Int} (hL : 10 ≤ M 32 0 ∧ M 32 0 ≤ M 32 1 ∧ M 32 1 ≤ 400) (hU : 1 ≤ uu ∧ uu ≤ 2000) (hV : 1 ≤ vv ∧ vv ≤ 2000) (k : ∀ M1 : xa_M, (∀ (q : Nat) (j : Int), ¬ (q = 48 ∨ q = 49) → M1 q j = M q j) → 0 ≤ sh_t1 (M 32 0) (M 32 1) uu vv → rz_z 2 (sh_t1 (M 32 0) (M 32 1) uu vv) (M1 48 1) → (¬ sh_t1 (M 32 0) (M 32 1) uu vv = 0 → rw_h122 1 (M 32 0) (M 32 1) uu vv (M1 49)) → post (some (0, 0, 0, 400, sh_t1 (M 32 0) (M 32 1) uu vv)) M1) : xa_C (xl_I b) A h0 (d + 3) 123 [(2, 32, 0, 0, 0), (1, 0, l1, u1, uu), (1, 0, l2, u2, vv), (2, 48, 0, 0, 0)] M post := by
  refine xa_C_wk ?_
  refine xa_C_arg [(2, 32, 0, 0, 0), (1, 0, 1, 2000, uu), (1, 0, 1, 2000, vv), (2, 48, 0, 0, 0)] (xa_svR (xa_svL (fun _ _ _ _ => by omega) (xa_svL (fun _ _ _ _ => by omega) (xa_svR xa_sv0)))) ?_
  refine xa_meth (Q0 := (8, 1, false, 0, 0, 7)) (by decide +kernel) ⟨rfl, rfl⟩ (full := s_c_123) rfl rfl ?_
  intro hM hv Q hgo
  have hkr : ∀ (q : Nat) (j : Int), ¬ (q = 48 ∨ q = 49) → M q j = M q j := fun _ _ _ => rfl
  have loop : ∀ (f : Nat) (ta tn : Int) (M1 : xa_M), (∀ (q : Nat) (j : Int), ¬ (q = 48 ∨ q = 49) → M1 q j = M q j) → rz_z 2 tn (M1 48 1) → rw_p1 (M 32 0) (M 32 1) uu vv tn ta (M1 49) → M 32 0 ≤ ta ∧ ta ≤ M 32 1 + 1 → 0 ≤ tn ∧ tn ≤ ta - M 32 0 → tn = sh_s (sh_g (M 32 0) (M 32 1) uu vv) (M 32 0) (ta - M 32 0).toNat → 401 - ta < (f : Int) → Q 14 [(7, (0, 0, 10, 401, ta)), (6, (0, 0, 0, 400, tn)), (0, (2, 32, 0, 0, 0)), (1, (1, 0, 1, 2000, uu)), (3, (1, 0, 1, 2000, vv)), (5, (2, 48, 0, 0, 0))] [] M1 := by
    intro f
    induction f with
    | zero => intro ta tn M1 hk h48 hQ ha hb hn hms; omega
    | succ f ih =>
      intro ta tn M1 hk h48 hQ ha hb hn hms
      have e0 : M1 32 0 = M 32 0 := hk 32 0 (by decide)
      have e1 : M1 32 1 = M 32 1 := hk 32 1 (by decide)
      refine hgo.1 42 [14] 14 _ _ _ ?_
      refine And.intro ?_ ?_
      · intro (c1 : (M1 32 1) < ta)
        show xa_wk post (some (0, 0, 0, 400, tn)) M1
        have e : ta = M 32 1 + 1 := by omega
        rw [e] at hn
        exact xa_wkI (sh_t1 (M 32 0) (M 32 1) uu vv) hn (fun _ _ => by have : sh_t1 (M 32 0) (M 32 1) uu vv = tn := hn.symm; omega) (k M1 hk (by have q9 : sh_t1 (M 32 0) (M 32 1) uu vv = tn := hn.symm; omega) (by have q9 : sh_t1 (M 32 0) (M 32 1) uu vv = tn := hn.symm; rw [q9]; exact h48) (fun h => rw_p1_h (by omega) hU.1 hV.1 e (by have q9 : sh_t1 (M 32 0) (M 32 1) uu vv = tn := hn.symm; omega) hQ))
      · intro (c1 : ta ≤ (M1 32 1))
        have hdb := sh_db (u := uu) (v := vv) (a := ta) (b := 1) hU.1 (by omega) (by omega) (by omega)
        rw [Int.mul_one] at hdb
        show xa_C (xl_I b) A h0 _ 97 [(1, 0, 1, 2000, uu), (1, 0, 10, 802000, ta * vv)] M1 _
        refine cx_97f (by omega) (by omega) ?_ ?_
        · intro (i2 : uu ∣ (ta * vv))
          show xa_C (xl_I b) A h0 _ 21 [(1, 0, 10, 802000, ta * vv), (1, 0, 1, 2000, uu)] M1 _
          refine cx_21h (by omega) (by omega) ?_
          show xa_C (xl_I b) A h0 _ 124 [(2, 32, 0, 0, 0), (1, 0, 0, 320000000, (ta * vv) / uu)] M1 _
          refine cx_124_32 ?_ ?_ ?_
          · intro (i3 : ((ta * vv) / uu) < (M1 32 0))
            show Q 14 [(7, (0, 0, 11, 402, ta + 1)), (6, (0, 0, 0, 400, tn)), (0, (2, 32, 0, 0, 0)), (1, (1, 0, 1, 2000, uu)), (3, (1, 0, 1, 2000, vv)), (5, (2, 48, 0, 0, 0))] [] M1
            refine hgo.2.1 14 _ [(7, (0, 0, 10, 401, ta + 1)), (6, (0, 0, 0, 400, tn)), (0, (2, 32, 0, 0, 0)), (1, (1, 0, 1, 2000, uu)), (3, (1, 0, 1, 2000, vv)), (5, (2, 48, 0, 0, 0))] _ _ (xa_subI rfl rfl (fun _ _ _ _ => by omega) (xa_subI rfl rfl (fun _ _ _ _ => by omega) (xa_subR rfl (xa_subL rfl rfl (fun _ _ _ _ => by omega) (xa_subL rfl rfl (fun _ _ _ _ => by omega) (xa_subR rfl (xa_sub0))))))) ?_
            have q1 : sh_g (M 32 0) (M 32 1) uu vv ta = 0 := if_neg (fun g => by have g2 := g.2.1; have g3 := g.2.2; omega)
            exact ih (ta + 1) (tn) M1 hk h48 (rw_p1_n q1 hQ) (by omega) (by omega) (by rw [sh_p (show M 32 0 ≤ ta by omega), q1]; omega) (by omega)
          · intro (i4 : (M1 32 0) ≤ ((ta * vv) / uu)) (i5 : (M1 32 1) < ((ta * vv) / uu))
            show Q 14 [(7, (0, 0, 11, 402, ta + 1)), (6, (0, 0, 0, 400, tn)), (0, (2, 32, 0, 0, 0)), (1, (1, 0, 1, 2000, uu)), (3, (1, 0, 1, 2000, vv)), (5, (2, 48, 0, 0, 0))] [] M1
            refine hgo.2.1 14 _ [(7, (0, 0, 10, 401, ta + 1)), (6, (0, 0, 0, 400, tn)), (0, (2, 32, 0, 0, 0)), (1, (1, 0, 1, 2000, uu)), (3, (1, 0, 1, 2000, vv)), (5, (2, 48, 0, 0, 0))] _ _ (xa_subI rfl rfl (fun _ _ _ _ => by omega) (xa_subI rfl rfl (fun _ _ _ _ => by omega) (xa_subR rfl (xa_subL rfl rfl (fun _ _ _ _ => by omega) (xa_subL rfl rfl (fun _ _ _ _ => by omega) (xa_subR rfl (xa_sub0))))))) ?_
            have q1 : sh_g (M 32 0) (M 32 1) uu vv ta = 0 := if_neg (fun g => by have g2 := g.2.1; have g3 := g.2.2; omega)
            exact ih (ta + 1) (tn) M1 hk h48 (rw_p1_n q1 hQ) (by omega) (by omega) (by rw [sh_p (show M 32 0 ≤ ta by omega), q1]; omega) (by omega)
          · intro (i6 : (M1 32 0) ≤ ((ta * vv) / uu)) (i7 : ((ta * vv) / uu) ≤ (M1 32 1))
            refine And.intro ?_ ?_
            · intro (c8 : ¬ tn = 0)
              show Q 14 [(7, (0, 0, 11, 402, ta + 1)), (6, (0, 0, 1, 401, tn + 1)), (0, (2, 32, 0, 0, 0)), (1, (1, 0, 1, 2000, uu)), (3, (1, 0, 1, 2000, vv)), (5, (2, 48, 0, 0, 0))] [] M1
              refine hgo.2.1 14 _ [(7, (0, 0, 10, 401, ta + 1)), (6, (0, 0, 0, 400, tn + 1)), (0, (2, 32, 0, 0, 0)), (1, (1, 0, 1, 2000, uu)), (3, (1, 0, 1, 2000, vv)), (5, (2, 48, 0, 0, 0))] _ _ (xa_subI rfl rfl (fun _ _ _ _ => by omega) (xa_subI rfl rfl (fun _ _ _ _ => by omega) (xa_subR rfl (xa_subL rfl rfl (fun _ _ _ _ => by omega) (xa_subL rfl rfl (fun _ _ _ _ => by omega) (xa_subR rfl (xa_sub0))))))) ?_
              have q1 : sh_g (M 32 0) (M 32 1) uu vv ta = 1 := if_pos ⟨i2, by omega, by omega⟩
              exact ih (ta + 1) (tn + 1) M1 hk (rz_z2 h48 c8 (by omega)) (rw_p1_k c8 (by omega) hQ) (by omega) (by omega) (by rw [sh_p (show M 32 0 ≤ ta by omega), q1]; omega) (by omega)
            · intro (c8 : tn = 0)
              show xa_C (xl_I b) A h0 _ 60 [(2, 48, 0, 0, 0), (1, 0, 10, 401, ta)] M1 _
              refine rw_60n (N := M) (c := 0) (e := 1) (l := []) (by assumption) (h48.1 c8) rfl rw_T0 (by decide) ?_
              intro M116 (i9 : ∀ (q : Nat) (j : Int), ¬ (q = 48 ∨ q = 49) → M116 q j = M q j) (i10 : M116 48 1 = 1) (tM116 : rw_T (M116 49) [ta])
              show xa_C (xl_I b) A h0 _ 21 [(1, 0, 10, 802000, ta * vv), (1, 0, 1, 2000, uu)] M116 _
              refine cx_21h (by omega) (by omega) ?_
              show xa_C (xl_I b) A h0 _ 60 [(2, 48, 0, 0, 0), (1, 0, 0, 320000000, (ta * vv) / uu)] M116 _
              refine rw_60n (N := M) (c := 1) (e := 2) (l := [ta]) (by assumption) (by assumption) rfl tM116 (by decide) ?_
              intro M117 (i11 : ∀ (q : Nat) (j : Int), ¬ (q = 48 ∨ q = 49) → M117 q j = M q j) (i12 : M117 48 1 = 2) (tM117 : rw_T (M117 49) [ta, (ta * vv) / uu])
              show Q 14 [(7, (0, 0, 11, 402, ta + 1)), (6, (0, 0, 1, 401, tn + 1)), (0, (2, 32, 0, 0, 0)), (1, (1, 0, 1, 2000, uu)), (3, (1, 0, 1, 2000, vv)), (5, (2, 48, 0, 0, 0))] [] M117
              refine hgo.2.1 14 _ [(7, (0, 0, 10, 401, ta + 1)), (6, (0, 0, 0, 400, tn + 1)), (0, (2, 32, 0, 0, 0)), (1, (1, 0, 1, 2000, uu)), (3, (1, 0, 1, 2000, vv)), (5, (2, 48, 0, 0, 0))] _ _ (xa_subI rfl rfl (fun _ _ _ _ => by omega) (xa_subI rfl rfl (fun _ _ _ _ => by omega) (xa_subR rfl (xa_subL rfl rfl (fun _ _ _ _ => by omega) (xa_subL rfl rfl (fun _ _ _ _ => by omega) (xa_subR rfl (xa_sub0))))))) ?_
              have q1 : sh_g (M 32 0) (M 32 1) uu vv ta = 1 := if_pos ⟨i2, by omega, by omega⟩
              exact ih (ta + 1) (tn + 1) M117 i11 (rz_z1 i12 (by omega)) (rw_p1_1 c8 (by omega) (by omega) q1 tM117 hQ) (by omega) (by omega) (by rw [sh_p (show M 32 0 ≤ ta by omega), q1]; omega) (by omega)
        · intro (i13 : ¬ uu ∣ (ta * vv))
          show Q 14 [(7, (0, 0, 11, 402, ta + 1)), (6, (0, 0, 0, 400, tn)), (0, (2, 32, 0, 0, 0)), (1, (1, 0, 1, 2000, uu)), (3, (1, 0, 1, 2000, vv)), (5, (2, 48, 0, 0, 0))] [] M1
          refine hgo.2.1 14 _ [(7, (0, 0, 10, 401, ta + 1)), (6, (0, 0, 0, 400, tn)), (0, (2, 32, 0, 0, 0)), (1, (1, 0, 1, 2000, uu)), (3, (1, 0, 1, 2000, vv)), (5, (2, 48, 0, 0, 0))] _ _ (xa_subI rfl rfl (fun _ _ _ _ => by omega) (xa_subI rfl rfl (fun _ _ _ _ => by omega) (xa_subR rfl (xa_subL rfl rfl (fun _ _ _ _ => by omega) (xa_subL rfl rfl (fun _ _ _ _ => by omega) (xa_subR rfl (xa_sub0))))))) ?_
          have q1 : sh_g (M 32 0) (M 32 1) uu vv ta = 0 := if_neg (fun g => i13 g.1)
          exact ih (ta + 1) (tn) M1 hk h48 (rw_p1_n q1 hQ) (by omega) (by omega) (by rw [sh_p (show M 32 0 ≤ ta by omega), q1]; omega) (by omega)
  refine hgo.1 12 [14] 0 _ _ _ ?_
  show xa_C (xl_I b) A h0 _ 59 [(2, 48, 0, 0, 0)] M _
  refine rw_59n (N := M) (by assumption) ?_
  intro M118 (i1 : ∀ (q : Nat) (j : Int), ¬ (q = 48 ∨ q = 49) → M118 q j = M q j) (i2 : M118 48 1 = 0) (tM118 : rw_T (M118 49) [])
  show Q 14 [(7, (0, 0, 10, 400, M118 32 0)), (6, (0, 0, 0, 0, 0)), (0, (2, 32, 0, 0, 0)), (1, (1, 0, 1, 2000, uu)), (3, (1, 0, 1, 2000, vv)), (5, (2, 48, 0, 0, 0))] [] M118
  refine hgo.2.1 14 _ [(7, (0, 0, 10, 401, M118 32 0)), (6, (0, 0, 0, 400, 0)), (0, (2, 32, 0, 0, 0)), (1, (1, 0, 1, 2000, uu)), (3, (1, 0, 1, 2000, vv)), (5, (2, 48, 0, 0, 0))] _ _ (xa_subI rfl rfl (fun _ _ _ _ => by omega) (xa_subI rfl rfl (fun _ _ _ _ => by omega) (xa_subR rfl (xa_subL rfl rfl (fun _ _ _ _ => by omega) (xa_subL rfl rfl (fun _ _ _ _ => by omega) (xa_subR rfl (xa_sub0))))))) ?_
  have e0 : M118 32 0 = M 32 0 := i1 32 0 (by decide)
  rw [e0]
  exact loop 402 (M 32 0) 0 M118 i1 (rz_z0 i2) rw_p1_0 (by omega) (by omega) (by rw [show (M 32 0 - M 32 0).toNat = 0 by omega]; rfl) (by omega)
theorem rw_122_50 {A : Nat → Nat} {h0 : g_H} {d : Nat} {M : xa_M} {post : Option xa_V → xa_M → Prop} {l1 u1 l2 u2 x1 x2 : Int} (hL : 10 ≤ M 32 0 ∧ M 32 0 ≤ M 32 1 ∧ M 32 1 ≤ 400) (hp : 0 ≤ M 50 4 ∧ M 50 4 ≤ 8) (hUU : ∀ i : Int, 0 ≤ i → i < M 50 4 → (1 ≤ M 51 i ∧ M 51 i ≤ 2000) ∧ (1 ≤ M 52 i ∧ M 52 i ≤ 2000)) (k : ∀ (r : Int) (M1 : xa_M), tr_P (M 32 0) (M 32 1) (M 50 4) (M 51 x1) (M 52 x1) x1 x2 r → (∀ (q : Nat) (j : Int), ¬ (q = 48 ∨ q = 49) → M1 q j = M q j) → rw_t122 x2 (M 32 0) (M 32 1) (M 51 x1) (M 52 x1) r (M 48 1) (M 49) (M1 48 1) (M1 49) → post (some (0, 0, (-4), 300000, r)) M1) : xa_C (xl_I false) A h0 (d + 4) 122 [(2, 0, 0, 0, 0), (0, 0, l1, u1, x1), (0, 0, l2, u2, x2)] M post := by
  refine xa_C_wk ?_
  refine xa_C_arg [(2, 0, 0, 0, 0), (0, 0, (-2147483648), 2147483647, x1), (0, 0, (-2147483648), 2147483647, x2)] (xa_svR (xa_svI (fun _ _ _ _ => by omega) (xa_svI (fun _ _ _ _ => by omega) xa_sv0))) ?_
  refine xa_meth (Q0 := (7, 1, false, 0, 0, 11)) (by decide +kernel) ⟨rfl, rfl⟩ (full := s_c_122) rfl rfl ?_
  intro hM hv Q hgo
  have hu := hUU x1
  refine hgo.1 40 [] 0 _ _ _ ?_
  show xa_C (xl_I false) A h0 _ 87 [(2, 50, 0, 0, 0), (0, 0, (-2147483648), 2147483647, x1)] M _
  refine cx_87_50 ?_ ?_ ?_
  · intro (i1 : x1 < 0)
    show xa_wk post (some (0, 0, (-1), (-1), (-1))) M
    exact xa_wkI (-1) rfl (fun _ _ => by omega) (k _ _ (by unfold tr_P; omega) (fun _ _ _ => rfl) (Or.inl ⟨by omega, rfl, fun _ _ _ => rfl⟩))
  · intro (i2 : 0 ≤ x1) (i3 : (M 50 4) ≤ x1)
    show xa_wk post (some (0, 0, (-1), (-1), (-1))) M
    exact xa_wkI (-1) rfl (fun _ _ => by omega) (k _ _ (by unfold tr_P; omega) (fun _ _ _ => rfl) (Or.inl ⟨by omega, rfl, fun _ _ _ => rfl⟩))
  · intro (i4 : 0 ≤ x1) (i5 : x1 < (M 50 4))
    refine And.intro ?_ ?_
    · intro (c6 : x2 < 1)
      show xa_wk post (some (0, 0, (-1), (-1), (-1))) M
      exact xa_wkI (-1) rfl (fun _ _ => by omega) (k _ _ (by unfold tr_P; omega) (fun _ _ _ => rfl) (Or.inl ⟨by omega, rfl, fun _ _ _ => rfl⟩))
    · intro (c6 : 1 ≤ x2)
      refine And.intro ?_ ?_
      · intro (c7 : x2 ≤ 2)
        show xa_C (xl_I false) A h0 _ 65 [(2, 50, 0, 0, 0), (0, 0, (-2147483648), 2147483647, x1)] M _
        refine cx_65_50 (show 0 ≤ x1 ∧ x1 < 8 by omega) ?_
        show xa_C (xl_I false) A h0 _ 64 [(2, 50, 0, 0, 0), (0, 0, (-2147483648), 2147483647, x1)] M _
        refine cx_64_50 (show 0 ≤ x1 ∧ x1 < 8 by omega) ?_
        refine And.intro ?_ ?_
        · intro (c8 : ¬ x2 = 1)
          show xa_C (xl_I false) A h0 _ 125 [(2, 32, 0, 0, 0)] M _
          refine cx_125_32 ?_ ?_
          · intro (i9 : ((M 32 1) - (M 32 0)) ≤ 60)
            show xa_C (xl_I false) A h0 _ 126 [(2, 32, 0, 0, 0), (1, 0, (-2147483648), 2147483647, M 51 x1), (1, 0, (-2147483648), 2147483647, M 52 x1), (2, 48, 0, 0, 0)] M _
            refine rw_126 hL (by omega) (by omega) (by omega) ?_
            intro M119 (i10 : ∀ (q : Nat) (j : Int), ¬ (q = 48 ∨ q = 49) → M119 q j = M q j) (nM119 : 0 ≤ sh_t2 (M 32 0) (M 32 1) (M 51 x1) (M 52 x1)) (zM119 : rz_z 4 (sh_t2 (M 32 0) (M 32 1) (M 51 x1) (M 52 x1)) (M119 48 1)) (vM119 : ¬ sh_t2 (M 32 0) (M 32 1) (M 51 x1) (M 52 x1) = 0 → rw_h122 2 (M 32 0) (M 32 1) (M 51 x1) (M 52 x1) (M119 49))
            show xa_wk post (some (0, 0, 0, 300000, sh_t2 (M 32 0) (M 32 1) (M 51 x1) (M 52 x1))) M119
            exact xa_wkI _ rfl (fun _ _ => by omega) (k _ _ (Or.inr ⟨by omega, by omega, Or.inr ⟨by omega, Or.inr ⟨by omega, rfl⟩⟩⟩) i10 (rw_tz2 (y := x2) zM119 (by rw [show x2 = 2 by omega]; exact vM119) nM119 (by omega)))
          · intro (i11 : 60 < ((M 32 1) - (M 32 0)))
            show xa_wk post (some (0, 0, (-4), (-4), (-4))) M
            exact xa_wkI (-4) rfl (fun _ _ => by omega) (k _ _ (by unfold tr_P; omega) (fun _ _ _ => rfl) (Or.inl ⟨by omega, rfl, fun _ _ _ => rfl⟩))
        · intro (c8 : x2 = 1)
          show xa_C (xl_I false) A h0 _ 123 [(2, 32, 0, 0, 0), (1, 0, (-2147483648), 2147483647, M 51 x1), (1, 0, (-2147483648), 2147483647, M 52 x1), (2, 48, 0, 0, 0)] M _
          refine rw_123 hL (by omega) (by omega) ?_
          intro M120 (i12 : ∀ (q : Nat) (j : Int), ¬ (q = 48 ∨ q = 49) → M120 q j = M q j) (nM120 : 0 ≤ sh_t1 (M 32 0) (M 32 1) (M 51 x1) (M 52 x1)) (zM120 : rz_z 2 (sh_t1 (M 32 0) (M 32 1) (M 51 x1) (M 52 x1)) (M120 48 1)) (vM120 : ¬ sh_t1 (M 32 0) (M 32 1) (M 51 x1) (M 52 x1) = 0 → rw_h122 1 (M 32 0) (M 32 1) (M 51 x1) (M 52 x1) (M120 49))
          show xa_wk post (some (0, 0, 0, 400, sh_t1 (M 32 0) (M 32 1) (M 51 x1) (M 52 x1))) M120
          exact xa_wkI _ rfl (fun _ _ => by omega) (k _ _ (Or.inr ⟨by omega, by omega, Or.inl ⟨by omega, rfl⟩⟩) i12 (rw_tz2 (y := x2) zM120 (by rw [show x2 = 1 by omega]; exact vM120) nM120 (by omega)))
      · intro (c7 : 2 < x2)
        show xa_wk post (some (0, 0, (-1), (-1), (-1))) M
        exact xa_wkI (-1) rfl (fun _ _ => by omega) (k _ _ (by unfold tr_P; omega) (fun _ _ _ => rfl) (Or.inl ⟨by omega, rfl, fun _ _ _ => rfl⟩))
theorem rw_122_55 {A : Nat → Nat} {h0 : g_H} {d : Nat} {M : xa_M} {post : Option xa_V → xa_M → Prop} {l1 u1 l2 u2 x1 x2 : Int} (hL : 10 ≤ M 32 0 ∧ M 32 0 ≤ M 32 1 ∧ M 32 1 ≤ 400) (hp : 0 ≤ M 55 4 ∧ M 55 4 ≤ 8) (hUU : ∀ i : Int, 0 ≤ i → i < M 55 4 → (1 ≤ M 56 i ∧ M 56 i ≤ 2000) ∧ (1 ≤ M 57 i ∧ M 57 i ≤ 2000)) (k : ∀ (r : Int) (M1 : xa_M), tr_P (M 32 0) (M 32 1) (M 55 4) (M 56 x1) (M 57 x1) x1 x2 r → (∀ (q : Nat) (j : Int), ¬ (q = 48 ∨ q = 49) → M1 q j = M q j) → rw_t122 x2 (M 32 0) (M 32 1) (M 56 x1) (M 57 x1) r (M 48 1) (M 49) (M1 48 1) (M1 49) → post (some (0, 0, (-4), 300000, r)) M1) : xa_C (xl_I true) A h0 (d + 4) 122 [(2, 0, 0, 0, 0), (0, 0, l1, u1, x1), (0, 0, l2, u2, x2)] M post := by
  refine xa_C_wk ?_
  refine xa_C_arg [(2, 0, 0, 0, 0), (0, 0, (-2147483648), 2147483647, x1), (0, 0, (-2147483648), 2147483647, x2)] (xa_svR (xa_svI (fun _ _ _ _ => by omega) (xa_svI (fun _ _ _ _ => by omega) xa_sv0))) ?_
  refine xa_meth (Q0 := (7, 1, false, 0, 0, 11)) (by decide +kernel) ⟨rfl, rfl⟩ (full := s_c_122) rfl rfl ?_
  intro hM hv Q hgo
  have hu := hUU x1
  refine hgo.1 40 [] 0 _ _ _ ?_
  show xa_C (xl_I true) A h0 _ 87 [(2, 55, 0, 0, 0), (0, 0, (-2147483648), 2147483647, x1)] M _
  refine cx_87_55 ?_ ?_ ?_
  · intro (i1 : x1 < 0)
    show xa_wk post (some (0, 0, (-1), (-1), (-1))) M
    exact xa_wkI (-1) rfl (fun _ _ => by omega) (k _ _ (by unfold tr_P; omega) (fun _ _ _ => rfl) (Or.inl ⟨by omega, rfl, fun _ _ _ => rfl⟩))
  · intro (i2 : 0 ≤ x1) (i3 : (M 55 4) ≤ x1)
    show xa_wk post (some (0, 0, (-1), (-1), (-1))) M
    exact xa_wkI (-1) rfl (fun _ _ => by omega) (k _ _ (by unfold tr_P; omega) (fun _ _ _ => rfl) (Or.inl ⟨by omega, rfl, fun _ _ _ => rfl⟩))
  · intro (i4 : 0 ≤ x1) (i5 : x1 < (M 55 4))
    refine And.intro ?_ ?_
    · intro (c6 : x2 < 1)
      show xa_wk post (some (0, 0, (-1), (-1), (-1))) M
      exact xa_wkI (-1) rfl (fun _ _ => by omega) (k _ _ (by unfold tr_P; omega) (fun _ _ _ => rfl) (Or.inl ⟨by omega, rfl, fun _ _ _ => rfl⟩))
    · intro (c6 : 1 ≤ x2)
      refine And.intro ?_ ?_
      · intro (c7 : x2 ≤ 2)
        show xa_C (xl_I true) A h0 _ 65 [(2, 55, 0, 0, 0), (0, 0, (-2147483648), 2147483647, x1)] M _
        refine cx_65_55 (show 0 ≤ x1 ∧ x1 < 8 by omega) ?_
        show xa_C (xl_I true) A h0 _ 64 [(2, 55, 0, 0, 0), (0, 0, (-2147483648), 2147483647, x1)] M _
        refine cx_64_55 (show 0 ≤ x1 ∧ x1 < 8 by omega) ?_
        refine And.intro ?_ ?_
        · intro (c8 : ¬ x2 = 1)
          show xa_C (xl_I true) A h0 _ 125 [(2, 32, 0, 0, 0)] M _
          refine cx_125_32 ?_ ?_
          · intro (i9 : ((M 32 1) - (M 32 0)) ≤ 60)
            show xa_C (xl_I true) A h0 _ 126 [(2, 32, 0, 0, 0), (1, 0, (-2147483648), 2147483647, M 56 x1), (1, 0, (-2147483648), 2147483647, M 57 x1), (2, 48, 0, 0, 0)] M _
            refine rw_126 hL (by omega) (by omega) (by omega) ?_
            intro M121 (i10 : ∀ (q : Nat) (j : Int), ¬ (q = 48 ∨ q = 49) → M121 q j = M q j) (nM121 : 0 ≤ sh_t2 (M 32 0) (M 32 1) (M 56 x1) (M 57 x1)) (zM121 : rz_z 4 (sh_t2 (M 32 0) (M 32 1) (M 56 x1) (M 57 x1)) (M121 48 1)) (vM121 : ¬ sh_t2 (M 32 0) (M 32 1) (M 56 x1) (M 57 x1) = 0 → rw_h122 2 (M 32 0) (M 32 1) (M 56 x1) (M 57 x1) (M121 49))
            show xa_wk post (some (0, 0, 0, 300000, sh_t2 (M 32 0) (M 32 1) (M 56 x1) (M 57 x1))) M121
            exact xa_wkI _ rfl (fun _ _ => by omega) (k _ _ (Or.inr ⟨by omega, by omega, Or.inr ⟨by omega, Or.inr ⟨by omega, rfl⟩⟩⟩) i10 (rw_tz2 (y := x2) zM121 (by rw [show x2 = 2 by omega]; exact vM121) nM121 (by omega)))
          · intro (i11 : 60 < ((M 32 1) - (M 32 0)))
            show xa_wk post (some (0, 0, (-4), (-4), (-4))) M
            exact xa_wkI (-4) rfl (fun _ _ => by omega) (k _ _ (by unfold tr_P; omega) (fun _ _ _ => rfl) (Or.inl ⟨by omega, rfl, fun _ _ _ => rfl⟩))
        · intro (c8 : x2 = 1)
          show xa_C (xl_I true) A h0 _ 123 [(2, 32, 0, 0, 0), (1, 0, (-2147483648), 2147483647, M 56 x1), (1, 0, (-2147483648), 2147483647, M 57 x1), (2, 48, 0, 0, 0)] M _
          refine rw_123 hL (by omega) (by omega) ?_
          intro M122 (i12 : ∀ (q : Nat) (j : Int), ¬ (q = 48 ∨ q = 49) → M122 q j = M q j) (nM122 : 0 ≤ sh_t1 (M 32 0) (M 32 1) (M 56 x1) (M 57 x1)) (zM122 : rz_z 2 (sh_t1 (M 32 0) (M 32 1) (M 56 x1) (M 57 x1)) (M122 48 1)) (vM122 : ¬ sh_t1 (M 32 0) (M 32 1) (M 56 x1) (M 57 x1) = 0 → rw_h122 1 (M 32 0) (M 32 1) (M 56 x1) (M 57 x1) (M122 49))
          show xa_wk post (some (0, 0, 0, 400, sh_t1 (M 32 0) (M 32 1) (M 56 x1) (M 57 x1))) M122
          exact xa_wkI _ rfl (fun _ _ => by omega) (k _ _ (Or.inr ⟨by omega, by omega, Or.inl ⟨by omega, rfl⟩⟩) i12 (rw_tz2 (y := x2) zM122 (by rw [show x2 = 1 by omega]; exact vM122) nM122 (by omega)))
      · intro (c7 : 2 < x2)
        show xa_wk post (some (0, 0, (-1), (-1), (-1))) M
        exact xa_wkI (-1) rfl (fun _ _ => by omega) (k _ _ (by unfold tr_P; omega) (fun _ _ _ => rfl) (Or.inl ⟨by omega, rfl, fun _ _ _ => rfl⟩))
theorem rw_122x {b : Bool} {A : Nat → Nat} {h0 : g_H} {d : Nat} {M : xa_M} {post : Option xa_V → xa_M → Prop} {l1 u1 l2 u2 x1 x2 : Int} (hL : 10 ≤ M 32 0 ∧ M 32 0 ≤ M 32 1 ∧ M 32 1 ≤ 400) (hp : 0 ≤ M (bk_p b) 4 ∧ M (bk_p b) 4 ≤ 8) (hUU : ∀ i : Int, 0 ≤ i → i < M (bk_p b) 4 → (1 ≤ M (bk_p b + 1) i ∧ M (bk_p b + 1) i ≤ 2000) ∧ (1 ≤ M (bk_p b + 2) i ∧ M (bk_p b + 2) i ≤ 2000)) (k : ∀ (r : Int) (M1 : xa_M), tr_P (M 32 0) (M 32 1) (M (bk_p b) 4) (M (bk_p b + 1) x1) (M (bk_p b + 2) x1) x1 x2 r → (∀ (q : Nat) (j : Int), ¬ (q = 48 ∨ q = 49) → M1 q j = M q j) → rw_t122 x2 (M 32 0) (M 32 1) (M (bk_p b + 1) x1) (M (bk_p b + 2) x1) r (M 48 1) (M 49) (M1 48 1) (M1 49) → post (some (0, 0, (-4), 300000, r)) M1) : xa_C (xl_I b) A h0 (d + 4) 122 [(2, 0, 0, 0, 0), (0, 0, l1, u1, x1), (0, 0, l2, u2, x2)] M post := by
  cases b
  · exact rw_122_50 hL hp hUU k
  · exact rw_122_55 hL hp hUU k
theorem rw_m122 {A : Nat → Nat} {h0 : g_H} {d : Nat} {M : xa_M} {post : Option xa_V → xa_M → Prop} {l1 u1 l2 u2 : Int} {a b : Int} (hI : xm_Inv M) (k : ∀ (lo hi r : Int) (M1 : xa_M), tr_P (M 60 15) (M 60 16) (M 60 11) (M 70 a) (M 71 a) a b r → xm_cor M M1 → rw_t122 b (M 60 15) (M 60 16) (M 70 a) (M 71 a) r (M 60 20) (M 74) (M1 60 20) (M1 74) → post (some (0, 0, lo, hi, r)) M1) : xa_C xm_I A h0 (d + 3) 257 [(2, 60, 0, 0, 0), (0, 0, l1, u1, a), (0, 0, l2, u2, b)] M post := by
  refine xa_C_arg [(2, 60, 0, 0, 0), (0, 0, (-2147483648), 2147483647, a), (0, 0, (-2147483648), 2147483647, b)] (xa_svR (xa_svI (fun _ _ _ _ => by omega) (xa_svI (fun _ _ _ _ => by omega) xa_sv0))) ?_
  refine xa_meth (Q0 := (10, 1, false, 0, 0, 12)) (by decide +kernel) ⟨rfl, rfl⟩ (full := s_c_257) rfl rfl ?_
  intro hM hv Q hgo
  have b0 := xm_f0 hM
  have b6 := xm_f6 hM
  have b61 := xm_f61 hM
  have b11 := xm_f11 hM
  have b15 := xm_f15 hM
  have b16 := xm_f16 hM
  have hlh := hI.2.2.2.1
  have loop3 : ∀ (n : Nat) (x5 x3 x2 : Int) (M1 : xa_M), 0 ≤ x5 ∧ x5 ≤ 4 → 1 ≤ x2 ∧ x2 ≤ 2 → xm_cor M M1 → (0 ≤ x3 ∧ x2 = b ∧ (¬ x3 = 0 ∨ x5 = 0) ∧ ((x2 = 2 ∧ M1 60 20 = x5) ∨ (¬ x2 = 2 ∧ M1 60 20 = (x5 + 1) / 2))) → tr_P (M 60 15) (M 60 16) (M 60 11) (M 70 a) (M 71 a) a b x3 → (0 < x3 → rw_g122 b (M 60 15) (M 60 16) (M 70 a) (M 71 a) (M1 91)) → rw_w3 x2 x5 (M1 74) (M1 91) → 4 - x5 < (n : Int) → Q 249 [(5, (0, 0, 0, 4, x5)), (3, (0, 0, (-2147483648), 2147483647, x3)), (2, (0, 0, 1, 2, x2)), (0, (2, 60, 0, 0, 0))] [] M1 := by
    intro n
    induction n with
    | zero => intro x5 x3 x2 M1 b5 b2 hc h20 htr hV hW hms; omega
    | succ n ih3 =>
      intro x5 x3 x2 M1 b5 b2 hc h20 htr hV hW hms3
      refine hgo.2.2 _ _ _ _ (fun hM1 _ => ?_)
      have b20 := xm_f20 hM1
      refine hgo.1 26 [57, 79, 103, 249] 249 _ _ _ ?_
      refine And.intro ?_ ?_
      · intro (c1 : 4 ≤ x5)
        show post (some (0, 0, (-2147483648), 2147483647, x3)) M1
        exact k _ _ _ _ htr hc (Or.inr (Or.inr ⟨by omega, by omega, rw_w3_h (by omega) c1 (hV (by omega)) (by rw [← h20.2.1]; exact hW)⟩))
      · intro (c1 : x5 < 4)
        refine And.intro ?_ ?_
        · intro (c2 : x3 ≤ 0)
          show post (some (0, 0, (-2147483648), 2147483647, x3)) M1
          exact k _ _ _ _ htr hc (Or.inr (Or.inl ⟨by omega, by omega⟩))
        · intro (c2 : 0 < x3)
          refine And.intro ?_ ?_
          · intro (c3 : x2 = 2)
            refine And.intro (show 0 ≤ x5 ∧ x5 < 4 by omega) ?_
            show xa_C xm_I A h0 _ 231 [(2, 60, 0, 0, 0), (1, 0, (-2147483648), 2147483647, M1 91 x5)] M1 _
            refine ct_tell (n := M1 60 20) (by first | rfl | (simp [xa_up]; done) | omega) (by omega) (by omega) ?_
            show Q 249 [(5, (0, 0, 1, 5, x5 + 1)), (3, (0, 0, (-2147483648), 2147483647, x3)), (2, (0, 0, 1, 2, x2)), (0, (2, 60, 0, 0, 0))] [] (xa_up (xa_up M1 74 (M1 60 20) (M1 91 x5)) 60 20 ((M1 60 20) + 1))
            refine hgo.2.1 249 _ [(5, (0, 0, 0, 4, x5 + 1)), (3, (0, 0, (-2147483648), 2147483647, x3)), (2, (0, 0, 1, 2, x2)), (0, (2, 60, 0, 0, 0))] _ _ (xa_subI rfl rfl (fun _ _ _ _ => by omega) (xa_subI rfl rfl (fun _ _ _ _ => by omega) (xa_subI rfl rfl (fun _ _ _ _ => by omega) (xa_subR rfl xa_sub0)))) ?_
            exact ih3 (x5 + 1) x3 x2 (xa_up (xa_up M1 74 (M1 60 20) (M1 91 x5)) 60 20 ((M1 60 20) + 1)) (by omega) (by omega) (xm_cor_f (by omega) (xm_cor_a rfl hc)) (by rw [xa_up_eq]; omega) htr (fun h => rw_g122_k (fun i => (xa_up_ne (by omega)).trans (xa_up_ne (by omega))) (hV h)) (rw_w3_2 c3 (n := M1 60 20) (by omega) (fun i hi => (xa_up_ne (by omega)).trans (xa_up_ne (by omega))) ((xa_up_ne (by omega)).trans xa_up_eq) (fun i => (xa_up_ne (by omega)).trans (xa_up_ne (by omega))) hW) (by omega)
          · intro (c3 : ¬ x2 = 2)
            refine And.intro ?_ ?_
            · intro (c4 : ¬ (x5 % 2) = 0)
              show Q 249 [(5, (0, 0, 1, 5, x5 + 1)), (3, (0, 0, (-2147483648), 2147483647, x3)), (2, (0, 0, 1, 2, x2)), (0, (2, 60, 0, 0, 0))] [] M1
              refine hgo.2.1 249 _ [(5, (0, 0, 0, 4, x5 + 1)), (3, (0, 0, (-2147483648), 2147483647, x3)), (2, (0, 0, 1, 2, x2)), (0, (2, 60, 0, 0, 0))] _ _ (xa_subI rfl rfl (fun _ _ _ _ => by omega) (xa_subI rfl rfl (fun _ _ _ _ => by omega) (xa_subI rfl rfl (fun _ _ _ _ => by omega) (xa_subR rfl xa_sub0)))) ?_
              exact ih3 (x5 + 1) x3 x2 M1 (by omega) (by omega) hc (by omega) htr hV (rw_w3_o c3 (by omega) c4 hW) (by omega)
            · intro (c4 : (x5 % 2) = 0)
              refine And.intro (show 0 ≤ x5 ∧ x5 < 4 by omega) ?_
              show xa_C xm_I A h0 _ 231 [(2, 60, 0, 0, 0), (1, 0, (-2147483648), 2147483647, M1 91 x5)] M1 _
              refine ct_tell (n := M1 60 20) (by first | rfl | (simp [xa_up]; done) | omega) (by omega) (by omega) ?_
              show Q 249 [(5, (0, 0, 1, 5, x5 + 1)), (3, (0, 0, (-2147483648), 2147483647, x3)), (2, (0, 0, 1, 2, x2)), (0, (2, 60, 0, 0, 0))] [] (xa_up (xa_up M1 74 (M1 60 20) (M1 91 x5)) 60 20 ((M1 60 20) + 1))
              refine hgo.2.1 249 _ [(5, (0, 0, 0, 4, x5 + 1)), (3, (0, 0, (-2147483648), 2147483647, x3)), (2, (0, 0, 1, 2, x2)), (0, (2, 60, 0, 0, 0))] _ _ (xa_subI rfl rfl (fun _ _ _ _ => by omega) (xa_subI rfl rfl (fun _ _ _ _ => by omega) (xa_subI rfl rfl (fun _ _ _ _ => by omega) (xa_subR rfl xa_sub0)))) ?_
              exact ih3 (x5 + 1) x3 x2 (xa_up (xa_up M1 74 (M1 60 20) (M1 91 x5)) 60 20 ((M1 60 20) + 1)) (by omega) (by omega) (xm_cor_f (by omega) (xm_cor_a rfl hc)) (by rw [xa_up_eq]; omega) htr (fun h => rw_g122_k (fun i => (xa_up_ne (by omega)).trans (xa_up_ne (by omega))) (hV h)) (rw_w3_1 c3 (n := M1 60 20) (by omega) c4 (by omega) (fun i hi => (xa_up_ne (by omega)).trans (xa_up_ne (by omega))) ((xa_up_ne (by omega)).trans xa_up_eq) (fun i => (xa_up_ne (by omega)).trans (xa_up_ne (by omega))) hW) (by omega)
  have loop0 : ∀ (n : Nat) (x5 x4 x3 x2 x1 : Int) (M1 : xa_M), 10 ≤ x5 ∧ x5 ≤ 401 → 1 ≤ x2 ∧ x2 ≤ 2 → 0 ≤ x1 ∧ x1 ≤ 7 → xm_cor M M1 → x1 < M 60 11 → (x1 = a ∧ x2 = b ∧ (¬ b = 1 → M 60 16 - M 60 15 ≤ 60)) → (M 60 15 ≤ x5 ∧ x5 ≤ M 60 16 + 1) → (0 ≤ x3 ∧ x3 ≤ (x5 - M 60 15) * 160000) → x3 = sh_s (sh_y x2 (M 60 15) (M 60 16) (M 70 x1) (M 71 x1)) (M 60 15) (x5 - M 60 15).toNat → rw_tq x2 (M 60 15) (M 60 16) (M 70 x1) (M 71 x1) x3 (1000000 * x5) x4 (M1 91) → 401 - x5 < (n : Int) → Q 57 [(5, (0, 0, 10, 401, x5)), (4, (0, 0, (-2147483648), 2147483647, x4)), (3, (0, 0, (-2147483648), 2147483647, x3)), (2, (0, 0, 1, 2, x2)), (1, (0, 0, 0, 7, x1)), (0, (2, 60, 0, 0, 0))] [] M1 := by
    intro n
    induction n with
    | zero => intro x5 x4 x3 x2 x1 M1 b5 b2 b1 hc hx1 hxa h5 h3 hn hQ hms; omega
    | succ n ih0 =>
      intro x5 x4 x3 x2 x1 M1 b5 b2 b1 hc hx1 hxa h5 h3 hn hQ hms0
      have p7 := hI.2.2.1 x1 (by omega) hx1
      have t70 := xm_t70 hM x1 (by omega) (by omega)
      have t71 := xm_t71 hM x1 (by omega) (by omega)
      have e0 := xm_corf hc 0 (by omega)
      have e6 := xm_corf hc 6 (by omega)
      have e61 := xm_corf hc 61 (by omega)
      have e11 := xm_corf hc 11 (by omega)
      have e15 := xm_corf hc 15 (by omega)
      have e16 := xm_corf hc 16 (by omega)
      have loop1 : ∀ (b9 : Int) (n : Nat) (x6 x4 x3 : Int) (M1 : xa_M), 1 ≤ x6 ∧ x6 ≤ 401 → 10 ≤ x5 ∧ x5 ≤ 400 → 1 ≤ x2 ∧ x2 ≤ 2 → 0 ≤ x1 ∧ x1 ≤ 7 → xm_cor M M1 → (b9 ≤ x6 ∧ x5 ≤ M 60 16 ∧ (x2 = 1 → b9 = 1 ∧ x6 ≤ 2) ∧ (¬ x2 = 1 → b9 = x5 ∧ x6 ≤ M 60 16 + 1)) → (0 ≤ x3 ∧ x3 ≤ (x5 - M 60 15) * 160000 + (x6 - b9) * 400) → x3 = sh_s (sh_y x2 (M 60 15) (M 60 16) (M 70 x1) (M 71 x1)) (M 60 15) (x5 - M 60 15).toNat + sh_s (sh_w x2 (M 60 15) (M 60 16) (M 70 x1) (M 71 x1) x5) b9 (x6 - b9).toNat → rw_tq x2 (M 60 15) (M 60 16) (M 70 x1) (M 71 x1) x3 (1000000 * x5 + 1000 * x6) x4 (M1 91) → 401 - x6 < (n : Int) → Q 79 [(6, (0, 0, 1, 401, x6)), (5, (0, 0, 10, 400, x5)), (4, (0, 0, (-2147483648), 2147483647, x4)), (3, (0, 0, (-2147483648), 2147483647, x3)), (2, (0, 0, 1, 2, x2)), (1, (0, 0, 0, 7, x1)), (0, (2, 60, 0, 0, 0))] [] M1 := by
        intro b9 n
        induction n with
        | zero => intro x6 x4 x3 M1 b6 f5 f2 f1 hc h6 h4 hn1 hQ hms; omega
        | succ n ih1 =>
          intro x6 x4 x3 M1 b6 f5 f2 f1 hc h6 h4 hn1 hQ hms1
          have e0 := xm_corf hc 0 (by omega)
          have e6 := xm_corf hc 6 (by omega)
          have e61 := xm_corf hc 61 (by omega)
          have e11 := xm_corf hc 11 (by omega)
          have e15 := xm_corf hc 15 (by omega)
          have e16 := xm_corf hc 16 (by omega)
          have loop2 : ∀ (n : Nat) (x7 x4 x3 : Int) (M1 : xa_M), 10 ≤ x7 ∧ x7 ≤ 401 → 1 ≤ x6 ∧ x6 ≤ 400 → 10 ≤ x5 ∧ x5 ≤ 400 → 1 ≤ x2 ∧ x2 ≤ 2 → 0 ≤ x1 ∧ x1 ≤ 7 → xm_cor M M1 → ((x2 = 1 → x6 = 1) ∧ (¬ x2 = 1 → x6 ≤ M 60 16)) → (M 60 15 ≤ x7 ∧ x7 ≤ M 60 16 + 1) → (0 ≤ x3 ∧ x3 ≤ (x5 - M 60 15) * 160000 + (x6 - b9) * 400 + (x7 - M 60 15)) → x3 = sh_s (sh_y x2 (M 60 15) (M 60 16) (M 70 x1) (M 71 x1)) (M 60 15) (x5 - M 60 15).toNat + sh_s (sh_w x2 (M 60 15) (M 60 16) (M 70 x1) (M 71 x1) x5) b9 (x6 - b9).toNat + sh_s (sh_q x2 (M 60 15) (M 60 16) (M 70 x1) (M 71 x1) x5 x6) (M 60 15) (x7 - M 60 15).toNat → rw_tq x2 (M 60 15) (M 60 16) (M 70 x1) (M 71 x1) x3 (1000000 * x5 + 1000 * x6 + x7) x4 (M1 91) → 401 - x7 < (n : Int) → Q 103 [(7, (0, 0, 10, 401, x7)), (6, (0, 0, 1, 400, x6)), (5, (0, 0, 10, 400, x5)), (4, (0, 0, (-2147483648), 2147483647, x4)), (3, (0, 0, (-2147483648), 2147483647, x3)), (2, (0, 0, 1, 2, x2)), (1, (0, 0, 0, 7, x1)), (0, (2, 60, 0, 0, 0))] [] M1 := by
            intro n
            induction n with
            | zero => intro x7 x4 x3 M1 b7 f6 f5 f2 f1 hc h61 h7 h5b hn2 hQ hms; omega
            | succ n ih2 =>
              intro x7 x4 x3 M1 b7 f6 f5 f2 f1 hc h61 h7 h5b hn2 hQ hms2
              have e0 := xm_corf hc 0 (by omega)
              have e6 := xm_corf hc 6 (by omega)
              have e61 := xm_corf hc 61 (by omega)
              have e11 := xm_corf hc 11 (by omega)
              have e15 := xm_corf hc 15 (by omega)
              have e16 := xm_corf hc 16 (by omega)
              refine hgo.1 64 [57, 79, 103, 249] 103 _ _ _ ?_
              refine And.intro ?_ ?_
              · intro (c1 : (M1 60 16) < x7)
                show Q 79 [(6, (0, 0, 2, 401, x6 + 1)), (7, (0, 0, 10, 401, x7)), (5, (0, 0, 10, 400, x5)), (4, (0, 0, (-2147483648), 2147483647, x4)), (3, (0, 0, (-2147483648), 2147483647, x3)), (2, (0, 0, 1, 2, x2)), (1, (0, 0, 0, 7, x1)), (0, (2, 60, 0, 0, 0))] [] M1
                refine hgo.2.1 79 _ [(6, (0, 0, 1, 401, x6 + 1)), (5, (0, 0, 10, 400, x5)), (4, (0, 0, (-2147483648), 2147483647, x4)), (3, (0, 0, (-2147483648), 2147483647, x3)), (2, (0, 0, 1, 2, x2)), (1, (0, 0, 0, 7, x1)), (0, (2, 60, 0, 0, 0))] _ _ (xa_subI rfl rfl (fun _ _ _ _ => by omega) (xa_subI rfl rfl (fun _ _ _ _ => by omega) (xa_subI rfl rfl (fun _ _ _ _ => by omega) (xa_subI rfl rfl (fun _ _ _ _ => by omega) (xa_subI rfl rfl (fun _ _ _ _ => by omega) (xa_subI rfl rfl (fun _ _ _ _ => by omega) (xa_subR rfl xa_sub0))))))) ?_
                have e7 : x7 = M 60 16 + 1 := by omega
                rw [e7] at hn2
                exact ih1 (x6 + 1) x4 x3 M1 (by omega) (by omega) (by omega) (by omega) hc (by omega) (by omega) (by rw [sh_p (show b9 ≤ x6 by omega)]; show _ = _ + (_ + sh_s (sh_q x2 (M 60 15) (M 60 16) (M 70 x1) (M 71 x1) x5 x6) (M 60 15) (M 60 16 + 1 - M 60 15).toNat); omega) (rw_tq_c (by omega) (by omega) (by omega) hQ) (by omega)
              · intro (c1 : x7 ≤ (M1 60 16))
                show xa_C xm_I A h0 _ 258 [(2, 60, 0, 0, 0), (0, 0, 0, 7, x1), (0, 0, 10, 400, x5), (0, 0, 1, 400, x6), (0, 0, 10, 401, x7)] M1 _
                refine ct_fourthF (xm_Inv_cor hc hI) (by omega) (by rw [xm_corf hc 11 (by omega)]; omega) (by omega) (by omega) (by omega) (by omega) (by omega) (by omega) (fun r2 br2 er2 => ?_)
                rw [hc 70 x1 (by unfold xm_scr; omega), hc 71 x1 (by unfold xm_scr; omega)] at er2
                have w9 := xa_w32_id (n := x3 + 1) (by omega) (by omega)
                refine And.intro ?_ ?_
                · intro (c3 : ¬ x2 = 1)
                  show xa_C xm_I A h0 _ 214 [(0, 0, 0, 1000, r2), (0, 0, 10, 401, x7), (0, 0, 10, 400, M1 60 16)] M1 _
                  refine ct_in ?_ ?_
                  · intro (i4 : x7 ≤ r2 ∧ r2 ≤ (M1 60 16))
                    refine And.intro ?_ ?_
                    · intro (c5 : (xa_w32 (x3 + 1)) ≤ 1)
                      show Q 103 [(7, (0, 0, 11, 402, x7 + 1)), (4, (0, 0, 21, 2201, ((x5 + x6) + x7) + r2)), (9, (0, 0, 21, 2201, ((x5 + x6) + x7) + r2)), (3, (0, 0, (-2147483648), 2147483647, xa_w32 (x3 + 1))), (8, (0, 0, 0, 1000, r2)), (6, (0, 0, 1, 400, x6)), (5, (0, 0, 10, 400, x5)), (2, (0, 0, 1, 2, x2)), (1, (0, 0, 0, 7, x1)), (0, (2, 60, 0, 0, 0))] [] (xa_up (xa_up (xa_up (xa_up M1 91 0 x5) 91 1 x6) 91 2 x7) 91 3 r2)
                      refine hgo.2.1 103 _ [(7, (0, 0, 10, 401, x7 + 1)), (6, (0, 0, 1, 400, x6)), (5, (0, 0, 10, 400, x5)), (4, (0, 0, (-2147483648), 2147483647, ((x5 + x6) + x7) + r2)), (3, (0, 0, (-2147483648), 2147483647, xa_w32 (x3 + 1))), (2, (0, 0, 1, 2, x2)), (1, (0, 0, 0, 7, x1)), (0, (2, 60, 0, 0, 0))] _ _ (xa_subI rfl rfl (fun _ _ _ _ => by omega) (xa_subI rfl rfl (fun _ _ _ _ => by omega) (xa_subI rfl rfl (fun _ _ _ _ => by omega) (xa_subI rfl rfl (fun _ _ _ _ => by omega) (xa_subI rfl rfl (fun _ _ _ _ => by omega) (xa_subI rfl rfl (fun _ _ _ _ => by omega) (xa_subI rfl rfl (fun _ _ _ _ => by omega) (xa_subR rfl xa_sub0)))))))) ?_
                      exact ih2 (x7 + 1) (((x5 + x6) + x7) + r2) (xa_w32 (x3 + 1)) (xa_up (xa_up (xa_up (xa_up M1 91 0 x5) 91 1 x6) 91 2 x7) 91 3 r2) (by omega) (by omega) (by omega) (by omega) (by omega) (xm_cor_a rfl (xm_cor_a rfl (xm_cor_a rfl (xm_cor_a rfl hc)))) h61 (by omega) (by omega) (by rw [sh_p (show M 60 15 ≤ x7 by omega), tr_a (by omega) (by omega) (by omega) (by omega) c3 er2 (by omega)]; omega) (rw_tq_rn (by omega) (⟨by omega, by omega, by omega, tr_a (by omega) (by omega) (by omega) (by omega) c3 er2 (by omega)⟩) (rw_ra c3 (by omega) (by omega) er2 i4) hQ (Or.inl (by omega)) (by omega) rw_u4) (by omega)
                    · intro (c5 : 1 < (xa_w32 (x3 + 1)))
                      refine And.intro ?_ ?_
                      · intro (c6 : (((x5 + x6) + x7) + r2) < x4)
                        show Q 103 [(7, (0, 0, 11, 402, x7 + 1)), (4, (0, 0, 21, 2201, ((x5 + x6) + x7) + r2)), (9, (0, 0, 21, 2201, ((x5 + x6) + x7) + r2)), (3, (0, 0, (-2147483648), 2147483647, xa_w32 (x3 + 1))), (8, (0, 0, 0, 1000, r2)), (6, (0, 0, 1, 400, x6)), (5, (0, 0, 10, 400, x5)), (2, (0, 0, 1, 2, x2)), (1, (0, 0, 0, 7, x1)), (0, (2, 60, 0, 0, 0))] [] (xa_up (xa_up (xa_up (xa_up M1 91 0 x5) 91 1 x6) 91 2 x7) 91 3 r2)
                        refine hgo.2.1 103 _ [(7, (0, 0, 10, 401, x7 + 1)), (6, (0, 0, 1, 400, x6)), (5, (0, 0, 10, 400, x5)), (4, (0, 0, (-2147483648), 2147483647, ((x5 + x6) + x7) + r2)), (3, (0, 0, (-2147483648), 2147483647, xa_w32 (x3 + 1))), (2, (0, 0, 1, 2, x2)), (1, (0, 0, 0, 7, x1)), (0, (2, 60, 0, 0, 0))] _ _ (xa_subI rfl rfl (fun _ _ _ _ => by omega) (xa_subI rfl rfl (fun _ _ _ _ => by omega) (xa_subI rfl rfl (fun _ _ _ _ => by omega) (xa_subI rfl rfl (fun _ _ _ _ => by omega) (xa_subI rfl rfl (fun _ _ _ _ => by omega) (xa_subI rfl rfl (fun _ _ _ _ => by omega) (xa_subI rfl rfl (fun _ _ _ _ => by omega) (xa_subR rfl xa_sub0)))))))) ?_
                        exact ih2 (x7 + 1) (((x5 + x6) + x7) + r2) (xa_w32 (x3 + 1)) (xa_up (xa_up (xa_up (xa_up M1 91 0 x5) 91 1 x6) 91 2 x7) 91 3 r2) (by omega) (by omega) (by omega) (by omega) (by omega) (xm_cor_a rfl (xm_cor_a rfl (xm_cor_a rfl (xm_cor_a rfl hc)))) h61 (by omega) (by omega) (by rw [sh_p (show M 60 15 ≤ x7 by omega), tr_a (by omega) (by omega) (by omega) (by omega) c3 er2 (by omega)]; omega) (rw_tq_rn (by omega) (⟨by omega, by omega, by omega, tr_a (by omega) (by omega) (by omega) (by omega) c3 er2 (by omega)⟩) (rw_ra c3 (by omega) (by omega) er2 i4) hQ (Or.inr c6) (by omega) rw_u4) (by omega)
                      · intro (c6 : x4 ≤ (((x5 + x6) + x7) + r2))
                        show Q 103 [(7, (0, 0, 11, 402, x7 + 1)), (9, (0, 0, 21, 2201, ((x5 + x6) + x7) + r2)), (3, (0, 0, (-2147483648), 2147483647, xa_w32 (x3 + 1))), (8, (0, 0, 0, 1000, r2)), (6, (0, 0, 1, 400, x6)), (5, (0, 0, 10, 400, x5)), (4, (0, 0, (-2147483648), 2147483647, x4)), (2, (0, 0, 1, 2, x2)), (1, (0, 0, 0, 7, x1)), (0, (2, 60, 0, 0, 0))] [] M1
                        refine hgo.2.1 103 _ [(7, (0, 0, 10, 401, x7 + 1)), (6, (0, 0, 1, 400, x6)), (5, (0, 0, 10, 400, x5)), (4, (0, 0, (-2147483648), 2147483647, x4)), (3, (0, 0, (-2147483648), 2147483647, xa_w32 (x3 + 1))), (2, (0, 0, 1, 2, x2)), (1, (0, 0, 0, 7, x1)), (0, (2, 60, 0, 0, 0))] _ _ (xa_subI rfl rfl (fun _ _ _ _ => by omega) (xa_subI rfl rfl (fun _ _ _ _ => by omega) (xa_subI rfl rfl (fun _ _ _ _ => by omega) (xa_subI rfl rfl (fun _ _ _ _ => by omega) (xa_subI rfl rfl (fun _ _ _ _ => by omega) (xa_subI rfl rfl (fun _ _ _ _ => by omega) (xa_subI rfl rfl (fun _ _ _ _ => by omega) (xa_subR rfl xa_sub0)))))))) ?_
                        exact ih2 (x7 + 1) x4 (xa_w32 (x3 + 1)) M1 (by omega) (by omega) (by omega) (by omega) (by omega) hc h61 (by omega) (by omega) (by rw [sh_p (show M 60 15 ≤ x7 by omega), tr_a (by omega) (by omega) (by omega) (by omega) c3 er2 (by omega)]; omega) (rw_tq_rk (by omega) (⟨by omega, by omega, by omega, tr_a (by omega) (by omega) (by omega) (by omega) c3 er2 (by omega)⟩) (rw_ra c3 (by omega) (by omega) er2 i4) hQ (by omega) c6 (by omega)) (by omega)
                  · intro (i4 : ¬ (x7 ≤ r2 ∧ r2 ≤ (M1 60 16)))
                    show Q 103 [(7, (0, 0, 11, 402, x7 + 1)), (8, (0, 0, 0, 1000, r2)), (6, (0, 0, 1, 400, x6)), (5, (0, 0, 10, 400, x5)), (4, (0, 0, (-2147483648), 2147483647, x4)), (3, (0, 0, (-2147483648), 2147483647, x3)), (2, (0, 0, 1, 2, x2)), (1, (0, 0, 0, 7, x1)), (0, (2, 60, 0, 0, 0))] [] M1
                    refine hgo.2.1 103 _ [(7, (0, 0, 10, 401, x7 + 1)), (6, (0, 0, 1, 400, x6)), (5, (0, 0, 10, 400, x5)), (4, (0, 0, (-2147483648), 2147483647, x4)), (3, (0, 0, (-2147483648), 2147483647, x3)), (2, (0, 0, 1, 2, x2)), (1, (0, 0, 0, 7, x1)), (0, (2, 60, 0, 0, 0))] _ _ (xa_subI rfl rfl (fun _ _ _ _ => by omega) (xa_subI rfl rfl (fun _ _ _ _ => by omega) (xa_subI rfl rfl (fun _ _ _ _ => by omega) (xa_subI rfl rfl (fun _ _ _ _ => by omega) (xa_subI rfl rfl (fun _ _ _ _ => by omega) (xa_subI rfl rfl (fun _ _ _ _ => by omega) (xa_subI rfl rfl (fun _ _ _ _ => by omega) (xa_subR rfl xa_sub0)))))))) ?_
                    exact ih2 (x7 + 1) x4 x3 M1 (by omega) (by omega) (by omega) (by omega) (by omega) hc h61 (by omega) (by omega) (by rw [sh_p (show M 60 15 ≤ x7 by omega), tr_b (by omega) (by omega) (by omega) (by omega) c3 er2 (by omega)]; omega) (rw_tq_no (by omega) (by omega) (by omega) (by rw [tr_b (by omega) (by omega) (by omega) (by omega) c3 er2 (by omega)]; decide) hQ) (by omega)
                · intro (c3 : x2 = 1)
                  refine And.intro ?_ ?_
                  · intro (c7 : r2 = 1)
                    refine And.intro ?_ ?_
                    · intro (c8 : (xa_w32 (x3 + 1)) ≤ 1)
                      show Q 103 [(7, (0, 0, 11, 402, x7 + 1)), (4, (0, 0, 21, 2201, ((x5 + x6) + x7) + r2)), (9, (0, 0, 21, 2201, ((x5 + x6) + x7) + r2)), (3, (0, 0, (-2147483648), 2147483647, xa_w32 (x3 + 1))), (8, (0, 0, 0, 1000, r2)), (6, (0, 0, 1, 400, x6)), (5, (0, 0, 10, 400, x5)), (2, (0, 0, 1, 2, x2)), (1, (0, 0, 0, 7, x1)), (0, (2, 60, 0, 0, 0))] [] (xa_up (xa_up (xa_up (xa_up M1 91 0 x5) 91 1 x6) 91 2 x7) 91 3 r2)
                      refine hgo.2.1 103 _ [(7, (0, 0, 10, 401, x7 + 1)), (6, (0, 0, 1, 400, x6)), (5, (0, 0, 10, 400, x5)), (4, (0, 0, (-2147483648), 2147483647, ((x5 + x6) + x7) + r2)), (3, (0, 0, (-2147483648), 2147483647, xa_w32 (x3 + 1))), (2, (0, 0, 1, 2, x2)), (1, (0, 0, 0, 7, x1)), (0, (2, 60, 0, 0, 0))] _ _ (xa_subI rfl rfl (fun _ _ _ _ => by omega) (xa_subI rfl rfl (fun _ _ _ _ => by omega) (xa_subI rfl rfl (fun _ _ _ _ => by omega) (xa_subI rfl rfl (fun _ _ _ _ => by omega) (xa_subI rfl rfl (fun _ _ _ _ => by omega) (xa_subI rfl rfl (fun _ _ _ _ => by omega) (xa_subI rfl rfl (fun _ _ _ _ => by omega) (xa_subR rfl xa_sub0)))))))) ?_
                      exact ih2 (x7 + 1) (((x5 + x6) + x7) + r2) (xa_w32 (x3 + 1)) (xa_up (xa_up (xa_up (xa_up M1 91 0 x5) 91 1 x6) 91 2 x7) 91 3 r2) (by omega) (by omega) (by omega) (by omega) (by omega) (xm_cor_a rfl (xm_cor_a rfl (xm_cor_a rfl (xm_cor_a rfl hc)))) h61 (by omega) (by omega) (by rw [sh_p (show M 60 15 ≤ x7 by omega), tr_c c3 (h61.1 c3) er2 c7]; omega) (rw_tq_rn (by omega) (⟨by omega, by omega, by omega, tr_c c3 (h61.1 c3) er2 c7⟩) (rw_rc c3 c7) hQ (Or.inl (by omega)) (by omega) rw_u4) (by omega)
                    · intro (c8 : 1 < (xa_w32 (x3 + 1)))
                      refine And.intro ?_ ?_
                      · intro (c9 : (((x5 + x6) + x7) + r2) < x4)
                        show Q 103 [(7, (0, 0, 11, 402, x7 + 1)), (4, (0, 0, 21, 2201, ((x5 + x6) + x7) + r2)), (9, (0, 0, 21, 2201, ((x5 + x6) + x7) + r2)), (3, (0, 0, (-2147483648), 2147483647, xa_w32 (x3 + 1))), (8, (0, 0, 0, 1000, r2)), (6, (0, 0, 1, 400, x6)), (5, (0, 0, 10, 400, x5)), (2, (0, 0, 1, 2, x2)), (1, (0, 0, 0, 7, x1)), (0, (2, 60, 0, 0, 0))] [] (xa_up (xa_up (xa_up (xa_up M1 91 0 x5) 91 1 x6) 91 2 x7) 91 3 r2)
                        refine hgo.2.1 103 _ [(7, (0, 0, 10, 401, x7 + 1)), (6, (0, 0, 1, 400, x6)), (5, (0, 0, 10, 400, x5)), (4, (0, 0, (-2147483648), 2147483647, ((x5 + x6) + x7) + r2)), (3, (0, 0, (-2147483648), 2147483647, xa_w32 (x3 + 1))), (2, (0, 0, 1, 2, x2)), (1, (0, 0, 0, 7, x1)), (0, (2, 60, 0, 0, 0))] _ _ (xa_subI rfl rfl (fun _ _ _ _ => by omega) (xa_subI rfl rfl (fun _ _ _ _ => by omega) (xa_subI rfl rfl (fun _ _ _ _ => by omega) (xa_subI rfl rfl (fun _ _ _ _ => by omega) (xa_subI rfl rfl (fun _ _ _ _ => by omega) (xa_subI rfl rfl (fun _ _ _ _ => by omega) (xa_subI rfl rfl (fun _ _ _ _ => by omega) (xa_subR rfl xa_sub0)))))))) ?_
                        exact ih2 (x7 + 1) (((x5 + x6) + x7) + r2) (xa_w32 (x3 + 1)) (xa_up (xa_up (xa_up (xa_up M1 91 0 x5) 91 1 x6) 91 2 x7) 91 3 r2) (by omega) (by omega) (by omega) (by omega) (by omega) (xm_cor_a rfl (xm_cor_a rfl (xm_cor_a rfl (xm_cor_a rfl hc)))) h61 (by omega) (by omega) (by rw [sh_p (show M 60 15 ≤ x7 by omega), tr_c c3 (h61.1 c3) er2 c7]; omega) (rw_tq_rn (by omega) (⟨by omega, by omega, by omega, tr_c c3 (h61.1 c3) er2 c7⟩) (rw_rc c3 c7) hQ (Or.inr c9) (by omega) rw_u4) (by omega)
                      · intro (c9 : x4 ≤ (((x5 + x6) + x7) + r2))
                        show Q 103 [(7, (0, 0, 11, 402, x7 + 1)), (9, (0, 0, 21, 2201, ((x5 + x6) + x7) + r2)), (3, (0, 0, (-2147483648), 2147483647, xa_w32 (x3 + 1))), (8, (0, 0, 0, 1000, r2)), (6, (0, 0, 1, 400, x6)), (5, (0, 0, 10, 400, x5)), (4, (0, 0, (-2147483648), 2147483647, x4)), (2, (0, 0, 1, 2, x2)), (1, (0, 0, 0, 7, x1)), (0, (2, 60, 0, 0, 0))] [] M1
                        refine hgo.2.1 103 _ [(7, (0, 0, 10, 401, x7 + 1)), (6, (0, 0, 1, 400, x6)), (5, (0, 0, 10, 400, x5)), (4, (0, 0, (-2147483648), 2147483647, x4)), (3, (0, 0, (-2147483648), 2147483647, xa_w32 (x3 + 1))), (2, (0, 0, 1, 2, x2)), (1, (0, 0, 0, 7, x1)), (0, (2, 60, 0, 0, 0))] _ _ (xa_subI rfl rfl (fun _ _ _ _ => by omega) (xa_subI rfl rfl (fun _ _ _ _ => by omega) (xa_subI rfl rfl (fun _ _ _ _ => by omega) (xa_subI rfl rfl (fun _ _ _ _ => by omega) (xa_subI rfl rfl (fun _ _ _ _ => by omega) (xa_subI rfl rfl (fun _ _ _ _ => by omega) (xa_subI rfl rfl (fun _ _ _ _ => by omega) (xa_subR rfl xa_sub0)))))))) ?_
                        exact ih2 (x7 + 1) x4 (xa_w32 (x3 + 1)) M1 (by omega) (by omega) (by omega) (by omega) (by omega) hc h61 (by omega) (by omega) (by rw [sh_p (show M 60 15 ≤ x7 by omega), tr_c c3 (h61.1 c3) er2 c7]; omega) (rw_tq_rk (by omega) (⟨by omega, by omega, by omega, tr_c c3 (h61.1 c3) er2 c7⟩) (rw_rc c3 c7) hQ (by omega) c9 (by omega)) (by omega)
                  · intro (c7 : ¬ r2 = 1)
                    show Q 103 [(7, (0, 0, 11, 402, x7 + 1)), (8, (0, 0, 0, 1000, r2)), (6, (0, 0, 1, 400, x6)), (5, (0, 0, 10, 400, x5)), (4, (0, 0, (-2147483648), 2147483647, x4)), (3, (0, 0, (-2147483648), 2147483647, x3)), (2, (0, 0, 1, 2, x2)), (1, (0, 0, 0, 7, x1)), (0, (2, 60, 0, 0, 0))] [] M1
                    refine hgo.2.1 103 _ [(7, (0, 0, 10, 401, x7 + 1)), (6, (0, 0, 1, 400, x6)), (5, (0, 0, 10, 400, x5)), (4, (0, 0, (-2147483648), 2147483647, x4)), (3, (0, 0, (-2147483648), 2147483647, x3)), (2, (0, 0, 1, 2, x2)), (1, (0, 0, 0, 7, x1)), (0, (2, 60, 0, 0, 0))] _ _ (xa_subI rfl rfl (fun _ _ _ _ => by omega) (xa_subI rfl rfl (fun _ _ _ _ => by omega) (xa_subI rfl rfl (fun _ _ _ _ => by omega) (xa_subI rfl rfl (fun _ _ _ _ => by omega) (xa_subI rfl rfl (fun _ _ _ _ => by omega) (xa_subI rfl rfl (fun _ _ _ _ => by omega) (xa_subI rfl rfl (fun _ _ _ _ => by omega) (xa_subR rfl xa_sub0)))))))) ?_
                    exact ih2 (x7 + 1) x4 x3 M1 (by omega) (by omega) (by omega) (by omega) (by omega) hc h61 (by omega) (by omega) (by rw [sh_p (show M 60 15 ≤ x7 by omega), tr_d c3 (h61.1 c3) er2 c7]; omega) (rw_tq_no (by omega) (by omega) (by omega) (by rw [tr_d c3 (h61.1 c3) er2 c7]; decide) hQ) (by omega)
          refine hgo.1 15 [57, 79, 103, 249] 79 _ _ _ ?_
          refine And.intro ?_ ?_
          · intro (c1 : ¬ x2 = 1)
            refine And.intro ?_ ?_
            · intro (c2 : (M1 60 16) < x6)
              show Q 57 [(5, (0, 0, 11, 401, x5 + 1)), (6, (0, 0, 1, 401, x6)), (4, (0, 0, (-2147483648), 2147483647, x4)), (3, (0, 0, (-2147483648), 2147483647, x3)), (2, (0, 0, 1, 2, x2)), (1, (0, 0, 0, 7, x1)), (0, (2, 60, 0, 0, 0))] [] M1
              refine hgo.2.1 57 _ [(5, (0, 0, 10, 401, x5 + 1)), (4, (0, 0, (-2147483648), 2147483647, x4)), (3, (0, 0, (-2147483648), 2147483647, x3)), (2, (0, 0, 1, 2, x2)), (1, (0, 0, 0, 7, x1)), (0, (2, 60, 0, 0, 0))] _ _ (xa_subI rfl rfl (fun _ _ _ _ => by omega) (xa_subI rfl rfl (fun _ _ _ _ => by omega) (xa_subI rfl rfl (fun _ _ _ _ => by omega) (xa_subI rfl rfl (fun _ _ _ _ => by omega) (xa_subI rfl rfl (fun _ _ _ _ => by omega) (xa_subR rfl xa_sub0)))))) ?_
              have eb : b9 = x5 := (h6.2.2.2 c1).1
              rw [eb] at hn1
              exact ih0 (x5 + 1) x4 x3 x2 x1 M1 (by omega) (by omega) (by omega) hc (by omega) hxa (by omega) (by omega) (by rw [sh_p (show M 60 15 ≤ x5 by omega), ← sh_wy2 c1 (show x6 = M 60 16 + 1 by omega)]; exact hn1) (rw_tq_b (by omega) (by omega) (Or.inr ⟨c1, by omega⟩) hQ) (by omega)
            · intro (c2 : x6 ≤ (M1 60 16))
              show Q 103 [(7, (0, 0, 10, 400, M1 60 15)), (6, (0, 0, 1, 401, x6)), (5, (0, 0, 10, 400, x5)), (4, (0, 0, (-2147483648), 2147483647, x4)), (3, (0, 0, (-2147483648), 2147483647, x3)), (2, (0, 0, 1, 2, x2)), (1, (0, 0, 0, 7, x1)), (0, (2, 60, 0, 0, 0))] [] M1
              refine hgo.2.1 103 _ [(7, (0, 0, 10, 401, M1 60 15)), (6, (0, 0, 1, 400, x6)), (5, (0, 0, 10, 400, x5)), (4, (0, 0, (-2147483648), 2147483647, x4)), (3, (0, 0, (-2147483648), 2147483647, x3)), (2, (0, 0, 1, 2, x2)), (1, (0, 0, 0, 7, x1)), (0, (2, 60, 0, 0, 0))] _ _ (xa_subI rfl rfl (fun _ _ _ _ => by omega) (xa_subI rfl rfl (fun _ _ _ _ => by omega) (xa_subI rfl rfl (fun _ _ _ _ => by omega) (xa_subI rfl rfl (fun _ _ _ _ => by omega) (xa_subI rfl rfl (fun _ _ _ _ => by omega) (xa_subI rfl rfl (fun _ _ _ _ => by omega) (xa_subI rfl rfl (fun _ _ _ _ => by omega) (xa_subR rfl xa_sub0)))))))) ?_
              exact loop2 402 (M1 60 15) x4 x3 M1 (by omega) (by omega) (by omega) (by omega) (by omega) hc (by omega) (by omega) (by omega) (by rw [show (M1 60 15 - M 60 15).toNat = 0 by omega]; show _ = _ + 0; omega) (rw_tq_l (by omega) (by omega) (by omega) hQ) (by omega)
          · intro (c1 : x2 = 1)
            refine And.intro ?_ ?_
            · intro (c3 : 1 < x6)
              show Q 57 [(5, (0, 0, 11, 401, x5 + 1)), (6, (0, 0, 1, 401, x6)), (4, (0, 0, (-2147483648), 2147483647, x4)), (3, (0, 0, (-2147483648), 2147483647, x3)), (2, (0, 0, 1, 2, x2)), (1, (0, 0, 0, 7, x1)), (0, (2, 60, 0, 0, 0))] [] M1
              refine hgo.2.1 57 _ [(5, (0, 0, 10, 401, x5 + 1)), (4, (0, 0, (-2147483648), 2147483647, x4)), (3, (0, 0, (-2147483648), 2147483647, x3)), (2, (0, 0, 1, 2, x2)), (1, (0, 0, 0, 7, x1)), (0, (2, 60, 0, 0, 0))] _ _ (xa_subI rfl rfl (fun _ _ _ _ => by omega) (xa_subI rfl rfl (fun _ _ _ _ => by omega) (xa_subI rfl rfl (fun _ _ _ _ => by omega) (xa_subI rfl rfl (fun _ _ _ _ => by omega) (xa_subI rfl rfl (fun _ _ _ _ => by omega) (xa_subR rfl xa_sub0)))))) ?_
              have eb : b9 = 1 := (h6.2.2.1 c1).1
              rw [eb] at hn1
              exact ih0 (x5 + 1) x4 x3 x2 x1 M1 (by omega) (by omega) (by omega) hc (by omega) hxa (by omega) (by omega) (by rw [sh_p (show M 60 15 ≤ x5 by omega), ← sh_wy1 c1 (show x6 = 2 by omega) (by omega) (by omega) (by omega) (by omega)]; exact hn1) (rw_tq_b (by omega) (by omega) (Or.inl ⟨c1, by omega⟩) hQ) (by omega)
            · intro (c3 : x6 ≤ 1)
              show Q 103 [(7, (0, 0, 10, 400, M1 60 15)), (6, (0, 0, 1, 401, x6)), (5, (0, 0, 10, 400, x5)), (4, (0, 0, (-2147483648), 2147483647, x4)), (3, (0, 0, (-2147483648), 2147483647, x3)), (2, (0, 0, 1, 2, x2)), (1, (0, 0, 0, 7, x1)), (0, (2, 60, 0, 0, 0))] [] M1
              refine hgo.2.1 103 _ [(7, (0, 0, 10, 401, M1 60 15)), (6, (0, 0, 1, 400, x6)), (5, (0, 0, 10, 400, x5)), (4, (0, 0, (-2147483648), 2147483647, x4)), (3, (0, 0, (-2147483648), 2147483647, x3)), (2, (0, 0, 1, 2, x2)), (1, (0, 0, 0, 7, x1)), (0, (2, 60, 0, 0, 0))] _ _ (xa_subI rfl rfl (fun _ _ _ _ => by omega) (xa_subI rfl rfl (fun _ _ _ _ => by omega) (xa_subI rfl rfl (fun _ _ _ _ => by omega) (xa_subI rfl rfl (fun _ _ _ _ => by omega) (xa_subI rfl rfl (fun _ _ _ _ => by omega) (xa_subI rfl rfl (fun _ _ _ _ => by omega) (xa_subI rfl rfl (fun _ _ _ _ => by omega) (xa_subR rfl xa_sub0)))))))) ?_
              exact loop2 402 (M1 60 15) x4 x3 M1 (by omega) (by omega) (by omega) (by omega) (by omega) hc (by omega) (by omega) (by omega) (by rw [show (M1 60 15 - M 60 15).toNat = 0 by omega]; show _ = _ + 0; omega) (rw_tq_l (by omega) (by omega) (by omega) hQ) (by omega)
      refine hgo.1 15 [57, 79, 103, 249] 57 _ _ _ ?_
      refine And.intro ?_ ?_
      · intro (c1 : (M1 60 16) < x5)
        show Q 249 [(5, (0, 0, 0, 0, 0)), (4, (0, 0, (-2147483648), 2147483647, x4)), (3, (0, 0, (-2147483648), 2147483647, x3)), (2, (0, 0, 1, 2, x2)), (1, (0, 0, 0, 7, x1)), (0, (2, 60, 0, 0, 0))] [] (xa_up M1 60 20 0)
        refine hgo.2.1 249 _ [(5, (0, 0, 0, 4, 0)), (3, (0, 0, (-2147483648), 2147483647, x3)), (2, (0, 0, 1, 2, x2)), (0, (2, 60, 0, 0, 0))] _ _ (xa_subI rfl rfl (fun _ _ _ _ => by omega) (xa_subI rfl rfl (fun _ _ _ _ => by omega) (xa_subI rfl rfl (fun _ _ _ _ => by omega) (xa_subR rfl xa_sub0)))) ?_
        exact loop3 5 0 x3 x2 (xa_up M1 60 20 0) (by omega) (by omega) (xm_cor_f (by omega) hc) (by rw [xa_up_eq]; omega) (by have e : x5 = M 60 16 + 1 := (by omega); rw [e, hxa.1, hxa.2.1] at hn; exact tr_Pi (by omega) (by omega) (by omega) hxa.2.2 hn) (fun h => rw_g122_k (fun i => xa_up_ne (by omega)) (by rw [← hxa.1, ← hxa.2.1]; exact rw_tq_g hQ (by omega) (by omega))) rw_w3_0 (by omega)
      · intro (c1 : x5 ≤ (M1 60 16))
        refine And.intro ?_ ?_
        · intro (c2 : ¬ x2 = 1)
          show Q 79 [(6, (0, 0, 10, 401, x5)), (5, (0, 0, 10, 401, x5)), (4, (0, 0, (-2147483648), 2147483647, x4)), (3, (0, 0, (-2147483648), 2147483647, x3)), (2, (0, 0, 1, 2, x2)), (1, (0, 0, 0, 7, x1)), (0, (2, 60, 0, 0, 0))] [] M1
          refine hgo.2.1 79 _ [(6, (0, 0, 1, 401, x5)), (5, (0, 0, 10, 400, x5)), (4, (0, 0, (-2147483648), 2147483647, x4)), (3, (0, 0, (-2147483648), 2147483647, x3)), (2, (0, 0, 1, 2, x2)), (1, (0, 0, 0, 7, x1)), (0, (2, 60, 0, 0, 0))] _ _ (xa_subI rfl rfl (fun _ _ _ _ => by omega) (xa_subI rfl rfl (fun _ _ _ _ => by omega) (xa_subI rfl rfl (fun _ _ _ _ => by omega) (xa_subI rfl rfl (fun _ _ _ _ => by omega) (xa_subI rfl rfl (fun _ _ _ _ => by omega) (xa_subI rfl rfl (fun _ _ _ _ => by omega) (xa_subR rfl xa_sub0))))))) ?_
          exact loop1 x5 402 x5 x4 x3 M1 (by omega) (by omega) (by omega) (by omega) hc (by omega) (by omega) (by rw [show (x5 - x5).toNat = 0 by omega]; show _ = _ + 0; omega) (rw_tq_a (by omega) (by omega) (Or.inr ⟨c2, rfl⟩) hQ) (by omega)
        · intro (c2 : x2 = 1)
          show Q 79 [(6, (0, 0, 1, 1, 1)), (5, (0, 0, 10, 401, x5)), (4, (0, 0, (-2147483648), 2147483647, x4)), (3, (0, 0, (-2147483648), 2147483647, x3)), (2, (0, 0, 1, 2, x2)), (1, (0, 0, 0, 7, x1)), (0, (2, 60, 0, 0, 0))] [] M1
          refine hgo.2.1 79 _ [(6, (0, 0, 1, 401, 1)), (5, (0, 0, 10, 400, x5)), (4, (0, 0, (-2147483648), 2147483647, x4)), (3, (0, 0, (-2147483648), 2147483647, x3)), (2, (0, 0, 1, 2, x2)), (1, (0, 0, 0, 7, x1)), (0, (2, 60, 0, 0, 0))] _ _ (xa_subI rfl rfl (fun _ _ _ _ => by omega) (xa_subI rfl rfl (fun _ _ _ _ => by omega) (xa_subI rfl rfl (fun _ _ _ _ => by omega) (xa_subI rfl rfl (fun _ _ _ _ => by omega) (xa_subI rfl rfl (fun _ _ _ _ => by omega) (xa_subI rfl rfl (fun _ _ _ _ => by omega) (xa_subR rfl xa_sub0))))))) ?_
          exact loop1 1 402 1 x4 x3 M1 (by omega) (by omega) (by omega) (by omega) hc (by omega) (by omega) (by rw [show ((1 : Int) - 1).toNat = 0 by decide]; show _ = _ + 0; omega) (rw_tq_a (by omega) (by omega) (Or.inl ⟨c2, rfl⟩) hQ) (by omega)
  refine hgo.1 18 [24] 0 _ _ _ ?_
  show xa_C xm_I A h0 _ 239 [(2, 60, 0, 0, 0), (0, 0, (-2147483648), 2147483647, a)] (xa_up M 60 21 0) _
  refine ct_isPeriod ?_ ?_
  · intro (i1 : 0 ≤ a ∧ a < (M 60 11))
    show xa_C xm_I A h0 _ 214 [(0, 0, (-2147483648), 2147483647, b), (0, 0, 1, 1, 1), (0, 0, 2, 2, 2)] (xa_up M 60 21 0) _
    refine ct_in ?_ ?_
    · intro (i2 : 1 ≤ b ∧ b ≤ 2)
      show Q 24 [(0, (2, 60, 0, 0, 0)), (1, (0, 0, (-2147483648), 2147483647, a)), (2, (0, 0, (-2147483648), 2147483647, b))] [] (xa_up M 60 21 0)
      refine hgo.2.1 24 _ [(2, (0, 0, 1, 2, b)), (1, (0, 0, 0, 7, a)), (0, (2, 60, 0, 0, 0))] _ _ (xa_subI rfl rfl (fun _ _ _ _ => by omega) (xa_subI rfl rfl (fun _ _ _ _ => by omega) (xa_subR rfl xa_sub0))) ?_
      refine hgo.1 22 [57, 79, 103, 249] 24 _ _ _ ?_
      refine And.intro ?_ ?_
      · intro (c103 : ¬ b = 2)
        show Q 57 [(5, (0, 0, 10, 400, M 60 15)), (4, (0, 0, 0, 0, 0)), (3, (0, 0, 0, 0, 0)), (2, (0, 0, 1, 2, b)), (1, (0, 0, 0, 7, a)), (0, (2, 60, 0, 0, 0))] [] (xa_up M 60 21 0)
        refine hgo.2.1 57 _ [(5, (0, 0, 10, 401, M 60 15)), (4, (0, 0, (-2147483648), 2147483647, 0)), (3, (0, 0, (-2147483648), 2147483647, 0)), (2, (0, 0, 1, 2, b)), (1, (0, 0, 0, 7, a)), (0, (2, 60, 0, 0, 0))] _ _ (xa_subI rfl rfl (fun _ _ _ _ => by omega) (xa_subI rfl rfl (fun _ _ _ _ => by omega) (xa_subI rfl rfl (fun _ _ _ _ => by omega) (xa_subI rfl rfl (fun _ _ _ _ => by omega) (xa_subI rfl rfl (fun _ _ _ _ => by omega) (xa_subR rfl xa_sub0)))))) ?_
        exact loop0 402 (M 60 15) 0 0 b a (xa_up M 60 21 0) (by omega) (by omega) (by omega) (xm_cor_f (by omega) xm_cor_r) (by omega) ⟨rfl, rfl, by omega⟩ (by omega) (by omega) (by rw [show (M 60 15 - M 60 15).toNat = 0 by omega]; rfl) (rw_tq_0 (by omega)) (by omega)
      · intro (c103 : b = 2)
        refine And.intro ?_ ?_
        · intro (c104 : ((M 60 16) - (M 60 15)) ≤ 60)
          show Q 57 [(5, (0, 0, 10, 400, M 60 15)), (4, (0, 0, 0, 0, 0)), (3, (0, 0, 0, 0, 0)), (2, (0, 0, 1, 2, b)), (1, (0, 0, 0, 7, a)), (0, (2, 60, 0, 0, 0))] [] (xa_up M 60 21 0)
          refine hgo.2.1 57 _ [(5, (0, 0, 10, 401, M 60 15)), (4, (0, 0, (-2147483648), 2147483647, 0)), (3, (0, 0, (-2147483648), 2147483647, 0)), (2, (0, 0, 1, 2, b)), (1, (0, 0, 0, 7, a)), (0, (2, 60, 0, 0, 0))] _ _ (xa_subI rfl rfl (fun _ _ _ _ => by omega) (xa_subI rfl rfl (fun _ _ _ _ => by omega) (xa_subI rfl rfl (fun _ _ _ _ => by omega) (xa_subI rfl rfl (fun _ _ _ _ => by omega) (xa_subI rfl rfl (fun _ _ _ _ => by omega) (xa_subR rfl xa_sub0)))))) ?_
          exact loop0 402 (M 60 15) 0 0 b a (xa_up M 60 21 0) (by omega) (by omega) (by omega) (xm_cor_f (by omega) xm_cor_r) (by omega) ⟨rfl, rfl, by omega⟩ (by omega) (by omega) (by rw [show (M 60 15 - M 60 15).toNat = 0 by omega]; rfl) (rw_tq_0 (by omega)) (by omega)
        · intro (c104 : 60 < ((M 60 16) - (M 60 15)))
          show post (some (0, 0, (-4), (-4), (-4))) (xa_up M 60 21 0)
          exact k _ _ _ _ (by unfold tr_P; omega) (xm_cor_f (by omega) xm_cor_r) (Or.inl ⟨by omega, xa_up_ne (by omega), fun i _ _ => xa_up_ne (by omega)⟩)
    · intro (i2 : ¬ (1 ≤ b ∧ b ≤ 2))
      show post (some (0, 0, (-1), (-1), (-1))) (xa_up M 60 21 0)
      exact k _ _ _ _ (by unfold tr_P; omega) (xm_cor_f (by omega) xm_cor_r) (Or.inl ⟨by omega, xa_up_ne (by omega), fun i _ _ => xa_up_ne (by omega)⟩)
  · intro (i1 : ¬ (0 ≤ a ∧ a < (M 60 11)))
    show post (some (0, 0, (-1), (-1), (-1))) (xa_up M 60 21 0)
    exact k _ _ _ _ (by unfold tr_P; omega) (xm_cor_f (by omega) xm_cor_r) (Or.inl ⟨by omega, xa_up_ne (by omega), fun i _ _ => xa_up_ne (by omega)⟩)
theorem rw_p122 (A : Nat → Nat) (cmp : Bool) : iv_pair (rw_J A) A 122 257 [0, 0] cmp false := rw_armV (fun W b h as M hJ hM hInv hs hR hz => by
  obtain ⟨m1, ys, rfl, -, hs⟩ := iv_spc hs
  obtain ⟨m2, ys, rfl, -, hs⟩ := iv_spc hs
  obtain rfl := iv_sp0 hs
  obtain ⟨s1, s2, s3, s4⟩ := lm_Sx.mp hR.2.1
  have y1 : iv_num h 32 0 = M 60 15 := hR.2.2.1
  have y2 : iv_num h 32 1 = M 60 16 := hR.2.2.2.1
  have hMk := xa_H_Mok hM
  have b11 := xm_f11 hMk
  have b15 := xm_f15 hMk
  have b16 := xm_f16 hMk
  have hlh := hInv.2.2.2.1
  have hU : ∀ i, 0 ≤ i → i < iv_num h (bk_p b) 4 → (1 ≤ iv_num h (bk_p b + 1) i ∧ iv_num h (bk_p b + 1) i ≤ 2000) ∧ (1 ≤ iv_num h (bk_p b + 2) i ∧ iv_num h (bk_p b + 2) i ≤ 2000) := fun i i0 i1 => by
    rw [s3] at i1
    obtain ⟨g1, g2, -⟩ := s4 i i0 (by omega) i1
    have t1 := xm_t70 hMk i i0 (by omega)
    have t2 := xm_t71 hMk i i0 (by omega)
    have t3 := hInv.2.2.1 i i0 i1
    rw [g1, g2]
    omega
  have hc := rw_122x (b := b) (A := A) (h0 := h) (d := 56) (M := iv_num h) (l1 := -2147483648) (u1 := 2147483647) (l2 := -2147483648) (u2 := 2147483647) (x1 := m1.toInt) (x2 := m2.toInt) (post := fun o M1 => ∃ lo hi n, o = some (0, 0, lo, hi, n) ∧ ((tr_P (M 60 15) (M 60 16) (M 60 11) (M 70 m1.toInt) (M 71 m1.toInt) m1.toInt m2.toInt n ∧ ∀ (q : Nat) (j : Int), ¬ (q = 48 ∨ q = 49) → M1 q j = iv_num h q j) ∧ rw_t122 m2.toInt (M 60 15) (M 60 16) (M 70 m1.toInt) (M 71 m1.toInt) n (iv_num h 48 1) (iv_num h 49) (M1 48 1) (M1 49))) (by omega) (by omega) hU (fun n M1 x1 x2 x3 => ⟨_, _, n, rfl, ⟨by
    rw [y1, y2, s3] at x1
    exact tr_Pe x1 (fun i0 i1 => by
      obtain ⟨g1, g2, -⟩ := s4 _ i0 (by omega) i1
      exact ⟨g1, g2⟩), x2⟩, by
    rw [y1, y2, s3] at x1
    rw [y1, y2] at x3
    refine rw_t122_e x3 (fun hr => ?_)
    have hx : 0 ≤ m1.toInt ∧ m1.toInt < M 60 11 := by
      rcases x1 with ⟨-, e⟩ | ⟨c, d, -⟩
      · omega
      · exact ⟨c, d⟩
    obtain ⟨g1, g2, -⟩ := s4 _ hx.1 (by omega) hx.2
    exact ⟨g1, g2⟩⟩)
  have hm := fun (h1 : g_H) => rw_m122 (A := A) (h0 := h1) (d := 57) (M := M) (l1 := -2147483648) (u1 := 2147483647) (l2 := -2147483648) (u2 := 2147483647) (a := m1.toInt) (b := m2.toInt) (post := fun o M2 => (∃ lo hi n, o = some (0, 0, lo, hi, n) ∧ ((tr_P (M 60 15) (M 60 16) (M 60 11) (M 70 m1.toInt) (M 71 m1.toInt) m1.toInt m2.toInt n ∧ xm_cor M M2) ∧ rw_t122 m2.toInt (M 60 15) (M 60 16) (M 70 m1.toInt) (M 71 m1.toInt) n (M 60 20) (M 74) (M2 60 20) (M2 74))) ∧ xm_Inv M2) hInv (fun lo hi r M2 x1 x2 x3 => ⟨⟨lo, hi, r, rfl, ⟨x1, x2⟩, x3⟩, xm_Inv_cor x2 hInv⟩)
  refine ⟨[(2, 0, 0, 0, 0), (0, 0, -2147483648, 2147483647, m1.toInt), (0, 0, -2147483648, 2147483647, m2.toInt)], [(2, 60, 0, 0, 0), (0, 0, -2147483648, 2147483647, m1.toInt), (0, 0, -2147483648, 2147483647, m2.toInt)], _, _, ⟨rfl, iv_i m1, iv_i m2, trivial⟩, ⟨rfl, iv_i m1, iv_i m2, trivial⟩, fun n n' M1 M2 h1 h2 => ⟨fun _ => tr_one h1.1.1 h2.1.1, fun x => h2.1.2 104 x (by unfold xm_scr; omega), fun x => h2.1.2 105 x (by unfold xm_scr; omega), lm_R_k (fun q j hC => ?_) hR, rw_t122u (by omega) (tr_one h1.1.1 h2.1.1) (fun hr => by have t := h1.1.1; unfold tr_P at t; omega) h1.2 h2.2 hz⟩, hc, hm⟩
  unfold xj
  by_cases hq : q < 60
  · rw [if_pos hq, if_pos hq]
    exact h1.1.2 q j (by first | (have t9 := lm_Cq hC; omega) | (unfold lm_C at hC; omega))
  · rw [if_neg hq, if_neg hq]
    exact h2.1.2 q j (by first | (have t9 := lm_Cq hC; unfold xm_scr; omega) | (unfold lm_C at hC; unfold xm_scr; omega)))

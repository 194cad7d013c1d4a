-- what the shop can make: one pair, two pairs (class)
set_option maxRecDepth 20000
/-- sums of what stands at lo, lo + 1 and so on -/
def sh_s (f : Int → Int) (lo : Int) : Nat → Int
  | 0 => 0
  | n + 1 => sh_s f lo n + f (lo + (n : Int))
theorem sh_s1 {f : Int → Int} {lo : Int} {n : Nat} : sh_s f lo (n + 1) = sh_s f lo n + f (lo + (n : Int)) := rfl
theorem sh_z {f : Int → Int} {lo : Int} {m : Nat} : ∀ d : Nat, (∀ c : Int, lo + m ≤ c → c < lo + m + d → f c = 0) → sh_s f lo (m + d) = sh_s f lo m := by
  intro d
  induction d with
  | zero => intro _; rfl
  | succ d ih =>
    intro h
    have e : sh_s f lo (m + (d + 1)) = sh_s f lo (m + d) + f (lo + ((m + d : Nat) : Int)) := rfl
    rw [e, ih (fun c c0 c1 => h c c0 (by omega)), h (lo + ((m + d : Nat) : Int)) (by omega) (by omega)]
    omega
theorem sh_z2 {f : Int → Int} {lo x y : Int} (hx : lo ≤ x) (hy : x ≤ y) (h : ∀ c : Int, x ≤ c → c < y → f c = 0) : sh_s f lo (y - lo).toNat = sh_s f lo (x - lo).toNat := by
  have e : (y - lo).toNat = (x - lo).toNat + (y - x).toNat := by omega
  rw [e]
  exact sh_z _ (fun c c0 c1 => h c (by omega) (by omega))
theorem sh_p {f : Int → Int} {lo c : Int} (h : lo ≤ c) : sh_s f lo (c + 1 - lo).toNat = sh_s f lo (c - lo).toNat + f c := by
  rw [show (c + 1 - lo).toNat = (c - lo).toNat + 1 by omega, sh_s1, show lo + (((c - lo).toNat : Nat) : Int) = c by omega]
theorem sh_e {f g : Int → Int} {lo : Int} : ∀ n : Nat, (∀ c : Int, lo ≤ c → c < lo + n → f c = g c) → sh_s f lo n = sh_s g lo n := by
  intro n
  induction n with
  | zero => intro _; rfl
  | succ n ih =>
    intro h
    rw [sh_s1, sh_s1, ih (fun c c0 c1 => h c c0 (by omega)), h (lo + (n : Int)) (by omega) (by omega)]
theorem sh_0 {f : Int → Int} {lo : Int} {n : Nat} (h : ∀ c : Int, lo ≤ c → c < lo + n → f c = 0) : sh_s f lo n = 0 := by
  have e := sh_z (f := f) (lo := lo) (m := 0) n (fun c c0 c1 => h c (by omega) (by omega))
  rw [Nat.zero_add] at e
  exact e
theorem sh_1 {f : Int → Int} {lo hi c0 : Int} (a : lo ≤ c0) (b : c0 ≤ hi) (e : f c0 = 1) (z : ∀ c : Int, lo ≤ c → c ≤ hi → ¬ c = c0 → f c = 0) : sh_s f lo (hi + 1 - lo).toNat = 1 := by
  rw [sh_z2 (show lo ≤ c0 + 1 by omega) (show c0 + 1 ≤ hi + 1 by omega) (fun c c1 c2 => z c (by omega) (by omega) (by omega)), sh_p a, e, sh_0 (fun c c1 c2 => z c c1 (by omega) (by omega))]
  omega
/-- c is the less of two teeth whose product is p -/
def sh_f (L H p c : Int) : Prop := c * c ≤ p ∧ c ∣ p ∧ L ≤ p / c ∧ p / c ≤ H
def sh_i (L H p c : Int) : Int := if c * c ≤ p ∧ c ∣ p ∧ L ≤ p / c ∧ p / c ≤ H then 1 else 0
theorem sh_i1 {L H p c : Int} (h : sh_f L H p c) : sh_i L H p c = 1 := if_pos h
theorem sh_i0 {L H p c : Int} (h : ¬ sh_f L H p c) : sh_i L H p c = 0 := if_neg h
/-- the first from x on -/
def sh_n (L H p x r : Int) : Prop := (r = -1 ∧ ∀ c : Int, x ≤ c → c ≤ H → ¬ sh_f L H p c) ∨ (x ≤ r ∧ r ≤ H ∧ sh_f L H p r ∧ ∀ c : Int, x ≤ c → c < r → ¬ sh_f L H p c)
theorem sh_ns {L H p x r : Int} (hx : L ≤ x) (hx2 : x ≤ H + 1) (h : sh_n L H p x r) : (r = -1 ∧ sh_s (sh_i L H p) L (H + 1 - L).toNat = sh_s (sh_i L H p) L (x - L).toNat) ∨ (x ≤ r ∧ r ≤ H ∧ sh_f L H p r ∧ sh_s (sh_i L H p) L (r - L).toNat = sh_s (sh_i L H p) L (x - L).toNat) := by
  rcases h with ⟨h1, h2⟩ | ⟨h1, h2, h3, h4⟩
  · exact Or.inl ⟨h1, sh_z2 hx hx2 (fun c c0 c1 => sh_i0 (h2 c c0 (by omega)))⟩
  · exact Or.inr ⟨h1, h2, h3, sh_z2 hx h1 (fun c c0 c1 => sh_i0 (h4 c c0 c1))⟩
/-- what the other two have to make -/
def sh_d (u v a b : Int) : Int := if u ∣ a * b * v then a * b * v / u else 0
def sh_tb (L H u v a b : Int) : Int := sh_s (sh_i L H (sh_d u v a b)) L (H + 1 - L).toNat
def sh_ta (L H u v a : Int) : Int := sh_s (sh_tb L H u v a) a (H + 1 - a).toNat
def sh_t2 (L H u v : Int) : Int := sh_s (sh_ta L H u v) L (H + 1 - L).toNat
def sh_g (L H u v a : Int) : Int := if u ∣ a * v ∧ L ≤ a * v / u ∧ a * v / u ≤ H then 1 else 0
def sh_t1 (L H u v : Int) : Int := sh_s (sh_g L H u v) L (H + 1 - L).toNat
theorem sh_ib {L H p c : Int} : 0 ≤ sh_i L H p c ∧ sh_i L H p c ≤ 1 := by
  unfold sh_i
  split <;> omega
theorem sh_db {u v a b : Int} (hu : 1 ≤ u) (ha : 0 ≤ a ∧ a ≤ 400) (hb : 0 ≤ b ∧ b ≤ 400) (hv : 0 ≤ v ∧ v ≤ 2000) : (0 ≤ a * b * v ∧ a * b * v ≤ 320000000) ∧ 0 ≤ sh_d u v a b ∧ sh_d u v a b ≤ 320000000 := by
  have m1 := Int.mul_nonneg ha.1 hb.1
  have m2 := Int.mul_le_mul ha.2 hb.2 hb.1 (show (0 : Int) ≤ 400 by decide)
  have m3 := Int.mul_nonneg m1 hv.1
  have m4 := Int.mul_le_mul (show a * b ≤ 160000 by omega) hv.2 hv.1 (show (0 : Int) ≤ 160000 by decide)
  have q0 := Int.ediv_nonneg m3 (show 0 ≤ u by omega)
  have q1 := Int.ediv_le_self u m3
  refine ⟨by omega, ?_⟩
  unfold sh_d
  split <;> omega
/-- fourth: the same as what splits the product -/
theorem sh_fe {L H u v a b c : Int} (hu : 1 ≤ u) (hL : 1 ≤ L) (hc : L ≤ c) : sh_f L H (sh_d u v a b) c ↔ (a * b * v) % (c * u) = 0 ∧ c ≤ a * b * v / (c * u) ∧ a * b * v / (c * u) ≤ H := by
  have hcu : 0 < c * u := Int.mul_pos (by omega) (by omega)
  constructor
  · rintro ⟨h1, h2, h3, h4⟩
    by_cases hd : u ∣ a * b * v
    · have e : sh_d u v a b = a * b * v / u := if_pos hd
      rw [e] at h1 h2 h3 h4
      obtain ⟨k, hk⟩ := h2
      have e1 : a * b * v = c * u * k := by
        have := Int.mul_ediv_cancel' hd
        rw [← this, hk, ← Int.mul_assoc, Int.mul_comm u c]
      have e2 : a * b * v / (c * u) = k := by
        rw [e1]
        exact Int.mul_ediv_cancel_left k (by omega)
      have e3 : a * b * v / u / c = k := by
        rw [hk]
        exact Int.mul_ediv_cancel_left k (by omega)
      rw [e3] at h3 h4
      rw [hk] at h1
      refine ⟨by rw [e1]; exact Int.mul_emod_right _ _, ?_, by rw [e2]; exact h4⟩
      rw [e2]
      exact Int.le_of_mul_le_mul_left h1 (by omega)
    · exfalso
      have e : sh_d u v a b = 0 := if_neg hd
      rw [e] at h1
      have := Int.mul_pos (show 0 < c by omega) (show 0 < c by omega)
      omega
  · rintro ⟨h1, h2, h3⟩
    obtain ⟨k, hk⟩ := Int.dvd_of_emod_eq_zero h1
    have e2 : a * b * v / (c * u) = k := by
      rw [hk]
      exact Int.mul_ediv_cancel_left k (by omega)
    rw [e2] at h2 h3
    have hd : u ∣ a * b * v := ⟨c * k, by rw [hk, Int.mul_comm c u, Int.mul_assoc]⟩
    have e : sh_d u v a b = c * k := by
      have e4 : sh_d u v a b = a * b * v / u := if_pos hd
      rw [e4, hk, Int.mul_comm c u, Int.mul_assoc]
      exact Int.mul_ediv_cancel_left _ (by omega)
    have e3 : c * k / c = k := Int.mul_ediv_cancel_left k (by omega)
    refine ⟨?_, ?_, ?_, ?_⟩
    · rw [e]
      exact Int.mul_le_mul_of_nonneg_left h2 (by omega)
    · rw [e]
      exact Int.dvd_mul_right _ _
    · rw [e, e3]
      omega
    · rw [e, e3]
      exact h3
/-- one pair: the other tooth is told -/
def sh_h (u v a c : Int) : Int := if a * 1 * v % (c * u) = 0 ∧ a * 1 * v / (c * u) = 1 then 1 else 0
theorem sh_ge {L H u v a : Int} (hu : 1 ≤ u) (hL : 1 ≤ L) (ha : 1 ≤ a) (hv : 1 ≤ v) : sh_g L H u v a = sh_s (sh_h u v a) L (H + 1 - L).toNat := by
  have hp : 0 < a * v := Int.mul_pos (by omega) (by omega)
  have key : ∀ c : Int, L ≤ c → ((a * 1 * v % (c * u) = 0 ∧ a * 1 * v / (c * u) = 1) ↔ a * v = c * u) := by
    intro c hc
    have hcu : 0 < c * u := Int.mul_pos (by omega) (by omega)
    rw [Int.mul_one]
    constructor
    · rintro ⟨h1, h2⟩
      have := Int.mul_ediv_cancel' (Int.dvd_of_emod_eq_zero h1)
      rw [h2, Int.mul_one] at this
      exact this.symm
    · intro h
      rw [h]
      exact ⟨Int.emod_self, Int.ediv_self (by omega)⟩
  unfold sh_g
  split
  next h =>
    obtain ⟨h1, h2, h3⟩ := h
    have e := Int.mul_ediv_cancel' h1
    refine (sh_1 (f := sh_h u v a) (c0 := a * v / u) h2 h3 (if_pos ((key _ h2).mpr ?_)) (fun c c0 c1 c2 => if_neg (fun h => c2 ?_))).symm
    · rw [Int.mul_comm (a * v / u) u]
      exact e.symm
    · have := (key c c0).mp h
      rw [this]
      exact (Int.mul_ediv_cancel c (by omega)).symm
  next h =>
    refine (sh_0 (f := sh_h u v a) (fun c c0 c1 => if_neg (fun g => h ?_))).symm
    have e := (key c c0).mp g
    rw [e]
    rw [Int.mul_ediv_cancel c (by omega)]
    exact ⟨⟨c, Int.mul_comm c u⟩, c0, by omega⟩
theorem cx_97f {b : Bool} {A : Nat → Nat} {h0 : g_H} {d : Nat} {M : xa_M} {post : Option xa_V → xa_M → Prop} {l1 u1 l2 u2 x y : Int} (hx : 1 ≤ x ∧ x ≤ 9223372036854775807) (hy : 0 ≤ y ∧ y ≤ 9223372036854775807) (k1 : x ∣ y → post (some (0, 0, 1, 1, 1)) M) (k2 : ¬ x ∣ y → post (some (0, 0, 0, 0, 0)) M) : xa_C (xl_I b) A h0 (d + 1) 97 [(1, 0, l1, u1, x), (1, 0, l2, u2, y)] M post := by
  refine xa_C_arg [(1, 0, 1, 9223372036854775807, x), (1, 0, 0, 9223372036854775807, y)] (xa_svL (fun _ _ _ _ => by omega) (xa_svL (fun _ _ _ _ => by omega) xa_sv0)) ?_
  refine xa_meth (Q0 := (4, 2, false, 0, 0, 11)) (by decide +kernel) ⟨rfl, rfl⟩ (full := s_c_97) rfl rfl ?_
  intro hM hv Q hgo
  refine hgo.1 15 [] 0 _ _ _ ?_
  refine And.intro ?_ ?_
  · intro (c1 : ¬ (y % x) = 0)
    show post (some (0, 0, 0, 0, 0)) M
    exact k2 (fun h => by have := Int.emod_eq_zero_of_dvd h; omega)
  · intro (c1 : (y % x) = 0)
    show post (some (0, 0, 1, 1, 1)) M
    exact k1 (Int.dvd_of_emod_eq_zero (by omega))
theorem cx_21h {b : Bool} {A : Nat → Nat} {h0 : g_H} {d : Nat} {M : xa_M} {post : Option xa_V → xa_M → Prop} {l1 u1 l2 u2 x y : Int} (hx : 0 ≤ x ∧ x ≤ 320000000) (hy : 1 ≤ y ∧ y ≤ 9223372036854775807) (k : post (some (1, 0, 0, 320000000, x / y)) M) : xa_C (xl_I b) A h0 (d + 1) 21 [(1, 0, l1, u1, x), (1, 0, l2, u2, y)] M post := by
  refine xa_C_wk ?_
  refine xa_C_arg [(1, 0, 0, 320000000, x), (1, 0, 1, 9223372036854775807, y)] (xa_svL (fun _ _ _ _ => by omega) (xa_svL (fun _ _ _ _ => by omega) xa_sv0)) ?_
  refine xa_meth (Q0 := (4, 3, false, 0, 0, 11)) (by decide +kernel) ⟨rfl, rfl⟩ (full := s_c_21) rfl rfl ?_
  intro hM hv Q hgo
  have q0 := Int.ediv_nonneg (show 0 ≤ x by omega) (show 0 ≤ y by omega)
  have q1 := Int.ediv_le_self y (show 0 ≤ x by omega)
  refine hgo.1 11 [] 0 _ _ _ ?_
  show xa_wk post (some (1, 0, 0, 320000000, x / y)) M
  exact xa_wkL (x / y) rfl (fun _ _ => by omega) k
theorem cx_127f {b : Bool} {A : Nat → Nat} {h0 : g_H} {d : Nat} {M : xa_M} {post : Option xa_V → xa_M → Prop} {l1 u1 l2 u2 l3 u3 l4 u4 ta tb uu vv : Int} (hA : 10 ≤ ta ∧ ta ≤ 400) (hB : 10 ≤ tb ∧ tb ≤ 400) (hU : 1 ≤ uu ∧ uu ≤ 2000) (hV : 1 ≤ vv ∧ vv ≤ 2000) (k : post (some (1, 0, 0, 320000000, sh_d uu vv ta tb)) M) : xa_C (xl_I b) A h0 (d + 2) 127 [(2, 32, 0, 0, 0), (0, 0, l1, u1, ta), (0, 0, l2, u2, tb), (1, 0, l3, u3, uu), (1, 0, l4, u4, vv)] M post := by
  refine xa_C_wk ?_
  refine xa_C_arg [(2, 32, 0, 0, 0), (0, 0, 10, 400, ta), (0, 0, 10, 400, tb), (1, 0, 1, 2000, uu), (1, 0, 1, 2000, vv)] (xa_svR (xa_svI (fun _ _ _ _ => by omega) (xa_svI (fun _ _ _ _ => by omega) (xa_svL (fun _ _ _ _ => by omega) (xa_svL (fun _ _ _ _ => by omega) xa_sv0))))) ?_
  refine xa_meth (Q0 := (9, 3, false, 0, 0, 7)) (by decide +kernel) ⟨rfl, rfl⟩ (full := s_c_127) rfl rfl ?_
  intro hM hv Q hgo
  have hdb := sh_db (u := uu) (v := vv) (a := ta) (b := tb) hU.1 (by omega) (by omega) (by omega)
  refine hgo.1 21 [] 0 _ _ _ ?_
  show xa_C (xl_I b) A h0 _ 97 [(1, 0, 1, 2000, uu), (1, 0, 100, 320000000, (ta * tb) * vv)] M _
  refine cx_97f (by omega) (by omega) ?_ ?_
  · intro (i1 : uu ∣ ((ta * tb) * vv))
    show xa_C (xl_I b) A h0 _ 21 [(1, 0, 100, 320000000, (ta * tb) * vv), (1, 0, 1, 2000, uu)] M _
    refine cx_21h (by omega) (by omega) ?_
    show xa_wk post (some (1, 0, 0, 320000000, ((ta * tb) * vv) / uu)) M
    exact xa_wkL (sh_d uu vv ta tb) (show _ = sh_d uu vv ta tb from (if_pos i1).symm) (fun _ _ => hdb.2) k
  · intro (i2 : ¬ uu ∣ ((ta * tb) * vv))
    show xa_wk post (some (1, 0, 0, 0, 0)) M
    exact xa_wkL (sh_d uu vv ta tb) (show _ = sh_d uu vv ta tb from (if_neg i2).symm) (fun _ _ => hdb.2) k
theorem cx_59n {b : Bool} {A : Nat → Nat} {h0 : g_H} {d : Nat} {M : xa_M} {post : Option xa_V → xa_M → Prop} {N : xa_M} (hk : ∀ (q : Nat) (j : Int), ¬ (q = 48 ∨ q = 49) → M q j = N q j) (k : ∀ M1 : xa_M, (∀ (q : Nat) (j : Int), ¬ (q = 48 ∨ q = 49) → M1 q j = N q j) → (0 : Int) ≤ M1 48 1 → post none M1) : xa_C (xl_I b) A h0 (d + 1) 59 [(2, 48, 0, 0, 0)] M post :=
  cx_59_48 (k _ (fun q j hq => (xa_up_ne (by omega)).trans (hk q j hq)) (by rw [xa_up_eq]; decide))
theorem cx_60n {b : Bool} {A : Nat → Nat} {h0 : g_H} {d : Nat} {M : xa_M} {post : Option xa_V → xa_M → Prop} {N : xa_M} {l1 u1 x1 : Int} (hk : ∀ (q : Nat) (j : Int), ¬ (q = 48 ∨ q = 49) → M q j = N q j) (h1 : (0 : Int) ≤ M 48 1) (k : ∀ M1 : xa_M, (∀ (q : Nat) (j : Int), ¬ (q = 48 ∨ q = 49) → M1 q j = N q j) → (0 : Int) ≤ M1 48 1 → post none M1) : xa_C (xl_I b) A h0 (d + 2) 60 [(2, 48, 0, 0, 0), (1, 0, l1, u1, x1)] M post :=
  cx_60_48 h1 (fun _ => k M hk h1) (fun h => k _ (fun q j hq => (xa_up_ne (by omega)).trans ((xa_up_ne (by omega)).trans (hk q j hq))) (by
    rw [xa_up_eq, xa_w32_id (by omega) (by omega)]
    omega))
theorem cx_124_32 {b : Bool} {A : Nat → Nat} {h0 : g_H} {d : Nat} {M : xa_M} {post : Option xa_V → xa_M → Prop} {l1 u1 : Int} {x1 : Int} (k1 : (x1 < (M 32 0)) → post (some (0, 0, 0, 0, 0)) M) (k2 : ((M 32 0) ≤ x1) → ((M 32 1) < x1) → post (some (0, 0, 0, 0, 0)) M) (k3 : ((M 32 0) ≤ x1) → (x1 ≤ (M 32 1)) → post (some (0, 0, 1, 1, 1)) M) : xa_C (xl_I b) A h0 (d + 1) 124 [(2, 32, 0, 0, 0), (1, 0, l1, u1, x1)] M post := by
  refine xa_C_arg [(2, 32, 0, 0, 0), (1, 0, (-9223372036854775808), 9223372036854775807, x1)] (xa_svR (xa_svL (fun _ _ _ _ => by omega) (xa_sv0))) ?_
  refine xa_meth (Q0 := (3, 2, false, 0, 0, 7)) (by decide +kernel) ⟨rfl, rfl⟩ (full := s_c_124) rfl rfl ?_
  intro hM hv Q hgo
  refine hgo.1 17 [] 0 _ _ _ ?_
  refine And.intro ?_ ?_
  · intro (c1 : x1 < (M 32 0))
    show post (some (0, 0, 0, 0, 0)) M
    exact k1 c1
  · intro (c1 : (M 32 0) ≤ x1)
    refine And.intro ?_ ?_
    · intro (c2 : (M 32 1) < x1)
      show post (some (0, 0, 0, 0, 0)) M
      exact k2 c1 c2
    · intro (c2 : x1 ≤ (M 32 1))
      show post (some (0, 0, 1, 1, 1)) M
      exact k3 c1 c2
theorem cx_128f {b : Bool} {A : Nat → Nat} {h0 : g_H} {d : Nat} {M : xa_M} {post : Option xa_V → xa_M → Prop} {l1 u1 l2 u2 x1 tp : Int} (hL : 10 ≤ M 32 0 ∧ M 32 0 ≤ M 32 1 ∧ M 32 1 ≤ 400) (hx : M 32 0 ≤ x1 ∧ x1 ≤ M 32 1 + 1) (hp : 0 ≤ tp ∧ tp ≤ 320000000) (k : ∀ r : Int, sh_n (M 32 0) (M 32 1) tp x1 r → (-1 ≤ r ∧ r ≤ 400) → post (some (0, 0, (-1), 400, r)) M) : xa_C (xl_I b) A h0 (d + 2) 128 [(2, 32, 0, 0, 0), (0, 0, l1, u1, x1), (1, 0, l2, u2, tp)] M post := by
  refine xa_C_wk ?_
  refine xa_C_arg [(2, 32, 0, 0, 0), (0, 0, 10, 401, x1), (1, 0, 0, 320000000, tp)] (xa_svR (xa_svI (fun _ _ _ _ => by omega) (xa_svL (fun _ _ _ _ => by omega) xa_sv0))) ?_
  refine xa_meth (Q0 := (5, 1, false, 0, 0, 7)) (by decide +kernel) ⟨rfl, rfl⟩ (full := s_c_128) rfl rfl ?_
  intro hM hv Q hgo
  have loop : ∀ (f : Nat) (tc : Int), M 32 0 ≤ tc ∧ x1 ≤ tc ∧ tc ≤ M 32 1 + 1 → (∀ c : Int, x1 ≤ c → c < tc → ¬ sh_f (M 32 0) (M 32 1) tp c) → 401 - tc < (f : Int) → Q 3 [(4, (0, 0, 10, 401, tc)), (0, (2, 32, 0, 0, 0)), (2, (1, 0, 0, 320000000, tp))] [] M := by
    intro f
    induction f with
    | zero => intro tc h1 hn hms; omega
    | succ f ih =>
      intro tc h1 hn hms
      refine hgo.1 30 [3] 3 _ _ _ ?_
      refine And.intro ?_ ?_
      · intro (c1 : (M 32 1) < tc)
        show xa_wk post (some (0, 0, (-1), (-1), (-1))) M
        exact xa_wkI (-1) rfl (fun _ _ => by omega) (k (-1) (Or.inl ⟨rfl, fun c q0 q1 => hn c q0 (by omega)⟩) (by omega))
      · intro (c1 : tc ≤ (M 32 1))
        refine And.intro ?_ ?_
        · intro (c2 : tp < (tc * tc))
          show xa_wk post (some (0, 0, (-1), (-1), (-1))) M
          exact xa_wkI (-1) rfl (fun _ _ => by omega) (k (-1) (Or.inl ⟨rfl, fun c q0 q1 g => by
            by_cases e : c < tc
            · exact hn c q0 e g
            · have g1 := g.1
              have g2 := Int.mul_le_mul (show tc ≤ c by omega) (show tc ≤ c by omega) (show 0 ≤ tc by omega) (show 0 ≤ c by omega)
              omega⟩) (by omega))
        · intro (c2 : (tc * tc) ≤ tp)
          show xa_C (xl_I b) A h0 _ 97 [(1, 0, 10, 401, tc), (1, 0, 0, 320000000, tp)] M _
          refine cx_97f (by omega) (by omega) ?_ ?_
          · intro (i3 : tc ∣ tp)
            show xa_C (xl_I b) A h0 _ 21 [(1, 0, 0, 320000000, tp), (1, 0, 10, 401, tc)] M _
            refine cx_21h (by omega) (by omega) ?_
            show xa_C (xl_I b) A h0 _ 124 [(2, 32, 0, 0, 0), (1, 0, 0, 320000000, tp / tc)] M _
            refine cx_124_32 ?_ ?_ ?_
            · intro (i4 : (tp / tc) < (M 32 0))
              show Q 3 [(4, (0, 0, 11, 402, tc + 1)), (0, (2, 32, 0, 0, 0)), (2, (1, 0, 0, 320000000, tp))] [] M
              refine hgo.2.1 3 _ [(4, (0, 0, 10, 401, tc + 1)), (0, (2, 32, 0, 0, 0)), (2, (1, 0, 0, 320000000, tp))] _ _ (xa_subI rfl rfl (fun _ _ _ _ => by omega) (xa_subR rfl (xa_subL rfl rfl (fun _ _ _ _ => by omega) (xa_sub0)))) ?_
              exact ih (tc + 1) (by omega) (fun c q0 q1 => by
                by_cases e : c = tc
                · rw [e]
                  exact fun g => by
                    have g3 := g.2.2.1
                    have g4 := g.2.2.2
                    omega
                · exact hn c q0 (by omega)) (by omega)
            · intro (i5 : (M 32 0) ≤ (tp / tc)) (i6 : (M 32 1) < (tp / tc))
              show Q 3 [(4, (0, 0, 11, 402, tc + 1)), (0, (2, 32, 0, 0, 0)), (2, (1, 0, 0, 320000000, tp))] [] M
              refine hgo.2.1 3 _ [(4, (0, 0, 10, 401, tc + 1)), (0, (2, 32, 0, 0, 0)), (2, (1, 0, 0, 320000000, tp))] _ _ (xa_subI rfl rfl (fun _ _ _ _ => by omega) (xa_subR rfl (xa_subL rfl rfl (fun _ _ _ _ => by omega) (xa_sub0)))) ?_
              exact ih (tc + 1) (by omega) (fun c q0 q1 => by
                by_cases e : c = tc
                · rw [e]
                  exact fun g => by
                    have g3 := g.2.2.1
                    have g4 := g.2.2.2
                    omega
                · exact hn c q0 (by omega)) (by omega)
            · intro (i7 : (M 32 0) ≤ (tp / tc)) (i8 : (tp / tc) ≤ (M 32 1))
              show xa_wk post (some (0, 0, 10, 401, tc)) M
              exact xa_wkI tc rfl (fun _ _ => by omega) (k tc (Or.inr ⟨by omega, by omega, ⟨c2, i3, i7, i8⟩, hn⟩) (by omega))
          · intro (i9 : ¬ tc ∣ tp)
            show Q 3 [(4, (0, 0, 11, 402, tc + 1)), (0, (2, 32, 0, 0, 0)), (2, (1, 0, 0, 320000000, tp))] [] M
            refine hgo.2.1 3 _ [(4, (0, 0, 10, 401, tc + 1)), (0, (2, 32, 0, 0, 0)), (2, (1, 0, 0, 320000000, tp))] _ _ (xa_subI rfl rfl (fun _ _ _ _ => by omega) (xa_subR rfl (xa_subL rfl rfl (fun _ _ _ _ => by omega) (xa_sub0)))) ?_
            exact ih (tc + 1) (by omega) (fun c q0 q1 => by
              by_cases e : c = tc
              · rw [e]
                exact fun g => i9 g.2.1
              · exact hn c q0 (by omega)) (by omega)
  refine hgo.1 7 [3] 0 _ _ _ ?_
  show Q 3 [(4, (0, 0, 10, 401, x1)), (0, (2, 32, 0, 0, 0)), (1, (0, 0, 10, 401, x1)), (2, (1, 0, 0, 320000000, tp))] [] M
  refine hgo.2.1 3 _ [(4, (0, 0, 10, 401, x1)), (0, (2, 32, 0, 0, 0)), (2, (1, 0, 0, 320000000, tp))] _ _ (xa_subI rfl rfl (fun _ _ _ _ => by omega) (xa_subR rfl (xa_subL rfl rfl (fun _ _ _ _ => by omega) (xa_sub0)))) ?_
  exact loop 402 x1 (by omega) (fun c q0 q1 => by omega) (by omega)
theorem cx_128n {b : Bool} {A : Nat → Nat} {h0 : g_H} {d : Nat} {M : xa_M} {post : Option xa_V → xa_M → Prop} {N : xa_M} {l1 u1 l2 u2 x1 tp : Int} (hk : ∀ (q : Nat) (j : Int), ¬ (q = 48 ∨ q = 49) → M q j = N q j) (hL : 10 ≤ N 32 0 ∧ N 32 0 ≤ N 32 1 ∧ N 32 1 ≤ 400) (hx : N 32 0 ≤ x1 ∧ x1 ≤ N 32 1 + 1) (hp : 0 ≤ tp ∧ tp ≤ 320000000) (k : ∀ r : Int, sh_n (N 32 0) (N 32 1) tp x1 r → (-1 ≤ r ∧ r ≤ 400) → post (some (0, 0, (-1), 400, r)) M) : xa_C (xl_I b) A h0 (d + 2) 128 [(2, 32, 0, 0, 0), (0, 0, l1, u1, x1), (1, 0, l2, u2, tp)] M post := by
  have e0 : M 32 0 = N 32 0 := hk 32 0 (by decide)
  have e1 : M 32 1 = N 32 1 := hk 32 1 (by decide)
  rw [← e0, ← e1] at hL hx
  exact cx_128f hL hx hp (fun r h1 h2 => k r (by rw [← e0, ← e1]; exact h1) h2)
theorem cx_126f {b : Bool} {A : Nat → Nat} {h0 : g_H} {d : Nat} {M : xa_M} {post : Option xa_V → xa_M → Prop} {l1 u1 l2 u2 uu vv : Int} (hL : 10 ≤ M 32 0 ∧ M 32 0 ≤ M 32 1 ∧ M 32 1 ≤ 400) (hW : M 32 1 - M 32 0 ≤ 60) (hU : 1 ≤ uu ∧ uu ≤ 2000) (hV : 1 ≤ vv ∧ vv ≤ 2000) (k : ∀ M1 : xa_M, (∀ (q : Nat) (j : Int), ¬ (q = 48 ∨ q = 49) → M1 q j = M q j) → post (some (0, 0, 0, 300000, sh_t2 (M 32 0) (M 32 1) uu vv)) M1) : xa_C (xl_I b) A h0 (d + 3) 126 [(2, 32, 0, 0, 0), (1, 0, l1, u1, uu), (1, 0, l2, u2, vv), (2, 48, 0, 0, 0)] M post := by
  refine xa_C_wk ?_
  refine xa_C_arg [(2, 32, 0, 0, 0), (1, 0, 1, 2000, uu), (1, 0, 1, 2000, vv), (2, 48, 0, 0, 0)] (xa_svR (xa_svL (fun _ _ _ _ => by omega) (xa_svL (fun _ _ _ _ => by omega) (xa_svR xa_sv0)))) ?_
  refine xa_meth (Q0 := (17, 1, false, 0, 0, 7)) (by decide +kernel) ⟨rfl, rfl⟩ (full := s_c_126) rfl rfl ?_
  intro hM hv Q hgo
  have hkr : ∀ (q : Nat) (j : Int), ¬ (q = 48 ∨ q = 49) → M q j = M q j := fun _ _ _ => rfl
  have loop17 : ∀ (f : Nat) (ta tn tw : Int) (M1 : xa_M), (∀ (q : Nat) (j : Int), ¬ (q = 48 ∨ q = 49) → M1 q j = M q j) → (0 : Int) ≤ M1 48 1 → M 32 0 ≤ ta ∧ ta ≤ M 32 1 + 1 → 0 ≤ tn ∧ tn ≤ (ta - M 32 0) * 3721 → tn = sh_s (sh_ta (M 32 0) (M 32 1) uu vv) (M 32 0) (ta - M 32 0).toNat → 401 - ta < (f : Int) → Q 17 [(9, (0, 0, 10, 401, ta)), (6, (0, 0, 0, 300000, tn)), (7, (1, 0, (-9223372036854775808), 9223372036854775807, tw)), (0, (2, 32, 0, 0, 0)), (1, (1, 0, 1, 2000, uu)), (3, (1, 0, 1, 2000, vv)), (5, (2, 48, 0, 0, 0))] [] M1 := by
    intro f
    induction f with
    | zero => intro ta tn tw M1 hk h48 ha hb hn hms; omega
    | succ f ih17 =>
      intro ta tn tw M1 hk h48 ha hb hn hms
      have e0 : M1 32 0 = M 32 0 := hk 32 0 (by decide)
      have e1 : M1 32 1 = M 32 1 := hk 32 1 (by decide)
      have loop30 : ta ≤ M 32 1 → ∀ (f : Nat) (tb tn tw : Int) (M1 : xa_M), (∀ (q : Nat) (j : Int), ¬ (q = 48 ∨ q = 49) → M1 q j = M q j) → (0 : Int) ≤ M1 48 1 → ta ≤ tb ∧ tb ≤ M 32 1 + 1 → 0 ≤ tn ∧ tn ≤ (ta - M 32 0) * 3721 + (tb - ta) * 61 → tn = sh_s (sh_ta (M 32 0) (M 32 1) uu vv) (M 32 0) (ta - M 32 0).toNat + sh_s (sh_tb (M 32 0) (M 32 1) uu vv ta) ta (tb - ta).toNat → 401 - tb < (f : Int) → Q 30 [(10, (0, 0, 10, 401, tb)), (9, (0, 0, 10, 400, ta)), (6, (0, 0, 0, 300000, tn)), (7, (1, 0, (-9223372036854775808), 9223372036854775807, tw)), (0, (2, 32, 0, 0, 0)), (1, (1, 0, 1, 2000, uu)), (3, (1, 0, 1, 2000, vv)), (5, (2, 48, 0, 0, 0))] [] M1 := by
        intro ha2 f
        induction f with
        | zero => intro tb tn tw M1 hk h48 hb hb2 hn hms; omega
        | succ f ih30 =>
          intro tb tn tw M1 hk h48 hb hb2 hn hms
          have e0 : M1 32 0 = M 32 0 := hk 32 0 (by decide)
          have e1 : M1 32 1 = M 32 1 := hk 32 1 (by decide)
          have loop66 : tb ≤ M 32 1 → ∀ (f : Nat) (tk tc tn tw : Int) (M1 : xa_M), (∀ (q : Nat) (j : Int), ¬ (q = 48 ∨ q = 49) → M1 q j = M q j) → (0 : Int) ≤ M1 48 1 → 0 ≤ tk ∧ tk ≤ 61 → (tc = -1 ∨ (M 32 0 ≤ tc ∧ tc ≤ M 32 1 ∧ tk ≤ tc - M 32 0)) → (0 ≤ tn ∧ tn ≤ (ta - M 32 0) * 3721 + (tb - ta) * 61 + 61 ∧ (¬ tc = -1 → tn ≤ (ta - M 32 0) * 3721 + (tb - ta) * 61 + (tc - M 32 0))) → ((tc = -1 → tn = sh_s (sh_ta (M 32 0) (M 32 1) uu vv) (M 32 0) (ta - M 32 0).toNat + sh_s (sh_tb (M 32 0) (M 32 1) uu vv ta) ta (tb - ta).toNat + sh_s (sh_i (M 32 0) (M 32 1) (sh_d uu vv ta tb)) (M 32 0) (M 32 1 + 1 - M 32 0).toNat) ∧ (¬ tc = -1 → sh_f (M 32 0) (M 32 1) (sh_d uu vv ta tb) tc ∧ tn = sh_s (sh_ta (M 32 0) (M 32 1) uu vv) (M 32 0) (ta - M 32 0).toNat + sh_s (sh_tb (M 32 0) (M 32 1) uu vv ta) ta (tb - ta).toNat + sh_s (sh_i (M 32 0) (M 32 1) (sh_d uu vv ta tb)) (M 32 0) (tc - M 32 0).toNat)) → 61 - tk < (f : Int) → Q 66 [(14, (0, 0, 0, 61, tk)), (13, (0, 0, (-1), 400, tc)), (11, (1, 0, 0, 320000000, sh_d uu vv ta tb)), (10, (0, 0, 10, 400, tb)), (9, (0, 0, 10, 400, ta)), (6, (0, 0, 0, 300000, tn)), (7, (1, 0, (-9223372036854775808), 9223372036854775807, tw)), (0, (2, 32, 0, 0, 0)), (1, (1, 0, 1, 2000, uu)), (3, (1, 0, 1, 2000, vv)), (5, (2, 48, 0, 0, 0))] [] M1 := by
            intro hb3 f
            have hdb := sh_db (u := uu) (v := vv) (a := ta) (b := tb) hU.1 (by omega) (by omega) (by omega)
            induction f with
            | zero => intro tk tc tn tw M1 hk h48 h1 hc h2 hs hms; omega
            | succ f ih66 =>
              intro tk tc tn tw M1 hk h48 h1 hc h2 hs hms
              refine hgo.1 64 [17, 30, 66] 66 _ _ _ ?_
              refine And.intro ?_ ?_
              · intro (c1 : 60 < tk)
                show Q 30 [(10, (0, 0, 11, 401, tb + 1)), (14, (0, 0, 0, 61, tk)), (13, (0, 0, (-1), 400, tc)), (11, (1, 0, 0, 320000000, sh_d uu vv ta tb)), (9, (0, 0, 10, 400, ta)), (6, (0, 0, 0, 300000, tn)), (7, (1, 0, (-9223372036854775808), 9223372036854775807, tw)), (0, (2, 32, 0, 0, 0)), (1, (1, 0, 1, 2000, uu)), (3, (1, 0, 1, 2000, vv)), (5, (2, 48, 0, 0, 0))] [] M1
                refine hgo.2.1 30 _ [(10, (0, 0, 10, 401, tb + 1)), (9, (0, 0, 10, 400, ta)), (6, (0, 0, 0, 300000, tn)), (7, (1, 0, (-9223372036854775808), 9223372036854775807, tw)), (0, (2, 32, 0, 0, 0)), (1, (1, 0, 1, 2000, uu)), (3, (1, 0, 1, 2000, vv)), (5, (2, 48, 0, 0, 0))] _ _ (xa_subI rfl rfl (fun _ _ _ _ => by omega) (xa_subI rfl rfl (fun _ _ _ _ => by omega) (xa_subI rfl rfl (fun _ _ _ _ => by omega) (xa_subL rfl rfl (fun _ _ _ _ => by omega) (xa_subR rfl (xa_subL rfl rfl (fun _ _ _ _ => by omega) (xa_subL rfl rfl (fun _ _ _ _ => by omega) (xa_subR rfl (xa_sub0))))))))) ?_
                have hz : tc = -1 := by omega
                have q1 := hs.1 hz
                exact ih30 (tb + 1) tn tw M1 hk h48 (by omega) (by omega) (by rw [sh_p (show ta ≤ tb by omega)]; show _ = _ + (_ + sh_s (sh_i (M 32 0) (M 32 1) (sh_d uu vv ta tb)) (M 32 0) (M 32 1 + 1 - M 32 0).toNat); omega) (by omega)
              · intro (c1 : tk ≤ 60)
                refine And.intro ?_ ?_
                · intro (c2 : tc = (-1))
                  show Q 30 [(10, (0, 0, 11, 401, tb + 1)), (14, (0, 0, 0, 61, tk)), (13, (0, 0, (-1), 400, tc)), (11, (1, 0, 0, 320000000, sh_d uu vv ta tb)), (9, (0, 0, 10, 400, ta)), (6, (0, 0, 0, 300000, tn)), (7, (1, 0, (-9223372036854775808), 9223372036854775807, tw)), (0, (2, 32, 0, 0, 0)), (1, (1, 0, 1, 2000, uu)), (3, (1, 0, 1, 2000, vv)), (5, (2, 48, 0, 0, 0))] [] M1
                  refine hgo.2.1 30 _ [(10, (0, 0, 10, 401, tb + 1)), (9, (0, 0, 10, 400, ta)), (6, (0, 0, 0, 300000, tn)), (7, (1, 0, (-9223372036854775808), 9223372036854775807, tw)), (0, (2, 32, 0, 0, 0)), (1, (1, 0, 1, 2000, uu)), (3, (1, 0, 1, 2000, vv)), (5, (2, 48, 0, 0, 0))] _ _ (xa_subI rfl rfl (fun _ _ _ _ => by omega) (xa_subI rfl rfl (fun _ _ _ _ => by omega) (xa_subI rfl rfl (fun _ _ _ _ => by omega) (xa_subL rfl rfl (fun _ _ _ _ => by omega) (xa_subR rfl (xa_subL rfl rfl (fun _ _ _ _ => by omega) (xa_subL rfl rfl (fun _ _ _ _ => by omega) (xa_subR rfl (xa_sub0))))))))) ?_
                  have hz : tc = -1 := by omega
                  have q1 := hs.1 hz
                  exact ih30 (tb + 1) tn tw M1 hk h48 (by omega) (by omega) (by rw [sh_p (show ta ≤ tb by omega)]; show _ = _ + (_ + sh_s (sh_i (M 32 0) (M 32 1) (sh_d uu vv ta tb)) (M 32 0) (M 32 1 + 1 - M 32 0).toNat); omega) (by omega)
                · intro (c2 : ¬ tc = (-1))
                  show xa_C (xl_I b) A h0 _ 21 [(1, 0, 0, 320000000, sh_d uu vv ta tb), (1, 0, (-1), 400, tc)] M1 _
                  refine cx_21h (by omega) (by omega) ?_
                  refine And.intro ?_ ?_
                  · intro (c3 : tn = 0)
                    show xa_C (xl_I b) A h0 _ 59 [(2, 48, 0, 0, 0)] M1 _
                    refine cx_59n (N := M) (by assumption) ?_
                    intro M101 (i4 : ∀ (q : Nat) (j : Int), ¬ (q = 48 ∨ q = 49) → M101 q j = M q j) (i5 : (0 : Int) ≤ M101 48 1)
                    show xa_C (xl_I b) A h0 _ 60 [(2, 48, 0, 0, 0), (1, 0, 10, 400, ta)] M101 _
                    refine cx_60n (N := M) (by assumption) (by assumption) ?_
                    intro M102 (i6 : ∀ (q : Nat) (j : Int), ¬ (q = 48 ∨ q = 49) → M102 q j = M q j) (i7 : (0 : Int) ≤ M102 48 1)
                    show xa_C (xl_I b) A h0 _ 60 [(2, 48, 0, 0, 0), (1, 0, 10, 400, tb)] M102 _
                    refine cx_60n (N := M) (by assumption) (by assumption) ?_
                    intro M103 (i8 : ∀ (q : Nat) (j : Int), ¬ (q = 48 ∨ q = 49) → M103 q j = M q j) (i9 : (0 : Int) ≤ M103 48 1)
                    show xa_C (xl_I b) A h0 _ 60 [(2, 48, 0, 0, 0), (1, 0, (-1), 400, tc)] M103 _
                    refine cx_60n (N := M) (by assumption) (by assumption) ?_
                    intro M104 (i10 : ∀ (q : Nat) (j : Int), ¬ (q = 48 ∨ q = 49) → M104 q j = M q j) (i11 : (0 : Int) ≤ M104 48 1)
                    show xa_C (xl_I b) A h0 _ 60 [(2, 48, 0, 0, 0), (1, 0, 0, 320000000, (sh_d uu vv ta tb) / tc)] M104 _
                    refine cx_60n (N := M) (by assumption) (by assumption) ?_
                    intro M105 (i12 : ∀ (q : Nat) (j : Int), ¬ (q = 48 ∨ q = 49) → M105 q j = M q j) (i13 : (0 : Int) ≤ M105 48 1)
                    show xa_C (xl_I b) A h0 _ 128 [(2, 32, 0, 0, 0), (0, 0, 0, 401, tc + 1), (1, 0, 0, 320000000, sh_d uu vv ta tb)] M105 _
                    refine cx_128n (N := M) (by assumption) hL (by omega) (by omega) ?_
                    intro r106 (i14 : sh_n (M 32 0) (M 32 1) (sh_d uu vv ta tb) (tc + 1) r106) (i15 : -1 ≤ r106 ∧ r106 ≤ 400)
                    show Q 66 [(14, (0, 0, 1, 62, tk + 1)), (13, (0, 0, (-1), 400, r106)), (6, (0, 0, 1, 300001, tn + 1)), (7, (1, 0, 19, 320001200, ((ta + tb) + tc) + ((sh_d uu vv ta tb) / tc))), (15, (1, 0, 0, 320000000, (sh_d uu vv ta tb) / tc)), (11, (1, 0, 0, 320000000, sh_d uu vv ta tb)), (10, (0, 0, 10, 400, tb)), (9, (0, 0, 10, 400, ta)), (0, (2, 32, 0, 0, 0)), (1, (1, 0, 1, 2000, uu)), (3, (1, 0, 1, 2000, vv)), (5, (2, 48, 0, 0, 0))] [] M105
                    refine hgo.2.1 66 _ [(14, (0, 0, 0, 61, tk + 1)), (13, (0, 0, (-1), 400, r106)), (11, (1, 0, 0, 320000000, sh_d uu vv ta tb)), (10, (0, 0, 10, 400, tb)), (9, (0, 0, 10, 400, ta)), (6, (0, 0, 0, 300000, tn + 1)), (7, (1, 0, (-9223372036854775808), 9223372036854775807, ((ta + tb) + tc) + ((sh_d uu vv ta tb) / tc))), (0, (2, 32, 0, 0, 0)), (1, (1, 0, 1, 2000, uu)), (3, (1, 0, 1, 2000, vv)), (5, (2, 48, 0, 0, 0))] _ _ (xa_subI rfl rfl (fun _ _ _ _ => by omega) (xa_subI rfl rfl (fun _ _ _ _ => by omega) (xa_subL rfl rfl (fun _ _ _ _ => by omega) (xa_subI rfl rfl (fun _ _ _ _ => by omega) (xa_subI rfl rfl (fun _ _ _ _ => by omega) (xa_subI rfl rfl (fun _ _ _ _ => by omega) (xa_subL rfl rfl (fun _ _ _ _ => by omega) (xa_subR rfl (xa_subL rfl rfl (fun _ _ _ _ => by omega) (xa_subL rfl rfl (fun _ _ _ _ => by omega) (xa_subR rfl (xa_sub0)))))))))))) ?_
                    have hne : ¬ tc = -1 := by omega
                    have q1 := (hs.2 hne).2
                    have q2 : sh_s (sh_i (M 32 0) (M 32 1) (sh_d uu vv ta tb)) (M 32 0) (tc + 1 - M 32 0).toNat = sh_s (sh_i (M 32 0) (M 32 1) (sh_d uu vv ta tb)) (M 32 0) (tc - M 32 0).toNat + 1 := by
                      rw [sh_p (by omega), sh_i1 (hs.2 hne).1]
                    rcases sh_ns (by omega) (by omega) i14 with ⟨g1, g2⟩ | ⟨g1, g2, g3, g4⟩
                    · exact ih66 (tk + 1) r106 (tn + 1) _ M105 i12 i13 (by omega) (Or.inl g1) (by omega) ⟨fun _ => by omega, fun h => absurd g1 h⟩ (by omega)
                    · exact ih66 (tk + 1) r106 (tn + 1) _ M105 i12 i13 (by omega) (Or.inr (by omega)) (by omega) ⟨fun h => by omega, fun _ => ⟨g3, by omega⟩⟩ (by omega)
                  · intro (c3 : ¬ tn = 0)
                    refine And.intro ?_ ?_
                    · intro (c16 : tw ≤ (((ta + tb) + tc) + ((sh_d uu vv ta tb) / tc)))
                      show xa_C (xl_I b) A h0 _ 128 [(2, 32, 0, 0, 0), (0, 0, 0, 401, tc + 1), (1, 0, 0, 320000000, sh_d uu vv ta tb)] M1 _
                      refine cx_128n (N := M) (by assumption) hL (by omega) (by omega) ?_
                      intro r107 (i17 : sh_n (M 32 0) (M 32 1) (sh_d uu vv ta tb) (tc + 1) r107) (i18 : -1 ≤ r107 ∧ r107 ≤ 400)
                      show Q 66 [(14, (0, 0, 1, 62, tk + 1)), (13, (0, 0, (-1), 400, r107)), (6, (0, 0, 1, 300001, tn + 1)), (15, (1, 0, 0, 320000000, (sh_d uu vv ta tb) / tc)), (11, (1, 0, 0, 320000000, sh_d uu vv ta tb)), (10, (0, 0, 10, 400, tb)), (9, (0, 0, 10, 400, ta)), (7, (1, 0, (-9223372036854775808), 9223372036854775807, tw)), (0, (2, 32, 0, 0, 0)), (1, (1, 0, 1, 2000, uu)), (3, (1, 0, 1, 2000, vv)), (5, (2, 48, 0, 0, 0))] [] M1
                      refine hgo.2.1 66 _ [(14, (0, 0, 0, 61, tk + 1)), (13, (0, 0, (-1), 400, r107)), (11, (1, 0, 0, 320000000, sh_d uu vv ta tb)), (10, (0, 0, 10, 400, tb)), (9, (0, 0, 10, 400, ta)), (6, (0, 0, 0, 300000, tn + 1)), (7, (1, 0, (-9223372036854775808), 9223372036854775807, tw)), (0, (2, 32, 0, 0, 0)), (1, (1, 0, 1, 2000, uu)), (3, (1, 0, 1, 2000, vv)), (5, (2, 48, 0, 0, 0))] _ _ (xa_subI rfl rfl (fun _ _ _ _ => by omega) (xa_subI rfl rfl (fun _ _ _ _ => by omega) (xa_subL rfl rfl (fun _ _ _ _ => by omega) (xa_subI rfl rfl (fun _ _ _ _ => by omega) (xa_subI rfl rfl (fun _ _ _ _ => by omega) (xa_subI rfl rfl (fun _ _ _ _ => by omega) (xa_subL rfl rfl (fun _ _ _ _ => by omega) (xa_subR rfl (xa_subL rfl rfl (fun _ _ _ _ => by omega) (xa_subL rfl rfl (fun _ _ _ _ => by omega) (xa_subR rfl (xa_sub0)))))))))))) ?_
                      have hne : ¬ tc = -1 := by omega
                      have q1 := (hs.2 hne).2
                      have q2 : sh_s (sh_i (M 32 0) (M 32 1) (sh_d uu vv ta tb)) (M 32 0) (tc + 1 - M 32 0).toNat = sh_s (sh_i (M 32 0) (M 32 1) (sh_d uu vv ta tb)) (M 32 0) (tc - M 32 0).toNat + 1 := by
                        rw [sh_p (by omega), sh_i1 (hs.2 hne).1]
                      rcases sh_ns (by omega) (by omega) i17 with ⟨g1, g2⟩ | ⟨g1, g2, g3, g4⟩
                      · exact ih66 (tk + 1) r107 (tn + 1) _ M1 hk h48 (by omega) (Or.inl g1) (by omega) ⟨fun _ => by omega, fun h => absurd g1 h⟩ (by omega)
                      · exact ih66 (tk + 1) r107 (tn + 1) _ M1 hk h48 (by omega) (Or.inr (by omega)) (by omega) ⟨fun h => by omega, fun _ => ⟨g3, by omega⟩⟩ (by omega)
                    · intro (c16 : (((ta + tb) + tc) + ((sh_d uu vv ta tb) / tc)) < tw)
                      show xa_C (xl_I b) A h0 _ 59 [(2, 48, 0, 0, 0)] M1 _
                      refine cx_59n (N := M) (by assumption) ?_
                      intro M108 (i19 : ∀ (q : Nat) (j : Int), ¬ (q = 48 ∨ q = 49) → M108 q j = M q j) (i20 : (0 : Int) ≤ M108 48 1)
                      show xa_C (xl_I b) A h0 _ 60 [(2, 48, 0, 0, 0), (1, 0, 10, 400, ta)] M108 _
                      refine cx_60n (N := M) (by assumption) (by assumption) ?_
                      intro M109 (i21 : ∀ (q : Nat) (j : Int), ¬ (q = 48 ∨ q = 49) → M109 q j = M q j) (i22 : (0 : Int) ≤ M109 48 1)
                      show xa_C (xl_I b) A h0 _ 60 [(2, 48, 0, 0, 0), (1, 0, 10, 400, tb)] M109 _
                      refine cx_60n (N := M) (by assumption) (by assumption) ?_
                      intro M110 (i23 : ∀ (q : Nat) (j : Int), ¬ (q = 48 ∨ q = 49) → M110 q j = M q j) (i24 : (0 : Int) ≤ M110 48 1)
                      show xa_C (xl_I b) A h0 _ 60 [(2, 48, 0, 0, 0), (1, 0, (-1), 400, tc)] M110 _
                      refine cx_60n (N := M) (by assumption) (by assumption) ?_
                      intro M111 (i25 : ∀ (q : Nat) (j : Int), ¬ (q = 48 ∨ q = 49) → M111 q j = M q j) (i26 : (0 : Int) ≤ M111 48 1)
                      show xa_C (xl_I b) A h0 _ 60 [(2, 48, 0, 0, 0), (1, 0, 0, 320000000, (sh_d uu vv ta tb) / tc)] M111 _
                      refine cx_60n (N := M) (by assumption) (by assumption) ?_
                      intro M112 (i27 : ∀ (q : Nat) (j : Int), ¬ (q = 48 ∨ q = 49) → M112 q j = M q j) (i28 : (0 : Int) ≤ M112 48 1)
                      show xa_C (xl_I b) A h0 _ 128 [(2, 32, 0, 0, 0), (0, 0, 0, 401, tc + 1), (1, 0, 0, 320000000, sh_d uu vv ta tb)] M112 _
                      refine cx_128n (N := M) (by assumption) hL (by omega) (by omega) ?_
                      intro r113 (i29 : sh_n (M 32 0) (M 32 1) (sh_d uu vv ta tb) (tc + 1) r113) (i30 : -1 ≤ r113 ∧ r113 ≤ 400)
                      show Q 66 [(14, (0, 0, 1, 62, tk + 1)), (13, (0, 0, (-1), 400, r113)), (6, (0, 0, 1, 300001, tn + 1)), (7, (1, 0, 19, 320001200, ((ta + tb) + tc) + ((sh_d uu vv ta tb) / tc))), (15, (1, 0, 0, 320000000, (sh_d uu vv ta tb) / tc)), (11, (1, 0, 0, 320000000, sh_d uu vv ta tb)), (10, (0, 0, 10, 400, tb)), (9, (0, 0, 10, 400, ta)), (0, (2, 32, 0, 0, 0)), (1, (1, 0, 1, 2000, uu)), (3, (1, 0, 1, 2000, vv)), (5, (2, 48, 0, 0, 0))] [] M112
                      refine hgo.2.1 66 _ [(14, (0, 0, 0, 61, tk + 1)), (13, (0, 0, (-1), 400, r113)), (11, (1, 0, 0, 320000000, sh_d uu vv ta tb)), (10, (0, 0, 10, 400, tb)), (9, (0, 0, 10, 400, ta)), (6, (0, 0, 0, 300000, tn + 1)), (7, (1, 0, (-9223372036854775808), 9223372036854775807, ((ta + tb) + tc) + ((sh_d uu vv ta tb) / tc))), (0, (2, 32, 0, 0, 0)), (1, (1, 0, 1, 2000, uu)), (3, (1, 0, 1, 2000, vv)), (5, (2, 48, 0, 0, 0))] _ _ (xa_subI rfl rfl (fun _ _ _ _ => by omega) (xa_subI rfl rfl (fun _ _ _ _ => by omega) (xa_subL rfl rfl (fun _ _ _ _ => by omega) (xa_subI rfl rfl (fun _ _ _ _ => by omega) (xa_subI rfl rfl (fun _ _ _ _ => by omega) (xa_subI rfl rfl (fun _ _ _ _ => by omega) (xa_subL rfl rfl (fun _ _ _ _ => by omega) (xa_subR rfl (xa_subL rfl rfl (fun _ _ _ _ => by omega) (xa_subL rfl rfl (fun _ _ _ _ => by omega) (xa_subR rfl (xa_sub0)))))))))))) ?_
                      have hne : ¬ tc = -1 := by omega
                      have q1 := (hs.2 hne).2
                      have q2 : sh_s (sh_i (M 32 0) (M 32 1) (sh_d uu vv ta tb)) (M 32 0) (tc + 1 - M 32 0).toNat = sh_s (sh_i (M 32 0) (M 32 1) (sh_d uu vv ta tb)) (M 32 0) (tc - M 32 0).toNat + 1 := by
                        rw [sh_p (by omega), sh_i1 (hs.2 hne).1]
                      rcases sh_ns (by omega) (by omega) i29 with ⟨g1, g2⟩ | ⟨g1, g2, g3, g4⟩
                      · exact ih66 (tk + 1) r113 (tn + 1) _ M112 i27 i28 (by omega) (Or.inl g1) (by omega) ⟨fun _ => by omega, fun h => absurd g1 h⟩ (by omega)
                      · exact ih66 (tk + 1) r113 (tn + 1) _ M112 i27 i28 (by omega) (Or.inr (by omega)) (by omega) ⟨fun h => by omega, fun _ => ⟨g3, by omega⟩⟩ (by omega)
          refine hgo.1 24 [17, 30, 66] 30 _ _ _ ?_
          refine And.intro ?_ ?_
          · intro (c1 : (M1 32 1) < tb)
            show Q 17 [(9, (0, 0, 11, 401, ta + 1)), (10, (0, 0, 10, 401, tb)), (6, (0, 0, 0, 300000, tn)), (7, (1, 0, (-9223372036854775808), 9223372036854775807, tw)), (0, (2, 32, 0, 0, 0)), (1, (1, 0, 1, 2000, uu)), (3, (1, 0, 1, 2000, vv)), (5, (2, 48, 0, 0, 0))] [] M1
            refine hgo.2.1 17 _ [(9, (0, 0, 10, 401, ta + 1)), (6, (0, 0, 0, 300000, tn)), (7, (1, 0, (-9223372036854775808), 9223372036854775807, tw)), (0, (2, 32, 0, 0, 0)), (1, (1, 0, 1, 2000, uu)), (3, (1, 0, 1, 2000, vv)), (5, (2, 48, 0, 0, 0))] _ _ (xa_subI rfl rfl (fun _ _ _ _ => by omega) (xa_subI rfl rfl (fun _ _ _ _ => by omega) (xa_subL rfl rfl (fun _ _ _ _ => by omega) (xa_subR rfl (xa_subL rfl rfl (fun _ _ _ _ => by omega) (xa_subL rfl rfl (fun _ _ _ _ => by omega) (xa_subR rfl (xa_sub0)))))))) ?_
            exact ih17 (ta + 1) tn tw M1 hk h48 (by omega) (by omega) (by
              rw [sh_p (show M 32 0 ≤ ta by omega)]
              have e : tb = M 32 1 + 1 := by omega
              rw [e] at hn
              show _ = _ + sh_s (sh_tb (M 32 0) (M 32 1) uu vv ta) ta (M 32 1 + 1 - ta).toNat
              omega) (by omega)
          · intro (c1 : tb ≤ (M1 32 1))
            have hdb := sh_db (u := uu) (v := vv) (a := ta) (b := tb) hU.1 (by omega) (by omega) (by omega)
            show xa_C (xl_I b) A h0 _ 127 [(2, 32, 0, 0, 0), (0, 0, 10, 400, ta), (0, 0, 10, 401, tb), (1, 0, 1, 2000, uu), (1, 0, 1, 2000, vv)] M1 _
            refine cx_127f (by omega) (by omega) hU hV ?_
            show xa_C (xl_I b) A h0 _ 128 [(2, 32, 0, 0, 0), (0, 0, 10, 400, M1 32 0), (1, 0, 0, 320000000, sh_d uu vv ta tb)] M1 _
            refine cx_128n (N := M) (by assumption) hL (by omega) (by omega) ?_
            intro r114 (i2 : sh_n (M 32 0) (M 32 1) (sh_d uu vv ta tb) (M1 32 0) r114) (i3 : -1 ≤ r114 ∧ r114 ≤ 400)
            show Q 66 [(14, (0, 0, 0, 0, 0)), (13, (0, 0, (-1), 400, r114)), (11, (1, 0, 0, 320000000, sh_d uu vv ta tb)), (10, (0, 0, 10, 401, tb)), (9, (0, 0, 10, 400, ta)), (6, (0, 0, 0, 300000, tn)), (7, (1, 0, (-9223372036854775808), 9223372036854775807, tw)), (0, (2, 32, 0, 0, 0)), (1, (1, 0, 1, 2000, uu)), (3, (1, 0, 1, 2000, vv)), (5, (2, 48, 0, 0, 0))] [] M1
            refine hgo.2.1 66 _ [(14, (0, 0, 0, 61, 0)), (13, (0, 0, (-1), 400, r114)), (11, (1, 0, 0, 320000000, sh_d uu vv ta tb)), (10, (0, 0, 10, 400, tb)), (9, (0, 0, 10, 400, ta)), (6, (0, 0, 0, 300000, tn)), (7, (1, 0, (-9223372036854775808), 9223372036854775807, tw)), (0, (2, 32, 0, 0, 0)), (1, (1, 0, 1, 2000, uu)), (3, (1, 0, 1, 2000, vv)), (5, (2, 48, 0, 0, 0))] _ _ (xa_subI rfl rfl (fun _ _ _ _ => by omega) (xa_subI rfl rfl (fun _ _ _ _ => by omega) (xa_subL rfl rfl (fun _ _ _ _ => by omega) (xa_subI rfl rfl (fun _ _ _ _ => by omega) (xa_subI rfl rfl (fun _ _ _ _ => by omega) (xa_subI rfl rfl (fun _ _ _ _ => by omega) (xa_subL rfl rfl (fun _ _ _ _ => by omega) (xa_subR rfl (xa_subL rfl rfl (fun _ _ _ _ => by omega) (xa_subL rfl rfl (fun _ _ _ _ => by omega) (xa_subR rfl (xa_sub0)))))))))))) ?_
            rcases sh_ns (by omega) (by omega) i2 with ⟨g1, g2⟩ | ⟨g1, g2, g3, g4⟩
            · have g5 : sh_s (sh_i (M 32 0) (M 32 1) (sh_d uu vv ta tb)) (M 32 0) (M 32 1 + 1 - M 32 0).toNat = 0 := by
                rw [g2]
                exact sh_0 (fun c q0 q1 => by omega)
              exact loop66 (by omega) 62 0 r114 tn tw M1 hk h48 (by omega) (Or.inl g1) (by omega) ⟨fun _ => by omega, fun h => absurd g1 h⟩ (by omega)
            · have g5 : sh_s (sh_i (M 32 0) (M 32 1) (sh_d uu vv ta tb)) (M 32 0) (r114 - M 32 0).toNat = 0 := by
                rw [g4]
                exact sh_0 (fun c q0 q1 => by omega)
              exact loop66 (by omega) 62 0 r114 tn tw M1 hk h48 (by omega) (Or.inr (by omega)) (by omega) ⟨fun h => by omega, fun _ => ⟨g3, by omega⟩⟩ (by omega)
      refine hgo.1 11 [17, 30, 66] 17 _ _ _ ?_
      refine And.intro ?_ ?_
      · intro (c1 : (M1 32 1) < ta)
        show xa_wk post (some (0, 0, 0, 300000, tn)) M1
        have e : ta = M 32 1 + 1 := by omega
        rw [e] at hn
        exact xa_wkI (sh_t2 (M 32 0) (M 32 1) uu vv) hn (fun _ _ => by have : sh_t2 (M 32 0) (M 32 1) uu vv = tn := hn.symm; omega) (k M1 hk)
      · intro (c1 : ta ≤ (M1 32 1))
        show Q 30 [(10, (0, 0, 10, 401, ta)), (9, (0, 0, 10, 401, ta)), (6, (0, 0, 0, 300000, tn)), (7, (1, 0, (-9223372036854775808), 9223372036854775807, tw)), (0, (2, 32, 0, 0, 0)), (1, (1, 0, 1, 2000, uu)), (3, (1, 0, 1, 2000, vv)), (5, (2, 48, 0, 0, 0))] [] M1
        refine hgo.2.1 30 _ [(10, (0, 0, 10, 401, ta)), (9, (0, 0, 10, 400, ta)), (6, (0, 0, 0, 300000, tn)), (7, (1, 0, (-9223372036854775808), 9223372036854775807, tw)), (0, (2, 32, 0, 0, 0)), (1, (1, 0, 1, 2000, uu)), (3, (1, 0, 1, 2000, vv)), (5, (2, 48, 0, 0, 0))] _ _ (xa_subI rfl rfl (fun _ _ _ _ => by omega) (xa_subI rfl rfl (fun _ _ _ _ => by omega) (xa_subI rfl rfl (fun _ _ _ _ => by omega) (xa_subL rfl rfl (fun _ _ _ _ => by omega) (xa_subR rfl (xa_subL rfl rfl (fun _ _ _ _ => by omega) (xa_subL rfl rfl (fun _ _ _ _ => by omega) (xa_subR rfl (xa_sub0))))))))) ?_
        exact loop30 (by omega) 402 ta tn tw M1 hk h48 (by omega) (by omega) (by rw [show (ta - ta).toNat = 0 by omega]; show _ = _ + 0; omega) (by omega)
  refine hgo.1 14 [17, 30, 66] 0 _ _ _ ?_
  show xa_C (xl_I b) A h0 _ 59 [(2, 48, 0, 0, 0)] M _
  refine cx_59n (N := M) (by assumption) ?_
  intro M115 (i1 : ∀ (q : Nat) (j : Int), ¬ (q = 48 ∨ q = 49) → M115 q j = M q j) (i2 : (0 : Int) ≤ M115 48 1)
  show Q 17 [(9, (0, 0, 10, 400, M115 32 0)), (7, (1, 0, 0, 0, 0)), (6, (0, 0, 0, 0, 0)), (0, (2, 32, 0, 0, 0)), (1, (1, 0, 1, 2000, uu)), (3, (1, 0, 1, 2000, vv)), (5, (2, 48, 0, 0, 0))] [] M115
  refine hgo.2.1 17 _ [(9, (0, 0, 10, 401, M115 32 0)), (6, (0, 0, 0, 300000, 0)), (7, (1, 0, (-9223372036854775808), 9223372036854775807, 0)), (0, (2, 32, 0, 0, 0)), (1, (1, 0, 1, 2000, uu)), (3, (1, 0, 1, 2000, vv)), (5, (2, 48, 0, 0, 0))] _ _ (xa_subI rfl rfl (fun _ _ _ _ => by omega) (xa_subI rfl rfl (fun _ _ _ _ => by omega) (xa_subL rfl rfl (fun _ _ _ _ => by omega) (xa_subR rfl (xa_subL rfl rfl (fun _ _ _ _ => by omega) (xa_subL rfl rfl (fun _ _ _ _ => by omega) (xa_subR rfl (xa_sub0)))))))) ?_
  have e0 : M115 32 0 = M 32 0 := i1 32 0 (by decide)
  rw [e0]
  exact loop17 402 (M 32 0) 0 0 M115 i1 i2 (by omega) (by omega) (by rw [show (M 32 0 - M 32 0).toNat = 0 by omega]; rfl) (by omega)
theorem cx_123f {b : Bool} {A : Nat → Nat} {h0 : g_H} {d : Nat} {M : xa_M} {post : Option xa_V → xa_M → Prop} {l1 u1 l2 u2 uu vv : Int} (hL : 10 ≤ M 32 0 ∧ M 32 0 ≤ M 32 1 ∧ M 32 1 ≤ 400) (hU : 1 ≤ uu ∧ uu ≤ 2000) (hV : 1 ≤ vv ∧ vv ≤ 2000) (k : ∀ M1 : xa_M, (∀ (q : Nat) (j : Int), ¬ (q = 48 ∨ q = 49) → M1 q j = M q j) → post (some (0, 0, 0, 400, sh_t1 (M 32 0) (M 32 1) uu vv)) M1) : xa_C (xl_I b) A h0 (d + 3) 123 [(2, 32, 0, 0, 0), (1, 0, l1, u1, uu), (1, 0, l2, u2, vv), (2, 48, 0, 0, 0)] M post := by
  refine xa_C_wk ?_
  refine xa_C_arg [(2, 32, 0, 0, 0), (1, 0, 1, 2000, uu), (1, 0, 1, 2000, vv), (2, 48, 0, 0, 0)] (xa_svR (xa_svL (fun _ _ _ _ => by omega) (xa_svL (fun _ _ _ _ => by omega) (xa_svR xa_sv0)))) ?_
  refine xa_meth (Q0 := (8, 1, false, 0, 0, 7)) (by decide +kernel) ⟨rfl, rfl⟩ (full := s_c_123) rfl rfl ?_
  intro hM hv Q hgo
  have hkr : ∀ (q : Nat) (j : Int), ¬ (q = 48 ∨ q = 49) → M q j = M q j := fun _ _ _ => rfl
  have loop : ∀ (f : Nat) (ta tn : Int) (M1 : xa_M), (∀ (q : Nat) (j : Int), ¬ (q = 48 ∨ q = 49) → M1 q j = M q j) → (0 : Int) ≤ M1 48 1 → M 32 0 ≤ ta ∧ ta ≤ M 32 1 + 1 → 0 ≤ tn ∧ tn ≤ ta - M 32 0 → tn = sh_s (sh_g (M 32 0) (M 32 1) uu vv) (M 32 0) (ta - M 32 0).toNat → 401 - ta < (f : Int) → Q 14 [(7, (0, 0, 10, 401, ta)), (6, (0, 0, 0, 400, tn)), (0, (2, 32, 0, 0, 0)), (1, (1, 0, 1, 2000, uu)), (3, (1, 0, 1, 2000, vv)), (5, (2, 48, 0, 0, 0))] [] M1 := by
    intro f
    induction f with
    | zero => intro ta tn M1 hk h48 ha hb hn hms; omega
    | succ f ih =>
      intro ta tn M1 hk h48 ha hb hn hms
      have e0 : M1 32 0 = M 32 0 := hk 32 0 (by decide)
      have e1 : M1 32 1 = M 32 1 := hk 32 1 (by decide)
      refine hgo.1 42 [14] 14 _ _ _ ?_
      refine And.intro ?_ ?_
      · intro (c1 : (M1 32 1) < ta)
        show xa_wk post (some (0, 0, 0, 400, tn)) M1
        have e : ta = M 32 1 + 1 := by omega
        rw [e] at hn
        exact xa_wkI (sh_t1 (M 32 0) (M 32 1) uu vv) hn (fun _ _ => by have : sh_t1 (M 32 0) (M 32 1) uu vv = tn := hn.symm; omega) (k M1 hk)
      · intro (c1 : ta ≤ (M1 32 1))
        have hdb := sh_db (u := uu) (v := vv) (a := ta) (b := 1) hU.1 (by omega) (by omega) (by omega)
        rw [Int.mul_one] at hdb
        show xa_C (xl_I b) A h0 _ 97 [(1, 0, 1, 2000, uu), (1, 0, 10, 802000, ta * vv)] M1 _
        refine cx_97f (by omega) (by omega) ?_ ?_
        · intro (i2 : uu ∣ (ta * vv))
          show xa_C (xl_I b) A h0 _ 21 [(1, 0, 10, 802000, ta * vv), (1, 0, 1, 2000, uu)] M1 _
          refine cx_21h (by omega) (by omega) ?_
          show xa_C (xl_I b) A h0 _ 124 [(2, 32, 0, 0, 0), (1, 0, 0, 320000000, (ta * vv) / uu)] M1 _
          refine cx_124_32 ?_ ?_ ?_
          · intro (i3 : ((ta * vv) / uu) < (M1 32 0))
            show Q 14 [(7, (0, 0, 11, 402, ta + 1)), (6, (0, 0, 0, 400, tn)), (0, (2, 32, 0, 0, 0)), (1, (1, 0, 1, 2000, uu)), (3, (1, 0, 1, 2000, vv)), (5, (2, 48, 0, 0, 0))] [] M1
            refine hgo.2.1 14 _ [(7, (0, 0, 10, 401, ta + 1)), (6, (0, 0, 0, 400, tn)), (0, (2, 32, 0, 0, 0)), (1, (1, 0, 1, 2000, uu)), (3, (1, 0, 1, 2000, vv)), (5, (2, 48, 0, 0, 0))] _ _ (xa_subI rfl rfl (fun _ _ _ _ => by omega) (xa_subI rfl rfl (fun _ _ _ _ => by omega) (xa_subR rfl (xa_subL rfl rfl (fun _ _ _ _ => by omega) (xa_subL rfl rfl (fun _ _ _ _ => by omega) (xa_subR rfl (xa_sub0))))))) ?_
            have q1 : sh_g (M 32 0) (M 32 1) uu vv ta = 0 := if_neg (fun g => by have g2 := g.2.1; have g3 := g.2.2; omega)
            exact ih (ta + 1) (tn) M1 hk h48 (by omega) (by omega) (by rw [sh_p (show M 32 0 ≤ ta by omega), q1]; omega) (by omega)
          · intro (i4 : (M1 32 0) ≤ ((ta * vv) / uu)) (i5 : (M1 32 1) < ((ta * vv) / uu))
            show Q 14 [(7, (0, 0, 11, 402, ta + 1)), (6, (0, 0, 0, 400, tn)), (0, (2, 32, 0, 0, 0)), (1, (1, 0, 1, 2000, uu)), (3, (1, 0, 1, 2000, vv)), (5, (2, 48, 0, 0, 0))] [] M1
            refine hgo.2.1 14 _ [(7, (0, 0, 10, 401, ta + 1)), (6, (0, 0, 0, 400, tn)), (0, (2, 32, 0, 0, 0)), (1, (1, 0, 1, 2000, uu)), (3, (1, 0, 1, 2000, vv)), (5, (2, 48, 0, 0, 0))] _ _ (xa_subI rfl rfl (fun _ _ _ _ => by omega) (xa_subI rfl rfl (fun _ _ _ _ => by omega) (xa_subR rfl (xa_subL rfl rfl (fun _ _ _ _ => by omega) (xa_subL rfl rfl (fun _ _ _ _ => by omega) (xa_subR rfl (xa_sub0))))))) ?_
            have q1 : sh_g (M 32 0) (M 32 1) uu vv ta = 0 := if_neg (fun g => by have g2 := g.2.1; have g3 := g.2.2; omega)
            exact ih (ta + 1) (tn) M1 hk h48 (by omega) (by omega) (by rw [sh_p (show M 32 0 ≤ ta by omega), q1]; omega) (by omega)
          · intro (i6 : (M1 32 0) ≤ ((ta * vv) / uu)) (i7 : ((ta * vv) / uu) ≤ (M1 32 1))
            refine And.intro ?_ ?_
            · intro (c8 : ¬ tn = 0)
              show Q 14 [(7, (0, 0, 11, 402, ta + 1)), (6, (0, 0, 1, 401, tn + 1)), (0, (2, 32, 0, 0, 0)), (1, (1, 0, 1, 2000, uu)), (3, (1, 0, 1, 2000, vv)), (5, (2, 48, 0, 0, 0))] [] M1
              refine hgo.2.1 14 _ [(7, (0, 0, 10, 401, ta + 1)), (6, (0, 0, 0, 400, tn + 1)), (0, (2, 32, 0, 0, 0)), (1, (1, 0, 1, 2000, uu)), (3, (1, 0, 1, 2000, vv)), (5, (2, 48, 0, 0, 0))] _ _ (xa_subI rfl rfl (fun _ _ _ _ => by omega) (xa_subI rfl rfl (fun _ _ _ _ => by omega) (xa_subR rfl (xa_subL rfl rfl (fun _ _ _ _ => by omega) (xa_subL rfl rfl (fun _ _ _ _ => by omega) (xa_subR rfl (xa_sub0))))))) ?_
              have q1 : sh_g (M 32 0) (M 32 1) uu vv ta = 1 := if_pos ⟨i2, by omega, by omega⟩
              exact ih (ta + 1) (tn + 1) M1 hk h48 (by omega) (by omega) (by rw [sh_p (show M 32 0 ≤ ta by omega), q1]; omega) (by omega)
            · intro (c8 : tn = 0)
              show xa_C (xl_I b) A h0 _ 60 [(2, 48, 0, 0, 0), (1, 0, 10, 401, ta)] M1 _
              refine cx_60n (N := M) (by assumption) (by assumption) ?_
              intro M116 (i9 : ∀ (q : Nat) (j : Int), ¬ (q = 48 ∨ q = 49) → M116 q j = M q j) (i10 : (0 : Int) ≤ M116 48 1)
              show xa_C (xl_I b) A h0 _ 21 [(1, 0, 10, 802000, ta * vv), (1, 0, 1, 2000, uu)] M116 _
              refine cx_21h (by omega) (by omega) ?_
              show xa_C (xl_I b) A h0 _ 60 [(2, 48, 0, 0, 0), (1, 0, 0, 320000000, (ta * vv) / uu)] M116 _
              refine cx_60n (N := M) (by assumption) (by assumption) ?_
              intro M117 (i11 : ∀ (q : Nat) (j : Int), ¬ (q = 48 ∨ q = 49) → M117 q j = M q j) (i12 : (0 : Int) ≤ M117 48 1)
              show Q 14 [(7, (0, 0, 11, 402, ta + 1)), (6, (0, 0, 1, 401, tn + 1)), (0, (2, 32, 0, 0, 0)), (1, (1, 0, 1, 2000, uu)), (3, (1, 0, 1, 2000, vv)), (5, (2, 48, 0, 0, 0))] [] M117
              refine hgo.2.1 14 _ [(7, (0, 0, 10, 401, ta + 1)), (6, (0, 0, 0, 400, tn + 1)), (0, (2, 32, 0, 0, 0)), (1, (1, 0, 1, 2000, uu)), (3, (1, 0, 1, 2000, vv)), (5, (2, 48, 0, 0, 0))] _ _ (xa_subI rfl rfl (fun _ _ _ _ => by omega) (xa_subI rfl rfl (fun _ _ _ _ => by omega) (xa_subR rfl (xa_subL rfl rfl (fun _ _ _ _ => by omega) (xa_subL rfl rfl (fun _ _ _ _ => by omega) (xa_subR rfl (xa_sub0))))))) ?_
              have q1 : sh_g (M 32 0) (M 32 1) uu vv ta = 1 := if_pos ⟨i2, by omega, by omega⟩
              exact ih (ta + 1) (tn + 1) M117 i11 i12 (by omega) (by omega) (by rw [sh_p (show M 32 0 ≤ ta by omega), q1]; omega) (by omega)
        · intro (i13 : ¬ uu ∣ (ta * vv))
          show Q 14 [(7, (0, 0, 11, 402, ta + 1)), (6, (0, 0, 0, 400, tn)), (0, (2, 32, 0, 0, 0)), (1, (1, 0, 1, 2000, uu)), (3, (1, 0, 1, 2000, vv)), (5, (2, 48, 0, 0, 0))] [] M1
          refine hgo.2.1 14 _ [(7, (0, 0, 10, 401, ta + 1)), (6, (0, 0, 0, 400, tn)), (0, (2, 32, 0, 0, 0)), (1, (1, 0, 1, 2000, uu)), (3, (1, 0, 1, 2000, vv)), (5, (2, 48, 0, 0, 0))] _ _ (xa_subI rfl rfl (fun _ _ _ _ => by omega) (xa_subI rfl rfl (fun _ _ _ _ => by omega) (xa_subR rfl (xa_subL rfl rfl (fun _ _ _ _ => by omega) (xa_subL rfl rfl (fun _ _ _ _ => by omega) (xa_subR rfl (xa_sub0))))))) ?_
          have q1 : sh_g (M 32 0) (M 32 1) uu vv ta = 0 := if_neg (fun g => i13 g.1)
          exact ih (ta + 1) (tn) M1 hk h48 (by omega) (by omega) (by rw [sh_p (show M 32 0 ≤ ta by omega), q1]; omega) (by omega)
  refine hgo.1 12 [14] 0 _ _ _ ?_
  show xa_C (xl_I b) A h0 _ 59 [(2, 48, 0, 0, 0)] M _
  refine cx_59n (N := M) (by assumption) ?_
  intro M118 (i1 : ∀ (q : Nat) (j : Int), ¬ (q = 48 ∨ q = 49) → M118 q j = M q j) (i2 : (0 : Int) ≤ M118 48 1)
  show Q 14 [(7, (0, 0, 10, 400, M118 32 0)), (6, (0, 0, 0, 0, 0)), (0, (2, 32, 0, 0, 0)), (1, (1, 0, 1, 2000, uu)), (3, (1, 0, 1, 2000, vv)), (5, (2, 48, 0, 0, 0))] [] M118
  refine hgo.2.1 14 _ [(7, (0, 0, 10, 401, M118 32 0)), (6, (0, 0, 0, 400, 0)), (0, (2, 32, 0, 0, 0)), (1, (1, 0, 1, 2000, uu)), (3, (1, 0, 1, 2000, vv)), (5, (2, 48, 0, 0, 0))] _ _ (xa_subI rfl rfl (fun _ _ _ _ => by omega) (xa_subI rfl rfl (fun _ _ _ _ => by omega) (xa_subR rfl (xa_subL rfl rfl (fun _ _ _ _ => by omega) (xa_subL rfl rfl (fun _ _ _ _ => by omega) (xa_subR rfl (xa_sub0))))))) ?_
  have e0 : M118 32 0 = M 32 0 := i1 32 0 (by decide)
  rw [e0]
  exact loop 402 (M 32 0) 0 M118 i1 i2 (by omega) (by omega) (by rw [show (M 32 0 - M 32 0).toNat = 0 by omega]; rfl) (by omega)
-- trains, on both sides
set_option maxRecDepth 20000
/-- what the fourth of the teeth is -/
def tr_r (u v a b c r : Int) : Prop := (¬ a * b * v % (c * u) = 0 ∧ r = 0) ∨ (a * b * v % (c * u) = 0 ∧ r ≤ 1000 ∧ r ≤ a * b * v / (c * u) ∧ (r = 1000 ∨ r = a * b * v / (c * u)))
/-- does it count -/
def sh_q (x L H u v a b c : Int) : Int := if x = 1 then sh_h u v a c else sh_i L H (sh_d u v a b) c
def sh_w (x L H u v a b : Int) : Int := sh_s (sh_q x L H u v a b) L (H + 1 - L).toNat
def sh_y (x L H u v a : Int) : Int := if x = 1 then sh_g L H u v a else sh_ta L H u v a
theorem sh_q1 {x L H u v a b : Int} (h : x = 1) : sh_q x L H u v a b = sh_h u v a := funext (fun _ => if_pos h)
theorem sh_q2 {x L H u v a b : Int} (h : ¬ x = 1) : sh_q x L H u v a b = sh_i L H (sh_d u v a b) := funext (fun _ => if_neg h)
theorem tr_a {x L H u v a b c r : Int} (hu : 1 ≤ u) (hL : 1 ≤ L) (hH : H ≤ 400) (hc : L ≤ c) (h : ¬ x = 1) (e : tr_r u v a b c r) (i : c ≤ r ∧ r ≤ H) : sh_q x L H u v a b c = 1 := by
  rw [sh_q2 h]
  refine sh_i1 ((sh_fe hu hL hc).mpr ?_)
  rcases e with ⟨e1, e2⟩ | ⟨e1, e2, e3, e4⟩
  · exfalso
    omega
  · exact ⟨e1, by omega, by omega⟩
theorem tr_b {x L H u v a b c r : Int} (hu : 1 ≤ u) (hL : 1 ≤ L) (hH : H ≤ 400) (hc : L ≤ c) (h : ¬ x = 1) (e : tr_r u v a b c r) (i : ¬ (c ≤ r ∧ r ≤ H)) : sh_q x L H u v a b c = 0 := by
  rw [sh_q2 h]
  refine sh_i0 (fun g => i ?_)
  obtain ⟨g1, g2, g3⟩ := (sh_fe hu hL hc).mp g
  rcases e with ⟨e1, e2⟩ | ⟨e1, e2, e3, e4⟩
  · exact absurd g1 e1
  · omega
theorem tr_c {x L H u v a b c r : Int} (h : x = 1) (hb : b = 1) (e : tr_r u v a b c r) (i : r = 1) : sh_q x L H u v a b c = 1 := by
  rw [sh_q1 h]
  subst hb
  refine if_pos ?_
  rcases e with ⟨e1, e2⟩ | ⟨e1, e2, e3, e4⟩
  · exfalso
    omega
  · exact ⟨e1, by omega⟩
theorem tr_d {x L H u v a b c r : Int} (h : x = 1) (hb : b = 1) (e : tr_r u v a b c r) (i : ¬ r = 1) : sh_q x L H u v a b c = 0 := by
  rw [sh_q1 h]
  subst hb
  refine if_neg (fun g => i ?_)
  obtain ⟨g1, g2⟩ := g
  rcases e with ⟨e1, e2⟩ | ⟨e1, e2, e3, e4⟩
  · exact absurd g1 e1
  · omega
theorem sh_wy1 {x y L H u v a : Int} (h : x = 1) (hy : y = 2) (hu : 1 ≤ u) (hL : 1 ≤ L) (ha : 1 ≤ a) (hv : 1 ≤ v) : sh_s (sh_w x L H u v a) 1 (y - 1).toNat = sh_y x L H u v a := by
  have e : sh_y x L H u v a = sh_g L H u v a := if_pos h
  rw [e, hy, sh_ge hu hL ha hv, show ((2 : Int) - 1).toNat = 0 + 1 by decide, sh_s1]
  show 0 + sh_s (sh_q x L H u v a (1 + 0)) L (H + 1 - L).toNat = _
  rw [sh_q1 h]
  omega
theorem sh_wy2 {x y L H u v a : Int} (h : ¬ x = 1) (hy : y = H + 1) : sh_s (sh_w x L H u v a) a (y - a).toNat = sh_y x L H u v a := by
  have e : sh_y x L H u v a = sh_ta L H u v a := if_neg h
  rw [e, hy]
  unfold sh_ta
  refine sh_e _ (fun c _ _ => ?_)
  unfold sh_w sh_tb
  rw [sh_q2 h]
/-- what trains answers -/
def tr_P (L H n u v x y r : Int) : Prop := (¬ (0 ≤ x ∧ x < n ∧ 1 ≤ y ∧ y ≤ 2) ∧ r = -1) ∨ (0 ≤ x ∧ x < n ∧ ((y = 1 ∧ r = sh_t1 L H u v) ∨ (y = 2 ∧ ((60 < H - L ∧ r = -4) ∨ (H - L ≤ 60 ∧ r = sh_t2 L H u v)))))
theorem tr_one {L H n u v x y r r' : Int} (h : tr_P L H n u v x y r) (h' : tr_P L H n u v x y r') : r = r' := by
  unfold tr_P at h h'
  omega
theorem tr_Pi {L H n u v x y r : Int} (h1 : 0 ≤ x) (h2 : x < n) (h3 : 1 ≤ y ∧ y ≤ 2) (h4 : ¬ y = 1 → H - L ≤ 60) (h : r = sh_s (sh_y y L H u v) L (H + 1 - L).toNat) : tr_P L H n u v x y r := by
  by_cases e : y = 1
  · have f : sh_y y L H u v = sh_g L H u v := funext (fun _ => if_pos e)
    rw [f] at h
    exact Or.inr ⟨h1, h2, Or.inl ⟨e, h⟩⟩
  · have f : sh_y y L H u v = sh_ta L H u v := funext (fun _ => if_neg e)
    rw [f] at h
    exact Or.inr ⟨h1, h2, Or.inr ⟨by omega, Or.inr ⟨h4 e, h⟩⟩⟩
theorem cx_87_50 {b : Bool} {A : Nat → Nat} {h0 : g_H} {d : Nat} {M : xa_M} {post : Option xa_V → xa_M → Prop} {l1 u1 : Int} {x1 : Int} (k1 : (x1 < 0) → post (some (0, 0, 0, 0, 0)) M) (k2 : (0 ≤ x1) → ((M 50 4) ≤ x1) → post (some (0, 0, 0, 0, 0)) M) (k3 : (0 ≤ x1) → (x1 < (M 50 4)) → post (some (0, 0, 1, 1, 1)) M) : xa_C (xl_I b) A h0 (d + 1) 87 [(2, 50, 0, 0, 0), (0, 0, l1, u1, x1)] M post := by
  refine xa_C_arg [(2, 50, 0, 0, 0), (0, 0, (-2147483648), 2147483647, x1)] (xa_svR (xa_svI (fun _ _ _ _ => by omega) (xa_sv0))) ?_
  refine xa_meth (Q0 := (2, 2, false, 0, 0, 0)) (by decide +kernel) ⟨rfl, rfl⟩ (full := s_c_87) rfl rfl ?_
  intro hM hv Q hgo
  refine hgo.1 13 [] 0 _ _ _ ?_
  refine And.intro ?_ ?_
  · intro (c1 : x1 < 0)
    show post (some (0, 0, 0, 0, 0)) M
    exact k1 c1
  · intro (c1 : 0 ≤ x1)
    refine And.intro ?_ ?_
    · intro (c2 : (M 50 4) ≤ x1)
      show post (some (0, 0, 0, 0, 0)) M
      exact k2 c1 c2
    · intro (c2 : x1 < (M 50 4))
      show post (some (0, 0, 1, 1, 1)) M
      exact k3 c1 c2
theorem cx_23_51 {b : Bool} {A : Nat → Nat} {h0 : g_H} {d : Nat} {M : xa_M} {post : Option xa_V → xa_M → Prop} {l1 u1 : Int} {i : Int} (h1 : 0 ≤ i ∧ i < 8) (k1 : post (some (0, 0, (-2147483648), 2147483647, M 51 i)) M) : xa_C (xl_I b) A h0 (d + 1) 23 [(2, 51, 0, 0, 0), (0, 0, l1, u1, i)] M post := by
  refine xa_C_arg [(2, 51, 0, 0, 0), (0, 0, (-2147483648), 2147483647, i)] (xa_svR (xa_svI (fun _ _ _ _ => by omega) xa_sv0)) ?_
  refine xa_meth (Q0 := (2, 1, false, 0, 0, 11)) (by decide +kernel) ⟨rfl, rfl⟩ (full := s_c_23) rfl rfl ?_
  intro hM hv Q hgo
  refine hgo.1 15 [] 0 _ _ _ ?_
  refine And.intro ?_ ?_
  · intro (c1 : i < 0)
    show post (some (0, 0, 0, 0, 0)) M
    exact absurd h1 (by omega)
  · intro (c1 : 0 ≤ i)
    refine And.intro ?_ ?_
    · intro (c2 : 8 ≤ i)
      show post (some (0, 0, 0, 0, 0)) M
      exact absurd h1 (by omega)
    · intro (c2 : i < 8)
      refine And.intro (show 0 ≤ i ∧ i < 8 by omega) ?_
      show post (some (0, 0, (-2147483648), 2147483647, M 51 i)) M
      exact k1
theorem cx_65_50 {b : Bool} {A : Nat → Nat} {h0 : g_H} {d : Nat} {M : xa_M} {post : Option xa_V → xa_M → Prop} {l1 u1 : Int} {x1 : Int} (h1 : 0 ≤ x1 ∧ x1 < 8) (k1 : post (some (1, 0, (-2147483648), 2147483647, M 51 x1)) M) : xa_C (xl_I b) A h0 (d + 2) 65 [(2, 50, 0, 0, 0), (0, 0, l1, u1, x1)] M post := by
  refine xa_C_arg [(2, 50, 0, 0, 0), (0, 0, (-2147483648), 2147483647, x1)] (xa_svR (xa_svI (fun _ _ _ _ => by omega) (xa_sv0))) ?_
  refine xa_meth (Q0 := (2, 3, false, 0, 0, 0)) (by decide +kernel) ⟨rfl, rfl⟩ (full := s_c_65) rfl rfl ?_
  intro hM hv Q hgo
  refine hgo.1 10 [] 0 _ _ _ ?_
  show xa_C (xl_I b) A h0 _ 23 [(2, 51, 0, 0, 0), (0, 0, (-2147483648), 2147483647, x1)] M _
  refine cx_23_51 (show 0 ≤ x1 ∧ x1 < 8 by omega) ?_
  show post (some (1, 0, (-2147483648), 2147483647, M 51 x1)) M
  exact k1
theorem cx_23_52 {b : Bool} {A : Nat → Nat} {h0 : g_H} {d : Nat} {M : xa_M} {post : Option xa_V → xa_M → Prop} {l1 u1 : Int} {i : Int} (h1 : 0 ≤ i ∧ i < 8) (k1 : post (some (0, 0, (-2147483648), 2147483647, M 52 i)) M) : xa_C (xl_I b) A h0 (d + 1) 23 [(2, 52, 0, 0, 0), (0, 0, l1, u1, i)] M post := by
  refine xa_C_arg [(2, 52, 0, 0, 0), (0, 0, (-2147483648), 2147483647, i)] (xa_svR (xa_svI (fun _ _ _ _ => by omega) xa_sv0)) ?_
  refine xa_meth (Q0 := (2, 1, false, 0, 0, 11)) (by decide +kernel) ⟨rfl, rfl⟩ (full := s_c_23) rfl rfl ?_
  intro hM hv Q hgo
  refine hgo.1 15 [] 0 _ _ _ ?_
  refine And.intro ?_ ?_
  · intro (c1 : i < 0)
    show post (some (0, 0, 0, 0, 0)) M
    exact absurd h1 (by omega)
  · intro (c1 : 0 ≤ i)
    refine And.intro ?_ ?_
    · intro (c2 : 8 ≤ i)
      show post (some (0, 0, 0, 0, 0)) M
      exact absurd h1 (by omega)
    · intro (c2 : i < 8)
      refine And.intro (show 0 ≤ i ∧ i < 8 by omega) ?_
      show post (some (0, 0, (-2147483648), 2147483647, M 52 i)) M
      exact k1
theorem cx_64_50 {b : Bool} {A : Nat → Nat} {h0 : g_H} {d : Nat} {M : xa_M} {post : Option xa_V → xa_M → Prop} {l1 u1 : Int} {x1 : Int} (h1 : 0 ≤ x1 ∧ x1 < 8) (k1 : post (some (1, 0, (-2147483648), 2147483647, M 52 x1)) M) : xa_C (xl_I b) A h0 (d + 2) 64 [(2, 50, 0, 0, 0), (0, 0, l1, u1, x1)] M post := by
  refine xa_C_arg [(2, 50, 0, 0, 0), (0, 0, (-2147483648), 2147483647, x1)] (xa_svR (xa_svI (fun _ _ _ _ => by omega) (xa_sv0))) ?_
  refine xa_meth (Q0 := (2, 3, false, 0, 0, 0)) (by decide +kernel) ⟨rfl, rfl⟩ (full := s_c_64) rfl rfl ?_
  intro hM hv Q hgo
  refine hgo.1 10 [] 0 _ _ _ ?_
  show xa_C (xl_I b) A h0 _ 23 [(2, 52, 0, 0, 0), (0, 0, (-2147483648), 2147483647, x1)] M _
  refine cx_23_52 (show 0 ≤ x1 ∧ x1 < 8 by omega) ?_
  show post (some (1, 0, (-2147483648), 2147483647, M 52 x1)) M
  exact k1
theorem cx_125_32 {b : Bool} {A : Nat → Nat} {h0 : g_H} {d : Nat} {M : xa_M} {post : Option xa_V → xa_M → Prop} (k1 : (((M 32 1) - (M 32 0)) ≤ 60) → post (some (0, 0, 0, 0, 0)) M) (k2 : (60 < ((M 32 1) - (M 32 0))) → post (some (0, 0, 1, 1, 1)) M) : xa_C (xl_I b) A h0 (d + 1) 125 [(2, 32, 0, 0, 0)] M post := by
  refine xa_C_arg [(2, 32, 0, 0, 0)] (xa_svR (xa_sv0)) ?_
  refine xa_meth (Q0 := (1, 2, false, 0, 0, 7)) (by decide +kernel) ⟨rfl, rfl⟩ (full := s_c_125) rfl rfl ?_
  intro hM hv Q hgo
  refine hgo.1 14 [] 0 _ _ _ ?_
  refine And.intro ?_ ?_
  · intro (c1 : ((M 32 1) - (M 32 0)) ≤ 60)
    show post (some (0, 0, 0, 0, 0)) M
    exact k1 c1
  · intro (c1 : 60 < ((M 32 1) - (M 32 0)))
    show post (some (0, 0, 1, 1, 1)) M
    exact k2 c1
theorem cw_122_50 {A : Nat → Nat} {h0 : g_H} {d : Nat} {M : xa_M} {post : Option xa_V → xa_M → Prop} {l1 u1 l2 u2 x1 x2 : Int} (hL : 10 ≤ M 32 0 ∧ M 32 0 ≤ M 32 1 ∧ M 32 1 ≤ 400) (hp : 0 ≤ M 50 4 ∧ M 50 4 ≤ 8) (hUU : ∀ i : Int, 0 ≤ i → i < M 50 4 → (1 ≤ M 51 i ∧ M 51 i ≤ 2000) ∧ (1 ≤ M 52 i ∧ M 52 i ≤ 2000)) (k : ∀ (r : Int) (M1 : xa_M), tr_P (M 32 0) (M 32 1) (M 50 4) (M 51 x1) (M 52 x1) x1 x2 r → (∀ (q : Nat) (j : Int), ¬ (q = 48 ∨ q = 49) → M1 q j = M q j) → post (some (0, 0, (-4), 300000, r)) M1) : xa_C (xl_I false) A h0 (d + 4) 122 [(2, 0, 0, 0, 0), (0, 0, l1, u1, x1), (0, 0, l2, u2, x2)] M post := by
  refine xa_C_wk ?_
  refine xa_C_arg [(2, 0, 0, 0, 0), (0, 0, (-2147483648), 2147483647, x1), (0, 0, (-2147483648), 2147483647, x2)] (xa_svR (xa_svI (fun _ _ _ _ => by omega) (xa_svI (fun _ _ _ _ => by omega) xa_sv0))) ?_
  refine xa_meth (Q0 := (7, 1, false, 0, 0, 11)) (by decide +kernel) ⟨rfl, rfl⟩ (full := s_c_122) rfl rfl ?_
  intro hM hv Q hgo
  have hu := hUU x1
  refine hgo.1 40 [] 0 _ _ _ ?_
  show xa_C (xl_I false) A h0 _ 87 [(2, 50, 0, 0, 0), (0, 0, (-2147483648), 2147483647, x1)] M _
  refine cx_87_50 ?_ ?_ ?_
  · intro (i1 : x1 < 0)
    show xa_wk post (some (0, 0, (-1), (-1), (-1))) M
    exact xa_wkI (-1) rfl (fun _ _ => by omega) (k _ _ (by unfold tr_P; omega) (fun _ _ _ => rfl))
  · intro (i2 : 0 ≤ x1) (i3 : (M 50 4) ≤ x1)
    show xa_wk post (some (0, 0, (-1), (-1), (-1))) M
    exact xa_wkI (-1) rfl (fun _ _ => by omega) (k _ _ (by unfold tr_P; omega) (fun _ _ _ => rfl))
  · intro (i4 : 0 ≤ x1) (i5 : x1 < (M 50 4))
    refine And.intro ?_ ?_
    · intro (c6 : x2 < 1)
      show xa_wk post (some (0, 0, (-1), (-1), (-1))) M
      exact xa_wkI (-1) rfl (fun _ _ => by omega) (k _ _ (by unfold tr_P; omega) (fun _ _ _ => rfl))
    · intro (c6 : 1 ≤ x2)
      refine And.intro ?_ ?_
      · intro (c7 : x2 ≤ 2)
        show xa_C (xl_I false) A h0 _ 65 [(2, 50, 0, 0, 0), (0, 0, (-2147483648), 2147483647, x1)] M _
        refine cx_65_50 (show 0 ≤ x1 ∧ x1 < 8 by omega) ?_
        show xa_C (xl_I false) A h0 _ 64 [(2, 50, 0, 0, 0), (0, 0, (-2147483648), 2147483647, x1)] M _
        refine cx_64_50 (show 0 ≤ x1 ∧ x1 < 8 by omega) ?_
        refine And.intro ?_ ?_
        · intro (c8 : ¬ x2 = 1)
          show xa_C (xl_I false) A h0 _ 125 [(2, 32, 0, 0, 0)] M _
          refine cx_125_32 ?_ ?_
          · intro (i9 : ((M 32 1) - (M 32 0)) ≤ 60)
            show xa_C (xl_I false) A h0 _ 126 [(2, 32, 0, 0, 0), (1, 0, (-2147483648), 2147483647, M 51 x1), (1, 0, (-2147483648), 2147483647, M 52 x1), (2, 48, 0, 0, 0)] M _
            refine cx_126f hL (by omega) (by omega) (by omega) ?_
            intro M119 (i10 : ∀ (q : Nat) (j : Int), ¬ (q = 48 ∨ q = 49) → M119 q j = M q j)
            show xa_wk post (some (0, 0, 0, 300000, sh_t2 (M 32 0) (M 32 1) (M 51 x1) (M 52 x1))) M119
            exact xa_wkI _ rfl (fun _ _ => by omega) (k _ _ (Or.inr ⟨by omega, by omega, Or.inr ⟨by omega, Or.inr ⟨by omega, rfl⟩⟩⟩) i10)
          · intro (i11 : 60 < ((M 32 1) - (M 32 0)))
            show xa_wk post (some (0, 0, (-4), (-4), (-4))) M
            exact xa_wkI (-4) rfl (fun _ _ => by omega) (k _ _ (by unfold tr_P; omega) (fun _ _ _ => rfl))
        · intro (c8 : x2 = 1)
          show xa_C (xl_I false) A h0 _ 123 [(2, 32, 0, 0, 0), (1, 0, (-2147483648), 2147483647, M 51 x1), (1, 0, (-2147483648), 2147483647, M 52 x1), (2, 48, 0, 0, 0)] M _
          refine cx_123f hL (by omega) (by omega) ?_
          intro M120 (i12 : ∀ (q : Nat) (j : Int), ¬ (q = 48 ∨ q = 49) → M120 q j = M q j)
          show xa_wk post (some (0, 0, 0, 400, sh_t1 (M 32 0) (M 32 1) (M 51 x1) (M 52 x1))) M120
          exact xa_wkI _ rfl (fun _ _ => by omega) (k _ _ (Or.inr ⟨by omega, by omega, Or.inl ⟨by omega, rfl⟩⟩) i12)
      · intro (c7 : 2 < x2)
        show xa_wk post (some (0, 0, (-1), (-1), (-1))) M
        exact xa_wkI (-1) rfl (fun _ _ => by omega) (k _ _ (by unfold tr_P; omega) (fun _ _ _ => rfl))
theorem cx_87_55 {b : Bool} {A : Nat → Nat} {h0 : g_H} {d : Nat} {M : xa_M} {post : Option xa_V → xa_M → Prop} {l1 u1 : Int} {x1 : Int} (k1 : (x1 < 0) → post (some (0, 0, 0, 0, 0)) M) (k2 : (0 ≤ x1) → ((M 55 4) ≤ x1) → post (some (0, 0, 0, 0, 0)) M) (k3 : (0 ≤ x1) → (x1 < (M 55 4)) → post (some (0, 0, 1, 1, 1)) M) : xa_C (xl_I b) A h0 (d + 1) 87 [(2, 55, 0, 0, 0), (0, 0, l1, u1, x1)] M post := by
  refine xa_C_arg [(2, 55, 0, 0, 0), (0, 0, (-2147483648), 2147483647, x1)] (xa_svR (xa_svI (fun _ _ _ _ => by omega) (xa_sv0))) ?_
  refine xa_meth (Q0 := (2, 2, false, 0, 0, 0)) (by decide +kernel) ⟨rfl, rfl⟩ (full := s_c_87) rfl rfl ?_
  intro hM hv Q hgo
  refine hgo.1 13 [] 0 _ _ _ ?_
  refine And.intro ?_ ?_
  · intro (c1 : x1 < 0)
    show post (some (0, 0, 0, 0, 0)) M
    exact k1 c1
  · intro (c1 : 0 ≤ x1)
    refine And.intro ?_ ?_
    · intro (c2 : (M 55 4) ≤ x1)
      show post (some (0, 0, 0, 0, 0)) M
      exact k2 c1 c2
    · intro (c2 : x1 < (M 55 4))
      show post (some (0, 0, 1, 1, 1)) M
      exact k3 c1 c2
theorem cx_23_56 {b : Bool} {A : Nat → Nat} {h0 : g_H} {d : Nat} {M : xa_M} {post : Option xa_V → xa_M → Prop} {l1 u1 : Int} {i : Int} (h1 : 0 ≤ i ∧ i < 8) (k1 : post (some (0, 0, (-2147483648), 2147483647, M 56 i)) M) : xa_C (xl_I b) A h0 (d + 1) 23 [(2, 56, 0, 0, 0), (0, 0, l1, u1, i)] M post := by
  refine xa_C_arg [(2, 56, 0, 0, 0), (0, 0, (-2147483648), 2147483647, i)] (xa_svR (xa_svI (fun _ _ _ _ => by omega) xa_sv0)) ?_
  refine xa_meth (Q0 := (2, 1, false, 0, 0, 11)) (by decide +kernel) ⟨rfl, rfl⟩ (full := s_c_23) rfl rfl ?_
  intro hM hv Q hgo
  refine hgo.1 15 [] 0 _ _ _ ?_
  refine And.intro ?_ ?_
  · intro (c1 : i < 0)
    show post (some (0, 0, 0, 0, 0)) M
    exact absurd h1 (by omega)
  · intro (c1 : 0 ≤ i)
    refine And.intro ?_ ?_
    · intro (c2 : 8 ≤ i)
      show post (some (0, 0, 0, 0, 0)) M
      exact absurd h1 (by omega)
    · intro (c2 : i < 8)
      refine And.intro (show 0 ≤ i ∧ i < 8 by omega) ?_
      show post (some (0, 0, (-2147483648), 2147483647, M 56 i)) M
      exact k1
theorem cx_65_55 {b : Bool} {A : Nat → Nat} {h0 : g_H} {d : Nat} {M : xa_M} {post : Option xa_V → xa_M → Prop} {l1 u1 : Int} {x1 : Int} (h1 : 0 ≤ x1 ∧ x1 < 8) (k1 : post (some (1, 0, (-2147483648), 2147483647, M 56 x1)) M) : xa_C (xl_I b) A h0 (d + 2) 65 [(2, 55, 0, 0, 0), (0, 0, l1, u1, x1)] M post := by
  refine xa_C_arg [(2, 55, 0, 0, 0), (0, 0, (-2147483648), 2147483647, x1)] (xa_svR (xa_svI (fun _ _ _ _ => by omega) (xa_sv0))) ?_
  refine xa_meth (Q0 := (2, 3, false, 0, 0, 0)) (by decide +kernel) ⟨rfl, rfl⟩ (full := s_c_65) rfl rfl ?_
  intro hM hv Q hgo
  refine hgo.1 10 [] 0 _ _ _ ?_
  show xa_C (xl_I b) A h0 _ 23 [(2, 56, 0, 0, 0), (0, 0, (-2147483648), 2147483647, x1)] M _
  refine cx_23_56 (show 0 ≤ x1 ∧ x1 < 8 by omega) ?_
  show post (some (1, 0, (-2147483648), 2147483647, M 56 x1)) M
  exact k1
theorem cx_23_57 {b : Bool} {A : Nat → Nat} {h0 : g_H} {d : Nat} {M : xa_M} {post : Option xa_V → xa_M → Prop} {l1 u1 : Int} {i : Int} (h1 : 0 ≤ i ∧ i < 8) (k1 : post (some (0, 0, (-2147483648), 2147483647, M 57 i)) M) : xa_C (xl_I b) A h0 (d + 1) 23 [(2, 57, 0, 0, 0), (0, 0, l1, u1, i)] M post := by
  refine xa_C_arg [(2, 57, 0, 0, 0), (0, 0, (-2147483648), 2147483647, i)] (xa_svR (xa_svI (fun _ _ _ _ => by omega) xa_sv0)) ?_
  refine xa_meth (Q0 := (2, 1, false, 0, 0, 11)) (by decide +kernel) ⟨rfl, rfl⟩ (full := s_c_23) rfl rfl ?_
  intro hM hv Q hgo
  refine hgo.1 15 [] 0 _ _ _ ?_
  refine And.intro ?_ ?_
  · intro (c1 : i < 0)
    show post (some (0, 0, 0, 0, 0)) M
    exact absurd h1 (by omega)
  · intro (c1 : 0 ≤ i)
    refine And.intro ?_ ?_
    · intro (c2 : 8 ≤ i)
      show post (some (0, 0, 0, 0, 0)) M
      exact absurd h1 (by omega)
    · intro (c2 : i < 8)
      refine And.intro (show 0 ≤ i ∧ i < 8 by omega) ?_
      show post (some (0, 0, (-2147483648), 2147483647, M 57 i)) M
      exact k1
theorem cx_64_55 {b : Bool} {A : Nat → Nat} {h0 : g_H} {d : Nat} {M : xa_M} {post : Option xa_V → xa_M → Prop} {l1 u1 : Int} {x1 : Int} (h1 : 0 ≤ x1 ∧ x1 < 8) (k1 : post (some (1, 0, (-2147483648), 2147483647, M 57 x1)) M) : xa_C (xl_I b) A h0 (d + 2) 64 [(2, 55, 0, 0, 0), (0, 0, l1, u1, x1)] M post := by
  refine xa_C_arg [(2, 55, 0, 0, 0), (0, 0, (-2147483648), 2147483647, x1)] (xa_svR (xa_svI (fun _ _ _ _ => by omega) (xa_sv0))) ?_
  refine xa_meth (Q0 := (2, 3, false, 0, 0, 0)) (by decide +kernel) ⟨rfl, rfl⟩ (full := s_c_64) rfl rfl ?_
  intro hM hv Q hgo
  refine hgo.1 10 [] 0 _ _ _ ?_
  show xa_C (xl_I b) A h0 _ 23 [(2, 57, 0, 0, 0), (0, 0, (-2147483648), 2147483647, x1)] M _
  refine cx_23_57 (show 0 ≤ x1 ∧ x1 < 8 by omega) ?_
  show post (some (1, 0, (-2147483648), 2147483647, M 57 x1)) M
  exact k1
theorem cw_122_55 {A : Nat → Nat} {h0 : g_H} {d : Nat} {M : xa_M} {post : Option xa_V → xa_M → Prop} {l1 u1 l2 u2 x1 x2 : Int} (hL : 10 ≤ M 32 0 ∧ M 32 0 ≤ M 32 1 ∧ M 32 1 ≤ 400) (hp : 0 ≤ M 55 4 ∧ M 55 4 ≤ 8) (hUU : ∀ i : Int, 0 ≤ i → i < M 55 4 → (1 ≤ M 56 i ∧ M 56 i ≤ 2000) ∧ (1 ≤ M 57 i ∧ M 57 i ≤ 2000)) (k : ∀ (r : Int) (M1 : xa_M), tr_P (M 32 0) (M 32 1) (M 55 4) (M 56 x1) (M 57 x1) x1 x2 r → (∀ (q : Nat) (j : Int), ¬ (q = 48 ∨ q = 49) → M1 q j = M q j) → post (some (0, 0, (-4), 300000, r)) M1) : xa_C (xl_I true) A h0 (d + 4) 122 [(2, 0, 0, 0, 0), (0, 0, l1, u1, x1), (0, 0, l2, u2, x2)] M post := by
  refine xa_C_wk ?_
  refine xa_C_arg [(2, 0, 0, 0, 0), (0, 0, (-2147483648), 2147483647, x1), (0, 0, (-2147483648), 2147483647, x2)] (xa_svR (xa_svI (fun _ _ _ _ => by omega) (xa_svI (fun _ _ _ _ => by omega) xa_sv0))) ?_
  refine xa_meth (Q0 := (7, 1, false, 0, 0, 11)) (by decide +kernel) ⟨rfl, rfl⟩ (full := s_c_122) rfl rfl ?_
  intro hM hv Q hgo
  have hu := hUU x1
  refine hgo.1 40 [] 0 _ _ _ ?_
  show xa_C (xl_I true) A h0 _ 87 [(2, 55, 0, 0, 0), (0, 0, (-2147483648), 2147483647, x1)] M _
  refine cx_87_55 ?_ ?_ ?_
  · intro (i1 : x1 < 0)
    show xa_wk post (some (0, 0, (-1), (-1), (-1))) M
    exact xa_wkI (-1) rfl (fun _ _ => by omega) (k _ _ (by unfold tr_P; omega) (fun _ _ _ => rfl))
  · intro (i2 : 0 ≤ x1) (i3 : (M 55 4) ≤ x1)
    show xa_wk post (some (0, 0, (-1), (-1), (-1))) M
    exact xa_wkI (-1) rfl (fun _ _ => by omega) (k _ _ (by unfold tr_P; omega) (fun _ _ _ => rfl))
  · intro (i4 : 0 ≤ x1) (i5 : x1 < (M 55 4))
    refine And.intro ?_ ?_
    · intro (c6 : x2 < 1)
      show xa_wk post (some (0, 0, (-1), (-1), (-1))) M
      exact xa_wkI (-1) rfl (fun _ _ => by omega) (k _ _ (by unfold tr_P; omega) (fun _ _ _ => rfl))
    · intro (c6 : 1 ≤ x2)
      refine And.intro ?_ ?_
      · intro (c7 : x2 ≤ 2)
        show xa_C (xl_I true) A h0 _ 65 [(2, 55, 0, 0, 0), (0, 0, (-2147483648), 2147483647, x1)] M _
        refine cx_65_55 (show 0 ≤ x1 ∧ x1 < 8 by omega) ?_
        show xa_C (xl_I true) A h0 _ 64 [(2, 55, 0, 0, 0), (0, 0, (-2147483648), 2147483647, x1)] M _
        refine cx_64_55 (show 0 ≤ x1 ∧ x1 < 8 by omega) ?_
        refine And.intro ?_ ?_
        · intro (c8 : ¬ x2 = 1)
          show xa_C (xl_I true) A h0 _ 125 [(2, 32, 0, 0, 0)] M _
          refine cx_125_32 ?_ ?_
          · intro (i9 : ((M 32 1) - (M 32 0)) ≤ 60)
            show xa_C (xl_I true) A h0 _ 126 [(2, 32, 0, 0, 0), (1, 0, (-2147483648), 2147483647, M 56 x1), (1, 0, (-2147483648), 2147483647, M 57 x1), (2, 48, 0, 0, 0)] M _
            refine cx_126f hL (by omega) (by omega) (by omega) ?_
            intro M121 (i10 : ∀ (q : Nat) (j : Int), ¬ (q = 48 ∨ q = 49) → M121 q j = M q j)
            show xa_wk post (some (0, 0, 0, 300000, sh_t2 (M 32 0) (M 32 1) (M 56 x1) (M 57 x1))) M121
            exact xa_wkI _ rfl (fun _ _ => by omega) (k _ _ (Or.inr ⟨by omega, by omega, Or.inr ⟨by omega, Or.inr ⟨by omega, rfl⟩⟩⟩) i10)
          · intro (i11 : 60 < ((M 32 1) - (M 32 0)))
            show xa_wk post (some (0, 0, (-4), (-4), (-4))) M
            exact xa_wkI (-4) rfl (fun _ _ => by omega) (k _ _ (by unfold tr_P; omega) (fun _ _ _ => rfl))
        · intro (c8 : x2 = 1)
          show xa_C (xl_I true) A h0 _ 123 [(2, 32, 0, 0, 0), (1, 0, (-2147483648), 2147483647, M 56 x1), (1, 0, (-2147483648), 2147483647, M 57 x1), (2, 48, 0, 0, 0)] M _
          refine cx_123f hL (by omega) (by omega) ?_
          intro M122 (i12 : ∀ (q : Nat) (j : Int), ¬ (q = 48 ∨ q = 49) → M122 q j = M q j)
          show xa_wk post (some (0, 0, 0, 400, sh_t1 (M 32 0) (M 32 1) (M 56 x1) (M 57 x1))) M122
          exact xa_wkI _ rfl (fun _ _ => by omega) (k _ _ (Or.inr ⟨by omega, by omega, Or.inl ⟨by omega, rfl⟩⟩) i12)
      · intro (c7 : 2 < x2)
        show xa_wk post (some (0, 0, (-1), (-1), (-1))) M
        exact xa_wkI (-1) rfl (fun _ _ => by omega) (k _ _ (by unfold tr_P; omega) (fun _ _ _ => rfl))
theorem ct_fourthF {A : Nat → Nat} {h0 : g_H} {d : Nat} {M : xa_M} {post : Option xa_V → xa_M → Prop} {l1 u1 l2 u2 l3 u3 l4 u4 : Int} {p a b c : Int} (hI : xm_Inv M) (hp0 : 0 ≤ p) (hp1 : p < M 60 11) (ha0 : 1 ≤ a) (ha1 : a ≤ 400) (hb0 : 1 ≤ b) (hb1 : b ≤ 400) (hc0 : 10 ≤ c) (hc1 : c ≤ 400) (k : ∀ r : Int, (0 ≤ r ∧ r ≤ 1000) → tr_r (M 70 p) (M 71 p) a b c r → post (some (0, 0, 0, 1000, r)) M) : xa_C xm_I A h0 (d + 2) 258 [(2, 60, 0, 0, 0), (0, 0, l1, u1, p), (0, 0, l2, u2, a), (0, 0, l3, u3, b), (0, 0, l4, u4, c)] M post := by
  refine xa_C_asm (fun hM0 _ => ?_)
  have b110 := xm_f11 hM0
  refine xa_C_arg [(2, 60, 0, 0, 0), (0, 0, 0, 7, p), (0, 0, 1, 400, a), (0, 0, 1, 400, b), (0, 0, 10, 400, c)] (xa_svR (xa_svI (fun _ _ _ _ => by omega) (xa_svI (fun _ _ _ _ => by omega) (xa_svI (fun _ _ _ _ => by omega) (xa_svI (fun _ _ _ _ => by omega) xa_sv0))))) (xa_C_wk ?_)
  refine xa_meth (Q0 := (9, 1, false, 0, 0, 12)) (by decide +kernel) ⟨rfl, rfl⟩ (full := s_c_258) rfl rfl ?_
  intro hM hv Q hgo
  have b11 := xm_f11 hM
  have hp := hI.2.2.1 p hp0 hp1
  have t70 := xm_t70 hM p hp0 (by omega)
  have hc := xm_mulp (p := c) (q := M 70 p) (a := 400) (b := 2000) (by omega) (by omega) (by omega) (by omega)
  refine hgo.1 38 [] 0 _ _ _ ?_
  refine And.intro (show 0 < (c * (M 70 p)) by omega) ?_
  refine And.intro ?_ ?_
  · intro (c1 : ¬ (((a * b) * (M 71 p)) % (c * (M 70 p))) = 0)
    show xa_wk post (some (0, 0, 0, 0, 0)) M
    exact xa_wkI 0 rfl (fun _ _ => by omega) (k _ (by omega) (Or.inl ⟨c1, rfl⟩))
  · intro (c1 : (((a * b) * (M 71 p)) % (c * (M 70 p))) = 0)
    refine And.intro (show 0 < (c * (M 70 p)) by omega) ?_
    show xa_C xm_I A h0 _ 26 [(1, 0, 1000, 1000, 1000), (1, 0, 0, 320000000, ((a * b) * (M 71 p)) / (c * (M 70 p)))] M _
    refine ct_minL 0 1000 (by decide) (by decide) (by decide) (fun r2 br2 er2 => ?_)
    show xa_wk post (some (0, 0, 0, 1000, r2)) M
    exact xa_wkI r2 rfl (fun _ _ => by omega) (k _ (by omega) (Or.inr ⟨c1, er2⟩))

theorem ms_trainsF {A : Nat → Nat} {h0 : g_H} {d : Nat} {M : xa_M} {post : Option xa_V → xa_M → Prop} {l1 u1 l2 u2 : Int} {a b : Int} (hI : xm_Inv M) (k : ∀ (lo hi r : Int) (M1 : xa_M), tr_P (M 60 15) (M 60 16) (M 60 11) (M 70 a) (M 71 a) a b r → xm_cor M M1 → post (some (0, 0, lo, hi, r)) M1) : xa_C xm_I A h0 (d + 3) 257 [(2, 60, 0, 0, 0), (0, 0, l1, u1, a), (0, 0, l2, u2, b)] M post := by
  refine xa_C_arg [(2, 60, 0, 0, 0), (0, 0, (-2147483648), 2147483647, a), (0, 0, (-2147483648), 2147483647, b)] (xa_svR (xa_svI (fun _ _ _ _ => by omega) (xa_svI (fun _ _ _ _ => by omega) xa_sv0))) ?_
  refine xa_meth (Q0 := (10, 1, false, 0, 0, 12)) (by decide +kernel) ⟨rfl, rfl⟩ (full := s_c_257) rfl rfl ?_
  intro hM hv Q hgo
  have b0 := xm_f0 hM
  have b6 := xm_f6 hM
  have b61 := xm_f61 hM
  have b11 := xm_f11 hM
  have b15 := xm_f15 hM
  have b16 := xm_f16 hM
  have hlh := hI.2.2.2.1
  have loop3 : ∀ (n : Nat) (x5 x3 x2 : Int) (M1 : xa_M), 0 ≤ x5 ∧ x5 ≤ 4 → 1 ≤ x2 ∧ x2 ≤ 2 → xm_cor M M1 → M1 60 20 ≤ x5 → tr_P (M 60 15) (M 60 16) (M 60 11) (M 70 a) (M 71 a) a b x3 → 4 - x5 < (n : Int) → Q 249 [(5, (0, 0, 0, 4, x5)), (3, (0, 0, (-2147483648), 2147483647, x3)), (2, (0, 0, 1, 2, x2)), (0, (2, 60, 0, 0, 0))] [] M1 := by
    intro n
    induction n with
    | zero => intro x5 x3 x2 M1 b5 b2 hc h20 htr hms; omega
    | succ n ih3 =>
      intro x5 x3 x2 M1 b5 b2 hc h20 htr hms3
      refine hgo.2.2 _ _ _ _ (fun hM1 _ => ?_)
      have b20 := xm_f20 hM1
      refine hgo.1 26 [57, 79, 103, 249] 249 _ _ _ ?_
      refine And.intro ?_ ?_
      · intro (c1 : 4 ≤ x5)
        show post (some (0, 0, (-2147483648), 2147483647, x3)) M1
        exact k _ _ _ _ htr hc
      · intro (c1 : x5 < 4)
        refine And.intro ?_ ?_
        · intro (c2 : x3 ≤ 0)
          show post (some (0, 0, (-2147483648), 2147483647, x3)) M1
          exact k _ _ _ _ htr hc
        · intro (c2 : 0 < x3)
          refine And.intro ?_ ?_
          · intro (c3 : x2 = 2)
            refine And.intro (show 0 ≤ x5 ∧ x5 < 4 by omega) ?_
            show xa_C xm_I A h0 _ 231 [(2, 60, 0, 0, 0), (1, 0, (-2147483648), 2147483647, M1 91 x5)] M1 _
            refine ct_tell (n := M1 60 20) (by first | rfl | (simp [xa_up]; done) | omega) (by omega) (by omega) ?_
            show Q 249 [(5, (0, 0, 1, 5, x5 + 1)), (3, (0, 0, (-2147483648), 2147483647, x3)), (2, (0, 0, 1, 2, x2)), (0, (2, 60, 0, 0, 0))] [] (xa_up (xa_up M1 74 (M1 60 20) (M1 91 x5)) 60 20 ((M1 60 20) + 1))
            refine hgo.2.1 249 _ [(5, (0, 0, 0, 4, x5 + 1)), (3, (0, 0, (-2147483648), 2147483647, x3)), (2, (0, 0, 1, 2, x2)), (0, (2, 60, 0, 0, 0))] _ _ (xa_subI rfl rfl (fun _ _ _ _ => by omega) (xa_subI rfl rfl (fun _ _ _ _ => by omega) (xa_subI rfl rfl (fun _ _ _ _ => by omega) (xa_subR rfl xa_sub0)))) ?_
            exact ih3 (x5 + 1) x3 x2 (xa_up (xa_up M1 74 (M1 60 20) (M1 91 x5)) 60 20 ((M1 60 20) + 1)) (by omega) (by omega) (xm_cor_f (by omega) (xm_cor_a rfl hc)) (by first | omega | (simp [xa_up]; done) | (simp [xa_up]; omega)) htr (by omega)
          · intro (c3 : ¬ x2 = 2)
            refine And.intro ?_ ?_
            · intro (c4 : ¬ (x5 % 2) = 0)
              show Q 249 [(5, (0, 0, 1, 5, x5 + 1)), (3, (0, 0, (-2147483648), 2147483647, x3)), (2, (0, 0, 1, 2, x2)), (0, (2, 60, 0, 0, 0))] [] M1
              refine hgo.2.1 249 _ [(5, (0, 0, 0, 4, x5 + 1)), (3, (0, 0, (-2147483648), 2147483647, x3)), (2, (0, 0, 1, 2, x2)), (0, (2, 60, 0, 0, 0))] _ _ (xa_subI rfl rfl (fun _ _ _ _ => by omega) (xa_subI rfl rfl (fun _ _ _ _ => by omega) (xa_subI rfl rfl (fun _ _ _ _ => by omega) (xa_subR rfl xa_sub0)))) ?_
              exact ih3 (x5 + 1) x3 x2 M1 (by omega) (by omega) hc (by first | omega | (simp [xa_up]; done) | (simp [xa_up]; omega)) htr (by omega)
            · intro (c4 : (x5 % 2) = 0)
              refine And.intro (show 0 ≤ x5 ∧ x5 < 4 by omega) ?_
              show xa_C xm_I A h0 _ 231 [(2, 60, 0, 0, 0), (1, 0, (-2147483648), 2147483647, M1 91 x5)] M1 _
              refine ct_tell (n := M1 60 20) (by first | rfl | (simp [xa_up]; done) | omega) (by omega) (by omega) ?_
              show Q 249 [(5, (0, 0, 1, 5, x5 + 1)), (3, (0, 0, (-2147483648), 2147483647, x3)), (2, (0, 0, 1, 2, x2)), (0, (2, 60, 0, 0, 0))] [] (xa_up (xa_up M1 74 (M1 60 20) (M1 91 x5)) 60 20 ((M1 60 20) + 1))
              refine hgo.2.1 249 _ [(5, (0, 0, 0, 4, x5 + 1)), (3, (0, 0, (-2147483648), 2147483647, x3)), (2, (0, 0, 1, 2, x2)), (0, (2, 60, 0, 0, 0))] _ _ (xa_subI rfl rfl (fun _ _ _ _ => by omega) (xa_subI rfl rfl (fun _ _ _ _ => by omega) (xa_subI rfl rfl (fun _ _ _ _ => by omega) (xa_subR rfl xa_sub0)))) ?_
              exact ih3 (x5 + 1) x3 x2 (xa_up (xa_up M1 74 (M1 60 20) (M1 91 x5)) 60 20 ((M1 60 20) + 1)) (by omega) (by omega) (xm_cor_f (by omega) (xm_cor_a rfl hc)) (by first | omega | (simp [xa_up]; done) | (simp [xa_up]; omega)) htr (by omega)
  have loop0 : ∀ (n : Nat) (x5 x4 x3 x2 x1 : Int) (M1 : xa_M), 10 ≤ x5 ∧ x5 ≤ 401 → 1 ≤ x2 ∧ x2 ≤ 2 → 0 ≤ x1 ∧ x1 ≤ 7 → xm_cor M M1 → x1 < M 60 11 → (x1 = a ∧ x2 = b ∧ (¬ b = 1 → M 60 16 - M 60 15 ≤ 60)) → (M 60 15 ≤ x5 ∧ x5 ≤ M 60 16 + 1) → (0 ≤ x3 ∧ x3 ≤ (x5 - M 60 15) * 160000) → x3 = sh_s (sh_y x2 (M 60 15) (M 60 16) (M 70 x1) (M 71 x1)) (M 60 15) (x5 - M 60 15).toNat → 401 - x5 < (n : Int) → Q 57 [(5, (0, 0, 10, 401, x5)), (4, (0, 0, (-2147483648), 2147483647, x4)), (3, (0, 0, (-2147483648), 2147483647, x3)), (2, (0, 0, 1, 2, x2)), (1, (0, 0, 0, 7, x1)), (0, (2, 60, 0, 0, 0))] [] M1 := by
    intro n
    induction n with
    | zero => intro x5 x4 x3 x2 x1 M1 b5 b2 b1 hc hx1 hxa h5 h3 hn hms; omega
    | succ n ih0 =>
      intro x5 x4 x3 x2 x1 M1 b5 b2 b1 hc hx1 hxa h5 h3 hn hms0
      have p7 := hI.2.2.1 x1 (by omega) hx1
      have t70 := xm_t70 hM x1 (by omega) (by omega)
      have t71 := xm_t71 hM x1 (by omega) (by omega)
      have e0 := xm_corf hc 0 (by omega)
      have e6 := xm_corf hc 6 (by omega)
      have e61 := xm_corf hc 61 (by omega)
      have e11 := xm_corf hc 11 (by omega)
      have e15 := xm_corf hc 15 (by omega)
      have e16 := xm_corf hc 16 (by omega)
      have loop1 : ∀ (b9 : Int) (n : Nat) (x6 x4 x3 : Int) (M1 : xa_M), 1 ≤ x6 ∧ x6 ≤ 401 → 10 ≤ x5 ∧ x5 ≤ 400 → 1 ≤ x2 ∧ x2 ≤ 2 → 0 ≤ x1 ∧ x1 ≤ 7 → xm_cor M M1 → (b9 ≤ x6 ∧ x5 ≤ M 60 16 ∧ (x2 = 1 → b9 = 1 ∧ x6 ≤ 2) ∧ (¬ x2 = 1 → b9 = x5 ∧ x6 ≤ M 60 16 + 1)) → (0 ≤ x3 ∧ x3 ≤ (x5 - M 60 15) * 160000 + (x6 - b9) * 400) → x3 = sh_s (sh_y x2 (M 60 15) (M 60 16) (M 70 x1) (M 71 x1)) (M 60 15) (x5 - M 60 15).toNat + sh_s (sh_w x2 (M 60 15) (M 60 16) (M 70 x1) (M 71 x1) x5) b9 (x6 - b9).toNat → 401 - x6 < (n : Int) → Q 79 [(6, (0, 0, 1, 401, x6)), (5, (0, 0, 10, 400, x5)), (4, (0, 0, (-2147483648), 2147483647, x4)), (3, (0, 0, (-2147483648), 2147483647, x3)), (2, (0, 0, 1, 2, x2)), (1, (0, 0, 0, 7, x1)), (0, (2, 60, 0, 0, 0))] [] M1 := by
        intro b9 n
        induction n with
        | zero => intro x6 x4 x3 M1 b6 f5 f2 f1 hc h6 h4 hn1 hms; omega
        | succ n ih1 =>
          intro x6 x4 x3 M1 b6 f5 f2 f1 hc h6 h4 hn1 hms1
          have e0 := xm_corf hc 0 (by omega)
          have e6 := xm_corf hc 6 (by omega)
          have e61 := xm_corf hc 61 (by omega)
          have e11 := xm_corf hc 11 (by omega)
          have e15 := xm_corf hc 15 (by omega)
          have e16 := xm_corf hc 16 (by omega)
          have loop2 : ∀ (n : Nat) (x7 x4 x3 : Int) (M1 : xa_M), 10 ≤ x7 ∧ x7 ≤ 401 → 1 ≤ x6 ∧ x6 ≤ 400 → 10 ≤ x5 ∧ x5 ≤ 400 → 1 ≤ x2 ∧ x2 ≤ 2 → 0 ≤ x1 ∧ x1 ≤ 7 → xm_cor M M1 → ((x2 = 1 → x6 = 1) ∧ (¬ x2 = 1 → x6 ≤ M 60 16)) → (M 60 15 ≤ x7 ∧ x7 ≤ M 60 16 + 1) → (0 ≤ x3 ∧ x3 ≤ (x5 - M 60 15) * 160000 + (x6 - b9) * 400 + (x7 - M 60 15)) → x3 = sh_s (sh_y x2 (M 60 15) (M 60 16) (M 70 x1) (M 71 x1)) (M 60 15) (x5 - M 60 15).toNat + sh_s (sh_w x2 (M 60 15) (M 60 16) (M 70 x1) (M 71 x1) x5) b9 (x6 - b9).toNat + sh_s (sh_q x2 (M 60 15) (M 60 16) (M 70 x1) (M 71 x1) x5 x6) (M 60 15) (x7 - M 60 15).toNat → 401 - x7 < (n : Int) → Q 103 [(7, (0, 0, 10, 401, x7)), (6, (0, 0, 1, 400, x6)), (5, (0, 0, 10, 400, x5)), (4, (0, 0, (-2147483648), 2147483647, x4)), (3, (0, 0, (-2147483648), 2147483647, x3)), (2, (0, 0, 1, 2, x2)), (1, (0, 0, 0, 7, x1)), (0, (2, 60, 0, 0, 0))] [] M1 := by
            intro n
            induction n with
            | zero => intro x7 x4 x3 M1 b7 f6 f5 f2 f1 hc h61 h7 h5b hn2 hms; omega
            | succ n ih2 =>
              intro x7 x4 x3 M1 b7 f6 f5 f2 f1 hc h61 h7 h5b hn2 hms2
              have e0 := xm_corf hc 0 (by omega)
              have e6 := xm_corf hc 6 (by omega)
              have e61 := xm_corf hc 61 (by omega)
              have e11 := xm_corf hc 11 (by omega)
              have e15 := xm_corf hc 15 (by omega)
              have e16 := xm_corf hc 16 (by omega)
              refine hgo.1 64 [57, 79, 103, 249] 103 _ _ _ ?_
              refine And.intro ?_ ?_
              · intro (c1 : (M1 60 16) < x7)
                show Q 79 [(6, (0, 0, 2, 401, x6 + 1)), (7, (0, 0, 10, 401, x7)), (5, (0, 0, 10, 400, x5)), (4, (0, 0, (-2147483648), 2147483647, x4)), (3, (0, 0, (-2147483648), 2147483647, x3)), (2, (0, 0, 1, 2, x2)), (1, (0, 0, 0, 7, x1)), (0, (2, 60, 0, 0, 0))] [] M1
                refine hgo.2.1 79 _ [(6, (0, 0, 1, 401, x6 + 1)), (5, (0, 0, 10, 400, x5)), (4, (0, 0, (-2147483648), 2147483647, x4)), (3, (0, 0, (-2147483648), 2147483647, x3)), (2, (0, 0, 1, 2, x2)), (1, (0, 0, 0, 7, x1)), (0, (2, 60, 0, 0, 0))] _ _ (xa_subI rfl rfl (fun _ _ _ _ => by omega) (xa_subI rfl rfl (fun _ _ _ _ => by omega) (xa_subI rfl rfl (fun _ _ _ _ => by omega) (xa_subI rfl rfl (fun _ _ _ _ => by omega) (xa_subI rfl rfl (fun _ _ _ _ => by omega) (xa_subI rfl rfl (fun _ _ _ _ => by omega) (xa_subR rfl xa_sub0))))))) ?_
                have e7 : x7 = M 60 16 + 1 := by omega
                rw [e7] at hn2
                exact ih1 (x6 + 1) x4 x3 M1 (by omega) (by omega) (by omega) (by omega) hc (by omega) (by omega) (by rw [sh_p (show b9 ≤ x6 by omega)]; show _ = _ + (_ + sh_s (sh_q x2 (M 60 15) (M 60 16) (M 70 x1) (M 71 x1) x5 x6) (M 60 15) (M 60 16 + 1 - M 60 15).toNat); omega) (by omega)
              · intro (c1 : x7 ≤ (M1 60 16))
                show xa_C xm_I A h0 _ 258 [(2, 60, 0, 0, 0), (0, 0, 0, 7, x1), (0, 0, 10, 400, x5), (0, 0, 1, 400, x6), (0, 0, 10, 401, x7)] M1 _
                refine ct_fourthF (xm_Inv_cor hc hI) (by omega) (by rw [xm_corf hc 11 (by omega)]; omega) (by omega) (by omega) (by omega) (by omega) (by omega) (by omega) (fun r2 br2 er2 => ?_)
                rw [hc 70 x1 (by unfold xm_scr; omega), hc 71 x1 (by unfold xm_scr; omega)] at er2
                have w9 := xa_w32_id (n := x3 + 1) (by omega) (by omega)
                refine And.intro ?_ ?_
                · intro (c3 : ¬ x2 = 1)
                  show xa_C xm_I A h0 _ 214 [(0, 0, 0, 1000, r2), (0, 0, 10, 401, x7), (0, 0, 10, 400, M1 60 16)] M1 _
                  refine ct_in ?_ ?_
                  · intro (i4 : x7 ≤ r2 ∧ r2 ≤ (M1 60 16))
                    refine And.intro ?_ ?_
                    · intro (c5 : (xa_w32 (x3 + 1)) ≤ 1)
                      show Q 103 [(7, (0, 0, 11, 402, x7 + 1)), (4, (0, 0, 21, 2201, ((x5 + x6) + x7) + r2)), (9, (0, 0, 21, 2201, ((x5 + x6) + x7) + r2)), (3, (0, 0, (-2147483648), 2147483647, xa_w32 (x3 + 1))), (8, (0, 0, 0, 1000, r2)), (6, (0, 0, 1, 400, x6)), (5, (0, 0, 10, 400, x5)), (2, (0, 0, 1, 2, x2)), (1, (0, 0, 0, 7, x1)), (0, (2, 60, 0, 0, 0))] [] (xa_up (xa_up (xa_up (xa_up M1 91 0 x5) 91 1 x6) 91 2 x7) 91 3 r2)
                      refine hgo.2.1 103 _ [(7, (0, 0, 10, 401, x7 + 1)), (6, (0, 0, 1, 400, x6)), (5, (0, 0, 10, 400, x5)), (4, (0, 0, (-2147483648), 2147483647, ((x5 + x6) + x7) + r2)), (3, (0, 0, (-2147483648), 2147483647, xa_w32 (x3 + 1))), (2, (0, 0, 1, 2, x2)), (1, (0, 0, 0, 7, x1)), (0, (2, 60, 0, 0, 0))] _ _ (xa_subI rfl rfl (fun _ _ _ _ => by omega) (xa_subI rfl rfl (fun _ _ _ _ => by omega) (xa_subI rfl rfl (fun _ _ _ _ => by omega) (xa_subI rfl rfl (fun _ _ _ _ => by omega) (xa_subI rfl rfl (fun _ _ _ _ => by omega) (xa_subI rfl rfl (fun _ _ _ _ => by omega) (xa_subI rfl rfl (fun _ _ _ _ => by omega) (xa_subR rfl xa_sub0)))))))) ?_
                      exact ih2 (x7 + 1) (((x5 + x6) + x7) + r2) (xa_w32 (x3 + 1)) (xa_up (xa_up (xa_up (xa_up M1 91 0 x5) 91 1 x6) 91 2 x7) 91 3 r2) (by omega) (by omega) (by omega) (by omega) (by omega) (xm_cor_a rfl (xm_cor_a rfl (xm_cor_a rfl (xm_cor_a rfl hc)))) h61 (by omega) (by omega) (by rw [sh_p (show M 60 15 ≤ x7 by omega), tr_a (by omega) (by omega) (by omega) (by omega) c3 er2 (by omega)]; omega) (by omega)
                    · intro (c5 : 1 < (xa_w32 (x3 + 1)))
                      refine And.intro ?_ ?_
                      · intro (c6 : (((x5 + x6) + x7) + r2) < x4)
                        show Q 103 [(7, (0, 0, 11, 402, x7 + 1)), (4, (0, 0, 21, 2201, ((x5 + x6) + x7) + r2)), (9, (0, 0, 21, 2201, ((x5 + x6) + x7) + r2)), (3, (0, 0, (-2147483648), 2147483647, xa_w32 (x3 + 1))), (8, (0, 0, 0, 1000, r2)), (6, (0, 0, 1, 400, x6)), (5, (0, 0, 10, 400, x5)), (2, (0, 0, 1, 2, x2)), (1, (0, 0, 0, 7, x1)), (0, (2, 60, 0, 0, 0))] [] (xa_up (xa_up (xa_up (xa_up M1 91 0 x5) 91 1 x6) 91 2 x7) 91 3 r2)
                        refine hgo.2.1 103 _ [(7, (0, 0, 10, 401, x7 + 1)), (6, (0, 0, 1, 400, x6)), (5, (0, 0, 10, 400, x5)), (4, (0, 0, (-2147483648), 2147483647, ((x5 + x6) + x7) + r2)), (3, (0, 0, (-2147483648), 2147483647, xa_w32 (x3 + 1))), (2, (0, 0, 1, 2, x2)), (1, (0, 0, 0, 7, x1)), (0, (2, 60, 0, 0, 0))] _ _ (xa_subI rfl rfl (fun _ _ _ _ => by omega) (xa_subI rfl rfl (fun _ _ _ _ => by omega) (xa_subI rfl rfl (fun _ _ _ _ => by omega) (xa_subI rfl rfl (fun _ _ _ _ => by omega) (xa_subI rfl rfl (fun _ _ _ _ => by omega) (xa_subI rfl rfl (fun _ _ _ _ => by omega) (xa_subI rfl rfl (fun _ _ _ _ => by omega) (xa_subR rfl xa_sub0)))))))) ?_
                        exact ih2 (x7 + 1) (((x5 + x6) + x7) + r2) (xa_w32 (x3 + 1)) (xa_up (xa_up (xa_up (xa_up M1 91 0 x5) 91 1 x6) 91 2 x7) 91 3 r2) (by omega) (by omega) (by omega) (by omega) (by omega) (xm_cor_a rfl (xm_cor_a rfl (xm_cor_a rfl (xm_cor_a rfl hc)))) h61 (by omega) (by omega) (by rw [sh_p (show M 60 15 ≤ x7 by omega), tr_a (by omega) (by omega) (by omega) (by omega) c3 er2 (by omega)]; omega) (by omega)
                      · intro (c6 : x4 ≤ (((x5 + x6) + x7) + r2))
                        show Q 103 [(7, (0, 0, 11, 402, x7 + 1)), (9, (0, 0, 21, 2201, ((x5 + x6) + x7) + r2)), (3, (0, 0, (-2147483648), 2147483647, xa_w32 (x3 + 1))), (8, (0, 0, 0, 1000, r2)), (6, (0, 0, 1, 400, x6)), (5, (0, 0, 10, 400, x5)), (4, (0, 0, (-2147483648), 2147483647, x4)), (2, (0, 0, 1, 2, x2)), (1, (0, 0, 0, 7, x1)), (0, (2, 60, 0, 0, 0))] [] M1
                        refine hgo.2.1 103 _ [(7, (0, 0, 10, 401, x7 + 1)), (6, (0, 0, 1, 400, x6)), (5, (0, 0, 10, 400, x5)), (4, (0, 0, (-2147483648), 2147483647, x4)), (3, (0, 0, (-2147483648), 2147483647, xa_w32 (x3 + 1))), (2, (0, 0, 1, 2, x2)), (1, (0, 0, 0, 7, x1)), (0, (2, 60, 0, 0, 0))] _ _ (xa_subI rfl rfl (fun _ _ _ _ => by omega) (xa_subI rfl rfl (fun _ _ _ _ => by omega) (xa_subI rfl rfl (fun _ _ _ _ => by omega) (xa_subI rfl rfl (fun _ _ _ _ => by omega) (xa_subI rfl rfl (fun _ _ _ _ => by omega) (xa_subI rfl rfl (fun _ _ _ _ => by omega) (xa_subI rfl rfl (fun _ _ _ _ => by omega) (xa_subR rfl xa_sub0)))))))) ?_
                        exact ih2 (x7 + 1) x4 (xa_w32 (x3 + 1)) M1 (by omega) (by omega) (by omega) (by omega) (by omega) hc h61 (by omega) (by omega) (by rw [sh_p (show M 60 15 ≤ x7 by omega), tr_a (by omega) (by omega) (by omega) (by omega) c3 er2 (by omega)]; omega) (by omega)
                  · intro (i4 : ¬ (x7 ≤ r2 ∧ r2 ≤ (M1 60 16)))
                    show Q 103 [(7, (0, 0, 11, 402, x7 + 1)), (8, (0, 0, 0, 1000, r2)), (6, (0, 0, 1, 400, x6)), (5, (0, 0, 10, 400, x5)), (4, (0, 0, (-2147483648), 2147483647, x4)), (3, (0, 0, (-2147483648), 2147483647, x3)), (2, (0, 0, 1, 2, x2)), (1, (0, 0, 0, 7, x1)), (0, (2, 60, 0, 0, 0))] [] M1
                    refine hgo.2.1 103 _ [(7, (0, 0, 10, 401, x7 + 1)), (6, (0, 0, 1, 400, x6)), (5, (0, 0, 10, 400, x5)), (4, (0, 0, (-2147483648), 2147483647, x4)), (3, (0, 0, (-2147483648), 2147483647, x3)), (2, (0, 0, 1, 2, x2)), (1, (0, 0, 0, 7, x1)), (0, (2, 60, 0, 0, 0))] _ _ (xa_subI rfl rfl (fun _ _ _ _ => by omega) (xa_subI rfl rfl (fun _ _ _ _ => by omega) (xa_subI rfl rfl (fun _ _ _ _ => by omega) (xa_subI rfl rfl (fun _ _ _ _ => by omega) (xa_subI rfl rfl (fun _ _ _ _ => by omega) (xa_subI rfl rfl (fun _ _ _ _ => by omega) (xa_subI rfl rfl (fun _ _ _ _ => by omega) (xa_subR rfl xa_sub0)))))))) ?_
                    exact ih2 (x7 + 1) x4 x3 M1 (by omega) (by omega) (by omega) (by omega) (by omega) hc h61 (by omega) (by omega) (by rw [sh_p (show M 60 15 ≤ x7 by omega), tr_b (by omega) (by omega) (by omega) (by omega) c3 er2 (by omega)]; omega) (by omega)
                · intro (c3 : x2 = 1)
                  refine And.intro ?_ ?_
                  · intro (c7 : r2 = 1)
                    refine And.intro ?_ ?_
                    · intro (c8 : (xa_w32 (x3 + 1)) ≤ 1)
                      show Q 103 [(7, (0, 0, 11, 402, x7 + 1)), (4, (0, 0, 21, 2201, ((x5 + x6) + x7) + r2)), (9, (0, 0, 21, 2201, ((x5 + x6) + x7) + r2)), (3, (0, 0, (-2147483648), 2147483647, xa_w32 (x3 + 1))), (8, (0, 0, 0, 1000, r2)), (6, (0, 0, 1, 400, x6)), (5, (0, 0, 10, 400, x5)), (2, (0, 0, 1, 2, x2)), (1, (0, 0, 0, 7, x1)), (0, (2, 60, 0, 0, 0))] [] (xa_up (xa_up (xa_up (xa_up M1 91 0 x5) 91 1 x6) 91 2 x7) 91 3 r2)
                      refine hgo.2.1 103 _ [(7, (0, 0, 10, 401, x7 + 1)), (6, (0, 0, 1, 400, x6)), (5, (0, 0, 10, 400, x5)), (4, (0, 0, (-2147483648), 2147483647, ((x5 + x6) + x7) + r2)), (3, (0, 0, (-2147483648), 2147483647, xa_w32 (x3 + 1))), (2, (0, 0, 1, 2, x2)), (1, (0, 0, 0, 7, x1)), (0, (2, 60, 0, 0, 0))] _ _ (xa_subI rfl rfl (fun _ _ _ _ => by omega) (xa_subI rfl rfl (fun _ _ _ _ => by omega) (xa_subI rfl rfl (fun _ _ _ _ => by omega) (xa_subI rfl rfl (fun _ _ _ _ => by omega) (xa_subI rfl rfl (fun _ _ _ _ => by omega) (xa_subI rfl rfl (fun _ _ _ _ => by omega) (xa_subI rfl rfl (fun _ _ _ _ => by omega) (xa_subR rfl xa_sub0)))))))) ?_
                      exact ih2 (x7 + 1) (((x5 + x6) + x7) + r2) (xa_w32 (x3 + 1)) (xa_up (xa_up (xa_up (xa_up M1 91 0 x5) 91 1 x6) 91 2 x7) 91 3 r2) (by omega) (by omega) (by omega) (by omega) (by omega) (xm_cor_a rfl (xm_cor_a rfl (xm_cor_a rfl (xm_cor_a rfl hc)))) h61 (by omega) (by omega) (by rw [sh_p (show M 60 15 ≤ x7 by omega), tr_c c3 (h61.1 c3) er2 c7]; omega) (by omega)
                    · intro (c8 : 1 < (xa_w32 (x3 + 1)))
                      refine And.intro ?_ ?_
                      · intro (c9 : (((x5 + x6) + x7) + r2) < x4)
                        show Q 103 [(7, (0, 0, 11, 402, x7 + 1)), (4, (0, 0, 21, 2201, ((x5 + x6) + x7) + r2)), (9, (0, 0, 21, 2201, ((x5 + x6) + x7) + r2)), (3, (0, 0, (-2147483648), 2147483647, xa_w32 (x3 + 1))), (8, (0, 0, 0, 1000, r2)), (6, (0, 0, 1, 400, x6)), (5, (0, 0, 10, 400, x5)), (2, (0, 0, 1, 2, x2)), (1, (0, 0, 0, 7, x1)), (0, (2, 60, 0, 0, 0))] [] (xa_up (xa_up (xa_up (xa_up M1 91 0 x5) 91 1 x6) 91 2 x7) 91 3 r2)
                        refine hgo.2.1 103 _ [(7, (0, 0, 10, 401, x7 + 1)), (6, (0, 0, 1, 400, x6)), (5, (0, 0, 10, 400, x5)), (4, (0, 0, (-2147483648), 2147483647, ((x5 + x6) + x7) + r2)), (3, (0, 0, (-2147483648), 2147483647, xa_w32 (x3 + 1))), (2, (0, 0, 1, 2, x2)), (1, (0, 0, 0, 7, x1)), (0, (2, 60, 0, 0, 0))] _ _ (xa_subI rfl rfl (fun _ _ _ _ => by omega) (xa_subI rfl rfl (fun _ _ _ _ => by omega) (xa_subI rfl rfl (fun _ _ _ _ => by omega) (xa_subI rfl rfl (fun _ _ _ _ => by omega) (xa_subI rfl rfl (fun _ _ _ _ => by omega) (xa_subI rfl rfl (fun _ _ _ _ => by omega) (xa_subI rfl rfl (fun _ _ _ _ => by omega) (xa_subR rfl xa_sub0)))))))) ?_
                        exact ih2 (x7 + 1) (((x5 + x6) + x7) + r2) (xa_w32 (x3 + 1)) (xa_up (xa_up (xa_up (xa_up M1 91 0 x5) 91 1 x6) 91 2 x7) 91 3 r2) (by omega) (by omega) (by omega) (by omega) (by omega) (xm_cor_a rfl (xm_cor_a rfl (xm_cor_a rfl (xm_cor_a rfl hc)))) h61 (by omega) (by omega) (by rw [sh_p (show M 60 15 ≤ x7 by omega), tr_c c3 (h61.1 c3) er2 c7]; omega) (by omega)
                      · intro (c9 : x4 ≤ (((x5 + x6) + x7) + r2))
                        show Q 103 [(7, (0, 0, 11, 402, x7 + 1)), (9, (0, 0, 21, 2201, ((x5 + x6) + x7) + r2)), (3, (0, 0, (-2147483648), 2147483647, xa_w32 (x3 + 1))), (8, (0, 0, 0, 1000, r2)), (6, (0, 0, 1, 400, x6)), (5, (0, 0, 10, 400, x5)), (4, (0, 0, (-2147483648), 2147483647, x4)), (2, (0, 0, 1, 2, x2)), (1, (0, 0, 0, 7, x1)), (0, (2, 60, 0, 0, 0))] [] M1
                        refine hgo.2.1 103 _ [(7, (0, 0, 10, 401, x7 + 1)), (6, (0, 0, 1, 400, x6)), (5, (0, 0, 10, 400, x5)), (4, (0, 0, (-2147483648), 2147483647, x4)), (3, (0, 0, (-2147483648), 2147483647, xa_w32 (x3 + 1))), (2, (0, 0, 1, 2, x2)), (1, (0, 0, 0, 7, x1)), (0, (2, 60, 0, 0, 0))] _ _ (xa_subI rfl rfl (fun _ _ _ _ => by omega) (xa_subI rfl rfl (fun _ _ _ _ => by omega) (xa_subI rfl rfl (fun _ _ _ _ => by omega) (xa_subI rfl rfl (fun _ _ _ _ => by omega) (xa_subI rfl rfl (fun _ _ _ _ => by omega) (xa_subI rfl rfl (fun _ _ _ _ => by omega) (xa_subI rfl rfl (fun _ _ _ _ => by omega) (xa_subR rfl xa_sub0)))))))) ?_
                        exact ih2 (x7 + 1) x4 (xa_w32 (x3 + 1)) M1 (by omega) (by omega) (by omega) (by omega) (by omega) hc h61 (by omega) (by omega) (by rw [sh_p (show M 60 15 ≤ x7 by omega), tr_c c3 (h61.1 c3) er2 c7]; omega) (by omega)
                  · intro (c7 : ¬ r2 = 1)
                    show Q 103 [(7, (0, 0, 11, 402, x7 + 1)), (8, (0, 0, 0, 1000, r2)), (6, (0, 0, 1, 400, x6)), (5, (0, 0, 10, 400, x5)), (4, (0, 0, (-2147483648), 2147483647, x4)), (3, (0, 0, (-2147483648), 2147483647, x3)), (2, (0, 0, 1, 2, x2)), (1, (0, 0, 0, 7, x1)), (0, (2, 60, 0, 0, 0))] [] M1
                    refine hgo.2.1 103 _ [(7, (0, 0, 10, 401, x7 + 1)), (6, (0, 0, 1, 400, x6)), (5, (0, 0, 10, 400, x5)), (4, (0, 0, (-2147483648), 2147483647, x4)), (3, (0, 0, (-2147483648), 2147483647, x3)), (2, (0, 0, 1, 2, x2)), (1, (0, 0, 0, 7, x1)), (0, (2, 60, 0, 0, 0))] _ _ (xa_subI rfl rfl (fun _ _ _ _ => by omega) (xa_subI rfl rfl (fun _ _ _ _ => by omega) (xa_subI rfl rfl (fun _ _ _ _ => by omega) (xa_subI rfl rfl (fun _ _ _ _ => by omega) (xa_subI rfl rfl (fun _ _ _ _ => by omega) (xa_subI rfl rfl (fun _ _ _ _ => by omega) (xa_subI rfl rfl (fun _ _ _ _ => by omega) (xa_subR rfl xa_sub0)))))))) ?_
                    exact ih2 (x7 + 1) x4 x3 M1 (by omega) (by omega) (by omega) (by omega) (by omega) hc h61 (by omega) (by omega) (by rw [sh_p (show M 60 15 ≤ x7 by omega), tr_d c3 (h61.1 c3) er2 c7]; omega) (by omega)
          refine hgo.1 15 [57, 79, 103, 249] 79 _ _ _ ?_
          refine And.intro ?_ ?_
          · intro (c1 : ¬ x2 = 1)
            refine And.intro ?_ ?_
            · intro (c2 : (M1 60 16) < x6)
              show Q 57 [(5, (0, 0, 11, 401, x5 + 1)), (6, (0, 0, 1, 401, x6)), (4, (0, 0, (-2147483648), 2147483647, x4)), (3, (0, 0, (-2147483648), 2147483647, x3)), (2, (0, 0, 1, 2, x2)), (1, (0, 0, 0, 7, x1)), (0, (2, 60, 0, 0, 0))] [] M1
              refine hgo.2.1 57 _ [(5, (0, 0, 10, 401, x5 + 1)), (4, (0, 0, (-2147483648), 2147483647, x4)), (3, (0, 0, (-2147483648), 2147483647, x3)), (2, (0, 0, 1, 2, x2)), (1, (0, 0, 0, 7, x1)), (0, (2, 60, 0, 0, 0))] _ _ (xa_subI rfl rfl (fun _ _ _ _ => by omega) (xa_subI rfl rfl (fun _ _ _ _ => by omega) (xa_subI rfl rfl (fun _ _ _ _ => by omega) (xa_subI rfl rfl (fun _ _ _ _ => by omega) (xa_subI rfl rfl (fun _ _ _ _ => by omega) (xa_subR rfl xa_sub0)))))) ?_
              have eb : b9 = x5 := (h6.2.2.2 c1).1
              rw [eb] at hn1
              exact ih0 (x5 + 1) x4 x3 x2 x1 M1 (by omega) (by omega) (by omega) hc (by omega) hxa (by omega) (by omega) (by rw [sh_p (show M 60 15 ≤ x5 by omega), ← sh_wy2 c1 (show x6 = M 60 16 + 1 by omega)]; exact hn1) (by omega)
            · intro (c2 : x6 ≤ (M1 60 16))
              show Q 103 [(7, (0, 0, 10, 400, M1 60 15)), (6, (0, 0, 1, 401, x6)), (5, (0, 0, 10, 400, x5)), (4, (0, 0, (-2147483648), 2147483647, x4)), (3, (0, 0, (-2147483648), 2147483647, x3)), (2, (0, 0, 1, 2, x2)), (1, (0, 0, 0, 7, x1)), (0, (2, 60, 0, 0, 0))] [] M1
              refine hgo.2.1 103 _ [(7, (0, 0, 10, 401, M1 60 15)), (6, (0, 0, 1, 400, x6)), (5, (0, 0, 10, 400, x5)), (4, (0, 0, (-2147483648), 2147483647, x4)), (3, (0, 0, (-2147483648), 2147483647, x3)), (2, (0, 0, 1, 2, x2)), (1, (0, 0, 0, 7, x1)), (0, (2, 60, 0, 0, 0))] _ _ (xa_subI rfl rfl (fun _ _ _ _ => by omega) (xa_subI rfl rfl (fun _ _ _ _ => by omega) (xa_subI rfl rfl (fun _ _ _ _ => by omega) (xa_subI rfl rfl (fun _ _ _ _ => by omega) (xa_subI rfl rfl (fun _ _ _ _ => by omega) (xa_subI rfl rfl (fun _ _ _ _ => by omega) (xa_subI rfl rfl (fun _ _ _ _ => by omega) (xa_subR rfl xa_sub0)))))))) ?_
              exact loop2 402 (M1 60 15) x4 x3 M1 (by omega) (by omega) (by omega) (by omega) (by omega) hc (by omega) (by omega) (by omega) (by rw [show (M1 60 15 - M 60 15).toNat = 0 by omega]; show _ = _ + 0; omega) (by omega)
          · intro (c1 : x2 = 1)
            refine And.intro ?_ ?_
            · intro (c3 : 1 < x6)
              show Q 57 [(5, (0, 0, 11, 401, x5 + 1)), (6, (0, 0, 1, 401, x6)), (4, (0, 0, (-2147483648), 2147483647, x4)), (3, (0, 0, (-2147483648), 2147483647, x3)), (2, (0, 0, 1, 2, x2)), (1, (0, 0, 0, 7, x1)), (0, (2, 60, 0, 0, 0))] [] M1
              refine hgo.2.1 57 _ [(5, (0, 0, 10, 401, x5 + 1)), (4, (0, 0, (-2147483648), 2147483647, x4)), (3, (0, 0, (-2147483648), 2147483647, x3)), (2, (0, 0, 1, 2, x2)), (1, (0, 0, 0, 7, x1)), (0, (2, 60, 0, 0, 0))] _ _ (xa_subI rfl rfl (fun _ _ _ _ => by omega) (xa_subI rfl rfl (fun _ _ _ _ => by omega) (xa_subI rfl rfl (fun _ _ _ _ => by omega) (xa_subI rfl rfl (fun _ _ _ _ => by omega) (xa_subI rfl rfl (fun _ _ _ _ => by omega) (xa_subR rfl xa_sub0)))))) ?_
              have eb : b9 = 1 := (h6.2.2.1 c1).1
              rw [eb] at hn1
              exact ih0 (x5 + 1) x4 x3 x2 x1 M1 (by omega) (by omega) (by omega) hc (by omega) hxa (by omega) (by omega) (by rw [sh_p (show M 60 15 ≤ x5 by omega), ← sh_wy1 c1 (show x6 = 2 by omega) (by omega) (by omega) (by omega) (by omega)]; exact hn1) (by omega)
            · intro (c3 : x6 ≤ 1)
              show Q 103 [(7, (0, 0, 10, 400, M1 60 15)), (6, (0, 0, 1, 401, x6)), (5, (0, 0, 10, 400, x5)), (4, (0, 0, (-2147483648), 2147483647, x4)), (3, (0, 0, (-2147483648), 2147483647, x3)), (2, (0, 0, 1, 2, x2)), (1, (0, 0, 0, 7, x1)), (0, (2, 60, 0, 0, 0))] [] M1
              refine hgo.2.1 103 _ [(7, (0, 0, 10, 401, M1 60 15)), (6, (0, 0, 1, 400, x6)), (5, (0, 0, 10, 400, x5)), (4, (0, 0, (-2147483648), 2147483647, x4)), (3, (0, 0, (-2147483648), 2147483647, x3)), (2, (0, 0, 1, 2, x2)), (1, (0, 0, 0, 7, x1)), (0, (2, 60, 0, 0, 0))] _ _ (xa_subI rfl rfl (fun _ _ _ _ => by omega) (xa_subI rfl rfl (fun _ _ _ _ => by omega) (xa_subI rfl rfl (fun _ _ _ _ => by omega) (xa_subI rfl rfl (fun _ _ _ _ => by omega) (xa_subI rfl rfl (fun _ _ _ _ => by omega) (xa_subI rfl rfl (fun _ _ _ _ => by omega) (xa_subI rfl rfl (fun _ _ _ _ => by omega) (xa_subR rfl xa_sub0)))))))) ?_
              exact loop2 402 (M1 60 15) x4 x3 M1 (by omega) (by omega) (by omega) (by omega) (by omega) hc (by omega) (by omega) (by omega) (by rw [show (M1 60 15 - M 60 15).toNat = 0 by omega]; show _ = _ + 0; omega) (by omega)
      refine hgo.1 15 [57, 79, 103, 249] 57 _ _ _ ?_
      refine And.intro ?_ ?_
      · intro (c1 : (M1 60 16) < x5)
        show Q 249 [(5, (0, 0, 0, 0, 0)), (4, (0, 0, (-2147483648), 2147483647, x4)), (3, (0, 0, (-2147483648), 2147483647, x3)), (2, (0, 0, 1, 2, x2)), (1, (0, 0, 0, 7, x1)), (0, (2, 60, 0, 0, 0))] [] (xa_up M1 60 20 0)
        refine hgo.2.1 249 _ [(5, (0, 0, 0, 4, 0)), (3, (0, 0, (-2147483648), 2147483647, x3)), (2, (0, 0, 1, 2, x2)), (0, (2, 60, 0, 0, 0))] _ _ (xa_subI rfl rfl (fun _ _ _ _ => by omega) (xa_subI rfl rfl (fun _ _ _ _ => by omega) (xa_subI rfl rfl (fun _ _ _ _ => by omega) (xa_subR rfl xa_sub0)))) ?_
        exact loop3 5 0 x3 x2 (xa_up M1 60 20 0) (by omega) (by omega) (xm_cor_f (by omega) hc) (by first | omega | (simp [xa_up]; done) | (simp [xa_up]; omega)) (by have e : x5 = M 60 16 + 1 := (by omega); rw [e, hxa.1, hxa.2.1] at hn; exact tr_Pi (by omega) (by omega) (by omega) hxa.2.2 hn) (by omega)
      · intro (c1 : x5 ≤ (M1 60 16))
        refine And.intro ?_ ?_
        · intro (c2 : ¬ x2 = 1)
          show Q 79 [(6, (0, 0, 10, 401, x5)), (5, (0, 0, 10, 401, x5)), (4, (0, 0, (-2147483648), 2147483647, x4)), (3, (0, 0, (-2147483648), 2147483647, x3)), (2, (0, 0, 1, 2, x2)), (1, (0, 0, 0, 7, x1)), (0, (2, 60, 0, 0, 0))] [] M1
          refine hgo.2.1 79 _ [(6, (0, 0, 1, 401, x5)), (5, (0, 0, 10, 400, x5)), (4, (0, 0, (-2147483648), 2147483647, x4)), (3, (0, 0, (-2147483648), 2147483647, x3)), (2, (0, 0, 1, 2, x2)), (1, (0, 0, 0, 7, x1)), (0, (2, 60, 0, 0, 0))] _ _ (xa_subI rfl rfl (fun _ _ _ _ => by omega) (xa_subI rfl rfl (fun _ _ _ _ => by omega) (xa_subI rfl rfl (fun _ _ _ _ => by omega) (xa_subI rfl rfl (fun _ _ _ _ => by omega) (xa_subI rfl rfl (fun _ _ _ _ => by omega) (xa_subI rfl rfl (fun _ _ _ _ => by omega) (xa_subR rfl xa_sub0))))))) ?_
          exact loop1 x5 402 x5 x4 x3 M1 (by omega) (by omega) (by omega) (by omega) hc (by omega) (by omega) (by rw [show (x5 - x5).toNat = 0 by omega]; show _ = _ + 0; omega) (by omega)
        · intro (c2 : x2 = 1)
          show Q 79 [(6, (0, 0, 1, 1, 1)), (5, (0, 0, 10, 401, x5)), (4, (0, 0, (-2147483648), 2147483647, x4)), (3, (0, 0, (-2147483648), 2147483647, x3)), (2, (0, 0, 1, 2, x2)), (1, (0, 0, 0, 7, x1)), (0, (2, 60, 0, 0, 0))] [] M1
          refine hgo.2.1 79 _ [(6, (0, 0, 1, 401, 1)), (5, (0, 0, 10, 400, x5)), (4, (0, 0, (-2147483648), 2147483647, x4)), (3, (0, 0, (-2147483648), 2147483647, x3)), (2, (0, 0, 1, 2, x2)), (1, (0, 0, 0, 7, x1)), (0, (2, 60, 0, 0, 0))] _ _ (xa_subI rfl rfl (fun _ _ _ _ => by omega) (xa_subI rfl rfl (fun _ _ _ _ => by omega) (xa_subI rfl rfl (fun _ _ _ _ => by omega) (xa_subI rfl rfl (fun _ _ _ _ => by omega) (xa_subI rfl rfl (fun _ _ _ _ => by omega) (xa_subI rfl rfl (fun _ _ _ _ => by omega) (xa_subR rfl xa_sub0))))))) ?_
          exact loop1 1 402 1 x4 x3 M1 (by omega) (by omega) (by omega) (by omega) hc (by omega) (by omega) (by rw [show ((1 : Int) - 1).toNat = 0 by decide]; show _ = _ + 0; omega) (by omega)
  refine hgo.1 18 [24] 0 _ _ _ ?_
  show xa_C xm_I A h0 _ 239 [(2, 60, 0, 0, 0), (0, 0, (-2147483648), 2147483647, a)] (xa_up M 60 21 0) _
  refine ct_isPeriod ?_ ?_
  · intro (i1 : 0 ≤ a ∧ a < (M 60 11))
    show xa_C xm_I A h0 _ 214 [(0, 0, (-2147483648), 2147483647, b), (0, 0, 1, 1, 1), (0, 0, 2, 2, 2)] (xa_up M 60 21 0) _
    refine ct_in ?_ ?_
    · intro (i2 : 1 ≤ b ∧ b ≤ 2)
      show Q 24 [(0, (2, 60, 0, 0, 0)), (1, (0, 0, (-2147483648), 2147483647, a)), (2, (0, 0, (-2147483648), 2147483647, b))] [] (xa_up M 60 21 0)
      refine hgo.2.1 24 _ [(2, (0, 0, 1, 2, b)), (1, (0, 0, 0, 7, a)), (0, (2, 60, 0, 0, 0))] _ _ (xa_subI rfl rfl (fun _ _ _ _ => by omega) (xa_subI rfl rfl (fun _ _ _ _ => by omega) (xa_subR rfl xa_sub0))) ?_
      refine hgo.1 22 [57, 79, 103, 249] 24 _ _ _ ?_
      refine And.intro ?_ ?_
      · intro (c103 : ¬ b = 2)
        show Q 57 [(5, (0, 0, 10, 400, M 60 15)), (4, (0, 0, 0, 0, 0)), (3, (0, 0, 0, 0, 0)), (2, (0, 0, 1, 2, b)), (1, (0, 0, 0, 7, a)), (0, (2, 60, 0, 0, 0))] [] (xa_up M 60 21 0)
        refine hgo.2.1 57 _ [(5, (0, 0, 10, 401, M 60 15)), (4, (0, 0, (-2147483648), 2147483647, 0)), (3, (0, 0, (-2147483648), 2147483647, 0)), (2, (0, 0, 1, 2, b)), (1, (0, 0, 0, 7, a)), (0, (2, 60, 0, 0, 0))] _ _ (xa_subI rfl rfl (fun _ _ _ _ => by omega) (xa_subI rfl rfl (fun _ _ _ _ => by omega) (xa_subI rfl rfl (fun _ _ _ _ => by omega) (xa_subI rfl rfl (fun _ _ _ _ => by omega) (xa_subI rfl rfl (fun _ _ _ _ => by omega) (xa_subR rfl xa_sub0)))))) ?_
        exact loop0 402 (M 60 15) 0 0 b a (xa_up M 60 21 0) (by omega) (by omega) (by omega) (xm_cor_f (by omega) xm_cor_r) (by omega) ⟨rfl, rfl, by omega⟩ (by omega) (by omega) (by rw [show (M 60 15 - M 60 15).toNat = 0 by omega]; rfl) (by omega)
      · intro (c103 : b = 2)
        refine And.intro ?_ ?_
        · intro (c104 : ((M 60 16) - (M 60 15)) ≤ 60)
          show Q 57 [(5, (0, 0, 10, 400, M 60 15)), (4, (0, 0, 0, 0, 0)), (3, (0, 0, 0, 0, 0)), (2, (0, 0, 1, 2, b)), (1, (0, 0, 0, 7, a)), (0, (2, 60, 0, 0, 0))] [] (xa_up M 60 21 0)
          refine hgo.2.1 57 _ [(5, (0, 0, 10, 401, M 60 15)), (4, (0, 0, (-2147483648), 2147483647, 0)), (3, (0, 0, (-2147483648), 2147483647, 0)), (2, (0, 0, 1, 2, b)), (1, (0, 0, 0, 7, a)), (0, (2, 60, 0, 0, 0))] _ _ (xa_subI rfl rfl (fun _ _ _ _ => by omega) (xa_subI rfl rfl (fun _ _ _ _ => by omega) (xa_subI rfl rfl (fun _ _ _ _ => by omega) (xa_subI rfl rfl (fun _ _ _ _ => by omega) (xa_subI rfl rfl (fun _ _ _ _ => by omega) (xa_subR rfl xa_sub0)))))) ?_
          exact loop0 402 (M 60 15) 0 0 b a (xa_up M 60 21 0) (by omega) (by omega) (by omega) (xm_cor_f (by omega) xm_cor_r) (by omega) ⟨rfl, rfl, by omega⟩ (by omega) (by omega) (by rw [show (M 60 15 - M 60 15).toNat = 0 by omega]; rfl) (by omega)
        · intro (c104 : 60 < ((M 60 16) - (M 60 15)))
          show post (some (0, 0, (-4), (-4), (-4))) (xa_up M 60 21 0)
          exact k _ _ _ _ (by unfold tr_P; omega) (xm_cor_f (by omega) xm_cor_r)
    · intro (i2 : ¬ (1 ≤ b ∧ b ≤ 2))
      show post (some (0, 0, (-1), (-1), (-1))) (xa_up M 60 21 0)
      exact k _ _ _ _ (by unfold tr_P; omega) (xm_cor_f (by omega) xm_cor_r)
  · intro (i1 : ¬ (0 ≤ a ∧ a < (M 60 11)))
    show post (some (0, 0, (-1), (-1), (-1))) (xa_up M 60 21 0)
    exact k _ _ _ _ (by unfold tr_P; omega) (xm_cor_f (by omega) xm_cor_r)

-- common (class)
set_option maxRecDepth 20000
theorem cm_oo {v m : Int} : xa_ib 4 (xa_ib 4 v m) m = xa_ib 4 v m := by
  show (Int32.ofInt ((Int32.ofInt v ||| Int32.ofInt m).toInt) ||| Int32.ofInt m).toInt = (Int32.ofInt v ||| Int32.ofInt m).toInt
  rw [Int32.ofInt_toInt, Int32.or_assoc, Int32.or_self]
theorem cm_ob {z : Int32} {k : Nat} (h : z.toBitVec.getLsbD k = true) : (z ||| Int32.ofBitVec (BitVec.twoPow 32 k)) = z := by
  refine Int32.toBitVec_inj.mp ?_
  rw [Int32.toBitVec_or]
  refine BitVec.eq_of_getLsbD_eq (fun i hi => ?_)
  rw [BitVec.getLsbD_or]
  show (_ || (BitVec.twoPow 32 k).getLsbD i) = _
  rw [BitVec.getLsbD_twoPow]
  by_cases e : i = k
  · rw [e, h]
    rfl
  · have e2 : ¬ k = i := fun q => e q.symm
    simp [e2]
theorem cm_s1 : ∀ p : Nat, p < 8 → ((1 : Int32) <<< (Int32.ofInt (p : Int) &&& 31)) = Int32.ofBitVec (BitVec.twoPow 32 p) := by decide +kernel
/-- whoever has the bit is not changed by it -/
theorem cm_has {v p : Int} (v0 : -2147483648 ≤ v) (v1 : v ≤ 2147483647) (p0 : 0 ≤ p) (p1 : p < 8) (h : xa_ib 3 (xa_ib 7 v p) 1 = 1) : xa_ib 4 v (xa_ib 6 1 p) = v := by
  have h2 := bt_eq (b := v) (w := p) p0 (by omega)
  have h3 : bt v p = 1 := h
  rw [h3] at h2
  have hb : (Int32.ofInt v).toBitVec.getLsbD p.toNat = true := by
    revert h2
    cases (Int32.ofInt v).toBitVec.getLsbD p.toNat
    · intro h2
      exact absurd h2 (by decide)
    · intro _
      rfl
  have e : p = ((p.toNat : Nat) : Int) := by omega
  have e1 : Int32.ofInt (xa_ib 6 1 p) = Int32.ofBitVec (BitVec.twoPow 32 p.toNat) := by
    rw [e]
    show Int32.ofInt (((1 : Int32) <<< (Int32.ofInt ((p.toNat : Nat) : Int) &&& 31)).toInt) = _
    rw [Int32.ofInt_toInt, cm_s1 p.toNat (by omega)]
    rfl
  show (Int32.ofInt v ||| Int32.ofInt (xa_ib 6 1 p)).toInt = v
  rw [e1, cm_ob hb]
  exact Int32.toInt_ofInt_of_le (by omega) (by omega)
/-- one after another -/
def cm_f (f : Int → (Int → Int) → (Int → Int)) (lo : Int) : Nat → (Int → Int) → (Int → Int)
  | 0, W => W
  | n + 1, W => f (lo + (n : Int)) (cm_f f lo n W)
theorem cm_fp {f : Int → (Int → Int) → (Int → Int)} {lo c : Int} {W : Int → Int} (h : lo ≤ c) : cm_f f lo (c + 1 - lo).toNat W = f c (cm_f f lo (c - lo).toNat W) := by
  rw [show (c + 1 - lo).toNat = (c - lo).toNat + 1 by omega]
  show f (lo + (((c - lo).toNat : Nat) : Int)) _ = _
  rw [show lo + (((c - lo).toNat : Nat) : Int) = c by omega]
/-- both teeth are marked -/
def cm_m (m a b : Int) (W : Int → Int) (t : Int) : Int := if t = a ∨ t = b then xa_ib 4 (W t) m else W t
def cm_k (L H u v a b : Int) : Prop := ∃ c : Int, L ≤ c ∧ c ≤ H ∧ sh_f L H (sh_d u v a b) c
noncomputable def cm_b (L H u v m a b : Int) (W : Int → Int) : Int → Int := @ite (Int → Int) (cm_k L H u v a b) (Classical.propDecidable _) (cm_m m a b W) W
noncomputable def cm_a (L H u v m a : Int) (W : Int → Int) : Int → Int := cm_f (cm_b L H u v m a) a (H + 1 - a).toNat W
theorem cm_b1 {L H u v m a b : Int} {W : Int → Int} (h : cm_k L H u v a b) : cm_b L H u v m a b W = cm_m m a b W := if_pos h
theorem cm_b0 {L H u v m a b : Int} {W : Int → Int} (h : ¬ cm_k L H u v a b) : cm_b L H u v m a b W = W := if_neg h
/-- the reference asks for any two teeth -/
theorem cm_ke {L H u v a b : Int} (hu : 1 ≤ u) (hL : 1 ≤ L) : cm_k L H u v a b ↔ ∃ c : Int, L ≤ c ∧ c ≤ H ∧ a * b * v % (c * u) = 0 ∧ L ≤ a * b * v / (c * u) ∧ a * b * v / (c * u) ≤ H := by
  constructor
  · rintro ⟨c, c0, c1, c2⟩
    obtain ⟨g1, g2, g3⟩ := (sh_fe hu hL c0).mp c2
    exact ⟨c, c0, c1, g1, by omega, g3⟩
  · rintro ⟨c, c0, c1, g1, g2, g3⟩
    by_cases h : c ≤ a * b * v / (c * u)
    · exact ⟨c, c0, c1, (sh_fe hu hL c0).mpr ⟨g1, h, g3⟩⟩
    · obtain ⟨k, hk⟩ := Int.dvd_of_emod_eq_zero g1
      have hcu : 0 < c * u := Int.mul_pos (by omega) (by omega)
      have e2 : a * b * v / (c * u) = k := by
        rw [hk]
        exact Int.mul_ediv_cancel_left k (by omega)
      rw [e2] at g2 g3 h
      have hku : 0 < k * u := Int.mul_pos (by omega) (by omega)
      have e3 : a * b * v = k * u * c := by
        rw [hk, Int.mul_comm c u, Int.mul_assoc, Int.mul_comm c k, ← Int.mul_assoc, Int.mul_comm u k]
      have e4 : a * b * v / (k * u) = c := by
        rw [e3]
        exact Int.mul_ediv_cancel_left c (by omega)
      refine ⟨k, g2, g3, (sh_fe hu hL g2).mpr ⟨?_, ?_, ?_⟩⟩
      · rw [e3]
        exact Int.mul_emod_right _ _
      · rw [e4]
        omega
      · rw [e4]
        exact c1
/-- marked once more: the same -/
theorem cm_mm {m a b : Int} {W : Int → Int} : cm_m m a b (cm_m m a b W) = cm_m m a b W := by
  funext t
  unfold cm_m
  split
  · exact cm_oo
  · rfl
/-- the first of the greatest -/
def cm_x (g : Int → Int) (lo : Int) : Nat → Int
  | 0 => lo
  | n + 1 => if g (cm_x g lo n) < g (lo + (n : Int)) then lo + (n : Int) else cm_x g lo n
/-- marking on memory: place q, teeth t at g t -/
theorem cm_up {M : xa_M} {q : Nat} {g W : Int → Int} {L H m a b : Int} (hg : ∀ x y : Int, g x = g y → x = y) (h : ∀ t : Int, L ≤ t → t ≤ H → M q (g t) = W t) (ha : L ≤ a ∧ a ≤ H) (hb : L ≤ b ∧ b ≤ H) : ∀ t : Int, L ≤ t → t ≤ H → xa_up (xa_up M q (g a) (xa_ib 4 (M q (g a)) m)) q (g b) (xa_ib 4 ((xa_up M q (g a) (xa_ib 4 (M q (g a)) m)) q (g b)) m) q (g t) = cm_m m a b W t := by
  intro t t0 t1
  unfold cm_m
  by_cases e1 : t = b
  · rw [if_pos (Or.inr e1), e1, xa_up_eq]
    by_cases e2 : b = a
    · rw [e2, xa_up_eq, cm_oo, h a ha.1 ha.2]
    · rw [xa_up_ne (fun e => e2 (hg _ _ e.2)), h b hb.1 hb.2]
  · rw [xa_up_ne (fun e => e1 (hg _ _ e.2))]
    by_cases e2 : t = a
    · rw [if_pos (Or.inl e2), e2, xa_up_eq, h a ha.1 ha.2]
    · rw [if_neg (fun e => by rcases e with e | e; exact e2 e; exact e1 e), xa_up_ne (fun e => e2 (hg _ _ e.2)), h t t0 t1]
/-- all the periods asked for -/
noncomputable def cm_p (L H x : Int) (U V : Int → Int) (p : Int) (W : Int → Int) : Int → Int := @ite (Int → Int) (xa_ib 3 (xa_ib 7 x p) 1 = 1) (Int.instDecidableEq _ _) (cm_f (cm_a L H (U p) (V p) (xa_ib 6 1 p)) L (H + 1 - L).toNat W) W
noncomputable def cm_w (L H n x : Int) (U V : Int → Int) : Int → Int := cm_f (cm_p L H x U V) 0 n.toNat (fun _ => 0)
noncomputable def cm_r (L H n x : Int) (U V : Int → Int) : Int := if cm_w L H n x U V (cm_x (fun t => xa_bc (cm_w L H n x U V t)) L (H + 1 - L).toNat) = 0 then -2 else cm_x (fun t => xa_bc (cm_w L H n x U V t)) L (H + 1 - L).toNat
def cm_P (L H n : Int) (U V : Int → Int) (x r : Int) : Prop := (¬ (0 < x ∧ x < xa_ib 6 1 n) ∧ r = -1) ∨ ((0 < x ∧ x < xa_ib 6 1 n) ∧ ((60 < H - L ∧ r = -4) ∨ (H - L ≤ 60 ∧ r = cm_r L H n x U V)))
theorem cm_fe {f g : Int → (Int → Int) → (Int → Int)} {lo : Int} : ∀ (n : Nat) (W : Int → Int), (∀ c : Int, lo ≤ c → c < lo + n → f c = g c) → cm_f f lo n W = cm_f g lo n W := by
  intro n
  induction n with
  | zero => intro W _; rfl
  | succ n ih =>
    intro W h
    show f (lo + (n : Int)) (cm_f f lo n W) = g (lo + (n : Int)) (cm_f g lo n W)
    rw [ih W (fun c c0 c1 => h c c0 (by omega)), h (lo + (n : Int)) (by omega) (by omega)]
theorem cm_we {L H n x : Int} {U V U' V' : Int → Int} (h : ∀ p : Int, 0 ≤ p → p < n → U p = U' p ∧ V p = V' p) : cm_w L H n x U V = cm_w L H n x U' V' := by
  refine cm_fe _ _ (fun c c0 c1 => ?_)
  obtain ⟨h1, h2⟩ := h c c0 (by omega)
  unfold cm_p
  rw [h1, h2]
theorem cm_Pe {L H n x r : Int} {U V U' V' : Int → Int} (h : ∀ p : Int, 0 ≤ p → p < n → U p = U' p ∧ V p = V' p) (g : cm_P L H n U V x r) : cm_P L H n U' V' x r := by
  have e := cm_we (L := L) (H := H) (x := x) h
  unfold cm_P cm_r at g ⊢
  rw [e] at g
  exact g
theorem cm_one {L H n x r r' : Int} {U V : Int → Int} (h : cm_P L H n U V x r) (h' : cm_P L H n U V x r') : r = r' := by
  unfold cm_P at h h'
  omega
theorem cm_xb {g : Int → Int} {lo : Int} (n : Nat) : lo ≤ cm_x g lo n ∧ cm_x g lo n ≤ lo + n := by
  induction n with
  | zero => exact ⟨Int.le_refl _, by show lo ≤ lo + ((0 : Nat) : Int); omega⟩
  | succ n ih =>
    have e : cm_x g lo (n + 1) = if g (cm_x g lo n) < g (lo + (n : Int)) then lo + (n : Int) else cm_x g lo n := rfl
    rw [e]
    split <;> omega
theorem cm_x1 {g : Int → Int} {lo y t : Int} {n : Nat} (hx : y = cm_x g lo n) (et : t = lo + (n : Int)) (h : g y < g t) : t = cm_x g lo (n + 1) := by
  show t = if g (cm_x g lo n) < g (lo + (n : Int)) then lo + (n : Int) else cm_x g lo n
  rw [← hx, ← et, if_pos h]
theorem cm_x0 {g : Int → Int} {lo y t : Int} {n : Nat} (hx : y = cm_x g lo n) (et : t = lo + (n : Int)) (h : ¬ g y < g t) : y = cm_x g lo (n + 1) := by
  show y = if g (cm_x g lo n) < g (lo + (n : Int)) then lo + (n : Int) else cm_x g lo n
  rw [← hx, ← et, if_neg h]
theorem cm_xi {g : Int → Int} {lo : Int} : cm_x g lo 1 = lo := by
  show (if g lo < g (lo + ((0 : Nat) : Int)) then lo + ((0 : Nat) : Int) else lo) = lo
  rw [show lo + ((0 : Nat) : Int) = lo by omega]
  split <;> rfl
theorem cm_r1 {L H n x y : Int} {U V : Int → Int} (hx : y = cm_x (fun t => xa_bc (cm_w L H n x U V t)) L (H + 1 - L).toNat) (h : ¬ cm_w L H n x U V y = 0) : y = cm_r L H n x U V := by
  unfold cm_r
  rw [← hx, if_neg h]
theorem cm_r0 {L H n x y : Int} {U V : Int → Int} (hx : y = cm_x (fun t => xa_bc (cm_w L H n x U V t)) L (H + 1 - L).toNat) (h : cm_w L H n x U V y = 0) : (-2 : Int) = cm_r L H n x U V := by
  unfold cm_r
  rw [← hx, if_pos h]
theorem cx_77h {b : Bool} {A : Nat → Nat} {h0 : g_H} {d : Nat} {M : xa_M} {post : Option xa_V → xa_M → Prop} {l1 u1 x1 : Int} (k : ∀ M1 : xa_M, (∀ (q : Nat) (j : Int), ¬ q = 33 → M1 q j = M q j) → (∀ j : Int, 0 ≤ j → j < 61 → M1 33 j = x1) → post none M1) : xa_C (xl_I b) A h0 (d + 1) 77 [(2, 33, 0, 0, 0), (0, 0, l1, u1, x1)] M post := by
  refine xa_C_arg [(2, 33, 0, 0, 0), (0, 0, (-2147483648), 2147483647, x1)] (xa_svR (xa_svI (fun _ _ _ _ => by omega) xa_sv0)) ?_
  refine xa_meth (Q0 := (3, 0, false, 0, 0, 11)) (by decide +kernel) ⟨rfl, rfl⟩ (full := s_c_77) rfl rfl ?_
  intro hM hv Q hgo
  have loop : ∀ (f : Nat) (i : Int) (M1 : xa_M), 0 ≤ i ∧ i ≤ 61 → (∀ (q : Nat) (j : Int), ¬ q = 33 → M1 q j = M q j) → (∀ j : Int, 0 ≤ j → j < i → M1 33 j = x1) → 61 - i < (f : Int) → Q 2 [(2, (0, 0, 0, 61, i)), (0, (2, 33, 0, 0, 0)), (1, (0, 0, (-2147483648), 2147483647, x1))] [] M1 := by
    intro f
    induction f with
    | zero => intro i M1 i1 hk hz hms; omega
    | succ f ih =>
      intro i M1 i1 hk hz hms
      refine hgo.1 15 [2] 2 _ _ _ ?_
      refine And.intro ?_ ?_
      · intro (c1 : 61 ≤ i)
        show post none M1
        exact k M1 hk (fun j j0 j1 => hz j j0 (by omega))
      · intro (c1 : i < 61)
        refine And.intro (show 0 ≤ i ∧ i < 61 by omega) ?_
        show Q 2 [(2, (0, 0, 1, 62, i + 1)), (0, (2, 33, 0, 0, 0)), (1, (0, 0, (-2147483648), 2147483647, x1))] [] (xa_up M1 33 i x1)
        refine hgo.2.1 2 _ [(2, (0, 0, 0, 61, i + 1)), (0, (2, 33, 0, 0, 0)), (1, (0, 0, (-2147483648), 2147483647, x1))] _ _ (xa_subI rfl rfl (fun _ _ _ _ => by omega) (xa_subR rfl (xa_subI rfl rfl (fun _ _ _ _ => by omega) (xa_sub0)))) ?_
        exact ih (i + 1) (xa_up M1 33 i x1) (by omega) (fun q j hq => (xa_up_ne (fun e => hq e.1)).trans (hk q j hq)) (fun j j0 j1 => by
          by_cases e : j = i
          · rw [e, xa_up_eq]
          · rw [xa_up_ne (fun g => e g.2)]
            exact hz j j0 (by omega)) (by omega)
  refine hgo.1 7 [2] 0 _ _ _ ?_
  show Q 2 [(2, (0, 0, 0, 0, 0)), (0, (2, 33, 0, 0, 0)), (1, (0, 0, (-2147483648), 2147483647, x1))] [] M
  refine hgo.2.1 2 _ [(2, (0, 0, 0, 61, 0)), (0, (2, 33, 0, 0, 0)), (1, (0, 0, (-2147483648), 2147483647, x1))] _ _ (xa_subI rfl rfl (fun _ _ _ _ => by omega) (xa_subR rfl (xa_subI rfl rfl (fun _ _ _ _ => by omega) (xa_sub0)))) ?_
  exact loop 62 0 M (by omega) (fun _ _ _ => rfl) (fun j j0 j1 => by omega) (by omega)
theorem cx_128g {b : Bool} {A : Nat → Nat} {h0 : g_H} {d : Nat} {M : xa_M} {post : Option xa_V → xa_M → Prop} {N : xa_M} {l1 u1 l2 u2 x1 tp : Int} (hk : ∀ (q : Nat) (j : Int), ¬ q = 33 → M q j = N q j) (hL : 10 ≤ N 32 0 ∧ N 32 0 ≤ N 32 1 ∧ N 32 1 ≤ 400) (hx : N 32 0 ≤ x1 ∧ x1 ≤ N 32 1 + 1) (hp : 0 ≤ tp ∧ tp ≤ 320000000) (k : ∀ r : Int, sh_n (N 32 0) (N 32 1) tp x1 r → (-1 ≤ r ∧ r ≤ 400) → post (some (0, 0, (-1), 400, r)) M) : xa_C (xl_I b) A h0 (d + 2) 128 [(2, 32, 0, 0, 0), (0, 0, l1, u1, x1), (1, 0, l2, u2, tp)] M post := by
  have e0 : M 32 0 = N 32 0 := hk 32 0 (by decide)
  have e1 : M 32 1 = N 32 1 := hk 32 1 (by decide)
  rw [← e0, ← e1] at hL hx
  exact cx_128f hL hx hp (fun r h1 h2 => k r (by rw [← e0, ← e1]; exact h1) h2)
theorem cx_23_33 {b : Bool} {A : Nat → Nat} {h0 : g_H} {d : Nat} {M : xa_M} {post : Option xa_V → xa_M → Prop} {l1 u1 : Int} {i : Int} (h1 : 0 ≤ i ∧ i < 61) (k1 : post (some (0, 0, (-2147483648), 2147483647, M 33 i)) M) : xa_C (xl_I b) A h0 (d + 1) 23 [(2, 33, 0, 0, 0), (0, 0, l1, u1, i)] M post := by
  refine xa_C_arg [(2, 33, 0, 0, 0), (0, 0, (-2147483648), 2147483647, i)] (xa_svR (xa_svI (fun _ _ _ _ => by omega) xa_sv0)) ?_
  refine xa_meth (Q0 := (2, 1, false, 0, 0, 11)) (by decide +kernel) ⟨rfl, rfl⟩ (full := s_c_23) rfl rfl ?_
  intro hM hv Q hgo
  refine hgo.1 15 [] 0 _ _ _ ?_
  refine And.intro ?_ ?_
  · intro (c1 : i < 0)
    show post (some (0, 0, 0, 0, 0)) M
    exact absurd h1 (by omega)
  · intro (c1 : 0 ≤ i)
    refine And.intro ?_ ?_
    · intro (c2 : 61 ≤ i)
      show post (some (0, 0, 0, 0, 0)) M
      exact absurd h1 (by omega)
    · intro (c2 : i < 61)
      refine And.intro (show 0 ≤ i ∧ i < 61 by omega) ?_
      show post (some (0, 0, (-2147483648), 2147483647, M 33 i)) M
      exact k1
theorem cx_18_33 {b : Bool} {A : Nat → Nat} {h0 : g_H} {d : Nat} {M : xa_M} {post : Option xa_V → xa_M → Prop} {l1 u1 l2 u2 : Int} {i v : Int} (h1 : 0 ≤ i ∧ i < 61) (k1 : post none (xa_up M 33 i v)) : xa_C (xl_I b) A h0 (d + 1) 18 [(2, 33, 0, 0, 0), (0, 0, l1, u1, i), (0, 0, l2, u2, v)] M post := by
  refine xa_C_arg [(2, 33, 0, 0, 0), (0, 0, (-2147483648), 2147483647, i), (0, 0, (-2147483648), 2147483647, v)] (xa_svR (xa_svI (fun _ _ _ _ => by omega) (xa_svI (fun _ _ _ _ => by omega) xa_sv0))) ?_
  refine xa_meth (Q0 := (3, 0, false, 0, 0, 11)) (by decide +kernel) ⟨rfl, rfl⟩ (full := s_c_18) rfl rfl ?_
  intro hM hv Q hgo
  refine hgo.1 15 [] 0 _ _ _ ?_
  refine And.intro ?_ ?_
  · intro (c1 : i < 0)
    show post none M
    exact absurd h1 (by omega)
  · intro (c1 : 0 ≤ i)
    refine And.intro ?_ ?_
    · intro (c2 : 61 ≤ i)
      show post none M
      exact absurd h1 (by omega)
    · intro (c2 : i < 61)
      refine And.intro (show 0 ≤ i ∧ i < 61 by omega) ?_
      show post none (xa_up M 33 i v)
      exact k1
theorem cx_135f {b : Bool} {A : Nat → Nat} {h0 : g_H} {d : Nat} {M : xa_M} {post : Option xa_V → xa_M → Prop} {l1 u1 l2 u2 l3 u3 tm uu vv : Int} {W : Int → Int} (hL : 10 ≤ M 32 0 ∧ M 32 0 ≤ M 32 1 ∧ M 32 1 ≤ 400) (hD : M 32 1 - M 32 0 ≤ 60) (hU : 1 ≤ uu ∧ uu ≤ 2000) (hV : 1 ≤ vv ∧ vv ≤ 2000) (hW : ∀ t : Int, M 32 0 ≤ t → t ≤ M 32 1 → M 33 (t - M 32 0) = W t) (k : ∀ M1 : xa_M, (∀ (q : Nat) (j : Int), ¬ q = 33 → M1 q j = M q j) → (∀ t : Int, M 32 0 ≤ t → t ≤ M 32 1 → M1 33 (t - M 32 0) = cm_f (cm_a (M 32 0) (M 32 1) uu vv tm) (M 32 0) (M 32 1 + 1 - M 32 0).toNat W t) → post none M1) : xa_C (xl_I b) A h0 (d + 3) 135 [(2, 32, 0, 0, 0), (0, 0, l1, u1, tm), (1, 0, l2, u2, uu), (1, 0, l3, u3, vv)] M post := by
  refine xa_C_arg [(2, 32, 0, 0, 0), (0, 0, (-2147483648), 2147483647, tm), (1, 0, 1, 2000, uu), (1, 0, 1, 2000, vv)] (xa_svR (xa_svI (fun _ _ _ _ => by omega) (xa_svL (fun _ _ _ _ => by omega) (xa_svL (fun _ _ _ _ => by omega) xa_sv0)))) ?_
  refine xa_meth (Q0 := (8, 0, false, 0, 0, 7)) (by decide +kernel) ⟨rfl, rfl⟩ (full := s_c_135) rfl rfl ?_
  intro hM hv Q hgo
  have loop6 : ∀ (f : Nat) (ta : Int) (M1 : xa_M), (∀ (q : Nat) (j : Int), ¬ q = 33 → M1 q j = M q j) → M 32 0 ≤ ta ∧ ta ≤ M 32 1 + 1 → (∀ t : Int, M 32 0 ≤ t → t ≤ M 32 1 → M1 33 (t - M 32 0) = cm_f (cm_a (M 32 0) (M 32 1) uu vv tm) (M 32 0) (ta - M 32 0).toNat W t) → 401 - ta < (f : Int) → Q 6 [(6, (0, 0, 10, 401, ta)), (0, (2, 32, 0, 0, 0)), (1, (0, 0, (-2147483648), 2147483647, tm)), (2, (1, 0, 1, 2000, uu)), (4, (1, 0, 1, 2000, vv))] [] M1 := by
    intro f
    induction f with
    | zero => intro ta M1 hk ha hw hms; omega
    | succ f ih6 =>
      intro ta M1 hk ha hw hms
      have e0 : M1 32 0 = M 32 0 := hk 32 0 (by decide)
      have e1 : M1 32 1 = M 32 1 := hk 32 1 (by decide)
      have loop19 : ta ≤ M 32 1 → ∀ (f : Nat) (tb : Int) (M1 : xa_M), (∀ (q : Nat) (j : Int), ¬ q = 33 → M1 q j = M q j) → ta ≤ tb ∧ tb ≤ M 32 1 + 1 → (∀ t : Int, M 32 0 ≤ t → t ≤ M 32 1 → M1 33 (t - M 32 0) = cm_f (cm_b (M 32 0) (M 32 1) uu vv tm ta) ta (tb - ta).toNat (cm_f (cm_a (M 32 0) (M 32 1) uu vv tm) (M 32 0) (ta - M 32 0).toNat W) t) → 401 - tb < (f : Int) → Q 19 [(7, (0, 0, 10, 401, tb)), (6, (0, 0, 10, 400, ta)), (0, (2, 32, 0, 0, 0)), (1, (0, 0, (-2147483648), 2147483647, tm)), (2, (1, 0, 1, 2000, uu)), (4, (1, 0, 1, 2000, vv))] [] M1 := by
        intro ha2 f
        induction f with
        | zero => intro tb M1 hk hb hw hms; omega
        | succ f ih19 =>
          intro tb M1 hk hb hw hms
          have e0 : M1 32 0 = M 32 0 := hk 32 0 (by decide)
          have e1 : M1 32 1 = M 32 1 := hk 32 1 (by decide)
          refine hgo.1 55 [6, 19] 19 _ _ _ ?_
          refine And.intro ?_ ?_
          · intro (c1 : (M1 32 1) < tb)
            show Q 6 [(6, (0, 0, 11, 401, ta + 1)), (7, (0, 0, 10, 401, tb)), (0, (2, 32, 0, 0, 0)), (1, (0, 0, (-2147483648), 2147483647, tm)), (2, (1, 0, 1, 2000, uu)), (4, (1, 0, 1, 2000, vv))] [] M1
            refine hgo.2.1 6 _ [(6, (0, 0, 10, 401, ta + 1)), (0, (2, 32, 0, 0, 0)), (1, (0, 0, (-2147483648), 2147483647, tm)), (2, (1, 0, 1, 2000, uu)), (4, (1, 0, 1, 2000, vv))] _ _ (xa_subI rfl rfl (fun _ _ _ _ => by omega) (xa_subR rfl (xa_subI rfl rfl (fun _ _ _ _ => by omega) (xa_subL rfl rfl (fun _ _ _ _ => by omega) (xa_subL rfl rfl (fun _ _ _ _ => by omega) (xa_sub0)))))) ?_
            have e : tb = M 32 1 + 1 := by omega
            rw [e] at hw
            exact ih6 (ta + 1) M1 hk (by omega) (fun t t0 t1 => by rw [cm_fp (show M 32 0 ≤ ta by omega)]; exact hw t t0 t1) (by omega)
          · intro (c1 : tb ≤ (M1 32 1))
            have hdb := sh_db (u := uu) (v := vv) (a := ta) (b := tb) hU.1 (by omega) (by omega) (by omega)
            show xa_C (xl_I b) A h0 _ 127 [(2, 32, 0, 0, 0), (0, 0, 10, 400, ta), (0, 0, 10, 401, tb), (1, 0, 1, 2000, uu), (1, 0, 1, 2000, vv)] M1 _
            refine cx_127f (by omega) (by omega) hU hV ?_
            show xa_C (xl_I b) A h0 _ 128 [(2, 32, 0, 0, 0), (0, 0, 10, 400, M1 32 0), (1, 0, 0, 320000000, sh_d uu vv ta tb)] M1 _
            refine cx_128g (N := M) (by assumption) hL (by omega) (by omega) ?_
            intro r123 (i2 : sh_n (M 32 0) (M 32 1) (sh_d uu vv ta tb) (M1 32 0) r123) (i3 : -1 ≤ r123 ∧ r123 ≤ 400)
            refine And.intro ?_ ?_
            · intro (c4 : r123 = (-1))
              show Q 19 [(7, (0, 0, 11, 402, tb + 1)), (6, (0, 0, 10, 400, ta)), (0, (2, 32, 0, 0, 0)), (1, (0, 0, (-2147483648), 2147483647, tm)), (2, (1, 0, 1, 2000, uu)), (4, (1, 0, 1, 2000, vv))] [] M1
              refine hgo.2.1 19 _ [(7, (0, 0, 10, 401, tb + 1)), (6, (0, 0, 10, 400, ta)), (0, (2, 32, 0, 0, 0)), (1, (0, 0, (-2147483648), 2147483647, tm)), (2, (1, 0, 1, 2000, uu)), (4, (1, 0, 1, 2000, vv))] _ _ (xa_subI rfl rfl (fun _ _ _ _ => by omega) (xa_subI rfl rfl (fun _ _ _ _ => by omega) (xa_subR rfl (xa_subI rfl rfl (fun _ _ _ _ => by omega) (xa_subL rfl rfl (fun _ _ _ _ => by omega) (xa_subL rfl rfl (fun _ _ _ _ => by omega) (xa_sub0))))))) ?_
              have q1 : ¬ cm_k (M 32 0) (M 32 1) uu vv ta tb := by
                rintro ⟨c, c0, c1, c2⟩
                rcases i2 with ⟨g1, g2⟩ | ⟨g1, g2, g3, g4⟩
                · exact g2 c (by omega) c1 c2
                · omega
              exact ih19 (tb + 1) M1 hk (by omega) (fun t t0 t1 => by rw [cm_fp (show ta ≤ tb by omega), cm_b0 q1]; exact hw t t0 t1) (by omega)
            · intro (c4 : ¬ r123 = (-1))
              show xa_C (xl_I b) A h0 _ 23 [(2, 33, 0, 0, 0), (0, 0, (-390), 390, ta - (M1 32 0))] M1 _
              refine cx_23_33 (show 0 ≤ (ta - (M1 32 0)) ∧ (ta - (M1 32 0)) < 61 by omega) ?_
              show xa_C (xl_I b) A h0 _ 18 [(2, 33, 0, 0, 0), (0, 0, (-390), 390, ta - (M1 32 0)), (0, 0, (-2147483648), 2147483647, xa_ib 4 (M1 33 (ta - (M1 32 0))) tm)] M1 _
              refine cx_18_33 (show 0 ≤ (ta - (M1 32 0)) ∧ (ta - (M1 32 0)) < 61 by omega) ?_
              show xa_C (xl_I b) A h0 _ 23 [(2, 33, 0, 0, 0), (0, 0, (-390), 391, tb - (M1 32 0))] (xa_up M1 33 (ta - (M1 32 0)) (xa_ib 4 (M1 33 (ta - (M1 32 0))) tm)) _
              refine cx_23_33 (show 0 ≤ (tb - (M1 32 0)) ∧ (tb - (M1 32 0)) < 61 by omega) ?_
              show xa_C (xl_I b) A h0 _ 18 [(2, 33, 0, 0, 0), (0, 0, (-390), 391, tb - (M1 32 0)), (0, 0, (-2147483648), 2147483647, xa_ib 4 ((xa_up M1 33 (ta - (M1 32 0)) (xa_ib 4 (M1 33 (ta - (M1 32 0))) tm)) 33 (tb - (M1 32 0))) tm)] (xa_up M1 33 (ta - (M1 32 0)) (xa_ib 4 (M1 33 (ta - (M1 32 0))) tm)) _
              refine cx_18_33 (show 0 ≤ (tb - (M1 32 0)) ∧ (tb - (M1 32 0)) < 61 by omega) ?_
              show Q 19 [(7, (0, 0, 11, 402, tb + 1)), (6, (0, 0, 10, 400, ta)), (0, (2, 32, 0, 0, 0)), (1, (0, 0, (-2147483648), 2147483647, tm)), (2, (1, 0, 1, 2000, uu)), (4, (1, 0, 1, 2000, vv))] [] (xa_up (xa_up M1 33 (ta - (M1 32 0)) (xa_ib 4 (M1 33 (ta - (M1 32 0))) tm)) 33 (tb - (M1 32 0)) (xa_ib 4 ((xa_up M1 33 (ta - (M1 32 0)) (xa_ib 4 (M1 33 (ta - (M1 32 0))) tm)) 33 (tb - (M1 32 0))) tm))
              refine hgo.2.1 19 _ [(7, (0, 0, 10, 401, tb + 1)), (6, (0, 0, 10, 400, ta)), (0, (2, 32, 0, 0, 0)), (1, (0, 0, (-2147483648), 2147483647, tm)), (2, (1, 0, 1, 2000, uu)), (4, (1, 0, 1, 2000, vv))] _ _ (xa_subI rfl rfl (fun _ _ _ _ => by omega) (xa_subI rfl rfl (fun _ _ _ _ => by omega) (xa_subR rfl (xa_subI rfl rfl (fun _ _ _ _ => by omega) (xa_subL rfl rfl (fun _ _ _ _ => by omega) (xa_subL rfl rfl (fun _ _ _ _ => by omega) (xa_sub0))))))) ?_
              have q1 : cm_k (M 32 0) (M 32 1) uu vv ta tb := by
                rcases i2 with ⟨g1, g2⟩ | ⟨g1, g2, g3, g4⟩
                · omega
                · exact ⟨_, by omega, g2, g3⟩
              exact ih19 (tb + 1) _ (fun q j hq => (xa_up_ne (fun e => hq e.1)).trans ((xa_up_ne (fun e => hq e.1)).trans (hk q j hq))) (by omega) (fun t t0 t1 => by
                rw [cm_fp (show ta ≤ tb by omega), cm_b1 q1, e0]
                exact cm_up (g := fun t => t - M 32 0) (fun x y e => by have e : x - M 32 0 = y - M 32 0 := e; omega) hw (by omega) (by omega) t t0 t1) (by omega)
      refine hgo.1 11 [6, 19] 6 _ _ _ ?_
      refine And.intro ?_ ?_
      · intro (c1 : (M1 32 1) < ta)
        show post none M1
        have e : ta = M 32 1 + 1 := by omega
        rw [e] at hw
        exact k M1 hk hw
      · intro (c1 : ta ≤ (M1 32 1))
        show Q 19 [(7, (0, 0, 10, 401, ta)), (6, (0, 0, 10, 401, ta)), (0, (2, 32, 0, 0, 0)), (1, (0, 0, (-2147483648), 2147483647, tm)), (2, (1, 0, 1, 2000, uu)), (4, (1, 0, 1, 2000, vv))] [] M1
        refine hgo.2.1 19 _ [(7, (0, 0, 10, 401, ta)), (6, (0, 0, 10, 400, ta)), (0, (2, 32, 0, 0, 0)), (1, (0, 0, (-2147483648), 2147483647, tm)), (2, (1, 0, 1, 2000, uu)), (4, (1, 0, 1, 2000, vv))] _ _ (xa_subI rfl rfl (fun _ _ _ _ => by omega) (xa_subI rfl rfl (fun _ _ _ _ => by omega) (xa_subR rfl (xa_subI rfl rfl (fun _ _ _ _ => by omega) (xa_subL rfl rfl (fun _ _ _ _ => by omega) (xa_subL rfl rfl (fun _ _ _ _ => by omega) (xa_sub0))))))) ?_
        exact loop19 (by omega) 402 ta M1 hk (by omega) (fun t t0 t1 => by rw [show (ta - ta).toNat = 0 by omega]; exact hw t t0 t1) (by omega)
  refine hgo.1 8 [6, 19] 0 _ _ _ ?_
  show Q 6 [(6, (0, 0, 10, 400, M 32 0)), (0, (2, 32, 0, 0, 0)), (1, (0, 0, (-2147483648), 2147483647, tm)), (2, (1, 0, 1, 2000, uu)), (4, (1, 0, 1, 2000, vv))] [] M
  refine hgo.2.1 6 _ [(6, (0, 0, 10, 401, M 32 0)), (0, (2, 32, 0, 0, 0)), (1, (0, 0, (-2147483648), 2147483647, tm)), (2, (1, 0, 1, 2000, uu)), (4, (1, 0, 1, 2000, vv))] _ _ (xa_subI rfl rfl (fun _ _ _ _ => by omega) (xa_subR rfl (xa_subI rfl rfl (fun _ _ _ _ => by omega) (xa_subL rfl rfl (fun _ _ _ _ => by omega) (xa_subL rfl rfl (fun _ _ _ _ => by omega) (xa_sub0)))))) ?_
  exact loop6 402 (M 32 0) M (fun _ _ _ => rfl) (by omega) (fun t t0 t1 => by rw [show (M 32 0 - M 32 0).toNat = 0 by omega]; exact hW t t0 t1) (by omega)
theorem cx_134_50 {b : Bool} {A : Nat → Nat} {h0 : g_H} {d : Nat} {M : xa_M} {post : Option xa_V → xa_M → Prop} {l1 u1 x1 : Int} (hL : 10 ≤ M 32 0 ∧ M 32 0 ≤ M 32 1 ∧ M 32 1 ≤ 400) (hD : M 32 1 - M 32 0 ≤ 60) (hp : 0 ≤ M 50 4 ∧ M 50 4 ≤ 8) (hUU : ∀ i : Int, 0 ≤ i → i < M 50 4 → (1 ≤ M 51 i ∧ M 51 i ≤ 2000) ∧ (1 ≤ M 52 i ∧ M 52 i ≤ 2000)) (k : ∀ (M1 : xa_M) (r : Int), (∀ (q : Nat) (j : Int), ¬ (q = 33 ∨ q = 48 ∨ q = 49) → M1 q j = M q j) → r = cm_r (M 32 0) (M 32 1) (M 50 4) x1 (fun p => M 51 p) (fun p => M 52 p) → post (some (0, 0, (-2), 400, r)) M1) : xa_C (xl_I b) A h0 (d + 4) 134 [(2, 32, 0, 0, 0), (2, 50, 0, 0, 0), (0, 0, l1, u1, x1), (2, 48, 0, 0, 0)] M post := by
  refine xa_C_wk ?_
  refine xa_C_arg [(2, 32, 0, 0, 0), (2, 50, 0, 0, 0), (0, 0, (-2147483648), 2147483647, x1), (2, 48, 0, 0, 0)] (xa_svR (xa_svR (xa_svI (fun _ _ _ _ => by omega) (xa_svR xa_sv0)))) ?_
  refine xa_meth (Q0 := (6, 1, false, 0, 0, 7)) (by decide +kernel) ⟨rfl, rfl⟩ (full := s_c_134) rfl rfl ?_
  intro hM hv Q hgo
  have loop62 : ∀ (f : Nat) (ti tb : Int) (M1 : xa_M), (∀ (q : Nat) (j : Int), ¬ q = 33 → M1 q j = M q j) → (∀ t : Int, M 32 0 ≤ t → t ≤ M 32 1 → M1 33 (t - M 32 0) = cm_w (M 32 0) (M 32 1) (M 50 4) x1 (fun p => M 51 p) (fun p => M 52 p) t) → (1 ≤ ti ∧ ti ≤ M 32 1 - M 32 0 + 1 ∧ 0 ≤ tb ∧ tb < ti) → M 32 0 + tb = cm_x (fun t => xa_bc (cm_w (M 32 0) (M 32 1) (M 50 4) x1 (fun p => M 51 p) (fun p => M 52 p) t)) (M 32 0) ti.toNat → 401 - ti < (f : Int) → Q 62 [(5, (0, 0, 1, 401, ti)), (4, (0, 0, 0, 400, tb)), (0, (2, 32, 0, 0, 0)), (3, (2, 48, 0, 0, 0))] [] M1 := by
    intro f
    induction f with
    | zero => intro ti tb M1 hk hw h1 hx hms; omega
    | succ f ih62 =>
      intro ti tb M1 hk hw h1 hx hms
      have e0 : M1 32 0 = M 32 0 := hk 32 0 (by decide)
      have e1 : M1 32 1 = M 32 1 := hk 32 1 (by decide)
      refine hgo.1 30 [11, 62] 62 _ _ _ ?_
      refine And.intro ?_ ?_
      · intro (c1 : ((M1 32 1) - (M1 32 0)) < ti)
        show xa_C (xl_I b) A h0 _ 23 [(2, 33, 0, 0, 0), (0, 0, 0, 400, tb)] M1 _
        refine cx_23_33 (show 0 ≤ tb ∧ tb < 61 by omega) ?_
        refine And.intro ?_ ?_
        · intro (c2 : ¬ (M1 33 tb) = 0)
          show xa_C (xl_I b) A h0 _ 59 [(2, 48, 0, 0, 0)] M1 _
          refine cx_59n (N := M1) (fun _ _ _ => rfl) ?_
          intro M125 (i3 : ∀ (q : Nat) (j : Int), ¬ (q = 48 ∨ q = 49) → M125 q j = M1 q j) (i4 : (0 : Int) ≤ M125 48 1)
          show xa_C (xl_I b) A h0 _ 23 [(2, 33, 0, 0, 0), (0, 0, 0, 400, tb)] M125 _
          refine cx_23_33 (show 0 ≤ tb ∧ tb < 61 by omega) ?_
          show xa_C (xl_I b) A h0 _ 60 [(2, 48, 0, 0, 0), (1, 0, (-2147483648), 2147483647, M125 33 tb)] M125 _
          refine cx_60n (N := M125) (fun _ _ _ => rfl) (by assumption) ?_
          intro M126 (i5 : ∀ (q : Nat) (j : Int), ¬ (q = 48 ∨ q = 49) → M126 q j = M125 q j) (i6 : (0 : Int) ≤ M126 48 1)
          show xa_wk post (some (0, 0, 10, 800, (M126 32 0) + tb)) M126
          have ei : ti.toNat = (M 32 1 + 1 - M 32 0).toNat := by omega
          rw [ei] at hx
          have g2 := hw (M 32 0 + tb) (by omega) (by omega)
          rw [show M 32 0 + tb - M 32 0 = tb by omega] at g2
          exact xa_wkI (M 32 0 + tb) (by rw [i5 32 0 (by decide), i3 32 0 (by decide), e0]) (fun _ _ => by omega) (k _ (M 32 0 + tb) (fun q j hq => (i5 q j (fun e => hq (Or.inr e))).trans (i3 q j (fun e => hq (Or.inr e))).trans (hk q j (fun e => hq (Or.inl e)))) (cm_r1 hx (fun e => c2 (g2.trans e))))
        · intro (c2 : (M1 33 tb) = 0)
          show xa_wk post (some (0, 0, (-2), (-2), (-2))) M1
          have ei : ti.toNat = (M 32 1 + 1 - M 32 0).toNat := by omega
          rw [ei] at hx
          have g2 := hw (M 32 0 + tb) (by omega) (by omega)
          rw [show M 32 0 + tb - M 32 0 = tb by omega] at g2
          exact xa_wkI (-2) rfl (fun _ _ => by omega) (k M1 (-2) (fun q j hq => hk q j (fun e => hq (Or.inl e))) (cm_r0 hx (g2.symm.trans c2)))
      · intro (c1 : ti ≤ ((M1 32 1) - (M1 32 0)))
        show xa_C (xl_I b) A h0 _ 23 [(2, 33, 0, 0, 0), (0, 0, 1, 401, ti)] M1 _
        refine cx_23_33 (show 0 ≤ ti ∧ ti < 61 by omega) ?_
        show xa_C (xl_I b) A h0 _ 136 [(0, 0, (-2147483648), 2147483647, M1 33 ti)] M1 _
        refine ct_bitCount ?_
        show xa_C (xl_I b) A h0 _ 23 [(2, 33, 0, 0, 0), (0, 0, 0, 400, tb)] M1 _
        refine cx_23_33 (show 0 ≤ tb ∧ tb < 61 by omega) ?_
        show xa_C (xl_I b) A h0 _ 136 [(0, 0, (-2147483648), 2147483647, M1 33 tb)] M1 _
        refine ct_bitCount ?_
        refine And.intro ?_ ?_
        · intro (c7 : (xa_bc (M1 33 ti)) ≤ (xa_bc (M1 33 tb)))
          show Q 62 [(5, (0, 0, 2, 402, ti + 1)), (4, (0, 0, 0, 400, tb)), (0, (2, 32, 0, 0, 0)), (3, (2, 48, 0, 0, 0))] [] M1
          refine hgo.2.1 62 _ [(5, (0, 0, 1, 401, ti + 1)), (4, (0, 0, 0, 400, tb)), (0, (2, 32, 0, 0, 0)), (3, (2, 48, 0, 0, 0))] _ _ (xa_subI rfl rfl (fun _ _ _ _ => by omega) (xa_subI rfl rfl (fun _ _ _ _ => by omega) (xa_subR rfl (xa_subR rfl (xa_sub0))))) ?_
          have en : (ti + 1).toNat = ti.toNat + 1 := by omega
          have g1 := hw (M 32 0 + ti) (by omega) (by omega)
          have g2 := hw (M 32 0 + tb) (by omega) (by omega)
          rw [show M 32 0 + ti - M 32 0 = ti by omega] at g1
          rw [show M 32 0 + tb - M 32 0 = tb by omega] at g2
          have g3 := c7
          rw [g1, g2] at g3
          exact ih62 (ti + 1) tb M1 hk hw (by omega) (by rw [en]; exact cm_x0 hx (show M 32 0 + ti = M 32 0 + ((ti.toNat : Nat) : Int) by omega) (Int.not_lt.mpr g3)) (by omega)
        · intro (c7 : (xa_bc (M1 33 tb)) < (xa_bc (M1 33 ti)))
          show Q 62 [(5, (0, 0, 2, 402, ti + 1)), (4, (0, 0, 1, 401, ti)), (0, (2, 32, 0, 0, 0)), (3, (2, 48, 0, 0, 0))] [] M1
          refine hgo.2.1 62 _ [(5, (0, 0, 1, 401, ti + 1)), (4, (0, 0, 0, 400, ti)), (0, (2, 32, 0, 0, 0)), (3, (2, 48, 0, 0, 0))] _ _ (xa_subI rfl rfl (fun _ _ _ _ => by omega) (xa_subI rfl rfl (fun _ _ _ _ => by omega) (xa_subR rfl (xa_subR rfl (xa_sub0))))) ?_
          have en : (ti + 1).toNat = ti.toNat + 1 := by omega
          have g1 := hw (M 32 0 + ti) (by omega) (by omega)
          have g2 := hw (M 32 0 + tb) (by omega) (by omega)
          rw [show M 32 0 + ti - M 32 0 = ti by omega] at g1
          rw [show M 32 0 + tb - M 32 0 = tb by omega] at g2
          have g3 := c7
          rw [g1, g2] at g3
          exact ih62 (ti + 1) ti M1 hk hw (by omega) (by rw [en]; exact cm_x1 hx (show M 32 0 + ti = M 32 0 + ((ti.toNat : Nat) : Int) by omega) g3) (by omega)
  have loop11 : ∀ (f : Nat) (tp : Int) (M1 : xa_M), (∀ (q : Nat) (j : Int), ¬ q = 33 → M1 q j = M q j) → (0 ≤ tp ∧ tp ≤ M 50 4) → (∀ t : Int, M 32 0 ≤ t → t ≤ M 32 1 → M1 33 (t - M 32 0) = cm_f (cm_p (M 32 0) (M 32 1) x1 (fun p => M 51 p) (fun p => M 52 p)) 0 tp.toNat (fun _ => 0) t) → 8 - tp < (f : Int) → Q 11 [(4, (0, 0, 0, 8, tp)), (0, (2, 32, 0, 0, 0)), (1, (2, 50, 0, 0, 0)), (2, (0, 0, (-2147483648), 2147483647, x1)), (3, (2, 48, 0, 0, 0))] [] M1 := by
    intro f
    induction f with
    | zero => intro tp M1 hk h1 hw hms; omega
    | succ f ih11 =>
      intro tp M1 hk h1 hw hms
      have e0 : M1 32 0 = M 32 0 := hk 32 0 (by decide)
      have e1 : M1 32 1 = M 32 1 := hk 32 1 (by decide)
      have e4 : M1 50 4 = M 50 4 := hk 50 4 (by decide)
      have eU : M1 51 tp = M 51 tp := hk 51 tp (by decide)
      have eV : M1 52 tp = M 52 tp := hk 52 tp (by decide)
      have hu := hUU tp
      have hL1 : 10 ≤ M1 32 0 ∧ M1 32 0 ≤ M1 32 1 ∧ M1 32 1 ≤ 400 := by omega
      have hD1 : M1 32 1 - M1 32 0 ≤ 60 := by omega
      have hw1 : ∀ t : Int, M1 32 0 ≤ t → t ≤ M1 32 1 → M1 33 (t - M1 32 0) = cm_f (cm_p (M 32 0) (M 32 1) x1 (fun p => M 51 p) (fun p => M 52 p)) 0 tp.toNat (fun _ => 0) t := by
        rw [e0, e1]
        exact hw
      refine hgo.1 29 [11, 62] 11 _ _ _ ?_
      refine And.intro ?_ ?_
      · intro (c1 : (M1 50 4) ≤ tp)
        show Q 62 [(5, (0, 0, 1, 1, 1)), (4, (0, 0, 0, 0, 0)), (0, (2, 32, 0, 0, 0)), (1, (2, 50, 0, 0, 0)), (2, (0, 0, (-2147483648), 2147483647, x1)), (3, (2, 48, 0, 0, 0))] [] M1
        refine hgo.2.1 62 _ [(5, (0, 0, 1, 401, 1)), (4, (0, 0, 0, 400, 0)), (0, (2, 32, 0, 0, 0)), (3, (2, 48, 0, 0, 0))] _ _ (xa_subI rfl rfl (fun _ _ _ _ => by omega) (xa_subI rfl rfl (fun _ _ _ _ => by omega) (xa_subR rfl (xa_subR rfl (xa_sub0))))) ?_
        have ep : tp = M 50 4 := by omega
        rw [ep] at hw
        exact loop62 402 1 0 M1 hk hw (by omega) (by rw [show (1 : Int).toNat = 1 by decide, cm_xi]; omega) (by omega)
      · intro (c1 : tp < (M1 50 4))
        refine And.intro ?_ ?_
        · intro (c2 : ¬ (xa_ib 3 (xa_ib 7 x1 tp) 1) = 1)
          show Q 11 [(4, (0, 0, 1, 9, tp + 1)), (0, (2, 32, 0, 0, 0)), (1, (2, 50, 0, 0, 0)), (2, (0, 0, (-2147483648), 2147483647, x1)), (3, (2, 48, 0, 0, 0))] [] M1
          refine hgo.2.1 11 _ [(4, (0, 0, 0, 8, tp + 1)), (0, (2, 32, 0, 0, 0)), (1, (2, 50, 0, 0, 0)), (2, (0, 0, (-2147483648), 2147483647, x1)), (3, (2, 48, 0, 0, 0))] _ _ (xa_subI rfl rfl (fun _ _ _ _ => by omega) (xa_subR rfl (xa_subR rfl (xa_subI rfl rfl (fun _ _ _ _ => by omega) (xa_subR rfl (xa_sub0)))))) ?_
          have ep : ((tp.toNat : Nat) : Int) = tp := Int.toNat_of_nonneg (by omega)
          have en : (tp + 1).toNat = tp.toNat + 1 := by omega
          have q1 : cm_f (cm_p (M 32 0) (M 32 1) x1 (fun p => M 51 p) (fun p => M 52 p)) 0 (tp + 1).toNat (fun _ => 0) = cm_f (cm_p (M 32 0) (M 32 1) x1 (fun p => M 51 p) (fun p => M 52 p)) 0 tp.toNat (fun _ => 0) := by
            rw [en]
            show cm_p (M 32 0) (M 32 1) x1 (fun p => M 51 p) (fun p => M 52 p) (0 + ((tp.toNat : Nat) : Int)) (cm_f (cm_p (M 32 0) (M 32 1) x1 (fun p => M 51 p) (fun p => M 52 p)) 0 tp.toNat (fun _ => 0)) = _
            rw [Int.zero_add, ep]
            exact if_neg c2
          exact ih11 (tp + 1) M1 hk (by omega) (fun t t0 t1 => by rw [q1]; exact hw t t0 t1) (by omega)
        · intro (c2 : (xa_ib 3 (xa_ib 7 x1 tp) 1) = 1)
          show xa_C (xl_I b) A h0 _ 65 [(2, 50, 0, 0, 0), (0, 0, 0, 8, tp)] M1 _
          refine cx_65_50 (show 0 ≤ tp ∧ tp < 8 by omega) ?_
          show xa_C (xl_I b) A h0 _ 64 [(2, 50, 0, 0, 0), (0, 0, 0, 8, tp)] M1 _
          refine cx_64_50 (show 0 ≤ tp ∧ tp < 8 by omega) ?_
          show xa_C (xl_I b) A h0 _ 135 [(2, 32, 0, 0, 0), (0, 0, (-2147483648), 2147483647, xa_ib 6 1 tp), (1, 0, (-2147483648), 2147483647, M1 51 tp), (1, 0, (-2147483648), 2147483647, M1 52 tp)] M1 _
          refine cx_135f (W := cm_f (cm_p (M 32 0) (M 32 1) x1 (fun p => M 51 p) (fun p => M 52 p)) 0 tp.toNat (fun _ => 0)) hL1 hD1 (by omega) (by omega) hw1 ?_
          intro M124 (i3 : ∀ (q : Nat) (j : Int), ¬ q = 33 → M124 q j = M1 q j) (i4 : ∀ t : Int, M1 32 0 ≤ t → t ≤ M1 32 1 → M124 33 (t - M1 32 0) = cm_f (cm_a (M1 32 0) (M1 32 1) (M1 51 tp) (M1 52 tp) (xa_ib 6 1 tp)) (M1 32 0) (M1 32 1 + 1 - M1 32 0).toNat (cm_f (cm_p (M 32 0) (M 32 1) x1 (fun p => M 51 p) (fun p => M 52 p)) 0 tp.toNat (fun _ => 0)) t)
          show Q 11 [(4, (0, 0, 1, 9, tp + 1)), (0, (2, 32, 0, 0, 0)), (1, (2, 50, 0, 0, 0)), (2, (0, 0, (-2147483648), 2147483647, x1)), (3, (2, 48, 0, 0, 0))] [] M124
          refine hgo.2.1 11 _ [(4, (0, 0, 0, 8, tp + 1)), (0, (2, 32, 0, 0, 0)), (1, (2, 50, 0, 0, 0)), (2, (0, 0, (-2147483648), 2147483647, x1)), (3, (2, 48, 0, 0, 0))] _ _ (xa_subI rfl rfl (fun _ _ _ _ => by omega) (xa_subR rfl (xa_subR rfl (xa_subI rfl rfl (fun _ _ _ _ => by omega) (xa_subR rfl (xa_sub0)))))) ?_
          have ep : ((tp.toNat : Nat) : Int) = tp := Int.toNat_of_nonneg (by omega)
          have en : (tp + 1).toNat = tp.toNat + 1 := by omega
          have q1 : cm_f (cm_p (M 32 0) (M 32 1) x1 (fun p => M 51 p) (fun p => M 52 p)) 0 (tp + 1).toNat (fun _ => 0) = cm_f (cm_a (M 32 0) (M 32 1) (M 51 tp) (M 52 tp) (xa_ib 6 1 tp)) (M 32 0) (M 32 1 + 1 - M 32 0).toNat (cm_f (cm_p (M 32 0) (M 32 1) x1 (fun p => M 51 p) (fun p => M 52 p)) 0 tp.toNat (fun _ => 0)) := by
            rw [en]
            show cm_p (M 32 0) (M 32 1) x1 (fun p => M 51 p) (fun p => M 52 p) (0 + ((tp.toNat : Nat) : Int)) (cm_f (cm_p (M 32 0) (M 32 1) x1 (fun p => M 51 p) (fun p => M 52 p)) 0 tp.toNat (fun _ => 0)) = _
            rw [Int.zero_add, ep]
            exact if_pos c2
          rw [e0, e1, eU, eV] at i4
          exact ih11 (tp + 1) M124 (fun q j hq => (i3 q j hq).trans (hk q j hq)) (by omega) (fun t t0 t1 => by rw [q1]; exact i4 t t0 t1) (by omega)
  refine hgo.1 11 [11, 62] 0 _ _ _ ?_
  show xa_C (xl_I b) A h0 _ 77 [(2, 33, 0, 0, 0), (0, 0, 0, 0, 0)] M _
  refine cx_77h ?_
  intro M127 (i1 : ∀ (q : Nat) (j : Int), ¬ q = 33 → M127 q j = M q j) (i2 : ∀ j : Int, 0 ≤ j → j < 61 → M127 33 j = 0)
  show Q 11 [(4, (0, 0, 0, 0, 0)), (0, (2, 32, 0, 0, 0)), (1, (2, 50, 0, 0, 0)), (2, (0, 0, (-2147483648), 2147483647, x1)), (3, (2, 48, 0, 0, 0))] [] M127
  refine hgo.2.1 11 _ [(4, (0, 0, 0, 8, 0)), (0, (2, 32, 0, 0, 0)), (1, (2, 50, 0, 0, 0)), (2, (0, 0, (-2147483648), 2147483647, x1)), (3, (2, 48, 0, 0, 0))] _ _ (xa_subI rfl rfl (fun _ _ _ _ => by omega) (xa_subR rfl (xa_subR rfl (xa_subI rfl rfl (fun _ _ _ _ => by omega) (xa_subR rfl (xa_sub0)))))) ?_
  exact loop11 9 0 M127 i1 (by omega) (fun t t0 t1 => i2 (t - M 32 0) (by omega) (by omega)) (by omega)
theorem cx_134_55 {b : Bool} {A : Nat → Nat} {h0 : g_H} {d : Nat} {M : xa_M} {post : Option xa_V → xa_M → Prop} {l1 u1 x1 : Int} (hL : 10 ≤ M 32 0 ∧ M 32 0 ≤ M 32 1 ∧ M 32 1 ≤ 400) (hD : M 32 1 - M 32 0 ≤ 60) (hp : 0 ≤ M 55 4 ∧ M 55 4 ≤ 8) (hUU : ∀ i : Int, 0 ≤ i → i < M 55 4 → (1 ≤ M 56 i ∧ M 56 i ≤ 2000) ∧ (1 ≤ M 57 i ∧ M 57 i ≤ 2000)) (k : ∀ (M1 : xa_M) (r : Int), (∀ (q : Nat) (j : Int), ¬ (q = 33 ∨ q = 48 ∨ q = 49) → M1 q j = M q j) → r = cm_r (M 32 0) (M 32 1) (M 55 4) x1 (fun p => M 56 p) (fun p => M 57 p) → post (some (0, 0, (-2), 400, r)) M1) : xa_C (xl_I b) A h0 (d + 4) 134 [(2, 32, 0, 0, 0), (2, 55, 0, 0, 0), (0, 0, l1, u1, x1), (2, 48, 0, 0, 0)] M post := by
  refine xa_C_wk ?_
  refine xa_C_arg [(2, 32, 0, 0, 0), (2, 55, 0, 0, 0), (0, 0, (-2147483648), 2147483647, x1), (2, 48, 0, 0, 0)] (xa_svR (xa_svR (xa_svI (fun _ _ _ _ => by omega) (xa_svR xa_sv0)))) ?_
  refine xa_meth (Q0 := (6, 1, false, 0, 0, 7)) (by decide +kernel) ⟨rfl, rfl⟩ (full := s_c_134) rfl rfl ?_
  intro hM hv Q hgo
  have loop62 : ∀ (f : Nat) (ti tb : Int) (M1 : xa_M), (∀ (q : Nat) (j : Int), ¬ q = 33 → M1 q j = M q j) → (∀ t : Int, M 32 0 ≤ t → t ≤ M 32 1 → M1 33 (t - M 32 0) = cm_w (M 32 0) (M 32 1) (M 55 4) x1 (fun p => M 56 p) (fun p => M 57 p) t) → (1 ≤ ti ∧ ti ≤ M 32 1 - M 32 0 + 1 ∧ 0 ≤ tb ∧ tb < ti) → M 32 0 + tb = cm_x (fun t => xa_bc (cm_w (M 32 0) (M 32 1) (M 55 4) x1 (fun p => M 56 p) (fun p => M 57 p) t)) (M 32 0) ti.toNat → 401 - ti < (f : Int) → Q 62 [(5, (0, 0, 1, 401, ti)), (4, (0, 0, 0, 400, tb)), (0, (2, 32, 0, 0, 0)), (3, (2, 48, 0, 0, 0))] [] M1 := by
    intro f
    induction f with
    | zero => intro ti tb M1 hk hw h1 hx hms; omega
    | succ f ih62 =>
      intro ti tb M1 hk hw h1 hx hms
      have e0 : M1 32 0 = M 32 0 := hk 32 0 (by decide)
      have e1 : M1 32 1 = M 32 1 := hk 32 1 (by decide)
      refine hgo.1 30 [11, 62] 62 _ _ _ ?_
      refine And.intro ?_ ?_
      · intro (c1 : ((M1 32 1) - (M1 32 0)) < ti)
        show xa_C (xl_I b) A h0 _ 23 [(2, 33, 0, 0, 0), (0, 0, 0, 400, tb)] M1 _
        refine cx_23_33 (show 0 ≤ tb ∧ tb < 61 by omega) ?_
        refine And.intro ?_ ?_
        · intro (c2 : ¬ (M1 33 tb) = 0)
          show xa_C (xl_I b) A h0 _ 59 [(2, 48, 0, 0, 0)] M1 _
          refine cx_59n (N := M1) (fun _ _ _ => rfl) ?_
          intro M129 (i3 : ∀ (q : Nat) (j : Int), ¬ (q = 48 ∨ q = 49) → M129 q j = M1 q j) (i4 : (0 : Int) ≤ M129 48 1)
          show xa_C (xl_I b) A h0 _ 23 [(2, 33, 0, 0, 0), (0, 0, 0, 400, tb)] M129 _
          refine cx_23_33 (show 0 ≤ tb ∧ tb < 61 by omega) ?_
          show xa_C (xl_I b) A h0 _ 60 [(2, 48, 0, 0, 0), (1, 0, (-2147483648), 2147483647, M129 33 tb)] M129 _
          refine cx_60n (N := M129) (fun _ _ _ => rfl) (by assumption) ?_
          intro M130 (i5 : ∀ (q : Nat) (j : Int), ¬ (q = 48 ∨ q = 49) → M130 q j = M129 q j) (i6 : (0 : Int) ≤ M130 48 1)
          show xa_wk post (some (0, 0, 10, 800, (M130 32 0) + tb)) M130
          have ei : ti.toNat = (M 32 1 + 1 - M 32 0).toNat := by omega
          rw [ei] at hx
          have g2 := hw (M 32 0 + tb) (by omega) (by omega)
          rw [show M 32 0 + tb - M 32 0 = tb by omega] at g2
          exact xa_wkI (M 32 0 + tb) (by rw [i5 32 0 (by decide), i3 32 0 (by decide), e0]) (fun _ _ => by omega) (k _ (M 32 0 + tb) (fun q j hq => (i5 q j (fun e => hq (Or.inr e))).trans (i3 q j (fun e => hq (Or.inr e))).trans (hk q j (fun e => hq (Or.inl e)))) (cm_r1 hx (fun e => c2 (g2.trans e))))
        · intro (c2 : (M1 33 tb) = 0)
          show xa_wk post (some (0, 0, (-2), (-2), (-2))) M1
          have ei : ti.toNat = (M 32 1 + 1 - M 32 0).toNat := by omega
          rw [ei] at hx
          have g2 := hw (M 32 0 + tb) (by omega) (by omega)
          rw [show M 32 0 + tb - M 32 0 = tb by omega] at g2
          exact xa_wkI (-2) rfl (fun _ _ => by omega) (k M1 (-2) (fun q j hq => hk q j (fun e => hq (Or.inl e))) (cm_r0 hx (g2.symm.trans c2)))
      · intro (c1 : ti ≤ ((M1 32 1) - (M1 32 0)))
        show xa_C (xl_I b) A h0 _ 23 [(2, 33, 0, 0, 0), (0, 0, 1, 401, ti)] M1 _
        refine cx_23_33 (show 0 ≤ ti ∧ ti < 61 by omega) ?_
        show xa_C (xl_I b) A h0 _ 136 [(0, 0, (-2147483648), 2147483647, M1 33 ti)] M1 _
        refine ct_bitCount ?_
        show xa_C (xl_I b) A h0 _ 23 [(2, 33, 0, 0, 0), (0, 0, 0, 400, tb)] M1 _
        refine cx_23_33 (show 0 ≤ tb ∧ tb < 61 by omega) ?_
        show xa_C (xl_I b) A h0 _ 136 [(0, 0, (-2147483648), 2147483647, M1 33 tb)] M1 _
        refine ct_bitCount ?_
        refine And.intro ?_ ?_
        · intro (c7 : (xa_bc (M1 33 ti)) ≤ (xa_bc (M1 33 tb)))
          show Q 62 [(5, (0, 0, 2, 402, ti + 1)), (4, (0, 0, 0, 400, tb)), (0, (2, 32, 0, 0, 0)), (3, (2, 48, 0, 0, 0))] [] M1
          refine hgo.2.1 62 _ [(5, (0, 0, 1, 401, ti + 1)), (4, (0, 0, 0, 400, tb)), (0, (2, 32, 0, 0, 0)), (3, (2, 48, 0, 0, 0))] _ _ (xa_subI rfl rfl (fun _ _ _ _ => by omega) (xa_subI rfl rfl (fun _ _ _ _ => by omega) (xa_subR rfl (xa_subR rfl (xa_sub0))))) ?_
          have en : (ti + 1).toNat = ti.toNat + 1 := by omega
          have g1 := hw (M 32 0 + ti) (by omega) (by omega)
          have g2 := hw (M 32 0 + tb) (by omega) (by omega)
          rw [show M 32 0 + ti - M 32 0 = ti by omega] at g1
          rw [show M 32 0 + tb - M 32 0 = tb by omega] at g2
          have g3 := c7
          rw [g1, g2] at g3
          exact ih62 (ti + 1) tb M1 hk hw (by omega) (by rw [en]; exact cm_x0 hx (show M 32 0 + ti = M 32 0 + ((ti.toNat : Nat) : Int) by omega) (Int.not_lt.mpr g3)) (by omega)
        · intro (c7 : (xa_bc (M1 33 tb)) < (xa_bc (M1 33 ti)))
          show Q 62 [(5, (0, 0, 2, 402, ti + 1)), (4, (0, 0, 1, 401, ti)), (0, (2, 32, 0, 0, 0)), (3, (2, 48, 0, 0, 0))] [] M1
          refine hgo.2.1 62 _ [(5, (0, 0, 1, 401, ti + 1)), (4, (0, 0, 0, 400, ti)), (0, (2, 32, 0, 0, 0)), (3, (2, 48, 0, 0, 0))] _ _ (xa_subI rfl rfl (fun _ _ _ _ => by omega) (xa_subI rfl rfl (fun _ _ _ _ => by omega) (xa_subR rfl (xa_subR rfl (xa_sub0))))) ?_
          have en : (ti + 1).toNat = ti.toNat + 1 := by omega
          have g1 := hw (M 32 0 + ti) (by omega) (by omega)
          have g2 := hw (M 32 0 + tb) (by omega) (by omega)
          rw [show M 32 0 + ti - M 32 0 = ti by omega] at g1
          rw [show M 32 0 + tb - M 32 0 = tb by omega] at g2
          have g3 := c7
          rw [g1, g2] at g3
          exact ih62 (ti + 1) ti M1 hk hw (by omega) (by rw [en]; exact cm_x1 hx (show M 32 0 + ti = M 32 0 + ((ti.toNat : Nat) : Int) by omega) g3) (by omega)
  have loop11 : ∀ (f : Nat) (tp : Int) (M1 : xa_M), (∀ (q : Nat) (j : Int), ¬ q = 33 → M1 q j = M q j) → (0 ≤ tp ∧ tp ≤ M 55 4) → (∀ t : Int, M 32 0 ≤ t → t ≤ M 32 1 → M1 33 (t - M 32 0) = cm_f (cm_p (M 32 0) (M 32 1) x1 (fun p => M 56 p) (fun p => M 57 p)) 0 tp.toNat (fun _ => 0) t) → 8 - tp < (f : Int) → Q 11 [(4, (0, 0, 0, 8, tp)), (0, (2, 32, 0, 0, 0)), (1, (2, 55, 0, 0, 0)), (2, (0, 0, (-2147483648), 2147483647, x1)), (3, (2, 48, 0, 0, 0))] [] M1 := by
    intro f
    induction f with
    | zero => intro tp M1 hk h1 hw hms; omega
    | succ f ih11 =>
      intro tp M1 hk h1 hw hms
      have e0 : M1 32 0 = M 32 0 := hk 32 0 (by decide)
      have e1 : M1 32 1 = M 32 1 := hk 32 1 (by decide)
      have e4 : M1 55 4 = M 55 4 := hk 55 4 (by decide)
      have eU : M1 56 tp = M 56 tp := hk 56 tp (by decide)
      have eV : M1 57 tp = M 57 tp := hk 57 tp (by decide)
      have hu := hUU tp
      have hL1 : 10 ≤ M1 32 0 ∧ M1 32 0 ≤ M1 32 1 ∧ M1 32 1 ≤ 400 := by omega
      have hD1 : M1 32 1 - M1 32 0 ≤ 60 := by omega
      have hw1 : ∀ t : Int, M1 32 0 ≤ t → t ≤ M1 32 1 → M1 33 (t - M1 32 0) = cm_f (cm_p (M 32 0) (M 32 1) x1 (fun p => M 56 p) (fun p => M 57 p)) 0 tp.toNat (fun _ => 0) t := by
        rw [e0, e1]
        exact hw
      refine hgo.1 29 [11, 62] 11 _ _ _ ?_
      refine And.intro ?_ ?_
      · intro (c1 : (M1 55 4) ≤ tp)
        show Q 62 [(5, (0, 0, 1, 1, 1)), (4, (0, 0, 0, 0, 0)), (0, (2, 32, 0, 0, 0)), (1, (2, 55, 0, 0, 0)), (2, (0, 0, (-2147483648), 2147483647, x1)), (3, (2, 48, 0, 0, 0))] [] M1
        refine hgo.2.1 62 _ [(5, (0, 0, 1, 401, 1)), (4, (0, 0, 0, 400, 0)), (0, (2, 32, 0, 0, 0)), (3, (2, 48, 0, 0, 0))] _ _ (xa_subI rfl rfl (fun _ _ _ _ => by omega) (xa_subI rfl rfl (fun _ _ _ _ => by omega) (xa_subR rfl (xa_subR rfl (xa_sub0))))) ?_
        have ep : tp = M 55 4 := by omega
        rw [ep] at hw
        exact loop62 402 1 0 M1 hk hw (by omega) (by rw [show (1 : Int).toNat = 1 by decide, cm_xi]; omega) (by omega)
      · intro (c1 : tp < (M1 55 4))
        refine And.intro ?_ ?_
        · intro (c2 : ¬ (xa_ib 3 (xa_ib 7 x1 tp) 1) = 1)
          show Q 11 [(4, (0, 0, 1, 9, tp + 1)), (0, (2, 32, 0, 0, 0)), (1, (2, 55, 0, 0, 0)), (2, (0, 0, (-2147483648), 2147483647, x1)), (3, (2, 48, 0, 0, 0))] [] M1
          refine hgo.2.1 11 _ [(4, (0, 0, 0, 8, tp + 1)), (0, (2, 32, 0, 0, 0)), (1, (2, 55, 0, 0, 0)), (2, (0, 0, (-2147483648), 2147483647, x1)), (3, (2, 48, 0, 0, 0))] _ _ (xa_subI rfl rfl (fun _ _ _ _ => by omega) (xa_subR rfl (xa_subR rfl (xa_subI rfl rfl (fun _ _ _ _ => by omega) (xa_subR rfl (xa_sub0)))))) ?_
          have ep : ((tp.toNat : Nat) : Int) = tp := Int.toNat_of_nonneg (by omega)
          have en : (tp + 1).toNat = tp.toNat + 1 := by omega
          have q1 : cm_f (cm_p (M 32 0) (M 32 1) x1 (fun p => M 56 p) (fun p => M 57 p)) 0 (tp + 1).toNat (fun _ => 0) = cm_f (cm_p (M 32 0) (M 32 1) x1 (fun p => M 56 p) (fun p => M 57 p)) 0 tp.toNat (fun _ => 0) := by
            rw [en]
            show cm_p (M 32 0) (M 32 1) x1 (fun p => M 56 p) (fun p => M 57 p) (0 + ((tp.toNat : Nat) : Int)) (cm_f (cm_p (M 32 0) (M 32 1) x1 (fun p => M 56 p) (fun p => M 57 p)) 0 tp.toNat (fun _ => 0)) = _
            rw [Int.zero_add, ep]
            exact if_neg c2
          exact ih11 (tp + 1) M1 hk (by omega) (fun t t0 t1 => by rw [q1]; exact hw t t0 t1) (by omega)
        · intro (c2 : (xa_ib 3 (xa_ib 7 x1 tp) 1) = 1)
          show xa_C (xl_I b) A h0 _ 65 [(2, 55, 0, 0, 0), (0, 0, 0, 8, tp)] M1 _
          refine cx_65_55 (show 0 ≤ tp ∧ tp < 8 by omega) ?_
          show xa_C (xl_I b) A h0 _ 64 [(2, 55, 0, 0, 0), (0, 0, 0, 8, tp)] M1 _
          refine cx_64_55 (show 0 ≤ tp ∧ tp < 8 by omega) ?_
          show xa_C (xl_I b) A h0 _ 135 [(2, 32, 0, 0, 0), (0, 0, (-2147483648), 2147483647, xa_ib 6 1 tp), (1, 0, (-2147483648), 2147483647, M1 56 tp), (1, 0, (-2147483648), 2147483647, M1 57 tp)] M1 _
          refine cx_135f (W := cm_f (cm_p (M 32 0) (M 32 1) x1 (fun p => M 56 p) (fun p => M 57 p)) 0 tp.toNat (fun _ => 0)) hL1 hD1 (by omega) (by omega) hw1 ?_
          intro M128 (i3 : ∀ (q : Nat) (j : Int), ¬ q = 33 → M128 q j = M1 q j) (i4 : ∀ t : Int, M1 32 0 ≤ t → t ≤ M1 32 1 → M128 33 (t - M1 32 0) = cm_f (cm_a (M1 32 0) (M1 32 1) (M1 56 tp) (M1 57 tp) (xa_ib 6 1 tp)) (M1 32 0) (M1 32 1 + 1 - M1 32 0).toNat (cm_f (cm_p (M 32 0) (M 32 1) x1 (fun p => M 56 p) (fun p => M 57 p)) 0 tp.toNat (fun _ => 0)) t)
          show Q 11 [(4, (0, 0, 1, 9, tp + 1)), (0, (2, 32, 0, 0, 0)), (1, (2, 55, 0, 0, 0)), (2, (0, 0, (-2147483648), 2147483647, x1)), (3, (2, 48, 0, 0, 0))] [] M128
          refine hgo.2.1 11 _ [(4, (0, 0, 0, 8, tp + 1)), (0, (2, 32, 0, 0, 0)), (1, (2, 55, 0, 0, 0)), (2, (0, 0, (-2147483648), 2147483647, x1)), (3, (2, 48, 0, 0, 0))] _ _ (xa_subI rfl rfl (fun _ _ _ _ => by omega) (xa_subR rfl (xa_subR rfl (xa_subI rfl rfl (fun _ _ _ _ => by omega) (xa_subR rfl (xa_sub0)))))) ?_
          have ep : ((tp.toNat : Nat) : Int) = tp := Int.toNat_of_nonneg (by omega)
          have en : (tp + 1).toNat = tp.toNat + 1 := by omega
          have q1 : cm_f (cm_p (M 32 0) (M 32 1) x1 (fun p => M 56 p) (fun p => M 57 p)) 0 (tp + 1).toNat (fun _ => 0) = cm_f (cm_a (M 32 0) (M 32 1) (M 56 tp) (M 57 tp) (xa_ib 6 1 tp)) (M 32 0) (M 32 1 + 1 - M 32 0).toNat (cm_f (cm_p (M 32 0) (M 32 1) x1 (fun p => M 56 p) (fun p => M 57 p)) 0 tp.toNat (fun _ => 0)) := by
            rw [en]
            show cm_p (M 32 0) (M 32 1) x1 (fun p => M 56 p) (fun p => M 57 p) (0 + ((tp.toNat : Nat) : Int)) (cm_f (cm_p (M 32 0) (M 32 1) x1 (fun p => M 56 p) (fun p => M 57 p)) 0 tp.toNat (fun _ => 0)) = _
            rw [Int.zero_add, ep]
            exact if_pos c2
          rw [e0, e1, eU, eV] at i4
          exact ih11 (tp + 1) M128 (fun q j hq => (i3 q j hq).trans (hk q j hq)) (by omega) (fun t t0 t1 => by rw [q1]; exact i4 t t0 t1) (by omega)
  refine hgo.1 11 [11, 62] 0 _ _ _ ?_
  show xa_C (xl_I b) A h0 _ 77 [(2, 33, 0, 0, 0), (0, 0, 0, 0, 0)] M _
  refine cx_77h ?_
  intro M131 (i1 : ∀ (q : Nat) (j : Int), ¬ q = 33 → M131 q j = M q j) (i2 : ∀ j : Int, 0 ≤ j → j < 61 → M131 33 j = 0)
  show Q 11 [(4, (0, 0, 0, 0, 0)), (0, (2, 32, 0, 0, 0)), (1, (2, 55, 0, 0, 0)), (2, (0, 0, (-2147483648), 2147483647, x1)), (3, (2, 48, 0, 0, 0))] [] M131
  refine hgo.2.1 11 _ [(4, (0, 0, 0, 8, 0)), (0, (2, 32, 0, 0, 0)), (1, (2, 55, 0, 0, 0)), (2, (0, 0, (-2147483648), 2147483647, x1)), (3, (2, 48, 0, 0, 0))] _ _ (xa_subI rfl rfl (fun _ _ _ _ => by omega) (xa_subR rfl (xa_subR rfl (xa_subI rfl rfl (fun _ _ _ _ => by omega) (xa_subR rfl (xa_sub0)))))) ?_
  exact loop11 9 0 M131 i1 (by omega) (fun t t0 t1 => i2 (t - M 32 0) (by omega) (by omega)) (by omega)
theorem cx_133_50 {b : Bool} {A : Nat → Nat} {h0 : g_H} {d : Nat} {M : xa_M} {post : Option xa_V → xa_M → Prop} {l1 u1 : Int} {x1 : Int} (k1 : (x1 ≤ 0) → post (some (0, 0, 0, 0, 0)) M) (k2 : (0 < x1) → ((xa_ib 6 1 (M 50 4)) ≤ x1) → post (some (0, 0, 0, 0, 0)) M) (k3 : (0 < x1) → (x1 < (xa_ib 6 1 (M 50 4))) → post (some (0, 0, 1, 1, 1)) M) : xa_C (xl_I b) A h0 (d + 1) 133 [(2, 50, 0, 0, 0), (0, 0, l1, u1, x1)] M post := by
  refine xa_C_arg [(2, 50, 0, 0, 0), (0, 0, (-2147483648), 2147483647, x1)] (xa_svR (xa_svI (fun _ _ _ _ => by omega) (xa_sv0))) ?_
  refine xa_meth (Q0 := (2, 2, false, 0, 0, 0)) (by decide +kernel) ⟨rfl, rfl⟩ (full := s_c_133) rfl rfl ?_
  intro hM hv Q hgo
  refine hgo.1 15 [] 0 _ _ _ ?_
  refine And.intro ?_ ?_
  · intro (c1 : x1 ≤ 0)
    show post (some (0, 0, 0, 0, 0)) M
    exact k1 c1
  · intro (c1 : 0 < x1)
    refine And.intro ?_ ?_
    · intro (c2 : (xa_ib 6 1 (M 50 4)) ≤ x1)
      show post (some (0, 0, 0, 0, 0)) M
      exact k2 c1 c2
    · intro (c2 : x1 < (xa_ib 6 1 (M 50 4)))
      show post (some (0, 0, 1, 1, 1)) M
      exact k3 c1 c2
theorem cw_132_50 {A : Nat → Nat} {h0 : g_H} {d : Nat} {M : xa_M} {post : Option xa_V → xa_M → Prop} {l1 u1 x1 : Int} (hL : 10 ≤ M 32 0 ∧ M 32 0 ≤ M 32 1 ∧ M 32 1 ≤ 400) (hp : 0 ≤ M 50 4 ∧ M 50 4 ≤ 8) (hUU : ∀ i : Int, 0 ≤ i → i < M 50 4 → (1 ≤ M 51 i ∧ M 51 i ≤ 2000) ∧ (1 ≤ M 52 i ∧ M 52 i ≤ 2000)) (k : ∀ (r : Int) (M1 : xa_M), cm_P (M 32 0) (M 32 1) (M 50 4) (fun p => M 51 p) (fun p => M 52 p) x1 r → (∀ (q : Nat) (j : Int), ¬ (q = 33 ∨ q = 48 ∨ q = 49) → M1 q j = M q j) → post (some (0, 0, (-4), 400, r)) M1) : xa_C (xl_I false) A h0 (d + 5) 132 [(2, 0, 0, 0, 0), (0, 0, l1, u1, x1)] M post := by
  refine xa_C_wk ?_
  refine xa_C_arg [(2, 0, 0, 0, 0), (0, 0, (-2147483648), 2147483647, x1)] (xa_svR (xa_svI (fun _ _ _ _ => by omega) xa_sv0)) ?_
  refine xa_meth (Q0 := (2, 1, false, 0, 0, 11)) (by decide +kernel) ⟨rfl, rfl⟩ (full := s_c_132) rfl rfl ?_
  intro hM hv Q hgo
  refine hgo.1 22 [] 0 _ _ _ ?_
  show xa_C (xl_I false) A h0 _ 133 [(2, 50, 0, 0, 0), (0, 0, (-2147483648), 2147483647, x1)] M _
  refine cx_133_50 ?_ ?_ ?_
  · intro (i1 : x1 ≤ 0)
    show xa_wk post (some (0, 0, (-1), (-1), (-1))) M
    exact xa_wkI (-1) rfl (fun _ _ => by omega) (k _ _ (by unfold cm_P; omega) (fun _ _ _ => rfl))
  · intro (i2 : 0 < x1) (i3 : (xa_ib 6 1 (M 50 4)) ≤ x1)
    show xa_wk post (some (0, 0, (-1), (-1), (-1))) M
    exact xa_wkI (-1) rfl (fun _ _ => by omega) (k _ _ (by unfold cm_P; omega) (fun _ _ _ => rfl))
  · intro (i4 : 0 < x1) (i5 : x1 < (xa_ib 6 1 (M 50 4)))
    show xa_C (xl_I false) A h0 _ 125 [(2, 32, 0, 0, 0)] M _
    refine cx_125_32 ?_ ?_
    · intro (i6 : ((M 32 1) - (M 32 0)) ≤ 60)
      show xa_C (xl_I false) A h0 _ 134 [(2, 32, 0, 0, 0), (2, 50, 0, 0, 0), (0, 0, (-2147483648), 2147483647, x1), (2, 48, 0, 0, 0)] M _
      refine cx_134_50 hL (by omega) hp hUU ?_
      intro M132 r133 (i7 : (∀ (q : Nat) (j : Int), ¬ (q = 33 ∨ q = 48 ∨ q = 49) → M132 q j = M q j)) (i8 : r133 = cm_r (M 32 0) (M 32 1) (M 50 4) x1 (fun p => M 51 p) (fun p => M 52 p))
      show xa_wk post (some (0, 0, (-2), 400, r133)) M132
      exact xa_wkI _ rfl (fun _ _ => by omega) (k _ _ (Or.inr ⟨by omega, Or.inr ⟨by omega, i8⟩⟩) i7)
    · intro (i9 : 60 < ((M 32 1) - (M 32 0)))
      show xa_wk post (some (0, 0, (-4), (-4), (-4))) M
      exact xa_wkI (-4) rfl (fun _ _ => by omega) (k _ _ (by unfold cm_P; omega) (fun _ _ _ => rfl))
theorem cx_133_55 {b : Bool} {A : Nat → Nat} {h0 : g_H} {d : Nat} {M : xa_M} {post : Option xa_V → xa_M → Prop} {l1 u1 : Int} {x1 : Int} (k1 : (x1 ≤ 0) → post (some (0, 0, 0, 0, 0)) M) (k2 : (0 < x1) → ((xa_ib 6 1 (M 55 4)) ≤ x1) → post (some (0, 0, 0, 0, 0)) M) (k3 : (0 < x1) → (x1 < (xa_ib 6 1 (M 55 4))) → post (some (0, 0, 1, 1, 1)) M) : xa_C (xl_I b) A h0 (d + 1) 133 [(2, 55, 0, 0, 0), (0, 0, l1, u1, x1)] M post := by
  refine xa_C_arg [(2, 55, 0, 0, 0), (0, 0, (-2147483648), 2147483647, x1)] (xa_svR (xa_svI (fun _ _ _ _ => by omega) (xa_sv0))) ?_
  refine xa_meth (Q0 := (2, 2, false, 0, 0, 0)) (by decide +kernel) ⟨rfl, rfl⟩ (full := s_c_133) rfl rfl ?_
  intro hM hv Q hgo
  refine hgo.1 15 [] 0 _ _ _ ?_
  refine And.intro ?_ ?_
  · intro (c1 : x1 ≤ 0)
    show post (some (0, 0, 0, 0, 0)) M
    exact k1 c1
  · intro (c1 : 0 < x1)
    refine And.intro ?_ ?_
    · intro (c2 : (xa_ib 6 1 (M 55 4)) ≤ x1)
      show post (some (0, 0, 0, 0, 0)) M
      exact k2 c1 c2
    · intro (c2 : x1 < (xa_ib 6 1 (M 55 4)))
      show post (some (0, 0, 1, 1, 1)) M
      exact k3 c1 c2
theorem cw_132_55 {A : Nat → Nat} {h0 : g_H} {d : Nat} {M : xa_M} {post : Option xa_V → xa_M → Prop} {l1 u1 x1 : Int} (hL : 10 ≤ M 32 0 ∧ M 32 0 ≤ M 32 1 ∧ M 32 1 ≤ 400) (hp : 0 ≤ M 55 4 ∧ M 55 4 ≤ 8) (hUU : ∀ i : Int, 0 ≤ i → i < M 55 4 → (1 ≤ M 56 i ∧ M 56 i ≤ 2000) ∧ (1 ≤ M 57 i ∧ M 57 i ≤ 2000)) (k : ∀ (r : Int) (M1 : xa_M), cm_P (M 32 0) (M 32 1) (M 55 4) (fun p => M 56 p) (fun p => M 57 p) x1 r → (∀ (q : Nat) (j : Int), ¬ (q = 33 ∨ q = 48 ∨ q = 49) → M1 q j = M q j) → post (some (0, 0, (-4), 400, r)) M1) : xa_C (xl_I true) A h0 (d + 5) 132 [(2, 0, 0, 0, 0), (0, 0, l1, u1, x1)] M post := by
  refine xa_C_wk ?_
  refine xa_C_arg [(2, 0, 0, 0, 0), (0, 0, (-2147483648), 2147483647, x1)] (xa_svR (xa_svI (fun _ _ _ _ => by omega) xa_sv0)) ?_
  refine xa_meth (Q0 := (2, 1, false, 0, 0, 11)) (by decide +kernel) ⟨rfl, rfl⟩ (full := s_c_132) rfl rfl ?_
  intro hM hv Q hgo
  refine hgo.1 22 [] 0 _ _ _ ?_
  show xa_C (xl_I true) A h0 _ 133 [(2, 55, 0, 0, 0), (0, 0, (-2147483648), 2147483647, x1)] M _
  refine cx_133_55 ?_ ?_ ?_
  · intro (i1 : x1 ≤ 0)
    show xa_wk post (some (0, 0, (-1), (-1), (-1))) M
    exact xa_wkI (-1) rfl (fun _ _ => by omega) (k _ _ (by unfold cm_P; omega) (fun _ _ _ => rfl))
  · intro (i2 : 0 < x1) (i3 : (xa_ib 6 1 (M 55 4)) ≤ x1)
    show xa_wk post (some (0, 0, (-1), (-1), (-1))) M
    exact xa_wkI (-1) rfl (fun _ _ => by omega) (k _ _ (by unfold cm_P; omega) (fun _ _ _ => rfl))
  · intro (i4 : 0 < x1) (i5 : x1 < (xa_ib 6 1 (M 55 4)))
    show xa_C (xl_I true) A h0 _ 125 [(2, 32, 0, 0, 0)] M _
    refine cx_125_32 ?_ ?_
    · intro (i6 : ((M 32 1) - (M 32 0)) ≤ 60)
      show xa_C (xl_I true) A h0 _ 134 [(2, 32, 0, 0, 0), (2, 55, 0, 0, 0), (0, 0, (-2147483648), 2147483647, x1), (2, 48, 0, 0, 0)] M _
      refine cx_134_55 hL (by omega) hp hUU ?_
      intro M134 r135 (i7 : (∀ (q : Nat) (j : Int), ¬ (q = 33 ∨ q = 48 ∨ q = 49) → M134 q j = M q j)) (i8 : r135 = cm_r (M 32 0) (M 32 1) (M 55 4) x1 (fun p => M 56 p) (fun p => M 57 p))
      show xa_wk post (some (0, 0, (-2), 400, r135)) M134
      exact xa_wkI _ rfl (fun _ _ => by omega) (k _ _ (Or.inr ⟨by omega, Or.inr ⟨by omega, i8⟩⟩) i7)
    · intro (i9 : 60 < ((M 32 1) - (M 32 0)))
      show xa_wk post (some (0, 0, (-4), (-4), (-4))) M
      exact xa_wkI (-4) rfl (fun _ _ => by omega) (k _ _ (by unfold cm_P; omega) (fun _ _ _ => rfl))
-- common: the reference
set_option maxRecDepth 20000
theorem xm_t92h {M : xa_M} (hM : xa_Mok xm_I M) (j : Int) (h0 : 0 ≤ j) (h1 : j < 401) : -2147483648 ≤ M 92 j ∧ M 92 j ≤ 2147483647 := by
  obtain ⟨n, rfl⟩ := Int.eq_ofNat_of_zero_le h0
  exact hM 92 _ _ rfl n (show n < 401 by omega) (show (0 : Nat) < 2 by decide)
theorem ms_commonF {A : Nat → Nat} {h0 : g_H} {d : Nat} {M : xa_M} {post : Option xa_V → xa_M → Prop} {l1 u1 : Int} {a : Int} (hI : xm_Inv M) (k : ∀ (lo hi r : Int) (M1 : xa_M), cm_P (M 60 15) (M 60 16) (M 60 11) (M 70) (M 71) a r → xm_cor M M1 → post (some (0, 0, lo, hi, r)) M1) : xa_C xm_I A h0 (d + 3) 261 [(2, 60, 0, 0, 0), (0, 0, l1, u1, a)] M post := by
  refine xa_C_arg [(2, 60, 0, 0, 0), (0, 0, (-2147483648), 2147483647, a)] (xa_svR (xa_svI (fun _ _ _ _ => by omega) xa_sv0)) ?_
  refine xa_meth (Q0 := (6, 1, false, 0, 0, 12)) (by decide +kernel) ⟨rfl, rfl⟩ (full := s_c_261) rfl rfl ?_
  intro hM hv Q hgo
  have b0 := xm_f0 hM
  have b6 := xm_f6 hM
  have b61 := xm_f61 hM
  have b11 := xm_f11 hM
  have b15 := xm_f15 hM
  have b16 := xm_f16 hM
  have hlh := hI.2.2.2.1
  have loop5 : ∀ (n : Nat) (x3 x2 : Int) (M1 : xa_M), 10 ≤ x3 ∧ x3 ≤ 401 → 10 ≤ x2 ∧ x2 ≤ 400 → xm_cor M M1 → ((0 < a ∧ a < xa_ib 6 1 (M 60 11)) ∧ M 60 16 - M 60 15 ≤ 60) → (M 60 15 ≤ x3 ∧ x3 ≤ M 60 16 + 1 ∧ M 60 15 ≤ x2 ∧ x2 ≤ M 60 16) → (∀ t : Int, M 60 15 ≤ t → t ≤ M 60 16 → M1 92 t = cm_w (M 60 15) (M 60 16) (M 60 11) a (M 70) (M 71) t) → x2 = cm_x (fun t => xa_bc (cm_w (M 60 15) (M 60 16) (M 60 11) a (M 70) (M 71) t)) (M 60 15) (x3 - M 60 15).toNat → 401 - x3 < (n : Int) → Q 237 [(3, (0, 0, 10, 401, x3)), (2, (0, 0, 10, 400, x2)), (0, (2, 60, 0, 0, 0))] [] M1 := by
    intro n
    induction n with
    | zero => intro x3 x2 M1 b3 b2 hc hgd h9 hw hx hms; omega
    | succ n ih5 =>
      intro x3 x2 M1 b3 b2 hc hgd h9 hw hx hms5
      have g2 := hw x2 (by omega) (by omega)
      have e0 := xm_corf hc 0 (by omega)
      have e6 := xm_corf hc 6 (by omega)
      have e61 := xm_corf hc 61 (by omega)
      have e11 := xm_corf hc 11 (by omega)
      have e15 := xm_corf hc 15 (by omega)
      have e16 := xm_corf hc 16 (by omega)
      refine hgo.1 25 [40, 62, 86, 97, 142, 237] 237 _ _ _ ?_
      refine And.intro ?_ ?_
      · intro (c1 : (M1 60 16) < x3)
        refine And.intro ?_ ?_
        · intro (c2 : ¬ (M1 92 x2) = 0)
          show xa_C xm_I A h0 _ 231 [(2, 60, 0, 0, 0), (1, 0, (-2147483648), 2147483647, M1 92 x2)] (xa_up M1 60 20 0) _
          refine ct_tell (n := 0) (by first | rfl | (simp [xa_up]; done) | omega) (by omega) (by omega) ?_
          show post (some (0, 0, 10, 400, x2)) (xa_up (xa_up (xa_up M1 60 20 0) 74 0 (M1 92 x2)) 60 20 1)
          have ei : (x3 - M 60 15).toNat = (M 60 16 + 1 - M 60 15).toNat := by omega
          rw [ei] at hx
          exact k _ _ x2 _ (Or.inr ⟨hgd.1, Or.inr ⟨hgd.2, cm_r1 hx (fun e => c2 (g2.trans e))⟩⟩) (xm_cor_f (by omega) (xm_cor_a rfl (xm_cor_f (by omega) hc)))
        · intro (c2 : (M1 92 x2) = 0)
          show post (some (0, 0, (-2), (-2), (-2))) M1
          have ei : (x3 - M 60 15).toNat = (M 60 16 + 1 - M 60 15).toNat := by omega
          rw [ei] at hx
          exact k _ _ (-2) _ (Or.inr ⟨hgd.1, Or.inr ⟨hgd.2, cm_r0 hx (g2.symm.trans c2)⟩⟩) hc
      · intro (c1 : x3 ≤ (M1 60 16))
        refine And.intro (show 0 ≤ x3 ∧ x3 < 401 by omega) ?_
        show xa_C xm_I A h0 _ 136 [(0, 0, (-2147483648), 2147483647, M1 92 x3)] M1 _
        refine ct_bitCount ?_
        show xa_C xm_I A h0 _ 136 [(0, 0, (-2147483648), 2147483647, M1 92 x2)] M1 _
        refine ct_bitCount ?_
        refine And.intro ?_ ?_
        · intro (c3 : (xa_bc (M1 92 x3)) ≤ (xa_bc (M1 92 x2)))
          show Q 237 [(3, (0, 0, 11, 402, x3 + 1)), (2, (0, 0, 10, 400, x2)), (0, (2, 60, 0, 0, 0))] [] M1
          refine hgo.2.1 237 _ [(3, (0, 0, 10, 401, x3 + 1)), (2, (0, 0, 10, 400, x2)), (0, (2, 60, 0, 0, 0))] _ _ (xa_subI rfl rfl (fun _ _ _ _ => by omega) (xa_subI rfl rfl (fun _ _ _ _ => by omega) (xa_subR rfl xa_sub0))) ?_
          have g1 := hw x3 (by omega) (by omega)
          rw [g1, g2] at c3
          exact ih5 (x3 + 1) x2 M1 (by omega) (by omega) hc hgd (by omega) hw (by rw [show (x3 + 1 - M 60 15).toNat = (x3 - M 60 15).toNat + 1 by omega]; exact cm_x0 hx (show x3 = M 60 15 + (((x3 - M 60 15).toNat : Nat) : Int) by omega) (Int.not_lt.mpr c3)) (by omega)
        · intro (c3 : (xa_bc (M1 92 x2)) < (xa_bc (M1 92 x3)))
          show Q 237 [(3, (0, 0, 11, 402, x3 + 1)), (2, (0, 0, 10, 401, x3)), (0, (2, 60, 0, 0, 0))] [] M1
          refine hgo.2.1 237 _ [(3, (0, 0, 10, 401, x3 + 1)), (2, (0, 0, 10, 400, x3)), (0, (2, 60, 0, 0, 0))] _ _ (xa_subI rfl rfl (fun _ _ _ _ => by omega) (xa_subI rfl rfl (fun _ _ _ _ => by omega) (xa_subR rfl xa_sub0))) ?_
          have g1 := hw x3 (by omega) (by omega)
          rw [g1, g2] at c3
          exact ih5 (x3 + 1) x3 M1 (by omega) (by omega) hc hgd (by omega) hw (by rw [show (x3 + 1 - M 60 15).toNat = (x3 - M 60 15).toNat + 1 by omega]; exact cm_x1 hx (show x3 = M 60 15 + (((x3 - M 60 15).toNat : Nat) : Int) by omega) c3) (by omega)
  have loop1 : ∀ (n : Nat) (x2 x1 : Int) (M1 : xa_M), 0 ≤ x2 ∧ x2 ≤ 8 → xm_cor M M1 → ((0 < a ∧ a < xa_ib 6 1 (M 60 11)) ∧ M 60 16 - M 60 15 ≤ 60) → (x1 = a ∧ x2 ≤ M 60 11) → (∀ t : Int, M 60 15 ≤ t → t ≤ M 60 16 → M1 92 t = cm_f (cm_p (M 60 15) (M 60 16) a (M 70) (M 71)) 0 x2.toNat (fun _ => 0) t) → 8 - x2 < (n : Int) → Q 62 [(2, (0, 0, 0, 8, x2)), (1, (0, 0, (-2147483648), 2147483647, x1)), (0, (2, 60, 0, 0, 0))] [] M1 := by
    intro n
    induction n with
    | zero => intro x2 x1 M1 b2 hc hgd h9 hw hms; omega
    | succ n ih1 =>
      intro x2 x1 M1 b2 hc hgd h9 hw hms1
      have e0 := xm_corf hc 0 (by omega)
      have e6 := xm_corf hc 6 (by omega)
      have e61 := xm_corf hc 61 (by omega)
      have e11 := xm_corf hc 11 (by omega)
      have e15 := xm_corf hc 15 (by omega)
      have e16 := xm_corf hc 16 (by omega)
      have loop2 : ∀ (n : Nat) (x3 : Int) (M1 : xa_M), 10 ≤ x3 ∧ x3 ≤ 401 → 0 ≤ x2 ∧ x2 ≤ 7 → xm_cor M M1 → x2 < M 60 11 → xa_ib 3 (xa_ib 7 a x2) 1 = 1 → (M 60 15 ≤ x3 ∧ x3 ≤ M 60 16 + 1) → (∀ t : Int, M 60 15 ≤ t → t ≤ M 60 16 → M1 92 t = cm_f (cm_a (M 60 15) (M 60 16) (M 70 x2) (M 71 x2) (xa_ib 6 1 x2)) (M 60 15) (x3 - M 60 15).toNat (cm_f (cm_p (M 60 15) (M 60 16) a (M 70) (M 71)) 0 x2.toNat (fun _ => 0)) t) → 401 - x3 < (n : Int) → Q 86 [(3, (0, 0, 10, 401, x3)), (2, (0, 0, 0, 7, x2)), (1, (0, 0, (-2147483648), 2147483647, x1)), (0, (2, 60, 0, 0, 0))] [] M1 := by
        intro n
        induction n with
        | zero => intro x3 M1 b3 f2 hc hx2 hbit h93 hw2 hms; omega
        | succ n ih2 =>
          intro x3 M1 b3 f2 hc hx2 hbit h93 hw2 hms2
          have p7 := hI.2.2.1 x2 (by omega) hx2
          have t70 := xm_t70 hM x2 (by omega) (by omega)
          have t71 := xm_t71 hM x2 (by omega) (by omega)
          have e0 := xm_corf hc 0 (by omega)
          have e6 := xm_corf hc 6 (by omega)
          have e61 := xm_corf hc 61 (by omega)
          have e11 := xm_corf hc 11 (by omega)
          have e15 := xm_corf hc 15 (by omega)
          have e16 := xm_corf hc 16 (by omega)
          have loop3 : ∀ (n : Nat) (x4 : Int) (M1 : xa_M), 10 ≤ x4 ∧ x4 ≤ 401 → 10 ≤ x3 ∧ x3 ≤ 400 → 0 ≤ x2 ∧ x2 ≤ 7 → xm_cor M M1 → x2 < M 60 11 → (x3 ≤ x4 ∧ x4 ≤ M 60 16 + 1 ∧ x3 ≤ M 60 16) → (∀ t : Int, M 60 15 ≤ t → t ≤ M 60 16 → M1 92 t = cm_f (cm_b (M 60 15) (M 60 16) (M 70 x2) (M 71 x2) (xa_ib 6 1 x2) x3) x3 (x4 - x3).toNat (cm_f (cm_a (M 60 15) (M 60 16) (M 70 x2) (M 71 x2) (xa_ib 6 1 x2)) (M 60 15) (x3 - M 60 15).toNat (cm_f (cm_p (M 60 15) (M 60 16) a (M 70) (M 71)) 0 x2.toNat (fun _ => 0))) t) → 401 - x4 < (n : Int) → Q 97 [(4, (0, 0, 10, 401, x4)), (3, (0, 0, 10, 400, x3)), (2, (0, 0, 0, 7, x2)), (1, (0, 0, (-2147483648), 2147483647, x1)), (0, (2, 60, 0, 0, 0))] [] M1 := by
            intro n
            induction n with
            | zero => intro x4 M1 b4 f3 f2 hc hx2 h94 hw3 hms; omega
            | succ n ih3 =>
              intro x4 M1 b4 f3 f2 hc hx2 h94 hw3 hms3
              refine hgo.2.2 _ _ _ _ (fun hM1 _ => ?_)
              have e0 := xm_corf hc 0 (by omega)
              have e6 := xm_corf hc 6 (by omega)
              have e61 := xm_corf hc 61 (by omega)
              have e11 := xm_corf hc 11 (by omega)
              have e15 := xm_corf hc 15 (by omega)
              have e16 := xm_corf hc 16 (by omega)
              have loop4 : ∀ (n : Nat) (x5 : Int) (M1 : xa_M), 10 ≤ x5 ∧ x5 ≤ 401 → 10 ≤ x4 ∧ x4 ≤ 400 → 10 ≤ x3 ∧ x3 ≤ 400 → 0 ≤ x2 ∧ x2 ≤ 7 → xm_cor M M1 → x2 < M 60 11 → (M 60 15 ≤ x5 ∧ x5 ≤ M 60 16 + 1 ∧ x4 ≤ M 60 16) → (((∃ c : Int, M 60 15 ≤ c ∧ c < x5 ∧ x3 * x4 * M 71 x2 % (c * M 70 x2) = 0 ∧ M 60 15 ≤ x3 * x4 * M 71 x2 / (c * M 70 x2) ∧ x3 * x4 * M 71 x2 / (c * M 70 x2) ≤ M 60 16) → ∀ t : Int, M 60 15 ≤ t → t ≤ M 60 16 → M1 92 t = cm_m (xa_ib 6 1 x2) x3 x4 (cm_f (cm_b (M 60 15) (M 60 16) (M 70 x2) (M 71 x2) (xa_ib 6 1 x2) x3) x3 (x4 - x3).toNat (cm_f (cm_a (M 60 15) (M 60 16) (M 70 x2) (M 71 x2) (xa_ib 6 1 x2)) (M 60 15) (x3 - M 60 15).toNat (cm_f (cm_p (M 60 15) (M 60 16) a (M 70) (M 71)) 0 x2.toNat (fun _ => 0)))) t) ∧ (¬ (∃ c : Int, M 60 15 ≤ c ∧ c < x5 ∧ x3 * x4 * M 71 x2 % (c * M 70 x2) = 0 ∧ M 60 15 ≤ x3 * x4 * M 71 x2 / (c * M 70 x2) ∧ x3 * x4 * M 71 x2 / (c * M 70 x2) ≤ M 60 16) → ∀ t : Int, M 60 15 ≤ t → t ≤ M 60 16 → M1 92 t = cm_f (cm_b (M 60 15) (M 60 16) (M 70 x2) (M 71 x2) (xa_ib 6 1 x2) x3) x3 (x4 - x3).toNat (cm_f (cm_a (M 60 15) (M 60 16) (M 70 x2) (M 71 x2) (xa_ib 6 1 x2)) (M 60 15) (x3 - M 60 15).toNat (cm_f (cm_p (M 60 15) (M 60 16) a (M 70) (M 71)) 0 x2.toNat (fun _ => 0))) t)) → 401 - x5 < (n : Int) → Q 142 [(5, (0, 0, 10, 401, x5)), (4, (0, 0, 10, 400, x4)), (3, (0, 0, 10, 400, x3)), (2, (0, 0, 0, 7, x2)), (1, (0, 0, (-2147483648), 2147483647, x1)), (0, (2, 60, 0, 0, 0))] [] M1 := by
                intro n
                induction n with
                | zero => intro x5 M1 b5 f4 f3 f2 hc hx2 h95 hw4 hms; omega
                | succ n ih4 =>
                  intro x5 M1 b5 f4 f3 f2 hc hx2 h95 hw4 hms4
                  have e0 := xm_corf hc 0 (by omega)
                  have e6 := xm_corf hc 6 (by omega)
                  have e61 := xm_corf hc 61 (by omega)
                  have e11 := xm_corf hc 11 (by omega)
                  have e15 := xm_corf hc 15 (by omega)
                  have e16 := xm_corf hc 16 (by omega)
                  refine hgo.1 43 [40, 62, 86, 97, 142, 237] 142 _ _ _ ?_
                  refine And.intro ?_ ?_
                  · intro (c1 : (M1 60 16) < x5)
                    show Q 97 [(4, (0, 0, 11, 401, x4 + 1)), (5, (0, 0, 10, 401, x5)), (3, (0, 0, 10, 400, x3)), (2, (0, 0, 0, 7, x2)), (1, (0, 0, (-2147483648), 2147483647, x1)), (0, (2, 60, 0, 0, 0))] [] M1
                    refine hgo.2.1 97 _ [(4, (0, 0, 10, 401, x4 + 1)), (3, (0, 0, 10, 400, x3)), (2, (0, 0, 0, 7, x2)), (1, (0, 0, (-2147483648), 2147483647, x1)), (0, (2, 60, 0, 0, 0))] _ _ (xa_subI rfl rfl (fun _ _ _ _ => by omega) (xa_subI rfl rfl (fun _ _ _ _ => by omega) (xa_subI rfl rfl (fun _ _ _ _ => by omega) (xa_subI rfl rfl (fun _ _ _ _ => by omega) (xa_subR rfl xa_sub0))))) ?_
                    have e5 : x5 = M 60 16 + 1 := by omega
                    rw [e5] at hw4
                    exact ih3 (x4 + 1) M1 (by omega) (by omega) (by omega) hc (by omega) (by omega) (fun t t0 t1 => by
                      rw [cm_fp (show x3 ≤ x4 by omega)]
                      by_cases hk : (∃ c : Int, M 60 15 ≤ c ∧ c < M 60 16 + 1 ∧ x3 * x4 * M 71 x2 % (c * M 70 x2) = 0 ∧ M 60 15 ≤ x3 * x4 * M 71 x2 / (c * M 70 x2) ∧ x3 * x4 * M 71 x2 / (c * M 70 x2) ≤ M 60 16)
                      · rw [cm_b1 ((cm_ke (by omega) (by omega)).mpr (by obtain ⟨c, g1, g2, g3⟩ := hk; exact ⟨c, g1, by omega, g3⟩))]
                        exact hw4.1 hk t t0 t1
                      · rw [cm_b0 (fun h => hk (by obtain ⟨c, g1, g2, g3⟩ := (cm_ke (by omega) (by omega)).mp h; exact ⟨c, g1, by omega, g3⟩))]
                        exact hw4.2 hk t t0 t1) (by omega)
                  · intro (c1 : x5 ≤ (M1 60 16))
                    show xa_C xm_I A h0 _ 258 [(2, 60, 0, 0, 0), (0, 0, 0, 7, x2), (0, 0, 10, 400, x3), (0, 0, 10, 400, x4), (0, 0, 10, 401, x5)] M1 _
                    refine ct_fourthF (xm_Inv_cor hc hI) (by omega) (by rw [xm_corf hc 11 (by omega)]; omega) (by omega) (by omega) (by omega) (by omega) (by omega) (by omega) (fun r2 br2 er2 => ?_)
                    rw [hc 70 x2 (by unfold xm_scr; omega), hc 71 x2 (by unfold xm_scr; omega)] at er2
                    show xa_C xm_I A h0 _ 214 [(0, 0, 0, 1000, r2), (0, 0, 10, 400, M1 60 15), (0, 0, 10, 400, M1 60 16)] M1 _
                    refine ct_in ?_ ?_
                    · intro (i3 : (M1 60 15) ≤ r2 ∧ r2 ≤ (M1 60 16))
                      show Q 142 [(5, (0, 0, 11, 402, x5 + 1)), (4, (0, 0, 10, 400, x4)), (3, (0, 0, 10, 400, x3)), (2, (0, 0, 0, 7, x2)), (1, (0, 0, (-2147483648), 2147483647, x1)), (0, (2, 60, 0, 0, 0))] [] (xa_up (xa_up M1 92 x3 (xa_ib 4 (M1 92 x3) (xa_ib 6 1 x2))) 92 x4 (xa_ib 4 ((xa_up M1 92 x3 (xa_ib 4 (M1 92 x3) (xa_ib 6 1 x2))) 92 x4) (xa_ib 6 1 x2)))
                      refine hgo.2.1 142 _ [(5, (0, 0, 10, 401, x5 + 1)), (4, (0, 0, 10, 400, x4)), (3, (0, 0, 10, 400, x3)), (2, (0, 0, 0, 7, x2)), (1, (0, 0, (-2147483648), 2147483647, x1)), (0, (2, 60, 0, 0, 0))] _ _ (xa_subI rfl rfl (fun _ _ _ _ => by omega) (xa_subI rfl rfl (fun _ _ _ _ => by omega) (xa_subI rfl rfl (fun _ _ _ _ => by omega) (xa_subI rfl rfl (fun _ _ _ _ => by omega) (xa_subI rfl rfl (fun _ _ _ _ => by omega) (xa_subR rfl xa_sub0)))))) ?_
                      have kc : x3 * x4 * M 71 x2 % (x5 * M 70 x2) = 0 ∧ M 60 15 ≤ x3 * x4 * M 71 x2 / (x5 * M 70 x2) ∧ x3 * x4 * M 71 x2 / (x5 * M 70 x2) ≤ M 60 16 := by
                        rcases er2 with ⟨e1, e2⟩ | ⟨e1, e2, e3, e4⟩
                        · omega
                        · exact ⟨e1, by omega, by omega⟩
                      exact ih4 (x5 + 1) (xa_up (xa_up M1 92 x3 (xa_ib 4 (M1 92 x3) (xa_ib 6 1 x2))) 92 x4 (xa_ib 4 ((xa_up M1 92 x3 (xa_ib 4 (M1 92 x3) (xa_ib 6 1 x2))) 92 x4) (xa_ib 6 1 x2))) (by omega) (by omega) (by omega) (by omega) (xm_cor_a rfl (xm_cor_a rfl hc)) (by omega) (by omega) ⟨fun _ => by
                        by_cases hk : (∃ c : Int, M 60 15 ≤ c ∧ c < x5 ∧ x3 * x4 * M 71 x2 % (c * M 70 x2) = 0 ∧ M 60 15 ≤ x3 * x4 * M 71 x2 / (c * M 70 x2) ∧ x3 * x4 * M 71 x2 / (c * M 70 x2) ≤ M 60 16)
                        · have h := cm_up (g := fun t => t) (m := (xa_ib 6 1 x2)) (fun x y e => e) (hw4.1 hk) (show M 60 15 ≤ x3 ∧ x3 ≤ M 60 16 by omega) (show M 60 15 ≤ x4 ∧ x4 ≤ M 60 16 by omega)
                          rw [cm_mm] at h
                          exact h
                        · exact cm_up (g := fun t => t) (m := (xa_ib 6 1 x2)) (fun x y e => e) (hw4.2 hk) (show M 60 15 ≤ x3 ∧ x3 ≤ M 60 16 by omega) (show M 60 15 ≤ x4 ∧ x4 ≤ M 60 16 by omega), fun h => absurd ⟨x5, by omega, by omega, kc⟩ h⟩ (by omega)
                    · intro (i3 : ¬ ((M1 60 15) ≤ r2 ∧ r2 ≤ (M1 60 16)))
                      show Q 142 [(5, (0, 0, 11, 402, x5 + 1)), (4, (0, 0, 10, 400, x4)), (3, (0, 0, 10, 400, x3)), (2, (0, 0, 0, 7, x2)), (1, (0, 0, (-2147483648), 2147483647, x1)), (0, (2, 60, 0, 0, 0))] [] M1
                      refine hgo.2.1 142 _ [(5, (0, 0, 10, 401, x5 + 1)), (4, (0, 0, 10, 400, x4)), (3, (0, 0, 10, 400, x3)), (2, (0, 0, 0, 7, x2)), (1, (0, 0, (-2147483648), 2147483647, x1)), (0, (2, 60, 0, 0, 0))] _ _ (xa_subI rfl rfl (fun _ _ _ _ => by omega) (xa_subI rfl rfl (fun _ _ _ _ => by omega) (xa_subI rfl rfl (fun _ _ _ _ => by omega) (xa_subI rfl rfl (fun _ _ _ _ => by omega) (xa_subI rfl rfl (fun _ _ _ _ => by omega) (xa_subR rfl xa_sub0)))))) ?_
                      have ek : (∃ c : Int, M 60 15 ≤ c ∧ c < x5 + 1 ∧ x3 * x4 * M 71 x2 % (c * M 70 x2) = 0 ∧ M 60 15 ≤ x3 * x4 * M 71 x2 / (c * M 70 x2) ∧ x3 * x4 * M 71 x2 / (c * M 70 x2) ≤ M 60 16) ↔ (∃ c : Int, M 60 15 ≤ c ∧ c < x5 ∧ x3 * x4 * M 71 x2 % (c * M 70 x2) = 0 ∧ M 60 15 ≤ x3 * x4 * M 71 x2 / (c * M 70 x2) ∧ x3 * x4 * M 71 x2 / (c * M 70 x2) ≤ M 60 16) := by
                        constructor
                        · rintro ⟨c, g1, g2, g3⟩
                          by_cases e : c = x5
                          · exfalso
                            rw [e] at g3
                            rcases er2 with ⟨e1, e2⟩ | ⟨e1, e2, e3, e4⟩
                            · exact e1 g3.1
                            · omega
                          · exact ⟨c, g1, by omega, g3⟩
                        · rintro ⟨c, g1, g2, g3⟩
                          exact ⟨c, g1, by omega, g3⟩
                      exact ih4 (x5 + 1) M1 (by omega) (by omega) (by omega) (by omega) hc (by omega) (by omega) ⟨fun h => hw4.1 (ek.mp h), fun h => hw4.2 (fun g => h (ek.mpr g))⟩ (by omega)
              refine hgo.1 26 [40, 62, 86, 97, 142, 237] 97 _ _ _ ?_
              refine And.intro ?_ ?_
              · intro (c1 : (M1 60 16) < x4)
                show Q 86 [(3, (0, 0, 11, 401, x3 + 1)), (4, (0, 0, 10, 401, x4)), (2, (0, 0, 0, 7, x2)), (1, (0, 0, (-2147483648), 2147483647, x1)), (0, (2, 60, 0, 0, 0))] [] M1
                refine hgo.2.1 86 _ [(3, (0, 0, 10, 401, x3 + 1)), (2, (0, 0, 0, 7, x2)), (1, (0, 0, (-2147483648), 2147483647, x1)), (0, (2, 60, 0, 0, 0))] _ _ (xa_subI rfl rfl (fun _ _ _ _ => by omega) (xa_subI rfl rfl (fun _ _ _ _ => by omega) (xa_subI rfl rfl (fun _ _ _ _ => by omega) (xa_subR rfl xa_sub0)))) ?_
                exact ih2 (x3 + 1) M1 (by omega) (by omega) hc (by omega) hbit (by omega) (by rw [show x4 = M 60 16 + 1 by omega] at hw3; intro t t0 t1; rw [cm_fp (show M 60 15 ≤ x3 by omega)]; exact hw3 t t0 t1) (by omega)
              · intro (c1 : x4 ≤ (M1 60 16))
                show xa_C xm_I A h0 _ 248 [(0, 0, (-2147483648), 2147483647, M1 92 x3), (0, 0, 0, 7, x2)] M1 _
                refine ct_has (fun r2 zr2 er2 => ?_)
                refine And.intro ?_ ?_
                · intro (c3 : r2 = 0)
                  show Q 142 [(5, (0, 0, 10, 400, M1 60 15)), (4, (0, 0, 10, 401, x4)), (3, (0, 0, 10, 400, x3)), (2, (0, 0, 0, 7, x2)), (1, (0, 0, (-2147483648), 2147483647, x1)), (0, (2, 60, 0, 0, 0))] [] M1
                  refine hgo.2.1 142 _ [(5, (0, 0, 10, 401, M1 60 15)), (4, (0, 0, 10, 400, x4)), (3, (0, 0, 10, 400, x3)), (2, (0, 0, 0, 7, x2)), (1, (0, 0, (-2147483648), 2147483647, x1)), (0, (2, 60, 0, 0, 0))] _ _ (xa_subI rfl rfl (fun _ _ _ _ => by omega) (xa_subI rfl rfl (fun _ _ _ _ => by omega) (xa_subI rfl rfl (fun _ _ _ _ => by omega) (xa_subI rfl rfl (fun _ _ _ _ => by omega) (xa_subI rfl rfl (fun _ _ _ _ => by omega) (xa_subR rfl xa_sub0)))))) ?_
                  exact loop4 402 (M1 60 15) M1 (by omega) (by omega) (by omega) (by omega) hc (by omega) (by omega) ⟨fun h => by obtain ⟨c, g1, g2, -⟩ := h; omega, fun _ => hw3⟩ (by omega)
                · intro (c3 : ¬ r2 = 0)
                  refine And.intro (show 0 ≤ x4 ∧ x4 < 401 by omega) ?_
                  show xa_C xm_I A h0 _ 248 [(0, 0, (-2147483648), 2147483647, M1 92 x4), (0, 0, 0, 7, x2)] M1 _
                  refine ct_has (fun r4 zr4 er4 => ?_)
                  refine And.intro ?_ ?_
                  · intro (c5 : r4 = 0)
                    show Q 142 [(5, (0, 0, 10, 400, M1 60 15)), (4, (0, 0, 10, 401, x4)), (3, (0, 0, 10, 400, x3)), (2, (0, 0, 0, 7, x2)), (1, (0, 0, (-2147483648), 2147483647, x1)), (0, (2, 60, 0, 0, 0))] [] M1
                    refine hgo.2.1 142 _ [(5, (0, 0, 10, 401, M1 60 15)), (4, (0, 0, 10, 400, x4)), (3, (0, 0, 10, 400, x3)), (2, (0, 0, 0, 7, x2)), (1, (0, 0, (-2147483648), 2147483647, x1)), (0, (2, 60, 0, 0, 0))] _ _ (xa_subI rfl rfl (fun _ _ _ _ => by omega) (xa_subI rfl rfl (fun _ _ _ _ => by omega) (xa_subI rfl rfl (fun _ _ _ _ => by omega) (xa_subI rfl rfl (fun _ _ _ _ => by omega) (xa_subI rfl rfl (fun _ _ _ _ => by omega) (xa_subR rfl xa_sub0)))))) ?_
                    exact loop4 402 (M1 60 15) M1 (by omega) (by omega) (by omega) (by omega) hc (by omega) (by omega) ⟨fun h => by obtain ⟨c, g1, g2, -⟩ := h; omega, fun _ => hw3⟩ (by omega)
                  · intro (c5 : ¬ r4 = 0)
                    show Q 97 [(4, (0, 0, 11, 402, x4 + 1)), (3, (0, 0, 10, 400, x3)), (2, (0, 0, 0, 7, x2)), (1, (0, 0, (-2147483648), 2147483647, x1)), (0, (2, 60, 0, 0, 0))] [] M1
                    refine hgo.2.1 97 _ [(4, (0, 0, 10, 401, x4 + 1)), (3, (0, 0, 10, 400, x3)), (2, (0, 0, 0, 7, x2)), (1, (0, 0, (-2147483648), 2147483647, x1)), (0, (2, 60, 0, 0, 0))] _ _ (xa_subI rfl rfl (fun _ _ _ _ => by omega) (xa_subI rfl rfl (fun _ _ _ _ => by omega) (xa_subI rfl rfl (fun _ _ _ _ => by omega) (xa_subI rfl rfl (fun _ _ _ _ => by omega) (xa_subR rfl xa_sub0))))) ?_
                    have v3 := xm_t92h hM1 x3 (by omega) (by omega)
                    have v4 := xm_t92h hM1 x4 (by omega) (by omega)
                    have u3 := cm_has v3.1 v3.2 (show 0 ≤ x2 by omega) (show x2 < 8 by omega) (er2.mp (by omega))
                    have u4 := cm_has v4.1 v4.2 (show 0 ≤ x2 by omega) (show x2 < 8 by omega) (er4.mp (by omega))
                    rw [hw3 x3 (by omega) (by omega)] at u3
                    rw [hw3 x4 (by omega) (by omega)] at u4
                    exact ih3 (x4 + 1) M1 (by omega) (by omega) (by omega) hc (by omega) (by omega) (fun t t0 t1 => by
                      rw [cm_fp (show x3 ≤ x4 by omega), hw3 t t0 t1]
                      by_cases hk : cm_k (M 60 15) (M 60 16) (M 70 x2) (M 71 x2) x3 x4
                      · rw [cm_b1 hk]
                        unfold cm_m
                        split
                        next h =>
                          rcases h with h | h
                          · rw [h]
                            exact u3.symm
                          · rw [h]
                            exact u4.symm
                        next => rfl
                      · rw [cm_b0 hk]) (by omega)
          refine hgo.1 11 [40, 62, 86, 97, 142, 237] 86 _ _ _ ?_
          refine And.intro ?_ ?_
          · intro (c1 : (M1 60 16) < x3)
            show Q 62 [(2, (0, 0, 1, 8, x2 + 1)), (3, (0, 0, 10, 401, x3)), (1, (0, 0, (-2147483648), 2147483647, x1)), (0, (2, 60, 0, 0, 0))] [] M1
            refine hgo.2.1 62 _ [(2, (0, 0, 0, 8, x2 + 1)), (1, (0, 0, (-2147483648), 2147483647, x1)), (0, (2, 60, 0, 0, 0))] _ _ (xa_subI rfl rfl (fun _ _ _ _ => by omega) (xa_subI rfl rfl (fun _ _ _ _ => by omega) (xa_subR rfl xa_sub0))) ?_
            have e3 : x3 = M 60 16 + 1 := by omega
            rw [e3] at hw2
            have ep : ((x2.toNat : Nat) : Int) = x2 := Int.toNat_of_nonneg (by omega)
            have en : (x2 + 1).toNat = x2.toNat + 1 := by omega
            have q1 : cm_f (cm_p (M 60 15) (M 60 16) a (M 70) (M 71)) 0 (x2 + 1).toNat (fun _ => 0) = cm_f (cm_a (M 60 15) (M 60 16) (M 70 x2) (M 71 x2) (xa_ib 6 1 x2)) (M 60 15) (M 60 16 + 1 - M 60 15).toNat (cm_f (cm_p (M 60 15) (M 60 16) a (M 70) (M 71)) 0 x2.toNat (fun _ => 0)) := by
              rw [en]
              show cm_p (M 60 15) (M 60 16) a (M 70) (M 71) (0 + ((x2.toNat : Nat) : Int)) (cm_f (cm_p (M 60 15) (M 60 16) a (M 70) (M 71)) 0 x2.toNat (fun _ => 0)) = _
              rw [Int.zero_add, ep]
              exact if_pos hbit
            exact ih1 (x2 + 1) x1 M1 (by omega) hc hgd (by omega) (fun t t0 t1 => by rw [q1]; exact hw2 t t0 t1) (by omega)
          · intro (c1 : x3 ≤ (M1 60 16))
            show Q 97 [(4, (0, 0, 10, 401, x3)), (3, (0, 0, 10, 401, x3)), (2, (0, 0, 0, 7, x2)), (1, (0, 0, (-2147483648), 2147483647, x1)), (0, (2, 60, 0, 0, 0))] [] M1
            refine hgo.2.1 97 _ [(4, (0, 0, 10, 401, x3)), (3, (0, 0, 10, 400, x3)), (2, (0, 0, 0, 7, x2)), (1, (0, 0, (-2147483648), 2147483647, x1)), (0, (2, 60, 0, 0, 0))] _ _ (xa_subI rfl rfl (fun _ _ _ _ => by omega) (xa_subI rfl rfl (fun _ _ _ _ => by omega) (xa_subI rfl rfl (fun _ _ _ _ => by omega) (xa_subI rfl rfl (fun _ _ _ _ => by omega) (xa_subR rfl xa_sub0))))) ?_
            exact loop3 402 x3 M1 (by omega) (by omega) (by omega) hc (by omega) (by omega) (by rw [show (x3 - x3).toNat = 0 by omega]; exact hw2) (by omega)
      refine hgo.1 16 [40, 62, 86, 97, 142, 237] 62 _ _ _ ?_
      refine And.intro ?_ ?_
      · intro (c1 : (M1 60 11) ≤ x2)
        show Q 237 [(3, (0, 0, 10, 400, M1 60 15)), (2, (0, 0, 10, 400, M1 60 15)), (1, (0, 0, (-2147483648), 2147483647, x1)), (0, (2, 60, 0, 0, 0))] [] M1
        refine hgo.2.1 237 _ [(3, (0, 0, 10, 401, M1 60 15)), (2, (0, 0, 10, 400, M1 60 15)), (0, (2, 60, 0, 0, 0))] _ _ (xa_subI rfl rfl (fun _ _ _ _ => by omega) (xa_subI rfl rfl (fun _ _ _ _ => by omega) (xa_subR rfl xa_sub0))) ?_
        exact loop5 402 (M1 60 15) (M1 60 15) M1 (by omega) (by omega) hc hgd (by omega) (by rw [show x2 = M 60 11 by omega] at hw; exact hw) (by rw [show (M1 60 15 - M 60 15).toNat = 0 by omega]; exact e15) (by omega)
      · intro (c1 : x2 < (M1 60 11))
        show xa_C xm_I A h0 _ 248 [(0, 0, (-2147483648), 2147483647, x1), (0, 0, 0, 8, x2)] M1 _
        refine ct_has (fun r2 zr2 er2 => ?_)
        refine And.intro ?_ ?_
        · intro (c3 : ¬ r2 = 0)
          show Q 86 [(3, (0, 0, 10, 400, M1 60 15)), (2, (0, 0, 0, 8, x2)), (1, (0, 0, (-2147483648), 2147483647, x1)), (0, (2, 60, 0, 0, 0))] [] M1
          refine hgo.2.1 86 _ [(3, (0, 0, 10, 401, M1 60 15)), (2, (0, 0, 0, 7, x2)), (1, (0, 0, (-2147483648), 2147483647, x1)), (0, (2, 60, 0, 0, 0))] _ _ (xa_subI rfl rfl (fun _ _ _ _ => by omega) (xa_subI rfl rfl (fun _ _ _ _ => by omega) (xa_subI rfl rfl (fun _ _ _ _ => by omega) (xa_subR rfl xa_sub0)))) ?_
          exact loop2 402 (M1 60 15) M1 (by omega) (by omega) hc (by omega) (by rw [← h9.1]; exact er2.mp (by omega)) (by omega) (by rw [show (M1 60 15 - M 60 15).toNat = 0 by omega]; exact hw) (by omega)
        · intro (c3 : r2 = 0)
          show Q 62 [(2, (0, 0, 1, 9, x2 + 1)), (1, (0, 0, (-2147483648), 2147483647, x1)), (0, (2, 60, 0, 0, 0))] [] M1
          refine hgo.2.1 62 _ [(2, (0, 0, 0, 8, x2 + 1)), (1, (0, 0, (-2147483648), 2147483647, x1)), (0, (2, 60, 0, 0, 0))] _ _ (xa_subI rfl rfl (fun _ _ _ _ => by omega) (xa_subI rfl rfl (fun _ _ _ _ => by omega) (xa_subR rfl xa_sub0))) ?_
          have ep : ((x2.toNat : Nat) : Int) = x2 := Int.toNat_of_nonneg (by omega)
          have en : (x2 + 1).toNat = x2.toNat + 1 := by omega
          have q1 : cm_f (cm_p (M 60 15) (M 60 16) a (M 70) (M 71)) 0 (x2 + 1).toNat (fun _ => 0) = cm_f (cm_p (M 60 15) (M 60 16) a (M 70) (M 71)) 0 x2.toNat (fun _ => 0) := by
            rw [en]
            show cm_p (M 60 15) (M 60 16) a (M 70) (M 71) (0 + ((x2.toNat : Nat) : Int)) (cm_f (cm_p (M 60 15) (M 60 16) a (M 70) (M 71)) 0 x2.toNat (fun _ => 0)) = _
            rw [Int.zero_add, ep]
            exact if_neg (by rw [← h9.1]; exact fun e => absurd (er2.mpr e) (by omega))
          exact ih1 (x2 + 1) x1 M1 (by omega) hc hgd (by omega) (fun t t0 t1 => by rw [q1]; exact hw t t0 t1) (by omega)
  have loop0 : ∀ (n : Nat) (x2 x1 : Int) (M1 : xa_M), 0 ≤ x2 ∧ x2 ≤ 401 → xm_cor M M1 → ((0 < a ∧ a < xa_ib 6 1 (M 60 11)) ∧ M 60 16 - M 60 15 ≤ 60) → x1 = a → (∀ t : Int, 0 ≤ t → t < x2 → M1 92 t = 0) → 401 - x2 < (n : Int) → Q 40 [(2, (0, 0, 0, 401, x2)), (1, (0, 0, (-2147483648), 2147483647, x1)), (0, (2, 60, 0, 0, 0))] [] M1 := by
    intro n
    induction n with
    | zero => intro x2 x1 M1 b2 hc hgd h9 hz hms; omega
    | succ n ih0 =>
      intro x2 x1 M1 b2 hc hgd h9 hz hms0
      refine hgo.1 15 [40, 62, 86, 97, 142, 237] 40 _ _ _ ?_
      refine And.intro ?_ ?_
      · intro (c1 : 400 < x2)
        show Q 62 [(2, (0, 0, 0, 0, 0)), (1, (0, 0, (-2147483648), 2147483647, x1)), (0, (2, 60, 0, 0, 0))] [] M1
        refine hgo.2.1 62 _ [(2, (0, 0, 0, 8, 0)), (1, (0, 0, (-2147483648), 2147483647, x1)), (0, (2, 60, 0, 0, 0))] _ _ (xa_subI rfl rfl (fun _ _ _ _ => by omega) (xa_subI rfl rfl (fun _ _ _ _ => by omega) (xa_subR rfl xa_sub0))) ?_
        exact loop1 9 0 x1 M1 (by omega) hc hgd ⟨h9, by omega⟩ (fun t t0 t1 => hz t (by omega) (by omega)) (by omega)
      · intro (c1 : x2 ≤ 400)
        refine And.intro (show 0 ≤ x2 ∧ x2 < 401 by omega) ?_
        show Q 40 [(2, (0, 0, 1, 402, x2 + 1)), (1, (0, 0, (-2147483648), 2147483647, x1)), (0, (2, 60, 0, 0, 0))] [] (xa_up M1 92 x2 0)
        refine hgo.2.1 40 _ [(2, (0, 0, 0, 401, x2 + 1)), (1, (0, 0, (-2147483648), 2147483647, x1)), (0, (2, 60, 0, 0, 0))] _ _ (xa_subI rfl rfl (fun _ _ _ _ => by omega) (xa_subI rfl rfl (fun _ _ _ _ => by omega) (xa_subR rfl xa_sub0))) ?_
        exact ih0 (x2 + 1) x1 (xa_up M1 92 x2 0) (by omega) (xm_cor_a rfl hc) hgd h9 (fun t t0 t1 => by
          by_cases e : t = x2
          · rw [e, xa_up_eq]
          · rw [xa_up_ne (fun g => e g.2)]
            exact hz t t0 (by omega)) (by omega)
  refine hgo.1 25 [40, 62, 86, 97, 142, 237] 0 _ _ _ ?_
  refine And.intro ?_ ?_
  · intro (c1 : a ≤ 0)
    show post (some (0, 0, (-1), (-1), (-1))) (xa_up M 60 21 0)
    exact k _ _ _ _ (by unfold cm_P; omega) (xm_cor_f (by omega) xm_cor_r)
  · intro (c1 : 0 < a)
    refine And.intro ?_ ?_
    · intro (c2 : a < (xa_ib 6 1 (M 60 11)))
      refine And.intro ?_ ?_
      · intro (c3 : ((M 60 16) - (M 60 15)) ≤ 60)
        show Q 40 [(2, (0, 0, 0, 0, 0)), (0, (2, 60, 0, 0, 0)), (1, (0, 0, (-2147483648), 2147483647, a))] [] (xa_up M 60 21 0)
        refine hgo.2.1 40 _ [(2, (0, 0, 0, 401, 0)), (1, (0, 0, (-2147483648), 2147483647, a)), (0, (2, 60, 0, 0, 0))] _ _ (xa_subI rfl rfl (fun _ _ _ _ => by omega) (xa_subI rfl rfl (fun _ _ _ _ => by omega) (xa_subR rfl xa_sub0))) ?_
        exact loop0 402 0 a (xa_up M 60 21 0) (by omega) (xm_cor_f (by omega) xm_cor_r) ⟨⟨by omega, by omega⟩, by omega⟩ rfl (fun t t0 t1 => by omega) (by omega)
      · intro (c3 : 60 < ((M 60 16) - (M 60 15)))
        show post (some (0, 0, (-4), (-4), (-4))) (xa_up M 60 21 0)
        exact k _ _ _ _ (by unfold cm_P; omega) (xm_cor_f (by omega) xm_cor_r)
    · intro (c2 : (xa_ib 6 1 (M 60 11)) ≤ a)
      show post (some (0, 0, (-1), (-1), (-1))) (xa_up M 60 21 0)
      exact k _ _ _ _ (by unfold cm_P; omega) (xm_cor_f (by omega) xm_cor_r)

-- nearest (class)
set_option maxRecDepth 20000
/-- how far a train is from what is wanted -/
def nr_d (u v a c : Int) : Int := ((a * v - c * u).natAbs : Int)
theorem nr_d0 {u v a c : Int} : 0 ≤ nr_d u v a c := Int.natCast_nonneg _
/-- the nearest, of equal ones that with the least c, then the least a -/
def nr_P (L H u v a c : Int) : Prop := (L ≤ a ∧ a ≤ H) ∧ (L ≤ c ∧ c ≤ H) ∧ ∀ x z : Int, L ≤ x → x ≤ H → L ≤ z → z ≤ H → nr_d u v a c * z ≤ nr_d u v x z * c ∧ (nr_d u v a c * z = nr_d u v x z * c → c < z ∨ (c = z ∧ a ≤ x))
/-- the nearest, of equal ones that with the fewest teeth, then the least a -/
def nr_Q (L H u v a c : Int) : Prop := (L ≤ a ∧ a ≤ H) ∧ (L ≤ c ∧ c ≤ H) ∧ ∀ x z : Int, L ≤ x → x ≤ H → L ≤ z → z ≤ H → nr_d u v a c * z ≤ nr_d u v x z * c ∧ (nr_d u v a c * z = nr_d u v x z * c → a + c < x + z ∨ (a + c = x + z ∧ a ≤ x))
theorem nr_abs {x c : Int} (hc : 0 ≤ c) : ((x.natAbs : Nat) : Int) * c = x * c ∨ ((x.natAbs : Nat) : Int) * c = -(x * c) := by
  by_cases h : 0 ≤ x
  · left
    rw [show ((x.natAbs : Nat) : Int) = x by omega]
  · right
    rw [show ((x.natAbs : Nat) : Int) = -x by omega, Int.neg_mul]
theorem nr_PQ {L H u v a c a' c' : Int} (hL : 1 ≤ L) (hv : 1 ≤ v) (hP : nr_P L H u v a c) (hQ : nr_Q L H u v a' c') : a = a' ∧ c = c' := by
  obtain ⟨pa, pc, p⟩ := hP
  obtain ⟨qa, qc, q⟩ := hQ
  obtain ⟨p1, p2⟩ := p a' c' qa.1 qa.2 qc.1 qc.2
  obtain ⟨q1, q2⟩ := q a c pa.1 pa.2 pc.1 pc.2
  have E : nr_d u v a c * c' = nr_d u v a' c' * c := by omega
  have p3 := p2 E
  have q3 := q2 E.symm
  rcases p3 with p3 | p3
  · exfalso
    have ha : a' < a := by omega
    obtain ⟨r1, r2⟩ := p a' c qa.1 qa.2 pc.1 pc.2
    have hc : 0 < c := by omega
    have hc' : 0 < c' := by omega
    have r3 : nr_d u v a c ≤ nr_d u v a' c := Int.le_of_mul_le_mul_right r1 hc
    have hX : (a' * v - c * u) * c' < (a * v - c * u) * c' := by
      refine Int.mul_lt_mul_of_pos_right ?_ hc'
      have := Int.mul_lt_mul_of_pos_right ha (show 0 < v by omega)
      omega
    have hY : (a' * v - c' * u) * c < (a' * v - c * u) * c' := by
      rw [Int.sub_mul, Int.sub_mul]
      have e : c * u * c' = c' * u * c := by
        rw [Int.mul_assoc, Int.mul_comm u c', ← Int.mul_assoc, Int.mul_comm c c', Int.mul_assoc, Int.mul_comm c u, ← Int.mul_assoc]
      have := Int.mul_lt_mul_of_pos_left p3 (Int.mul_pos (show 0 < a' by omega) (show 0 < v by omega))
      omega
    have r4 : nr_d u v a c * c' ≤ nr_d u v a' c * c' := Int.mul_le_mul_of_nonneg_right r3 (by omega)
    have n1 : nr_d u v a c * c' = (a * v - c * u) * c' ∨ nr_d u v a c * c' = -((a * v - c * u) * c') := nr_abs (by omega)
    have n2 : nr_d u v a' c' * c = (a' * v - c' * u) * c ∨ nr_d u v a' c' * c = -((a' * v - c' * u) * c) := nr_abs (by omega)
    have n3 : nr_d u v a' c * c' = (a' * v - c * u) * c' ∨ nr_d u v a' c * c' = -((a' * v - c * u) * c') := nr_abs (by omega)
    have m1 : 0 ≤ nr_d u v a c * c' := Int.mul_nonneg nr_d0 (by omega)
    omega
  · omega
/-- from one to the next -/
theorem nr_lt {p q r C t z : Int} (hC : 0 < C) (ht : 0 < t) (hz : 0 < z) (h1 : p * C < q * t) (h2 : q * z ≤ r * C) : p * z < r * t := by
  have g1 := Int.mul_lt_mul_of_pos_right h1 hz
  have g2 := Int.mul_le_mul_of_nonneg_right h2 (show 0 ≤ t by omega)
  have e1 : p * C * z = p * z * C := by rw [Int.mul_assoc, Int.mul_comm C z, ← Int.mul_assoc]
  have e2 : q * t * z = q * z * t := by rw [Int.mul_assoc, Int.mul_comm t z, ← Int.mul_assoc]
  have e3 : r * C * t = r * t * C := by rw [Int.mul_assoc, Int.mul_comm C t, ← Int.mul_assoc]
  exact Int.lt_of_mul_lt_mul_right (a := C) (by omega) (by omega)
theorem nr_le {p q r C t z : Int} (hC : 0 < C) (ht : 0 < t) (hz : 0 < z) (h1 : p * C = q * t) (h2 : q * z ≤ r * C) : p * z ≤ r * t ∧ (p * z = r * t → q * z = r * C) := by
  have e1 : p * C * z = p * z * C := by rw [Int.mul_assoc, Int.mul_comm C z, ← Int.mul_assoc]
  have e2 : q * t * z = q * z * t := by rw [Int.mul_assoc, Int.mul_comm t z, ← Int.mul_assoc]
  have e3 : r * C * t = r * t * C := by rw [Int.mul_assoc, Int.mul_comm C t, ← Int.mul_assoc]
  have g2 := Int.mul_le_mul_of_nonneg_right h2 (show 0 ≤ t by omega)
  rw [h1] at e1
  constructor
  · exact Int.le_of_mul_le_mul_right (a := C) (by omega) hC
  · intro h
    rw [h] at e1
    exact Int.eq_of_mul_eq_mul_right (show t ≠ 0 by omega) (by omega)
/-- below: the greater is the nearer -/
theorem nr_lo {u v a b c : Int} (hv : 1 ≤ v) (h : a ≤ b) (hb : b * v ≤ c * u) : nr_d u v b c ≤ nr_d u v a c ∧ (nr_d u v b c = nr_d u v a c → a = b) := by
  unfold nr_d
  have g := Int.mul_le_mul_of_nonneg_right h (show 0 ≤ v by omega)
  refine ⟨by omega, fun e => ?_⟩
  by_cases q : a = b
  · exact q
  · have := Int.mul_lt_mul_of_pos_right (show a < b by omega) (show 0 < v by omega)
    omega
theorem nr_hi {u v a b c : Int} (hv : 1 ≤ v) (h : b ≤ a) (hb : c * u ≤ b * v) : nr_d u v b c ≤ nr_d u v a c ∧ (nr_d u v b c = nr_d u v a c → a = b) := by
  unfold nr_d
  have g := Int.mul_le_mul_of_nonneg_right h (show 0 ≤ v by omega)
  refine ⟨by omega, fun e => ?_⟩
  by_cases q : a = b
  · exact q
  · have := Int.mul_lt_mul_of_pos_right (show b < a by omega) (show 0 < v by omega)
    omega
/-- the place n within L and H -/
def nr_c (L H n r : Int) : Prop := L ≤ r ∧ r ≤ H ∧ (n ≤ H → L ≤ n → r = n) ∧ (n < L → r = L) ∧ (H < n → r = H)
/-- one of the two about the quotient is as near as any, and only itself -/
theorem nr_row {L H u v c n a1 a2 x : Int} (hv : 1 ≤ v) (hn : n = u * c / v) (h1 : nr_c L H n a1) (h2 : nr_c L H (n + 1) a2) (x0 : L ≤ x) (x1 : x ≤ H) : (nr_d u v a1 c ≤ nr_d u v x c ∧ (nr_d u v a1 c = nr_d u v x c → x = a1)) ∨ (nr_d u v a2 c ≤ nr_d u v x c ∧ (nr_d u v a2 c = nr_d u v x c → x = a2)) := by
  have g1 := Int.ediv_mul_le (u * c) (show v ≠ 0 by omega)
  have g2 := Int.lt_ediv_add_one_mul_self (u * c) (show 0 < v by omega)
  rw [← hn, Int.mul_comm u c] at g1 g2
  obtain ⟨b1, b2, b3, b4, b5⟩ := h1
  obtain ⟨d1, d2, d3, d4, d5⟩ := h2
  by_cases h : x ≤ n
  · left
    refine nr_lo hv (by omega) ?_
    have := Int.mul_le_mul_of_nonneg_right (show a1 ≤ n by omega) (show 0 ≤ v by omega)
    omega
  · right
    refine nr_hi hv (by omega) ?_
    have := Int.mul_le_mul_of_nonneg_right (show n + 1 ≤ a2 by omega) (show 0 ≤ v by omega)
    omega
/-- nothing seen so far is better (class: rows before t) -/
def nr_S (L H u v t A C : Int) : Prop := ∀ x z : Int, L ≤ x → x ≤ H → L ≤ z → z < t → nr_d u v A C * z ≤ nr_d u v x z * C ∧ (nr_d u v A C * z = nr_d u v x z * C → C < z ∨ (C = z ∧ A ≤ x))
/-- nor the candidate a of the row t -/
def nr_K (u v t A C a : Int) : Prop := nr_d u v A C * t ≤ nr_d u v a t * C ∧ (nr_d u v A C * t = nr_d u v a t * C → C < t ∨ (C = t ∧ A ≤ a))
theorem nr_Sn {L H u v t A C w : Int} (hL : 1 ≤ L) (hC : 0 < C) (ht : 0 < t) (hS : nr_S L H u v t A C) (h : nr_d u v w t * C < nr_d u v A C * t) : nr_S L H u v t w t := by
  intro x z x0 x1 z0 z1
  have g := nr_lt hC ht (show 0 < z by omega) h (hS x z x0 x1 z0 z1).1
  exact ⟨by omega, fun e => by omega⟩
theorem nr_Kn {u v t A C a w : Int} (hC : 0 < C) (ht : 0 < t) (hK : nr_K u v t A C a) (h : nr_d u v w t * C < nr_d u v A C * t) : nr_K u v t w t a := by
  have g := nr_lt hC ht ht h hK.1
  exact ⟨by omega, fun e => by omega⟩
theorem nr_Ks {u v t w : Int} : nr_K u v t w t w := ⟨Int.le_refl _, fun _ => Or.inr ⟨rfl, Int.le_refl _⟩⟩
theorem nr_Ke {u v t A C w : Int} (h : nr_d u v A C * t ≤ nr_d u v w t * C) (g : C < t ∨ (C = t ∧ A ≤ w)) : nr_K u v t A C w := ⟨h, fun _ => g⟩
/-- the row is through -/
theorem nr_Sr {L H u v t A C n a1 a2 : Int} (hC : 0 < C) (hv : 1 ≤ v) (hn : n = u * t / v) (h1 : nr_c L H n a1) (h2 : nr_c L H (n + 1) a2) (hS : nr_S L H u v t A C) (k1 : nr_K u v t A C a1) (k2 : nr_K u v t A C a2) : nr_S L H u v (t + 1) A C := by
  intro x z x0 x1 z0 z1
  by_cases e : z = t
  · subst e
    rcases nr_row hv hn h1 h2 x0 x1 with ⟨g1, g2⟩ | ⟨g1, g2⟩
    · have m := Int.mul_le_mul_of_nonneg_right g1 (show 0 ≤ C by omega)
      refine ⟨Int.le_trans k1.1 m, fun e => ?_⟩
      have e2 : nr_d u v a1 z * C = nr_d u v x z * C := Int.le_antisymm m (by rw [← e]; exact k1.1)
      have e3 := Int.eq_of_mul_eq_mul_right (show C ≠ 0 by omega) e2
      rw [g2 e3]
      exact k1.2 (by rw [e2]; exact e)
    · have m := Int.mul_le_mul_of_nonneg_right g1 (show 0 ≤ C by omega)
      refine ⟨Int.le_trans k2.1 m, fun e => ?_⟩
      have e2 : nr_d u v a2 z * C = nr_d u v x z * C := Int.le_antisymm m (by rw [← e]; exact k2.1)
      have e3 := Int.eq_of_mul_eq_mul_right (show C ≠ 0 by omega) e2
      rw [g2 e3]
      exact k2.2 (by rw [e2]; exact e)
  · exact hS x z x0 x1 z0 (by omega)
/-- nothing seen so far is better (reference: all a before s, of s all c before t) -/
def nr_T (L H u v s t A C : Int) : Prop := ∀ x z : Int, L ≤ x → x ≤ H → L ≤ z → z ≤ H → (x < s ∨ (x = s ∧ z < t)) → nr_d u v A C * z ≤ nr_d u v x z * C ∧ (nr_d u v A C * z = nr_d u v x z * C → A + C < x + z ∨ (A + C = x + z ∧ A ≤ x))
/-- is it nearer -/
def nr_N (u v A C s t : Int) : Prop := nr_d u v s t * C < nr_d u v A C * t ∨ (nr_d u v s t * C = nr_d u v A C * t ∧ (s + t < A + C ∨ (s + t = A + C ∧ s < A)))
theorem nr_T1 {L H u v s t A C : Int} (hL : 1 ≤ L) (hC : 0 < C) (ht : 0 < t) (hT : nr_T L H u v s t A C) (h : nr_N u v A C s t) : nr_T L H u v s (t + 1) s t := by
  intro x z x0 x1 z0 z1 hs
  by_cases e : x = s ∧ z = t
  · rw [e.1, e.2]
    exact ⟨Int.le_refl _, fun _ => Or.inr ⟨rfl, Int.le_refl _⟩⟩
  · obtain ⟨g1, g2⟩ := hT x z x0 x1 z0 z1 (by omega)
    rcases h with h | ⟨h, h3⟩
    · have g := nr_lt hC ht (show 0 < z by omega) h g1
      exact ⟨by omega, fun e => by omega⟩
    · obtain ⟨m1, m2⟩ := nr_le hC ht (show 0 < z by omega) h g1
      refine ⟨m1, fun e => ?_⟩
      have := g2 (m2 e)
      omega
theorem nr_T0 {L H u v s t A C : Int} (hT : nr_T L H u v s t A C) (h : ¬ nr_N u v A C s t) : nr_T L H u v s (t + 1) A C := by
  intro x z x0 x1 z0 z1 hs
  by_cases e : x = s ∧ z = t
  · rw [e.1, e.2]
    unfold nr_N at h
    exact ⟨by omega, fun e => by omega⟩
  · exact hT x z x0 x1 z0 z1 (by omega)
theorem nr_Ti {L H u v s t A C : Int} (ht : H < t) (hT : nr_T L H u v s t A C) : nr_T L H u v (s + 1) L A C := by
  intro x z x0 x1 z0 z1 hs
  exact hT x z x0 x1 z0 z1 (by omega)
theorem nr_TQ {L H u v t A C : Int} (ha : L ≤ A ∧ A ≤ H) (hc : L ≤ C ∧ C ≤ H) (hT : nr_T L H u v (H + 1) t A C) : nr_Q L H u v A C := ⟨ha, hc, fun x z x0 x1 z0 z1 => hT x z x0 x1 z0 z1 (by omega)⟩
theorem nr_SP {L H u v A C : Int} (ha : L ≤ A ∧ A ≤ H) (hc : L ≤ C ∧ C ≤ H) (hS : nr_S L H u v (H + 1) A C) : nr_P L H u v A C := ⟨ha, hc, fun x z x0 x1 z0 z1 => hS x z x0 x1 z0 (by omega)⟩
/-- more, less or as wanted -/
def nr_s (y r : Int) : Prop := (y = 0 ∧ r = 0) ∨ (0 < y ∧ r = 1) ∨ (y < 0 ∧ r = 2)
theorem cx_55w {b : Bool} {A : Nat → Nat} {h0 : g_H} {d : Nat} {M : xa_M} {post : Option xa_V → xa_M → Prop} {l1 u1 l2 u2 x y : Int} (hx : -9223372036854775807 ≤ x ∧ x ≤ 9223372036854775807) (hy : -9223372036854775807 ≤ y ∧ y ≤ 9223372036854775807) (k : ∀ g : Int, 0 ≤ g → g ≤ 9223372036854775807 → post (some (1, 0, 0, 9223372036854775807, g)) M) : xa_C (xl_I b) A h0 (d + 2) 55 [(1, 0, l1, u1, x), (1, 0, l2, u2, y)] M post := by
  refine xa_C_wk ?_
  refine xa_C_arg [(1, 0, (-9223372036854775808), 9223372036854775807, x), (1, 0, (-9223372036854775808), 9223372036854775807, y)] (xa_svL (fun _ _ _ _ => by omega) (xa_svL (fun _ _ _ _ => by omega) xa_sv0)) ?_
  refine xa_meth (Q0 := (11, 3, false, 0, 0, 11)) (by decide +kernel) ⟨rfl, rfl⟩ (full := s_c_55) rfl rfl ?_
  intro hM hv Q hgo
  have loop : ∀ (f : Nat) (i a b9 : Int), 0 ≤ i ∧ i ≤ 100 → 0 ≤ a ∧ a ≤ 9223372036854775807 → 0 ≤ b9 ∧ b9 ≤ 9223372036854775807 → 100 - i < (f : Int) → Q 15 [(8, (0, 0, 0, 100, i)), (4, (1, 0, 0, 9223372036854775807, a)), (6, (1, 0, 0, 9223372036854775807, b9))] [] M := by
    intro f
    induction f with
    | zero => intro i a b9 i1 a1 b1 hms; omega
    | succ f ih =>
      intro i a b9 i1 a1 b1 hms
      refine hgo.1 21 [15] 15 _ _ _ ?_
      refine And.intro ?_ ?_
      · intro (c1 : 100 ≤ i)
        show xa_wk post (some (1, 0, 0, 9223372036854775807, a)) M
        exact xa_wkL a rfl (fun _ _ => by omega) (k a (by omega) (by omega))
      · intro (c1 : i < 100)
        refine And.intro ?_ ?_
        · intro (c2 : b9 = 0)
          show xa_wk post (some (1, 0, 0, 9223372036854775807, a)) M
          exact xa_wkL a rfl (fun _ _ => by omega) (k a (by omega) (by omega))
        · intro (c2 : ¬ b9 = 0)
          refine And.intro (show 0 < b9 by omega) ?_
          show Q 15 [(8, (0, 0, 1, 101, i + 1)), (6, (1, 0, 0, 9223372036854775806, a % b9)), (4, (1, 0, 0, 9223372036854775807, b9)), (9, (1, 0, 0, 9223372036854775806, a % b9))] [] M
          have m0 := Int.emod_nonneg a (show b9 ≠ 0 by omega)
          have m1 := Int.emod_lt_of_pos a (show 0 < b9 by omega)
          refine hgo.2.1 15 _ [(8, (0, 0, 0, 100, i + 1)), (4, (1, 0, 0, 9223372036854775807, b9)), (6, (1, 0, 0, 9223372036854775807, a % b9))] _ _ (xa_subI rfl rfl (fun _ _ _ _ => by omega) (xa_subL rfl rfl (fun _ _ _ _ => by omega) (xa_subL rfl rfl (fun _ _ _ _ => by omega) (xa_sub0)))) ?_
          exact ih (i + 1) b9 (a % b9) (by omega) (by omega) (by omega) (by omega)
  refine hgo.1 13 [15] 0 _ _ _ ?_
  show xa_C (xl_I b) A h0 _ 56 [(1, 0, (-9223372036854775808), 9223372036854775807, x)] M _
  refine ct_abs (lo := 0) (hi := 9223372036854775807) (show -9223372036854775808 < x by omega) (fun r119 h120 => ⟨by omega, ?_⟩)
  show xa_C (xl_I b) A h0 _ 56 [(1, 0, (-9223372036854775808), 9223372036854775807, y)] M _
  refine ct_abs (lo := 0) (hi := 9223372036854775807) (show -9223372036854775808 < y by omega) (fun r121 h122 => ⟨by omega, ?_⟩)
  show Q 15 [(8, (0, 0, 0, 0, 0)), (6, (1, 0, 0, 9223372036854775807, r121)), (4, (1, 0, 0, 9223372036854775807, r119)), (0, (1, 0, (-9223372036854775808), 9223372036854775807, x)), (2, (1, 0, (-9223372036854775808), 9223372036854775807, y))] [] M
  refine hgo.2.1 15 _ [(8, (0, 0, 0, 100, 0)), (4, (1, 0, 0, 9223372036854775807, r119)), (6, (1, 0, 0, 9223372036854775807, r121))] _ _ (xa_subI rfl rfl (fun _ _ _ _ => by omega) (xa_subL rfl rfl (fun _ _ _ _ => by omega) (xa_subL rfl rfl (fun _ _ _ _ => by omega) (xa_sub0)))) ?_
  exact loop 101 0 r119 r121 (by omega) (by omega) (by omega) (by omega)
theorem cx_21w {b : Bool} {A : Nat → Nat} {h0 : g_H} {d : Nat} {M : xa_M} {post : Option xa_V → xa_M → Prop} {l1 u1 l2 u2 x y : Int} (hy : 0 ≤ y ∧ y ≤ 9223372036854775807) (k : ∀ r : Int, post (some (1, 0, -9223372036854775808, 9223372036854775807, r)) M) : xa_C (xl_I b) A h0 (d + 1) 21 [(1, 0, l1, u1, x), (1, 0, l2, u2, y)] M post := by
  refine xa_C_wk ?_
  refine xa_C_arg [(1, 0, (-9223372036854775808), 9223372036854775807, x), (1, 0, 0, 9223372036854775807, y)] (xa_svL (fun _ _ _ _ => by omega) (xa_svL (fun _ _ _ _ => by omega) xa_sv0)) ?_
  refine xa_meth (Q0 := (4, 3, false, 0, 0, 11)) (by decide +kernel) ⟨rfl, rfl⟩ (full := s_c_21) rfl rfl ?_
  intro hM hv Q hgo
  refine hgo.1 11 [] 0 _ _ _ ?_
  refine And.intro ?_ ?_
  · intro (c1 : ¬ y = 0)
    refine And.intro (show 0 < y by omega) ?_
    show xa_wk post (some (1, 0, (-9223372036854775808), 9223372036854775807, x.tdiv y)) M
    exact xa_wkL _ rfl (fun _ _ => by omega) (k _)
  · intro (c1 : y = 0)
    show xa_wk post (some (1, 0, 0, 0, 0)) M
    exact xa_wkL _ rfl (fun _ _ => by omega) (k _)
theorem cx_71w {b : Bool} {A : Nat → Nat} {h0 : g_H} {d : Nat} {M : xa_M} {post : Option xa_V → xa_M → Prop} {N : xa_M} {l1 u1 l2 u2 x y : Int} (hkN : ∀ (q : Nat) (j : Int), ¬ (q = 48 ∨ q = 49) → M q j = N q j) (h48 : (0 : Int) ≤ M 48 1) (hx : -9223372036854775807 ≤ x ∧ x ≤ 9223372036854775807) (hy : -9223372036854775807 ≤ y ∧ y ≤ 9223372036854775807) (kN : ∀ M1 : xa_M, (∀ (q : Nat) (j : Int), ¬ (q = 48 ∨ q = 49) → M1 q j = N q j) → (0 : Int) ≤ M1 48 1 → post none M1) : xa_C (xl_I b) A h0 (d + 3) 71 [(2, 48, 0, 0, 0), (1, 0, l1, u1, x), (1, 0, l2, u2, y)] M post := by
  have k : ∀ M1 : xa_M, (∀ (q : Nat) (j : Int), ¬ (q = 48 ∨ q = 49) → M1 q j = M q j) → (0 : Int) ≤ M1 48 1 → post none M1 := fun M1 a9 b9 => kN M1 (fun q j hq => (a9 q j hq).trans (hkN q j hq)) b9
  refine xa_C_arg [(2, 48, 0, 0, 0), (1, 0, (-9223372036854775808), 9223372036854775807, x), (1, 0, (-9223372036854775808), 9223372036854775807, y)] (xa_svR (xa_svL (fun _ _ _ _ => by omega) (xa_svL (fun _ _ _ _ => by omega) xa_sv0))) ?_
  refine xa_meth (Q0 := (7, 0, false, 0, 0, 6)) (by decide +kernel) ⟨rfl, rfl⟩ (full := s_c_71) rfl rfl ?_
  intro hM hv Q hgo
  have hkr : ∀ (q : Nat) (j : Int), ¬ (q = 48 ∨ q = 49) → M q j = M q j := fun _ _ _ => rfl
  refine hgo.1 19 [] 0 _ _ _ ?_
  show xa_C (xl_I b) A h0 _ 55 [(1, 0, (-9223372036854775808), 9223372036854775807, x), (1, 0, (-9223372036854775808), 9223372036854775807, y)] M _
  refine cx_55w (by omega) (by omega) ?_
  intro g123 (i1 : 0 ≤ g123) (i2 : g123 ≤ 9223372036854775807)
  show xa_C (xl_I b) A h0 _ 21 [(1, 0, (-9223372036854775808), 9223372036854775807, x), (1, 0, 0, 9223372036854775807, g123)] M _
  refine cx_21w (by omega) ?_
  intro q124
  show xa_C (xl_I b) A h0 _ 60 [(2, 48, 0, 0, 0), (1, 0, (-9223372036854775808), 9223372036854775807, q124)] M _
  refine cx_60n (N := M) (by assumption) (by assumption) ?_
  intro M125 (i3 : ∀ (q : Nat) (j : Int), ¬ (q = 48 ∨ q = 49) → M125 q j = M q j) (i4 : (0 : Int) ≤ M125 48 1)
  show xa_C (xl_I b) A h0 _ 21 [(1, 0, (-9223372036854775808), 9223372036854775807, y), (1, 0, 0, 9223372036854775807, g123)] M125 _
  refine cx_21w (by omega) ?_
  intro q126
  show xa_C (xl_I b) A h0 _ 60 [(2, 48, 0, 0, 0), (1, 0, (-9223372036854775808), 9223372036854775807, q126)] M125 _
  refine cx_60n (N := M) (by assumption) (by assumption) ?_
  intro M127 (i5 : ∀ (q : Nat) (j : Int), ¬ (q = 48 ∨ q = 49) → M127 q j = M q j) (i6 : (0 : Int) ≤ M127 48 1)
  show post none M127
  exact k _ i5 i6
theorem cx_24m {b : Bool} {A : Nat → Nat} {h0 : g_H} {d : Nat} {M : xa_M} {post : Option xa_V → xa_M → Prop} {l1 u1 l2 u2 x y : Int} (hx : 0 ≤ x ∧ x ≤ 400) (hy : 0 ≤ y ∧ y ≤ 400) (k : ∀ r : Int, (x ≤ r ∧ y ≤ r ∧ (r = x ∨ r = y)) → post (some (1, 0, 0, 400, r)) M) : xa_C (xl_I b) A h0 (d + 1) 24 [(1, 0, l1, u1, x), (1, 0, l2, u2, y)] M post := by
  refine xa_C_wk ?_
  refine xa_C_arg [(1, 0, 0, 400, x), (1, 0, 0, 400, y)] (xa_svL (fun _ _ _ _ => by omega) (xa_svL (fun _ _ _ _ => by omega) xa_sv0)) ?_
  refine xa_meth (Q0 := (4, 3, false, 0, 0, 14)) (by decide +kernel) ⟨rfl, rfl⟩ (full := s_c_24) rfl rfl ?_
  intro hM hv Q hgo
  refine hgo.1 10 [] 0 _ _ _ ?_
  refine And.intro ?_ ?_
  · intro (c1 : x < y)
    show xa_wk post (some (1, 0, 0, 400, y)) M
    exact xa_wkL y rfl (fun _ _ => by omega) (k y ⟨by omega, by omega, by omega⟩)
  · intro (c1 : y ≤ x)
    show xa_wk post (some (1, 0, 0, 400, x)) M
    exact xa_wkL x rfl (fun _ _ => by omega) (k x ⟨by omega, by omega, by omega⟩)
theorem cx_131n {b : Bool} {A : Nat → Nat} {h0 : g_H} {d : Nat} {M : xa_M} {post : Option xa_V → xa_M → Prop} {l1 u1 x : Int} (hx : -9223372036854775807 ≤ x ∧ x ≤ 9223372036854775807) (k : ∀ r : Int, nr_s x r → post (some (0, 0, 0, 2, r)) M) : xa_C (xl_I b) A h0 (d + 1) 131 [(1, 0, l1, u1, x)] M post := by
  refine xa_C_wk ?_
  refine xa_C_arg [(1, 0, (-9223372036854775808), 9223372036854775807, x)] (xa_svL (fun _ _ _ _ => by omega) xa_sv0) ?_
  refine xa_meth (Q0 := (2, 1, false, 0, 0, 11)) (by decide +kernel) ⟨rfl, rfl⟩ (full := s_c_131) rfl rfl ?_
  intro hM hv Q hgo
  refine hgo.1 13 [] 0 _ _ _ ?_
  refine And.intro ?_ ?_
  · intro (c1 : ¬ x = 0)
    refine And.intro ?_ ?_
    · intro (c2 : x ≤ 0)
      show xa_wk post (some (0, 0, 2, 2, 2)) M
      exact xa_wkI 2 rfl (fun _ _ => by omega) (k 2 (by unfold nr_s; omega))
    · intro (c2 : 0 < x)
      show xa_wk post (some (0, 0, 1, 1, 1)) M
      exact xa_wkI 1 rfl (fun _ _ => by omega) (k 1 (by unfold nr_s; omega))
  · intro (c1 : x = 0)
    show xa_wk post (some (0, 0, 0, 0, 0)) M
    exact xa_wkI 0 rfl (fun _ _ => by omega) (k 0 (by unfold nr_s; omega))
theorem cx_130f {b : Bool} {A : Nat → Nat} {h0 : g_H} {d : Nat} {M : xa_M} {post : Option xa_V → xa_M → Prop} {l1 u1 l2 u2 uu vv : Int} (hL : 10 ≤ M 32 0 ∧ M 32 0 ≤ M 32 1 ∧ M 32 1 ≤ 400) (hU : 1 ≤ uu ∧ uu ≤ 2000) (hV : 1 ≤ vv ∧ vv ≤ 2000) (k : ∀ (M1 : xa_M) (r a c : Int), nr_P (M 32 0) (M 32 1) uu vv a c → nr_s (a * vv - c * uu) r → (∀ (q : Nat) (j : Int), ¬ (q = 48 ∨ q = 49) → M1 q j = M q j) → post (some (0, 0, 0, 2, r)) M1) : xa_C (xl_I b) A h0 (d + 4) 130 [(2, 32, 0, 0, 0), (1, 0, l1, u1, uu), (1, 0, l2, u2, vv), (2, 48, 0, 0, 0)] M post := by
  refine xa_C_wk ?_
  refine xa_C_arg [(2, 32, 0, 0, 0), (1, 0, 1, 2000, uu), (1, 0, 1, 2000, vv), (2, 48, 0, 0, 0)] (xa_svR (xa_svL (fun _ _ _ _ => by omega) (xa_svL (fun _ _ _ _ => by omega) (xa_svR xa_sv0)))) ?_
  refine xa_meth (Q0 := (17, 1, false, 0, 0, 7)) (by decide +kernel) ⟨rfl, rfl⟩ (full := s_c_130) rfl rfl ?_
  intro hM hv Q hgo
  have hkr : ∀ (q : Nat) (j : Int), ¬ (q = 48 ∨ q = 49) → M q j = M q j := fun _ _ _ => rfl
  have loop20 : ∀ (f : Nat) (tc tA tC : Int), M 32 0 ≤ tc ∧ tc ≤ M 32 1 + 1 → ((M 32 0 ≤ tA ∧ tA ≤ M 32 1) ∧ M 32 0 ≤ tC ∧ tC ≤ M 32 1) → nr_S (M 32 0) (M 32 1) uu vv tc tA tC → (tC < tc ∨ (tc = M 32 0 ∧ tA = M 32 0 ∧ tC = M 32 0)) → 401 - tc < (f : Int) → Q 20 [(10, (0, 0, 10, 401, tc)), (6, (1, 0, 10, 400, tA)), (8, (1, 0, 10, 400, tC)), (0, (2, 32, 0, 0, 0)), (1, (1, 0, 1, 2000, uu)), (3, (1, 0, 1, 2000, vv)), (5, (2, 48, 0, 0, 0))] [] M := by
    intro f
    induction f with
    | zero => intro tc tA tC h1 hR hS hG hms; omega
    | succ f ih20 =>
      intro tc tA tC h1 hR hS hG hms
      have p1 := xm_mulp (p := uu) (q := tc) (a := 2000) (b := 401) (by omega) (by omega) (by omega) (by omega)
      have p2 := xm_mulp (p := tA) (q := vv) (a := 400) (b := 2000) (by omega) (by omega) (by omega) (by omega)
      have p3 := xm_mulp (p := uu) (q := tC) (a := 2000) (b := 400) (by omega) (by omega) (by omega) (by omega)
      have p4 := xm_mulp (p := tC) (q := vv) (a := 400) (b := 2000) (by omega) (by omega) (by omega) (by omega)
      have loop44 : tc ≤ M 32 1 → ∀ (f : Nat) (tn tA tC : Int), uu * tc / vv ≤ tn ∧ tn ≤ uu * tc / vv + 2 → ((M 32 0 ≤ tA ∧ tA ≤ M 32 1) ∧ M 32 0 ≤ tC ∧ tC ≤ M 32 1) → nr_S (M 32 0) (M 32 1) uu vv tc tA tC → (∀ i : Int, uu * tc / vv ≤ i → i < tn → ∃ a9 : Int, nr_c (M 32 0) (M 32 1) i a9 ∧ nr_K uu vv tc tA tC a9) → (tC < tc ∨ (tC = tc ∧ ∀ w : Int, nr_c (M 32 0) (M 32 1) tn w → tA ≤ w)) → uu * tc / vv + 2 - tn < (f : Int) → Q 44 [(13, (1, 0, 0, 320000002, tn)), (11, (1, 0, 0, 320000000, (uu * tc) / vv)), (10, (0, 0, 10, 400, tc)), (6, (1, 0, 10, 400, tA)), (8, (1, 0, 10, 400, tC)), (0, (2, 32, 0, 0, 0)), (1, (1, 0, 1, 2000, uu)), (3, (1, 0, 1, 2000, vv)), (5, (2, 48, 0, 0, 0))] [] M := by
        intro htc f
        have q0 := Int.ediv_nonneg (show 0 ≤ uu * tc by exact Int.mul_nonneg (by omega) (by omega)) (show 0 ≤ vv by omega)
        induction f with
        | zero => intro tn tA tC h2 hR hS hK hG hms; omega
        | succ f ih44 =>
          intro tn tA tC h2 hR hS hK hG hms
          refine hgo.1 53 [20, 44] 44 _ _ _ ?_
          refine And.intro ?_ ?_
          · intro (c1 : (((uu * tc) / vv) + 1) < tn)
            show Q 20 [(10, (0, 0, 11, 401, tc + 1)), (13, (1, 0, 0, 320000002, tn)), (11, (1, 0, 0, 320000000, (uu * tc) / vv)), (6, (1, 0, 10, 400, tA)), (8, (1, 0, 10, 400, tC)), (0, (2, 32, 0, 0, 0)), (1, (1, 0, 1, 2000, uu)), (3, (1, 0, 1, 2000, vv)), (5, (2, 48, 0, 0, 0))] [] M
            refine hgo.2.1 20 _ [(10, (0, 0, 10, 401, tc + 1)), (6, (1, 0, 10, 400, tA)), (8, (1, 0, 10, 400, tC)), (0, (2, 32, 0, 0, 0)), (1, (1, 0, 1, 2000, uu)), (3, (1, 0, 1, 2000, vv)), (5, (2, 48, 0, 0, 0))] _ _ (xa_subI rfl rfl (fun _ _ _ _ => by omega) (xa_subL rfl rfl (fun _ _ _ _ => by omega) (xa_subL rfl rfl (fun _ _ _ _ => by omega) (xa_subR rfl (xa_subL rfl rfl (fun _ _ _ _ => by omega) (xa_subL rfl rfl (fun _ _ _ _ => by omega) (xa_subR rfl (xa_sub0)))))))) ?_
            obtain ⟨a1, g1, g2⟩ := hK (uu * tc / vv) (Int.le_refl _) (by omega)
            obtain ⟨a2, g3, g4⟩ := hK (uu * tc / vv + 1) (by omega) (by omega)
            exact ih20 (tc + 1) tA tC (by omega) hR (nr_Sr (by omega) (by omega) rfl g1 g3 hS g2 g4) (Or.inl (by rcases hG with hG | hG; omega; omega)) (by omega)
          · intro (c1 : tn ≤ (((uu * tc) / vv) + 1))
            show xa_C (xl_I b) A h0 _ 26 [(1, 0, 10, 400, M 32 1), (1, 0, 0, 320000002, tn)] M _
            refine ct_minL 0 400 (by decide) (by decide) (by decide) ?_
            intro r128 (i2 : 0 ≤ r128 ∧ r128 ≤ 400) (i3 : r128 ≤ (M 32 1) ∧ r128 ≤ tn ∧ (r128 = (M 32 1) ∨ r128 = tn))
            show xa_C (xl_I b) A h0 _ 24 [(1, 0, 10, 400, M 32 0), (1, 0, 0, 400, r128)] M _
            refine cx_24m (by omega) (by omega) ?_
            intro r129 (i4 : (M 32 0) ≤ r129 ∧ r128 ≤ r129 ∧ (r129 = (M 32 0) ∨ r129 = r128))
            show xa_C (xl_I b) A h0 _ 56 [(1, 0, (-800000), 799990, (r129 * vv) - (uu * tc))] M _
            refine ct_absb 800000 (by decide) (by decide) (by decide) ?_
            intro r130 (i5 : r130 = (((r129 * vv) - (uu * tc)).natAbs : Int))
            show xa_C (xl_I b) A h0 _ 56 [(1, 0, (-799990), 799990, (tA * vv) - (uu * tC))] M _
            refine ct_absb 800000 (by decide) (by decide) (by decide) ?_
            intro r131 (i6 : r131 = (((tA * vv) - (uu * tC)).natAbs : Int))
            refine And.intro ?_ ?_
            · intro (c7 : (r131 * tc) ≤ (r130 * tC))
              show Q 44 [(13, (1, 0, 1, 320000003, tn + 1)), (15, (1, 0, 0, 400, r129)), (11, (1, 0, 0, 320000000, (uu * tc) / vv)), (10, (0, 0, 10, 400, tc)), (6, (1, 0, 10, 400, tA)), (8, (1, 0, 10, 400, tC)), (0, (2, 32, 0, 0, 0)), (1, (1, 0, 1, 2000, uu)), (3, (1, 0, 1, 2000, vv)), (5, (2, 48, 0, 0, 0))] [] M
              refine hgo.2.1 44 _ [(13, (1, 0, 0, 320000002, tn + 1)), (11, (1, 0, 0, 320000000, (uu * tc) / vv)), (10, (0, 0, 10, 400, tc)), (6, (1, 0, 10, 400, tA)), (8, (1, 0, 10, 400, tC)), (0, (2, 32, 0, 0, 0)), (1, (1, 0, 1, 2000, uu)), (3, (1, 0, 1, 2000, vv)), (5, (2, 48, 0, 0, 0))] _ _ (xa_subL rfl rfl (fun _ _ _ _ => by omega) (xa_subL rfl rfl (fun _ _ _ _ => by omega) (xa_subI rfl rfl (fun _ _ _ _ => by omega) (xa_subL rfl rfl (fun _ _ _ _ => by omega) (xa_subL rfl rfl (fun _ _ _ _ => by omega) (xa_subR rfl (xa_subL rfl rfl (fun _ _ _ _ => by omega) (xa_subL rfl rfl (fun _ _ _ _ => by omega) (xa_subR rfl (xa_sub0)))))))))) ?_
              have hw : nr_c (M 32 0) (M 32 1) tn r129 := by
                unfold nr_c
                omega
              have d1 : r130 = nr_d uu vv r129 tc := by
                rw [i5, Int.mul_comm uu tc]
                rfl
              have d2 : r131 = nr_d uu vv tA tC := by
                rw [i6, Int.mul_comm uu tC]
                rfl
              have d3 := c7
              rw [d1, d2] at d3
              exact ih44 (tn + 1) tA tC (by omega) (by omega) hS (fun i i0 i1 => by
                by_cases e : i = tn
                · rw [e]
                  refine ⟨r129, hw, nr_Ke d3 ?_⟩
                  rcases hG with hG | ⟨hG, hG2⟩
                  · exact Or.inl hG
                  · exact Or.inr ⟨hG, hG2 _ hw⟩
                · exact hK i i0 (by omega)) (by
                rcases hG with hG | ⟨hG, hG2⟩
                · exact Or.inl hG
                · refine Or.inr ⟨hG, fun w hw2 => ?_⟩
                  have := hG2 _ hw
                  unfold nr_c at hw hw2
                  omega) (by omega)
            · intro (c7 : (r130 * tC) < (r131 * tc))
              show Q 44 [(13, (1, 0, 1, 320000003, tn + 1)), (8, (1, 0, 10, 400, tc)), (6, (1, 0, 0, 400, r129)), (15, (1, 0, 0, 400, r129)), (11, (1, 0, 0, 320000000, (uu * tc) / vv)), (10, (0, 0, 10, 400, tc)), (0, (2, 32, 0, 0, 0)), (1, (1, 0, 1, 2000, uu)), (3, (1, 0, 1, 2000, vv)), (5, (2, 48, 0, 0, 0))] [] M
              refine hgo.2.1 44 _ [(13, (1, 0, 0, 320000002, tn + 1)), (11, (1, 0, 0, 320000000, (uu * tc) / vv)), (10, (0, 0, 10, 400, tc)), (6, (1, 0, 10, 400, r129)), (8, (1, 0, 10, 400, tc)), (0, (2, 32, 0, 0, 0)), (1, (1, 0, 1, 2000, uu)), (3, (1, 0, 1, 2000, vv)), (5, (2, 48, 0, 0, 0))] _ _ (xa_subL rfl rfl (fun _ _ _ _ => by omega) (xa_subL rfl rfl (fun _ _ _ _ => by omega) (xa_subI rfl rfl (fun _ _ _ _ => by omega) (xa_subL rfl rfl (fun _ _ _ _ => by omega) (xa_subL rfl rfl (fun _ _ _ _ => by omega) (xa_subR rfl (xa_subL rfl rfl (fun _ _ _ _ => by omega) (xa_subL rfl rfl (fun _ _ _ _ => by omega) (xa_subR rfl (xa_sub0)))))))))) ?_
              have hw : nr_c (M 32 0) (M 32 1) tn r129 := by
                unfold nr_c
                omega
              have d1 : r130 = nr_d uu vv r129 tc := by
                rw [i5, Int.mul_comm uu tc]
                rfl
              have d2 : r131 = nr_d uu vv tA tC := by
                rw [i6, Int.mul_comm uu tC]
                rfl
              have d3 := c7
              rw [d1, d2] at d3
              exact ih44 (tn + 1) r129 tc (by omega) (by omega) (nr_Sn (by omega) (by omega) (by omega) hS d3) (fun i i0 i1 => by
                by_cases e : i = tn
                · rw [e]
                  exact ⟨r129, hw, nr_Ks⟩
                · obtain ⟨a9, g1, g2⟩ := hK i i0 (by omega)
                  exact ⟨a9, g1, nr_Kn (by omega) (by omega) g2 d3⟩) (Or.inr ⟨rfl, fun w hw2 => by
                unfold nr_c at hw hw2
                omega⟩) (by omega)
      refine hgo.1 33 [20, 44] 20 _ _ _ ?_
      refine And.intro ?_ ?_
      · intro (c1 : (M 32 1) < tc)
        show xa_C (xl_I b) A h0 _ 59 [(2, 48, 0, 0, 0)] M _
        refine cx_59n (N := M) (by assumption) ?_
        intro M132 (i2 : ∀ (q : Nat) (j : Int), ¬ (q = 48 ∨ q = 49) → M132 q j = M q j) (i3 : (0 : Int) ≤ M132 48 1)
        show xa_C (xl_I b) A h0 _ 60 [(2, 48, 0, 0, 0), (1, 0, 10, 400, tA)] M132 _
        refine cx_60n (N := M) (by assumption) (by assumption) ?_
        intro M133 (i4 : ∀ (q : Nat) (j : Int), ¬ (q = 48 ∨ q = 49) → M133 q j = M q j) (i5 : (0 : Int) ≤ M133 48 1)
        show xa_C (xl_I b) A h0 _ 60 [(2, 48, 0, 0, 0), (1, 0, 10, 400, tC)] M133 _
        refine cx_60n (N := M) (by assumption) (by assumption) ?_
        intro M134 (i6 : ∀ (q : Nat) (j : Int), ¬ (q = 48 ∨ q = 49) → M134 q j = M q j) (i7 : (0 : Int) ≤ M134 48 1)
        show xa_C (xl_I b) A h0 _ 71 [(2, 48, 0, 0, 0), (1, 0, (-799990), 799990, (tA * vv) - (uu * tC)), (1, 0, 10, 800000, tC * vv)] M134 _
        refine cx_71w (N := M) (by assumption) (by assumption) (by omega) (by omega) ?_
        intro M135 (i8 : ∀ (q : Nat) (j : Int), ¬ (q = 48 ∨ q = 49) → M135 q j = M q j) (i9 : (0 : Int) ≤ M135 48 1)
        show xa_C (xl_I b) A h0 _ 131 [(1, 0, (-799990), 799990, (tA * vv) - (uu * tC))] M135 _
        refine cx_131n (by omega) ?_
        intro r136 (i10 : nr_s ((tA * vv) - (uu * tC)) r136)
        show xa_wk post (some (0, 0, 0, 2, r136)) M135
        have e : tc = M 32 1 + 1 := by omega
        rw [e] at hS
        refine xa_wkI _ rfl (fun _ _ => by omega) (k _ _ tA tC (nr_SP hR.1 hR.2 hS) ?_ i8)
        rw [Int.mul_comm tC uu]
        exact i10
      · intro (c1 : tc ≤ (M 32 1))
        show xa_C (xl_I b) A h0 _ 21 [(1, 0, 10, 802000, uu * tc), (1, 0, 1, 2000, vv)] M _
        refine cx_21h (by omega) (by omega) ?_
        show Q 44 [(13, (1, 0, 0, 320000000, (uu * tc) / vv)), (11, (1, 0, 0, 320000000, (uu * tc) / vv)), (10, (0, 0, 10, 401, tc)), (6, (1, 0, 10, 400, tA)), (8, (1, 0, 10, 400, tC)), (0, (2, 32, 0, 0, 0)), (1, (1, 0, 1, 2000, uu)), (3, (1, 0, 1, 2000, vv)), (5, (2, 48, 0, 0, 0))] [] M
        refine hgo.2.1 44 _ [(13, (1, 0, 0, 320000002, (uu * tc) / vv)), (11, (1, 0, 0, 320000000, (uu * tc) / vv)), (10, (0, 0, 10, 400, tc)), (6, (1, 0, 10, 400, tA)), (8, (1, 0, 10, 400, tC)), (0, (2, 32, 0, 0, 0)), (1, (1, 0, 1, 2000, uu)), (3, (1, 0, 1, 2000, vv)), (5, (2, 48, 0, 0, 0))] _ _ (xa_subL rfl rfl (fun _ _ _ _ => by omega) (xa_subL rfl rfl (fun _ _ _ _ => by omega) (xa_subI rfl rfl (fun _ _ _ _ => by omega) (xa_subL rfl rfl (fun _ _ _ _ => by omega) (xa_subL rfl rfl (fun _ _ _ _ => by omega) (xa_subR rfl (xa_subL rfl rfl (fun _ _ _ _ => by omega) (xa_subL rfl rfl (fun _ _ _ _ => by omega) (xa_subR rfl (xa_sub0)))))))))) ?_
        exact loop44 (by omega) 4 (uu * tc / vv) tA tC (by omega) hR hS (fun i i0 i1 => by omega) (by
          rcases hG with hG | ⟨hG, hG2, hG3⟩
          · exact Or.inl hG
          · refine Or.inr ⟨by omega, fun w hw => ?_⟩
            unfold nr_c at hw
            omega) (by omega)
  refine hgo.1 16 [20, 44] 0 _ _ _ ?_
  show Q 20 [(10, (0, 0, 10, 400, M 32 0)), (8, (1, 0, 10, 400, M 32 0)), (6, (1, 0, 10, 400, M 32 0)), (0, (2, 32, 0, 0, 0)), (1, (1, 0, 1, 2000, uu)), (3, (1, 0, 1, 2000, vv)), (5, (2, 48, 0, 0, 0))] [] M
  refine hgo.2.1 20 _ [(10, (0, 0, 10, 401, M 32 0)), (6, (1, 0, 10, 400, M 32 0)), (8, (1, 0, 10, 400, M 32 0)), (0, (2, 32, 0, 0, 0)), (1, (1, 0, 1, 2000, uu)), (3, (1, 0, 1, 2000, vv)), (5, (2, 48, 0, 0, 0))] _ _ (xa_subI rfl rfl (fun _ _ _ _ => by omega) (xa_subL rfl rfl (fun _ _ _ _ => by omega) (xa_subL rfl rfl (fun _ _ _ _ => by omega) (xa_subR rfl (xa_subL rfl rfl (fun _ _ _ _ => by omega) (xa_subL rfl rfl (fun _ _ _ _ => by omega) (xa_subR rfl (xa_sub0)))))))) ?_
  exact loop20 402 (M 32 0) (M 32 0) (M 32 0) (by omega) (by omega) (fun x z x0 x1 z0 z1 => by omega) (Or.inr ⟨rfl, rfl, rfl⟩) (by omega)

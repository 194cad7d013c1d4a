-- what the shop can make: one pair, two pairs (class)
set_option maxRecDepth 20000
/-- sums of what stands at lo, lo + 1 and so on -/
def sh_s (f : Int → Int) (lo : Int) : Nat → Int
  | 0 => 0
  | n + 1 => sh_s f lo n + f (lo + (n : Int))
theorem sh_s1 {f : Int → Int} {lo : Int} {n : Nat} : sh_s f lo (n + 1) = sh_s f lo n + f (lo + (n : Int)) := rfl
theorem sh_z {f : Int → Int} {lo : Int} {m : Nat} : ∀ d : Nat, (∀ c : Int, lo + m ≤ c → c < lo + m + d → f c = 0) → sh_s f lo (m + d) = sh_s f lo m := by
  intro d
  induction d with
  | zero => intro _; rfl
  | succ d ih =>
    intro h
    have e : sh_s f lo (m + (d + 1)) = sh_s f lo (m + d) + f (lo + ((m + d : Nat) : Int)) := rfl
    rw [e, ih (fun c c0 c1 => h c c0 (by omega)), h (lo + ((m + d : Nat) : Int)) (by omega) (by omega)]
    omega
theorem sh_z2 {f : Int → Int} {lo x y : Int} (hx : lo ≤ x) (hy : x ≤ y) (h : ∀ c : Int, x ≤ c → c < y → f c = 0) : sh_s f lo (y - lo).toNat = sh_s f lo (x - lo).toNat := by
  have e : (y - lo).toNat = (x - lo).toNat + (y - x).toNat := by omega
  rw [e]
  exact sh_z _ (fun c c0 c1 => h c (by omega) (by omega))
theorem sh_p {f : Int → Int} {lo c : Int} (h : lo ≤ c) : sh_s f lo (c + 1 - lo).toNat = sh_s f lo (c - lo).toNat + f c := by
  rw [show (c + 1 - lo).toNat = (c - lo).toNat + 1 by omega, sh_s1, show lo + (((c - lo).toNat : Nat) : Int) = c by omega]
theorem sh_e {f g : Int → Int} {lo : Int} : ∀ n : Nat, (∀ c : Int, lo ≤ c → c < lo + n → f c = g c) → sh_s f lo n = sh_s g lo n := by
  intro n
  induction n with
  | zero => intro _; rfl
  | succ n ih =>
    intro h
    rw [sh_s1, sh_s1, ih (fun c c0 c1 => h c c0 (by omega)), h (lo + (n : Int)) (by omega) (by omega)]
theorem sh_0 {f : Int → Int} {lo : Int} {n : Nat} (h : ∀ c : Int, lo ≤ c → c < lo + n → f c = 0) : sh_s f lo n = 0 := by
  have e := sh_z (f := f) (lo := lo) (m := 0) n (fun c c0 c1 => h c (by omega) (by omega))
  rw [Nat.zero_add] at e
  exact e
theorem sh_1 {f : Int → Int} {lo hi c0 : Int} (a : lo ≤ c0) (b : c0 ≤ hi) (e : f c0 = 1) (z : ∀ c : Int, lo ≤ c → c ≤ hi → ¬ c = c0 → f c = 0) : sh_s f lo (hi + 1 - lo).toNat = 1 := by
  rw [sh_z2 (show lo ≤ c0 + 1 by omega) (show c0 + 1 ≤ hi + 1 by omega) (fun c c1 c2 => z c (by omega) (by omega) (by omega)), sh_p a, e, sh_0 (fun c c1 c2 => z c c1 (by omega) (by omega))]
  omega
/-- c is the less of two teeth whose product is p -/
def sh_f (L H p c : Int) : Prop := c * c ≤ p ∧ c ∣ p ∧ L ≤ p / c ∧ p / c ≤ H
def sh_i (L H p c : Int) : Int := if c * c ≤ p ∧ c ∣ p ∧ L ≤ p / c ∧ p / c ≤ H then 1 else 0
theorem sh_i1 {L H p c : Int} (h : sh_f L H p c) : sh_i L H p c = 1 := if_pos h
theorem sh_i0 {L H p c : Int} (h : ¬ sh_f L H p c) : sh_i L H p c = 0 := if_neg h
/-- the first from x on -/
def sh_n (L H p x r : Int) : Prop := (r = -1 ∧ ∀ c : Int, x ≤ c → c ≤ H → ¬ sh_f L H p c) ∨ (x ≤ r ∧ r ≤ H ∧ sh_f L H p r ∧ ∀ c : Int, x ≤ c → c < r → ¬ sh_f L H p c)
theorem sh_ns {L H p x r : Int} (hx : L ≤ x) (hx2 : x ≤ H + 1) (h : sh_n L H p x r) : (r = -1 ∧ sh_s (sh_i L H p) L (H + 1 - L).toNat = sh_s (sh_i L H p) L (x - L).toNat) ∨ (x ≤ r ∧ r ≤ H ∧ sh_f L H p r ∧ sh_s (sh_i L H p) L (r - L).toNat = sh_s (sh_i L H p) L (x - L).toNat) := by
  rcases h with ⟨h1, h2⟩ | ⟨h1, h2, h3, h4⟩
  · exact Or.inl ⟨h1, sh_z2 hx hx2 (fun c c0 c1 => sh_i0 (h2 c c0 (by omega)))⟩
  · exact Or.inr ⟨h1, h2, h3, sh_z2 hx h1 (fun c c0 c1 => sh_i0 (h4 c c0 c1))⟩
/-- what the other two have to make -/
def sh_d (u v a b : Int) : Int := if u ∣ a * b * v then a * b * v / u else 0
def sh_tb (L H u v a b : Int) : Int := sh_s (sh_i L H (sh_d u v a b)) L (H + 1 - L).toNat
def sh_ta (L H u v a : Int) : Int := sh_s (sh_tb L H u v a) a (H + 1 - a).toNat
def sh_t2 (L H u v : Int) : Int := sh_s (sh_ta L H u v) L (H + 1 - L).toNat
def sh_g (L H u v a : Int) : Int := if u ∣ a * v ∧ L ≤ a * v / u ∧ a * v / u ≤ H then 1 else 0
def sh_t1 (L H u v : Int) : Int := sh_s (sh_g L H u v) L (H + 1 - L).toNat
theorem sh_db {u v a b : Int} (hu : 1 ≤ u) (ha : 0 ≤ a ∧ a ≤ 400) (hb : 0 ≤ b ∧ b ≤ 400) (hv : 0 ≤ v ∧ v ≤ 2000) : (0 ≤ a * b * v ∧ a * b * v ≤ 320000000) ∧ 0 ≤ sh_d u v a b ∧ sh_d u v a b ≤ 320000000 := by
  have m1 := Int.mul_nonneg ha.1 hb.1
  have m2 := Int.mul_le_mul ha.2 hb.2 hb.1 (show (0 : Int) ≤ 400 by decide)
  have m3 := Int.mul_nonneg m1 hv.1
  have m4 := Int.mul_le_mul (show a * b ≤ 160000 by omega) hv.2 hv.1 (show (0 : Int) ≤ 160000 by decide)
  have q0 := Int.ediv_nonneg m3 (show 0 ≤ u by omega)
  have q1 := Int.ediv_le_self u m3
  refine ⟨by omega, ?_⟩
  unfold sh_d
  split <;> omega
/-- fourth: the same as what splits the product -/
theorem sh_fe {L H u v a b c : Int} (hu : 1 ≤ u) (hL : 1 ≤ L) (hc : L ≤ c) : sh_f L H (sh_d u v a b) c ↔ (a * b * v) % (c * u) = 0 ∧ c ≤ a * b * v / (c * u) ∧ a * b * v / (c * u) ≤ H := by
  have hcu : 0 < c * u := Int.mul_pos (by omega) (by omega)
  constructor
  · rintro ⟨h1, h2, h3, h4⟩
    by_cases hd : u ∣ a * b * v
    · have e : sh_d u v a b = a * b * v / u := if_pos hd
      rw [e] at h1 h2 h3 h4
      obtain ⟨k, hk⟩ := h2
      have e1 : a * b * v = c * u * k := by
        have := Int.mul_ediv_cancel' hd
        rw [← this, hk, ← Int.mul_assoc, Int.mul_comm u c]
      have e2 : a * b * v / (c * u) = k := by
        rw [e1]
        exact Int.mul_ediv_cancel_left k (by omega)
      have e3 : a * b * v / u / c = k := by
        rw [hk]
        exact Int.mul_ediv_cancel_left k (by omega)
      rw [e3] at h3 h4
      rw [hk] at h1
      refine ⟨by rw [e1]; exact Int.mul_emod_right _ _, ?_, by rw [e2]; exact h4⟩
      rw [e2]
      exact Int.le_of_mul_le_mul_left h1 (by omega)
    · exfalso
      have e : sh_d u v a b = 0 := if_neg hd
      rw [e] at h1
      have := Int.mul_pos (show 0 < c by omega) (show 0 < c by omega)
      omega
  · rintro ⟨h1, h2, h3⟩
    obtain ⟨k, hk⟩ := Int.dvd_of_emod_eq_zero h1
    have e2 : a * b * v / (c * u) = k := by
      rw [hk]
      exact Int.mul_ediv_cancel_left k (by omega)
    rw [e2] at h2 h3
    have hd : u ∣ a * b * v := ⟨c * k, by rw [hk, Int.mul_comm c u, Int.mul_assoc]⟩
    have e : sh_d u v a b = c * k := by
      have e4 : sh_d u v a b = a * b * v / u := if_pos hd
      rw [e4, hk, Int.mul_comm c u, Int.mul_assoc]
      exact Int.mul_ediv_cancel_left _ (by omega)
    have e3 : c * k / c = k := Int.mul_ediv_cancel_left k (by omega)
    refine ⟨?_, ?_, ?_, ?_⟩
    · rw [e]
      exact Int.mul_le_mul_of_nonneg_left h2 (by omega)
    · rw [e]
      exact Int.dvd_mul_right _ _
    · rw [e, e3]
      omega
    · rw [e, e3]
      exact h3
/-- one pair: the other tooth is told -/
def sh_h (u v a c : Int) : Int := if a * 1 * v % (c * u) = 0 ∧ a * 1 * v / (c * u) = 1 then 1 else 0
theorem sh_ge {L H u v a : Int} (hu : 1 ≤ u) (hL : 1 ≤ L) (ha : 1 ≤ a) (hv : 1 ≤ v) : sh_g L H u v a = sh_s (sh_h u v a) L (H + 1 - L).toNat := by
  have hp : 0 < a * v := Int.mul_pos (by omega) (by omega)
  have key : ∀ c : Int, L ≤ c → ((a * 1 * v % (c * u) = 0 ∧ a * 1 * v / (c * u) = 1) ↔ a * v = c * u) := by
    intro c hc
    have hcu : 0 < c * u := Int.mul_pos (by omega) (by omega)
    rw [Int.mul_one]
    constructor
    · rintro ⟨h1, h2⟩
      have := Int.mul_ediv_cancel' (Int.dvd_of_emod_eq_zero h1)
      rw [h2, Int.mul_one] at this
      exact this.symm
    · intro h
      rw [h]
      exact ⟨Int.emod_self, Int.ediv_self (by omega)⟩
  unfold sh_g
  split
  next h =>
    obtain ⟨h1, h2, h3⟩ := h
    have e := Int.mul_ediv_cancel' h1
    refine (sh_1 (f := sh_h u v a) (c0 := a * v / u) h2 h3 (if_pos ((key _ h2).mpr ?_)) (fun c c0 c1 c2 => if_neg (fun h => c2 ?_))).symm
    · rw [Int.mul_comm (a * v / u) u]
      exact e.symm
    · have := (key c c0).mp h
      rw [this]
      exact (Int.mul_ediv_cancel c (by omega)).symm
  next h =>
    refine (sh_0 (f := sh_h u v a) (fun c c0 c1 => if_neg (fun g => h ?_))).symm
    have e := (key c c0).mp g
    rw [e]
    rw [Int.mul_ediv_cancel c (by omega)]
    exact ⟨⟨c, Int.mul_comm c u⟩, c0, by omega⟩
theorem cx_21h {b : Bool} {A : Nat → Nat} {h0 : g_H} {d : Nat} {M : xa_M} {post : Option xa_V → xa_M → Prop} {l1 u1 l2 u2 x y : Int} (hx : 0 ≤ x ∧ x ≤ 320000000) (hy : 1 ≤ y ∧ y ≤ 9223372036854775807) (k : post (some (1, 0, 0, 320000000, x / y)) M) : xa_C (xl_I b) A h0 (d + 1) 21 [(1, 0, l1, u1, x), (1, 0, l2, u2, y)] M post := by
  refine xa_C_wk ?_
  refine xa_C_arg [(1, 0, 0, 320000000, x), (1, 0, 1, 9223372036854775807, y)] (xa_svL (fun _ _ _ _ => by omega) (xa_svL (fun _ _ _ _ => by omega) xa_sv0)) ?_
  refine xa_meth (Q0 := (4, 3, false, 0, 0, 11)) (by decide +kernel) ⟨rfl, rfl⟩ (full := s_c_21) rfl rfl ?_
  intro hM hv Q hgo
  have q0 := Int.ediv_nonneg (show 0 ≤ x by omega) (show 0 ≤ y by omega)
  have q1 := Int.ediv_le_self y (show 0 ≤ x by omega)
  refine hgo.1 11 [] 0 _ _ _ ?_
  show xa_wk post (some (1, 0, 0, 320000000, x / y)) M
  exact xa_wkL (x / y) rfl (fun _ _ => by omega) k
theorem cx_127f {b : Bool} {A : Nat → Nat} {h0 : g_H} {d : Nat} {M : xa_M} {post : Option xa_V → xa_M → Prop} {l1 u1 l2 u2 l3 u3 l4 u4 ta tb uu vv : Int} (hA : 10 ≤ ta ∧ ta ≤ 400) (hB : 10 ≤ tb ∧ tb ≤ 400) (hU : 1 ≤ uu ∧ uu ≤ 2000) (hV : 1 ≤ vv ∧ vv ≤ 2000) (k : post (some (1, 0, 0, 320000000, sh_d uu vv ta tb)) M) : xa_C (xl_I b) A h0 (d + 2) 127 [(2, 32, 0, 0, 0), (0, 0, l1, u1, ta), (0, 0, l2, u2, tb), (1, 0, l3, u3, uu), (1, 0, l4, u4, vv)] M post := by
  refine xa_C_wk ?_
  refine xa_C_arg [(2, 32, 0, 0, 0), (0, 0, 10, 400, ta), (0, 0, 10, 400, tb), (1, 0, 1, 2000, uu), (1, 0, 1, 2000, vv)] (xa_svR (xa_svI (fun _ _ _ _ => by omega) (xa_svI (fun _ _ _ _ => by omega) (xa_svL (fun _ _ _ _ => by omega) (xa_svL (fun _ _ _ _ => by omega) xa_sv0))))) ?_
  refine xa_meth (Q0 := (9, 3, false, 0, 0, 7)) (by decide +kernel) ⟨rfl, rfl⟩ (full := s_c_127) rfl rfl ?_
  intro hM hv Q hgo
  have hdb := sh_db (u := uu) (v := vv) (a := ta) (b := tb) hU.1 (by omega) (by omega) (by omega)
  refine hgo.1 21 [] 0 _ _ _ ?_
  show xa_C (xl_I b) A h0 _ 97 [(1, 0, 1, 2000, uu), (1, 0, 100, 320000000, (ta * tb) * vv)] M _
  refine cx_97f (by omega) (by omega) ?_ ?_
  · intro (i1 : uu ∣ ((ta * tb) * vv))
    show xa_C (xl_I b) A h0 _ 21 [(1, 0, 100, 320000000, (ta * tb) * vv), (1, 0, 1, 2000, uu)] M _
    refine cx_21h (by omega) (by omega) ?_
    show xa_wk post (some (1, 0, 0, 320000000, ((ta * tb) * vv) / uu)) M
    exact xa_wkL (sh_d uu vv ta tb) (show _ = sh_d uu vv ta tb from (if_pos i1).symm) (fun _ _ => hdb.2) k
  · intro (i2 : ¬ uu ∣ ((ta * tb) * vv))
    show xa_wk post (some (1, 0, 0, 0, 0)) M
    exact xa_wkL (sh_d uu vv ta tb) (show _ = sh_d uu vv ta tb from (if_neg i2).symm) (fun _ _ => hdb.2) k
theorem cx_124_32 {b : Bool} {A : Nat → Nat} {h0 : g_H} {d : Nat} {M : xa_M} {post : Option xa_V → xa_M → Prop} {l1 u1 : Int} {x1 : Int} (k1 : (x1 < (M 32 0)) → post (some (0, 0, 0, 0, 0)) M) (k2 : ((M 32 0) ≤ x1) → ((M 32 1) < x1) → post (some (0, 0, 0, 0, 0)) M) (k3 : ((M 32 0) ≤ x1) → (x1 ≤ (M 32 1)) → post (some (0, 0, 1, 1, 1)) M) : xa_C (xl_I b) A h0 (d + 1) 124 [(2, 32, 0, 0, 0), (1, 0, l1, u1, x1)] M post := by
  refine xa_C_arg [(2, 32, 0, 0, 0), (1, 0, (-9223372036854775808), 9223372036854775807, x1)] (xa_svR (xa_svL (fun _ _ _ _ => by omega) (xa_sv0))) ?_
  refine xa_meth (Q0 := (3, 2, false, 0, 0, 7)) (by decide +kernel) ⟨rfl, rfl⟩ (full := s_c_124) rfl rfl ?_
  intro hM hv Q hgo
  refine hgo.1 17 [] 0 _ _ _ ?_
  refine And.intro ?_ ?_
  · intro (c1 : x1 < (M 32 0))
    show post (some (0, 0, 0, 0, 0)) M
    exact k1 c1
  · intro (c1 : (M 32 0) ≤ x1)
    refine And.intro ?_ ?_
    · intro (c2 : (M 32 1) < x1)
      show post (some (0, 0, 0, 0, 0)) M
      exact k2 c1 c2
    · intro (c2 : x1 ≤ (M 32 1))
      show post (some (0, 0, 1, 1, 1)) M
      exact k3 c1 c2
theorem cx_128f {b : Bool} {A : Nat → Nat} {h0 : g_H} {d : Nat} {M : xa_M} {post : Option xa_V → xa_M → Prop} {l1 u1 l2 u2 x1 tp : Int} (hL : 10 ≤ M 32 0 ∧ M 32 0 ≤ M 32 1 ∧ M 32 1 ≤ 400) (hx : M 32 0 ≤ x1 ∧ x1 ≤ M 32 1 + 1) (hp : 0 ≤ tp ∧ tp ≤ 320000000) (k : ∀ r : Int, sh_n (M 32 0) (M 32 1) tp x1 r → (-1 ≤ r ∧ r ≤ 400) → post (some (0, 0, (-1), 400, r)) M) : xa_C (xl_I b) A h0 (d + 2) 128 [(2, 32, 0, 0, 0), (0, 0, l1, u1, x1), (1, 0, l2, u2, tp)] M post := by
  refine xa_C_wk ?_
  refine xa_C_arg [(2, 32, 0, 0, 0), (0, 0, 10, 401, x1), (1, 0, 0, 320000000, tp)] (xa_svR (xa_svI (fun _ _ _ _ => by omega) (xa_svL (fun _ _ _ _ => by omega) xa_sv0))) ?_
  refine xa_meth (Q0 := (5, 1, false, 0, 0, 7)) (by decide +kernel) ⟨rfl, rfl⟩ (full := s_c_128) rfl rfl ?_
  intro hM hv Q hgo
  have loop : ∀ (f : Nat) (tc : Int), M 32 0 ≤ tc ∧ x1 ≤ tc ∧ tc ≤ M 32 1 + 1 → (∀ c : Int, x1 ≤ c → c < tc → ¬ sh_f (M 32 0) (M 32 1) tp c) → 401 - tc < (f : Int) → Q 3 [(4, (0, 0, 10, 401, tc)), (0, (2, 32, 0, 0, 0)), (2, (1, 0, 0, 320000000, tp))] [] M := by
    intro f
    induction f with
    | zero => intro tc h1 hn hms; omega
    | succ f ih =>
      intro tc h1 hn hms
      refine hgo.1 30 [3] 3 _ _ _ ?_
      refine And.intro ?_ ?_
      · intro (c1 : (M 32 1) < tc)
        show xa_wk post (some (0, 0, (-1), (-1), (-1))) M
        exact xa_wkI (-1) rfl (fun _ _ => by omega) (k (-1) (Or.inl ⟨rfl, fun c q0 q1 => hn c q0 (by omega)⟩) (by omega))
      · intro (c1 : tc ≤ (M 32 1))
        refine And.intro ?_ ?_
        · intro (c2 : tp < (tc * tc))
          show xa_wk post (some (0, 0, (-1), (-1), (-1))) M
          exact xa_wkI (-1) rfl (fun _ _ => by omega) (k (-1) (Or.inl ⟨rfl, fun c q0 q1 g => by
            by_cases e : c < tc
            · exact hn c q0 e g
            · have g1 := g.1
              have g2 := Int.mul_le_mul (show tc ≤ c by omega) (show tc ≤ c by omega) (show 0 ≤ tc by omega) (show 0 ≤ c by omega)
              omega⟩) (by omega))
        · intro (c2 : (tc * tc) ≤ tp)
          show xa_C (xl_I b) A h0 _ 97 [(1, 0, 10, 401, tc), (1, 0, 0, 320000000, tp)] M _
          refine cx_97f (by omega) (by omega) ?_ ?_
          · intro (i3 : tc ∣ tp)
            show xa_C (xl_I b) A h0 _ 21 [(1, 0, 0, 320000000, tp), (1, 0, 10, 401, tc)] M _
            refine cx_21h (by omega) (by omega) ?_
            show xa_C (xl_I b) A h0 _ 124 [(2, 32, 0, 0, 0), (1, 0, 0, 320000000, tp / tc)] M _
            refine cx_124_32 ?_ ?_ ?_
            · intro (i4 : (tp / tc) < (M 32 0))
              show Q 3 [(4, (0, 0, 11, 402, tc + 1)), (0, (2, 32, 0, 0, 0)), (2, (1, 0, 0, 320000000, tp))] [] M
              refine hgo.2.1 3 _ [(4, (0, 0, 10, 401, tc + 1)), (0, (2, 32, 0, 0, 0)), (2, (1, 0, 0, 320000000, tp))] _ _ (xa_subI rfl rfl (fun _ _ _ _ => by omega) (xa_subR rfl (xa_subL rfl rfl (fun _ _ _ _ => by omega) (xa_sub0)))) ?_
              exact ih (tc + 1) (by omega) (fun c q0 q1 => by
                by_cases e : c = tc
                · rw [e]
                  exact fun g => by
                    have g3 := g.2.2.1
                    have g4 := g.2.2.2
                    omega
                · exact hn c q0 (by omega)) (by omega)
            · intro (i5 : (M 32 0) ≤ (tp / tc)) (i6 : (M 32 1) < (tp / tc))
              show Q 3 [(4, (0, 0, 11, 402, tc + 1)), (0, (2, 32, 0, 0, 0)), (2, (1, 0, 0, 320000000, tp))] [] M
              refine hgo.2.1 3 _ [(4, (0, 0, 10, 401, tc + 1)), (0, (2, 32, 0, 0, 0)), (2, (1, 0, 0, 320000000, tp))] _ _ (xa_subI rfl rfl (fun _ _ _ _ => by omega) (xa_subR rfl (xa_subL rfl rfl (fun _ _ _ _ => by omega) (xa_sub0)))) ?_
              exact ih (tc + 1) (by omega) (fun c q0 q1 => by
                by_cases e : c = tc
                · rw [e]
                  exact fun g => by
                    have g3 := g.2.2.1
                    have g4 := g.2.2.2
                    omega
                · exact hn c q0 (by omega)) (by omega)
            · intro (i7 : (M 32 0) ≤ (tp / tc)) (i8 : (tp / tc) ≤ (M 32 1))
              show xa_wk post (some (0, 0, 10, 401, tc)) M
              exact xa_wkI tc rfl (fun _ _ => by omega) (k tc (Or.inr ⟨by omega, by omega, ⟨c2, i3, i7, i8⟩, hn⟩) (by omega))
          · intro (i9 : ¬ tc ∣ tp)
            show Q 3 [(4, (0, 0, 11, 402, tc + 1)), (0, (2, 32, 0, 0, 0)), (2, (1, 0, 0, 320000000, tp))] [] M
            refine hgo.2.1 3 _ [(4, (0, 0, 10, 401, tc + 1)), (0, (2, 32, 0, 0, 0)), (2, (1, 0, 0, 320000000, tp))] _ _ (xa_subI rfl rfl (fun _ _ _ _ => by omega) (xa_subR rfl (xa_subL rfl rfl (fun _ _ _ _ => by omega) (xa_sub0)))) ?_
            exact ih (tc + 1) (by omega) (fun c q0 q1 => by
              by_cases e : c = tc
              · rw [e]
                exact fun g => i9 g.2.1
              · exact hn c q0 (by omega)) (by omega)
  refine hgo.1 7 [3] 0 _ _ _ ?_
  show Q 3 [(4, (0, 0, 10, 401, x1)), (0, (2, 32, 0, 0, 0)), (1, (0, 0, 10, 401, x1)), (2, (1, 0, 0, 320000000, tp))] [] M
  refine hgo.2.1 3 _ [(4, (0, 0, 10, 401, x1)), (0, (2, 32, 0, 0, 0)), (2, (1, 0, 0, 320000000, tp))] _ _ (xa_subI rfl rfl (fun _ _ _ _ => by omega) (xa_subR rfl (xa_subL rfl rfl (fun _ _ _ _ => by omega) (xa_sub0)))) ?_
  exact loop 402 x1 (by omega) (fun c q0 q1 => by omega) (by omega)
theorem cx_128n {b : Bool} {A : Nat → Nat} {h0 : g_H} {d : Nat} {M : xa_M} {post : Option xa_V → xa_M → Prop} {N : xa_M} {l1 u1 l2 u2 x1 tp : Int} (hk : ∀ (q : Nat) (j : Int), ¬ (q = 48 ∨ q = 49) → M q j = N q j) (hL : 10 ≤ N 32 0 ∧ N 32 0 ≤ N 32 1 ∧ N 32 1 ≤ 400) (hx : N 32 0 ≤ x1 ∧ x1 ≤ N 32 1 + 1) (hp : 0 ≤ tp ∧ tp ≤ 320000000) (k : ∀ r : Int, sh_n (N 32 0) (N 32 1) tp x1 r → (-1 ≤ r ∧ r ≤ 400) → post (some (0, 0, (-1), 400, r)) M) : xa_C (xl_I b) A h0 (d + 2) 128 [(2, 32, 0, 0, 0), (0, 0, l1, u1, x1), (1, 0, l2, u2, tp)] M post := by
  have e0 : M 32 0 = N 32 0 := hk 32 0 (by decide)
  have e1 : M 32 1 = N 32 1 := hk 32 1 (by decide)
  rw [← e0, ← e1] at hL hx
  exact cx_128f hL hx hp (fun r h1 h2 => k r (by rw [← e0, ← e1]; exact h1) h2)

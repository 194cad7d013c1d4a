-- common (class)
set_option maxRecDepth 20000
theorem cm_oo {v m : Int} : xa_ib 4 (xa_ib 4 v m) m = xa_ib 4 v m := by
  show (Int32.ofInt ((Int32.ofInt v ||| Int32.ofInt m).toInt) ||| Int32.ofInt m).toInt = (Int32.ofInt v ||| Int32.ofInt m).toInt
  rw [Int32.ofInt_toInt, Int32.or_assoc, Int32.or_self]
theorem cm_ob {z : Int32} {k : Nat} (h : z.toBitVec.getLsbD k = true) : (z ||| Int32.ofBitVec (BitVec.twoPow 32 k)) = z := by
  refine Int32.toBitVec_inj.mp ?_
  rw [Int32.toBitVec_or]
  refine BitVec.eq_of_getLsbD_eq (fun i hi => ?_)
  rw [BitVec.getLsbD_or]
  show (_ || (BitVec.twoPow 32 k).getLsbD i) = _
  rw [BitVec.getLsbD_twoPow]
  by_cases e : i = k
  · rw [e, h]
    rfl
  · have e2 : ¬ k = i := fun q => e q.symm
    simp [e2]
theorem cm_s1 : ∀ p : Nat, p < 8 → ((1 : Int32) <<< (Int32.ofInt (p : Int) &&& 31)) = Int32.ofBitVec (BitVec.twoPow 32 p) := by decide +kernel
/-- whoever has the bit is not changed by it -/
theorem cm_has {v p : Int} (v0 : -2147483648 ≤ v) (v1 : v ≤ 2147483647) (p0 : 0 ≤ p) (p1 : p < 8) (h : xa_ib 3 (xa_ib 7 v p) 1 = 1) : xa_ib 4 v (xa_ib 6 1 p) = v := by
  have h2 := bt_eq (b := v) (w := p) p0 (by omega)
  have h3 : bt v p = 1 := h
  rw [h3] at h2
  have hb : (Int32.ofInt v).toBitVec.getLsbD p.toNat = true := by
    revert h2
    cases (Int32.ofInt v).toBitVec.getLsbD p.toNat
    · intro h2
      exact absurd h2 (by decide)
    · intro _
      rfl
  have e : p = ((p.toNat : Nat) : Int) := by omega
  have e1 : Int32.ofInt (xa_ib 6 1 p) = Int32.ofBitVec (BitVec.twoPow 32 p.toNat) := by
    rw [e]
    show Int32.ofInt (((1 : Int32) <<< (Int32.ofInt ((p.toNat : Nat) : Int) &&& 31)).toInt) = _
    rw [Int32.ofInt_toInt, cm_s1 p.toNat (by omega)]
    rfl
  show (Int32.ofInt v ||| Int32.ofInt (xa_ib 6 1 p)).toInt = v
  rw [e1, cm_ob hb]
  exact Int32.toInt_ofInt_of_le (by omega) (by omega)
/-- one after another -/
def cm_f (f : Int → (Int → Int) → (Int → Int)) (lo : Int) : Nat → (Int → Int) → (Int → Int)
  | 0, W => W
  | n + 1, W => f (lo + (n : Int)) (cm_f f lo n W)
theorem cm_fp {f : Int → (Int → Int) → (Int → Int)} {lo c : Int} {W : Int → Int} (h : lo ≤ c) : cm_f f lo (c + 1 - lo).toNat W = f c (cm_f f lo (c - lo).toNat W) := by
  rw [show (c + 1 - lo).toNat = (c - lo).toNat + 1 by omega]
  show f (lo + (((c - lo).toNat : Nat) : Int)) _ = _
  rw [show lo + (((c - lo).toNat : Nat) : Int) = c by omega]
/-- both teeth are marked -/
def cm_m (m a b : Int) (W : Int → Int) (t : Int) : Int := if t = a ∨ t = b then xa_ib 4 (W t) m else W t
def cm_k (L H u v a b : Int) : Prop := ∃ c : Int, L ≤ c ∧ c ≤ H ∧ sh_f L H (sh_d u v a b) c
noncomputable def cm_b (L H u v m a b : Int) (W : Int → Int) : Int → Int := @ite (Int → Int) (cm_k L H u v a b) (Classical.propDecidable _) (cm_m m a b W) W
noncomputable def cm_a (L H u v m a : Int) (W : Int → Int) : Int → Int := cm_f (cm_b L H u v m a) a (H + 1 - a).toNat W
theorem cm_b1 {L H u v m a b : Int} {W : Int → Int} (h : cm_k L H u v a b) : cm_b L H u v m a b W = cm_m m a b W := if_pos h
theorem cm_b0 {L H u v m a b : Int} {W : Int → Int} (h : ¬ cm_k L H u v a b) : cm_b L H u v m a b W = W := if_neg h
/-- the reference asks for any two teeth -/
theorem cm_ke {L H u v a b : Int} (hu : 1 ≤ u) (hL : 1 ≤ L) : cm_k L H u v a b ↔ ∃ c : Int, L ≤ c ∧ c ≤ H ∧ a * b * v % (c * u) = 0 ∧ L ≤ a * b * v / (c * u) ∧ a * b * v / (c * u) ≤ H := by
  constructor
  · rintro ⟨c, c0, c1, c2⟩
    obtain ⟨g1, g2, g3⟩ := (sh_fe hu hL c0).mp c2
    exact ⟨c, c0, c1, g1, by omega, g3⟩
  · rintro ⟨c, c0, c1, g1, g2, g3⟩
    by_cases h : c ≤ a * b * v / (c * u)
    · exact ⟨c, c0, c1, (sh_fe hu hL c0).mpr ⟨g1, h, g3⟩⟩
    · obtain ⟨k, hk⟩ := Int.dvd_of_emod_eq_zero g1
      have hcu : 0 < c * u := Int.mul_pos (by omega) (by omega)
      have e2 : a * b * v / (c * u) = k := by
        rw [hk]
        exact Int.mul_ediv_cancel_left k (by omega)
      rw [e2] at g2 g3 h
      have hku : 0 < k * u := Int.mul_pos (by omega) (by omega)
      have e3 : a * b * v = k * u * c := by
        rw [hk, Int.mul_comm c u, Int.mul_assoc, Int.mul_comm c k, ← Int.mul_assoc, Int.mul_comm u k]
      have e4 : a * b * v / (k * u) = c := by
        rw [e3]
        exact Int.mul_ediv_cancel_left c (by omega)
      refine ⟨k, g2, g3, (sh_fe hu hL g2).mpr ⟨?_, ?_, ?_⟩⟩
      · rw [e3]
        exact Int.mul_emod_right _ _
      · rw [e4]
        omega
      · rw [e4]
        exact c1
/-- marked once more: the same -/
theorem cm_mm {m a b : Int} {W : Int → Int} : cm_m m a b (cm_m m a b W) = cm_m m a b W := by
  funext t
  unfold cm_m
  split
  · exact cm_oo
  · rfl
/-- the first of the greatest -/
def cm_x (g : Int → Int) (lo : Int) : Nat → Int
  | 0 => lo
  | n + 1 => if g (cm_x g lo n) < g (lo + (n : Int)) then lo + (n : Int) else cm_x g lo n
/-- marking on memory: place q, teeth t at g t -/
theorem cm_up {M : xa_M} {q : Nat} {g W : Int → Int} {L H m a b : Int} (hg : ∀ x y : Int, g x = g y → x = y) (h : ∀ t : Int, L ≤ t → t ≤ H → M q (g t) = W t) (ha : L ≤ a ∧ a ≤ H) (hb : L ≤ b ∧ b ≤ H) : ∀ t : Int, L ≤ t → t ≤ H → xa_up (xa_up M q (g a) (xa_ib 4 (M q (g a)) m)) q (g b) (xa_ib 4 ((xa_up M q (g a) (xa_ib 4 (M q (g a)) m)) q (g b)) m) q (g t) = cm_m m a b W t := by
  intro t t0 t1
  unfold cm_m
  by_cases e1 : t = b
  · rw [if_pos (Or.inr e1), e1, xa_up_eq]
    by_cases e2 : b = a
    · rw [e2, xa_up_eq, cm_oo, h a ha.1 ha.2]
    · rw [xa_up_ne (fun e => e2 (hg _ _ e.2)), h b hb.1 hb.2]
  · rw [xa_up_ne (fun e => e1 (hg _ _ e.2))]
    by_cases e2 : t = a
    · rw [if_pos (Or.inl e2), e2, xa_up_eq, h a ha.1 ha.2]
    · rw [if_neg (fun e => by rcases e with e | e; exact e2 e; exact e1 e), xa_up_ne (fun e => e2 (hg _ _ e.2)), h t t0 t1]
/-- all the periods asked for -/
noncomputable def cm_p (L H x : Int) (U V : Int → Int) (p : Int) (W : Int → Int) : Int → Int := @ite (Int → Int) (xa_ib 3 (xa_ib 7 x p) 1 = 1) (Int.instDecidableEq _ _) (cm_f (cm_a L H (U p) (V p) (xa_ib 6 1 p)) L (H + 1 - L).toNat W) W
noncomputable def cm_w (L H n x : Int) (U V : Int → Int) : Int → Int := cm_f (cm_p L H x U V) 0 n.toNat (fun _ => 0)
noncomputable def cm_r (L H n x : Int) (U V : Int → Int) : Int := if cm_w L H n x U V (cm_x (fun t => xa_bc (cm_w L H n x U V t)) L (H + 1 - L).toNat) = 0 then -2 else cm_x (fun t => xa_bc (cm_w L H n x U V t)) L (H + 1 - L).toNat
def cm_P (L H n : Int) (U V : Int → Int) (x r : Int) : Prop := (¬ (0 < x ∧ x < xa_ib 6 1 n) ∧ r = -1) ∨ ((0 < x ∧ x < xa_ib 6 1 n) ∧ ((60 < H - L ∧ r = -4) ∨ (H - L ≤ 60 ∧ r = cm_r L H n x U V)))
theorem cm_fe {f g : Int → (Int → Int) → (Int → Int)} {lo : Int} : ∀ (n : Nat) (W : Int → Int), (∀ c : Int, lo ≤ c → c < lo + n → f c = g c) → cm_f f lo n W = cm_f g lo n W := by
  intro n
  induction n with
  | zero => intro W _; rfl
  | succ n ih =>
    intro W h
    show f (lo + (n : Int)) (cm_f f lo n W) = g (lo + (n : Int)) (cm_f g lo n W)
    rw [ih W (fun c c0 c1 => h c c0 (by omega)), h (lo + (n : Int)) (by omega) (by omega)]
theorem cm_we {L H n x : Int} {U V U' V' : Int → Int} (h : ∀ p : Int, 0 ≤ p → p < n → U p = U' p ∧ V p = V' p) : cm_w L H n x U V = cm_w L H n x U' V' := by
  refine cm_fe _ _ (fun c c0 c1 => ?_)
  obtain ⟨h1, h2⟩ := h c c0 (by omega)
  unfold cm_p
  rw [h1, h2]
theorem cm_Pe {L H n x r : Int} {U V U' V' : Int → Int} (h : ∀ p : Int, 0 ≤ p → p < n → U p = U' p ∧ V p = V' p) (g : cm_P L H n U V x r) : cm_P L H n U' V' x r := by
  have e := cm_we (L := L) (H := H) (x := x) h
  unfold cm_P cm_r at g ⊢
  rw [e] at g
  exact g
theorem cm_one {L H n x r r' : Int} {U V : Int → Int} (h : cm_P L H n U V x r) (h' : cm_P L H n U V x r') : r = r' := by
  unfold cm_P at h h'
  omega
theorem cm_x1 {g : Int → Int} {lo y t : Int} {n : Nat} (hx : y = cm_x g lo n) (et : t = lo + (n : Int)) (h : g y < g t) : t = cm_x g lo (n + 1) := by
  show t = if g (cm_x g lo n) < g (lo + (n : Int)) then lo + (n : Int) else cm_x g lo n
  rw [← hx, ← et, if_pos h]
theorem cm_x0 {g : Int → Int} {lo y t : Int} {n : Nat} (hx : y = cm_x g lo n) (et : t = lo + (n : Int)) (h : ¬ g y < g t) : y = cm_x g lo (n + 1) := by
  show y = if g (cm_x g lo n) < g (lo + (n : Int)) then lo + (n : Int) else cm_x g lo n
  rw [← hx, ← et, if_neg h]
theorem cm_xi {g : Int → Int} {lo : Int} : cm_x g lo 1 = lo := by
  show (if g lo < g (lo + ((0 : Nat) : Int)) then lo + ((0 : Nat) : Int) else lo) = lo
  rw [show lo + ((0 : Nat) : Int) = lo by omega]
  split <;> rfl
theorem cm_r1 {L H n x y : Int} {U V : Int → Int} (hx : y = cm_x (fun t => xa_bc (cm_w L H n x U V t)) L (H + 1 - L).toNat) (h : ¬ cm_w L H n x U V y = 0) : y = cm_r L H n x U V := by
  unfold cm_r
  rw [← hx, if_neg h]
theorem cm_r0 {L H n x y : Int} {U V : Int → Int} (hx : y = cm_x (fun t => xa_bc (cm_w L H n x U V t)) L (H + 1 - L).toNat) (h : cm_w L H n x U V y = 0) : (-2 : Int) = cm_r L H n x U V := by
  unfold cm_r
  rw [← hx, if_pos h]
theorem cx_77h {b : Bool} {A : Nat → Nat} {h0 : g_H} {d : Nat} {M : xa_M} {post : Option xa_V → xa_M → Prop} {l1 u1 x1 : Int} (k : ∀ M1 : xa_M, (∀ (q : Nat) (j : Int), ¬ q = 33 → M1 q j = M q j) → (∀ j : Int, 0 ≤ j → j < 61 → M1 33 j = x1) → post none M1) : xa_C (xl_I b) A h0 (d + 1) 77 [(2, 33, 0, 0, 0), (0, 0, l1, u1, x1)] M post := by
  refine xa_C_arg [(2, 33, 0, 0, 0), (0, 0, (-2147483648), 2147483647, x1)] (xa_svR (xa_svI (fun _ _ _ _ => by omega) xa_sv0)) ?_
  refine xa_meth (Q0 := (3, 0, false, 0, 0, 11)) (by decide +kernel) ⟨rfl, rfl⟩ (full := s_c_77) rfl rfl ?_
  intro hM hv Q hgo
  have loop : ∀ (f : Nat) (i : Int) (M1 : xa_M), 0 ≤ i ∧ i ≤ 61 → (∀ (q : Nat) (j : Int), ¬ q = 33 → M1 q j = M q j) → (∀ j : Int, 0 ≤ j → j < i → M1 33 j = x1) → 61 - i < (f : Int) → Q 2 [(2, (0, 0, 0, 61, i)), (0, (2, 33, 0, 0, 0)), (1, (0, 0, (-2147483648), 2147483647, x1))] [] M1 := by
    intro f
    induction f with
    | zero => intro i M1 i1 hk hz hms; omega
    | succ f ih =>
      intro i M1 i1 hk hz hms
      refine hgo.1 15 [2] 2 _ _ _ ?_
      refine And.intro ?_ ?_
      · intro (c1 : 61 ≤ i)
        show post none M1
        exact k M1 hk (fun j j0 j1 => hz j j0 (by omega))
      · intro (c1 : i < 61)
        refine And.intro (show 0 ≤ i ∧ i < 61 by omega) ?_
        show Q 2 [(2, (0, 0, 1, 62, i + 1)), (0, (2, 33, 0, 0, 0)), (1, (0, 0, (-2147483648), 2147483647, x1))] [] (xa_up M1 33 i x1)
        refine hgo.2.1 2 _ [(2, (0, 0, 0, 61, i + 1)), (0, (2, 33, 0, 0, 0)), (1, (0, 0, (-2147483648), 2147483647, x1))] _ _ (xa_subI rfl rfl (fun _ _ _ _ => by omega) (xa_subR rfl (xa_subI rfl rfl (fun _ _ _ _ => by omega) (xa_sub0)))) ?_
        exact ih (i + 1) (xa_up M1 33 i x1) (by omega) (fun q j hq => (xa_up_ne (fun e => hq e.1)).trans (hk q j hq)) (fun j j0 j1 => by
          by_cases e : j = i
          · rw [e, xa_up_eq]
          · rw [xa_up_ne (fun g => e g.2)]
            exact hz j j0 (by omega)) (by omega)
  refine hgo.1 7 [2] 0 _ _ _ ?_
  show Q 2 [(2, (0, 0, 0, 0, 0)), (0, (2, 33, 0, 0, 0)), (1, (0, 0, (-2147483648), 2147483647, x1))] [] M
  refine hgo.2.1 2 _ [(2, (0, 0, 0, 61, 0)), (0, (2, 33, 0, 0, 0)), (1, (0, 0, (-2147483648), 2147483647, x1))] _ _ (xa_subI rfl rfl (fun _ _ _ _ => by omega) (xa_subR rfl (xa_subI rfl rfl (fun _ _ _ _ => by omega) (xa_sub0)))) ?_
  exact loop 62 0 M (by omega) (fun _ _ _ => rfl) (fun j j0 j1 => by omega) (by omega)
theorem cx_128g {b : Bool} {A : Nat → Nat} {h0 : g_H} {d : Nat} {M : xa_M} {post : Option xa_V → xa_M → Prop} {N : xa_M} {l1 u1 l2 u2 x1 tp : Int} (hk : ∀ (q : Nat) (j : Int), ¬ q = 33 → M q j = N q j) (hL : 10 ≤ N 32 0 ∧ N 32 0 ≤ N 32 1 ∧ N 32 1 ≤ 400) (hx : N 32 0 ≤ x1 ∧ x1 ≤ N 32 1 + 1) (hp : 0 ≤ tp ∧ tp ≤ 320000000) (k : ∀ r : Int, sh_n (N 32 0) (N 32 1) tp x1 r → (-1 ≤ r ∧ r ≤ 400) → post (some (0, 0, (-1), 400, r)) M) : xa_C (xl_I b) A h0 (d + 2) 128 [(2, 32, 0, 0, 0), (0, 0, l1, u1, x1), (1, 0, l2, u2, tp)] M post := by
  have e0 : M 32 0 = N 32 0 := hk 32 0 (by decide)
  have e1 : M 32 1 = N 32 1 := hk 32 1 (by decide)
  rw [← e0, ← e1] at hL hx
  exact cx_128f hL hx hp (fun r h1 h2 => k r (by rw [← e0, ← e1]; exact h1) h2)
theorem cx_23_33 {b : Bool} {A : Nat → Nat} {h0 : g_H} {d : Nat} {M : xa_M} {post : Option xa_V → xa_M → Prop} {l1 u1 : Int} {i : Int} (h1 : 0 ≤ i ∧ i < 61) (k1 : post (some (0, 0, (-2147483648), 2147483647, M 33 i)) M) : xa_C (xl_I b) A h0 (d + 1) 23 [(2, 33, 0, 0, 0), (0, 0, l1, u1, i)] M post := by
  refine xa_C_arg [(2, 33, 0, 0, 0), (0, 0, (-2147483648), 2147483647, i)] (xa_svR (xa_svI (fun _ _ _ _ => by omega) xa_sv0)) ?_
  refine xa_meth (Q0 := (2, 1, false, 0, 0, 11)) (by decide +kernel) ⟨rfl, rfl⟩ (full := s_c_23) rfl rfl ?_
  intro hM hv Q hgo
  refine hgo.1 15 [] 0 _ _ _ ?_
  refine And.intro ?_ ?_
  · intro (c1 : i < 0)
    show post (some (0, 0, 0, 0, 0)) M
    exact absurd h1 (by omega)
  · intro (c1 : 0 ≤ i)
    refine And.intro ?_ ?_
    · intro (c2 : 61 ≤ i)
      show post (some (0, 0, 0, 0, 0)) M
      exact absurd h1 (by omega)
    · intro (c2 : i < 61)
      refine And.intro (show 0 ≤ i ∧ i < 61 by omega) ?_
      show post (some (0, 0, (-2147483648), 2147483647, M 33 i)) M
      exact k1
theorem cx_18_33 {b : Bool} {A : Nat → Nat} {h0 : g_H} {d : Nat} {M : xa_M} {post : Option xa_V → xa_M → Prop} {l1 u1 l2 u2 : Int} {i v : Int} (h1 : 0 ≤ i ∧ i < 61) (k1 : post none (xa_up M 33 i v)) : xa_C (xl_I b) A h0 (d + 1) 18 [(2, 33, 0, 0, 0), (0, 0, l1, u1, i), (0, 0, l2, u2, v)] M post := by
  refine xa_C_arg [(2, 33, 0, 0, 0), (0, 0, (-2147483648), 2147483647, i), (0, 0, (-2147483648), 2147483647, v)] (xa_svR (xa_svI (fun _ _ _ _ => by omega) (xa_svI (fun _ _ _ _ => by omega) xa_sv0))) ?_
  refine xa_meth (Q0 := (3, 0, false, 0, 0, 11)) (by decide +kernel) ⟨rfl, rfl⟩ (full := s_c_18) rfl rfl ?_
  intro hM hv Q hgo
  refine hgo.1 15 [] 0 _ _ _ ?_
  refine And.intro ?_ ?_
  · intro (c1 : i < 0)
    show post none M
    exact absurd h1 (by omega)
  · intro (c1 : 0 ≤ i)
    refine And.intro ?_ ?_
    · intro (c2 : 61 ≤ i)
      show post none M
      exact absurd h1 (by omega)
    · intro (c2 : i < 61)
      refine And.intro (show 0 ≤ i ∧ i < 61 by omega) ?_
      show post none (xa_up M 33 i v)
      exact k1
theorem cx_135f {b : Bool} {A : Nat → Nat} {h0 : g_H} {d : Nat} {M : xa_M} {post : Option xa_V → xa_M → Prop} {l1 u1 l2 u2 l3 u3 tm uu vv : Int} {W : Int → Int} (hL : 10 ≤ M 32 0 ∧ M 32 0 ≤ M 32 1 ∧ M 32 1 ≤ 400) (hD : M 32 1 - M 32 0 ≤ 60) (hU : 1 ≤ uu ∧ uu ≤ 2000) (hV : 1 ≤ vv ∧ vv ≤ 2000) (hW : ∀ t : Int, M 32 0 ≤ t → t ≤ M 32 1 → M 33 (t - M 32 0) = W t) (k : ∀ M1 : xa_M, (∀ (q : Nat) (j : Int), ¬ q = 33 → M1 q j = M q j) → (∀ t : Int, M 32 0 ≤ t → t ≤ M 32 1 → M1 33 (t - M 32 0) = cm_f (cm_a (M 32 0) (M 32 1) uu vv tm) (M 32 0) (M 32 1 + 1 - M 32 0).toNat W t) → post none M1) : xa_C (xl_I b) A h0 (d + 3) 135 [(2, 32, 0, 0, 0), (0, 0, l1, u1, tm), (1, 0, l2, u2, uu), (1, 0, l3, u3, vv)] M post := by
  refine xa_C_arg [(2, 32, 0, 0, 0), (0, 0, (-2147483648), 2147483647, tm), (1, 0, 1, 2000, uu), (1, 0, 1, 2000, vv)] (xa_svR (xa_svI (fun _ _ _ _ => by omega) (xa_svL (fun _ _ _ _ => by omega) (xa_svL (fun _ _ _ _ => by omega) xa_sv0)))) ?_
  refine xa_meth (Q0 := (8, 0, false, 0, 0, 7)) (by decide +kernel) ⟨rfl, rfl⟩ (full := s_c_135) rfl rfl ?_
  intro hM hv Q hgo
  have loop6 : ∀ (f : Nat) (ta : Int) (M1 : xa_M), (∀ (q : Nat) (j : Int), ¬ q = 33 → M1 q j = M q j) → M 32 0 ≤ ta ∧ ta ≤ M 32 1 + 1 → (∀ t : Int, M 32 0 ≤ t → t ≤ M 32 1 → M1 33 (t - M 32 0) = cm_f (cm_a (M 32 0) (M 32 1) uu vv tm) (M 32 0) (ta - M 32 0).toNat W t) → 401 - ta < (f : Int) → Q 6 [(6, (0, 0, 10, 401, ta)), (0, (2, 32, 0, 0, 0)), (1, (0, 0, (-2147483648), 2147483647, tm)), (2, (1, 0, 1, 2000, uu)), (4, (1, 0, 1, 2000, vv))] [] M1 := by
    intro f
    induction f with
    | zero => intro ta M1 hk ha hw hms; omega
    | succ f ih6 =>
      intro ta M1 hk ha hw hms
      have e0 : M1 32 0 = M 32 0 := hk 32 0 (by decide)
      have e1 : M1 32 1 = M 32 1 := hk 32 1 (by decide)
      have loop19 : ta ≤ M 32 1 → ∀ (f : Nat) (tb : Int) (M1 : xa_M), (∀ (q : Nat) (j : Int), ¬ q = 33 → M1 q j = M q j) → ta ≤ tb ∧ tb ≤ M 32 1 + 1 → (∀ t : Int, M 32 0 ≤ t → t ≤ M 32 1 → M1 33 (t - M 32 0) = cm_f (cm_b (M 32 0) (M 32 1) uu vv tm ta) ta (tb - ta).toNat (cm_f (cm_a (M 32 0) (M 32 1) uu vv tm) (M 32 0) (ta - M 32 0).toNat W) t) → 401 - tb < (f : Int) → Q 19 [(7, (0, 0, 10, 401, tb)), (6, (0, 0, 10, 400, ta)), (0, (2, 32, 0, 0, 0)), (1, (0, 0, (-2147483648), 2147483647, tm)), (2, (1, 0, 1, 2000, uu)), (4, (1, 0, 1, 2000, vv))] [] M1 := by
        intro ha2 f
        induction f with
        | zero => intro tb M1 hk hb hw hms; omega
        | succ f ih19 =>
          intro tb M1 hk hb hw hms
          have e0 : M1 32 0 = M 32 0 := hk 32 0 (by decide)
          have e1 : M1 32 1 = M 32 1 := hk 32 1 (by decide)
          refine hgo.1 55 [6, 19] 19 _ _ _ ?_
          refine And.intro ?_ ?_
          · intro (c1 : (M1 32 1) < tb)
            show Q 6 [(6, (0, 0, 11, 401, ta + 1)), (7, (0, 0, 10, 401, tb)), (0, (2, 32, 0, 0, 0)), (1, (0, 0, (-2147483648), 2147483647, tm)), (2, (1, 0, 1, 2000, uu)), (4, (1, 0, 1, 2000, vv))] [] M1
            refine hgo.2.1 6 _ [(6, (0, 0, 10, 401, ta + 1)), (0, (2, 32, 0, 0, 0)), (1, (0, 0, (-2147483648), 2147483647, tm)), (2, (1, 0, 1, 2000, uu)), (4, (1, 0, 1, 2000, vv))] _ _ (xa_subI rfl rfl (fun _ _ _ _ => by omega) (xa_subR rfl (xa_subI rfl rfl (fun _ _ _ _ => by omega) (xa_subL rfl rfl (fun _ _ _ _ => by omega) (xa_subL rfl rfl (fun _ _ _ _ => by omega) (xa_sub0)))))) ?_
            have e : tb = M 32 1 + 1 := by omega
            rw [e] at hw
            exact ih6 (ta + 1) M1 hk (by omega) (fun t t0 t1 => by rw [cm_fp (show M 32 0 ≤ ta by omega)]; exact hw t t0 t1) (by omega)
          · intro (c1 : tb ≤ (M1 32 1))
            have hdb := sh_db (u := uu) (v := vv) (a := ta) (b := tb) hU.1 (by omega) (by omega) (by omega)
            show xa_C (xl_I b) A h0 _ 127 [(2, 32, 0, 0, 0), (0, 0, 10, 400, ta), (0, 0, 10, 401, tb), (1, 0, 1, 2000, uu), (1, 0, 1, 2000, vv)] M1 _
            refine cx_127f (by omega) (by omega) hU hV ?_
            show xa_C (xl_I b) A h0 _ 128 [(2, 32, 0, 0, 0), (0, 0, 10, 400, M1 32 0), (1, 0, 0, 320000000, sh_d uu vv ta tb)] M1 _
            refine cx_128g (N := M) (by assumption) hL (by omega) (by omega) ?_
            intro r123 (i2 : sh_n (M 32 0) (M 32 1) (sh_d uu vv ta tb) (M1 32 0) r123) (i3 : -1 ≤ r123 ∧ r123 ≤ 400)
            refine And.intro ?_ ?_
            · intro (c4 : r123 = (-1))
              show Q 19 [(7, (0, 0, 11, 402, tb + 1)), (6, (0, 0, 10, 400, ta)), (0, (2, 32, 0, 0, 0)), (1, (0, 0, (-2147483648), 2147483647, tm)), (2, (1, 0, 1, 2000, uu)), (4, (1, 0, 1, 2000, vv))] [] M1
              refine hgo.2.1 19 _ [(7, (0, 0, 10, 401, tb + 1)), (6, (0, 0, 10, 400, ta)), (0, (2, 32, 0, 0, 0)), (1, (0, 0, (-2147483648), 2147483647, tm)), (2, (1, 0, 1, 2000, uu)), (4, (1, 0, 1, 2000, vv))] _ _ (xa_subI rfl rfl (fun _ _ _ _ => by omega) (xa_subI rfl rfl (fun _ _ _ _ => by omega) (xa_subR rfl (xa_subI rfl rfl (fun _ _ _ _ => by omega) (xa_subL rfl rfl (fun _ _ _ _ => by omega) (xa_subL rfl rfl (fun _ _ _ _ => by omega) (xa_sub0))))))) ?_
              have q1 : ¬ cm_k (M 32 0) (M 32 1) uu vv ta tb := by
                rintro ⟨c, c0, c1, c2⟩
                rcases i2 with ⟨g1, g2⟩ | ⟨g1, g2, g3, g4⟩
                · exact g2 c (by omega) c1 c2
                · omega
              exact ih19 (tb + 1) M1 hk (by omega) (fun t t0 t1 => by rw [cm_fp (show ta ≤ tb by omega), cm_b0 q1]; exact hw t t0 t1) (by omega)
            · intro (c4 : ¬ r123 = (-1))
              show xa_C (xl_I b) A h0 _ 23 [(2, 33, 0, 0, 0), (0, 0, (-390), 390, ta - (M1 32 0))] M1 _
              refine cx_23_33 (show 0 ≤ (ta - (M1 32 0)) ∧ (ta - (M1 32 0)) < 61 by omega) ?_
              show xa_C (xl_I b) A h0 _ 18 [(2, 33, 0, 0, 0), (0, 0, (-390), 390, ta - (M1 32 0)), (0, 0, (-2147483648), 2147483647, xa_ib 4 (M1 33 (ta - (M1 32 0))) tm)] M1 _
              refine cx_18_33 (show 0 ≤ (ta - (M1 32 0)) ∧ (ta - (M1 32 0)) < 61 by omega) ?_
              show xa_C (xl_I b) A h0 _ 23 [(2, 33, 0, 0, 0), (0, 0, (-390), 391, tb - (M1 32 0))] (xa_up M1 33 (ta - (M1 32 0)) (xa_ib 4 (M1 33 (ta - (M1 32 0))) tm)) _
              refine cx_23_33 (show 0 ≤ (tb - (M1 32 0)) ∧ (tb - (M1 32 0)) < 61 by omega) ?_
              show xa_C (xl_I b) A h0 _ 18 [(2, 33, 0, 0, 0), (0, 0, (-390), 391, tb - (M1 32 0)), (0, 0, (-2147483648), 2147483647, xa_ib 4 ((xa_up M1 33 (ta - (M1 32 0)) (xa_ib 4 (M1 33 (ta - (M1 32 0))) tm)) 33 (tb - (M1 32 0))) tm)] (xa_up M1 33 (ta - (M1 32 0)) (xa_ib 4 (M1 33 (ta - (M1 32 0))) tm)) _
              refine cx_18_33 (show 0 ≤ (tb - (M1 32 0)) ∧ (tb - (M1 32 0)) < 61 by omega) ?_
              show Q 19 [(7, (0, 0, 11, 402, tb + 1)), (6, (0, 0, 10, 400, ta)), (0, (2, 32, 0, 0, 0)), (1, (0, 0, (-2147483648), 2147483647, tm)), (2, (1, 0, 1, 2000, uu)), (4, (1, 0, 1, 2000, vv))] [] (xa_up (xa_up M1 33 (ta - (M1 32 0)) (xa_ib 4 (M1 33 (ta - (M1 32 0))) tm)) 33 (tb - (M1 32 0)) (xa_ib 4 ((xa_up M1 33 (ta - (M1 32 0)) (xa_ib 4 (M1 33 (ta - (M1 32 0))) tm)) 33 (tb - (M1 32 0))) tm))
              refine hgo.2.1 19 _ [(7, (0, 0, 10, 401, tb + 1)), (6, (0, 0, 10, 400, ta)), (0, (2, 32, 0, 0, 0)), (1, (0, 0, (-2147483648), 2147483647, tm)), (2, (1, 0, 1, 2000, uu)), (4, (1, 0, 1, 2000, vv))] _ _ (xa_subI rfl rfl (fun _ _ _ _ => by omega) (xa_subI rfl rfl (fun _ _ _ _ => by omega) (xa_subR rfl (xa_subI rfl rfl (fun _ _ _ _ => by omega) (xa_subL rfl rfl (fun _ _ _ _ => by omega) (xa_subL rfl rfl (fun _ _ _ _ => by omega) (xa_sub0))))))) ?_
              have q1 : cm_k (M 32 0) (M 32 1) uu vv ta tb := by
                rcases i2 with ⟨g1, g2⟩ | ⟨g1, g2, g3, g4⟩
                · omega
                · exact ⟨_, by omega, g2, g3⟩
              exact ih19 (tb + 1) _ (fun q j hq => (xa_up_ne (fun e => hq e.1)).trans ((xa_up_ne (fun e => hq e.1)).trans (hk q j hq))) (by omega) (fun t t0 t1 => by
                rw [cm_fp (show ta ≤ tb by omega), cm_b1 q1, e0]
                exact cm_up (g := fun t => t - M 32 0) (fun x y e => by have e : x - M 32 0 = y - M 32 0 := e; omega) hw (by omega) (by omega) t t0 t1) (by omega)
      refine hgo.1 11 [6, 19] 6 _ _ _ ?_
      refine And.intro ?_ ?_
      · intro (c1 : (M1 32 1) < ta)
        show post none M1
        have e : ta = M 32 1 + 1 := by omega
        rw [e] at hw
        exact k M1 hk hw
      · intro (c1 : ta ≤ (M1 32 1))
        show Q 19 [(7, (0, 0, 10, 401, ta)), (6, (0, 0, 10, 401, ta)), (0, (2, 32, 0, 0, 0)), (1, (0, 0, (-2147483648), 2147483647, tm)), (2, (1, 0, 1, 2000, uu)), (4, (1, 0, 1, 2000, vv))] [] M1
        refine hgo.2.1 19 _ [(7, (0, 0, 10, 401, ta)), (6, (0, 0, 10, 400, ta)), (0, (2, 32, 0, 0, 0)), (1, (0, 0, (-2147483648), 2147483647, tm)), (2, (1, 0, 1, 2000, uu)), (4, (1, 0, 1, 2000, vv))] _ _ (xa_subI rfl rfl (fun _ _ _ _ => by omega) (xa_subI rfl rfl (fun _ _ _ _ => by omega) (xa_subR rfl (xa_subI rfl rfl (fun _ _ _ _ => by omega) (xa_subL rfl rfl (fun _ _ _ _ => by omega) (xa_subL rfl rfl (fun _ _ _ _ => by omega) (xa_sub0))))))) ?_
        exact loop19 (by omega) 402 ta M1 hk (by omega) (fun t t0 t1 => by rw [show (ta - ta).toNat = 0 by omega]; exact hw t t0 t1) (by omega)
  refine hgo.1 8 [6, 19] 0 _ _ _ ?_
  show Q 6 [(6, (0, 0, 10, 400, M 32 0)), (0, (2, 32, 0, 0, 0)), (1, (0, 0, (-2147483648), 2147483647, tm)), (2, (1, 0, 1, 2000, uu)), (4, (1, 0, 1, 2000, vv))] [] M
  refine hgo.2.1 6 _ [(6, (0, 0, 10, 401, M 32 0)), (0, (2, 32, 0, 0, 0)), (1, (0, 0, (-2147483648), 2147483647, tm)), (2, (1, 0, 1, 2000, uu)), (4, (1, 0, 1, 2000, vv))] _ _ (xa_subI rfl rfl (fun _ _ _ _ => by omega) (xa_subR rfl (xa_subI rfl rfl (fun _ _ _ _ => by omega) (xa_subL rfl rfl (fun _ _ _ _ => by omega) (xa_subL rfl rfl (fun _ _ _ _ => by omega) (xa_sub0)))))) ?_
  exact loop6 402 (M 32 0) M (fun _ _ _ => rfl) (by omega) (fun t t0 t1 => by rw [show (M 32 0 - M 32 0).toNat = 0 by omega]; exact hW t t0 t1) (by omega)

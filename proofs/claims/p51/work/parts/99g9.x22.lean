-- next: in how many fittings a wheel has which teeth
set_option maxRecDepth 20000
/-- a tuple that fits and has n at i -/
def nx_G (L H : Int → Int) (s : Nat) (F : Int → Prop) (i n : Int) (r : Int) : Prop := F r ∧ ∃ V : Int → Int, fs_in L H V s ∧ fs_rk L H V s = r ∧ V i = n
theorem nx_Gi {L H V : Int → Int} {s : Nat} {F : Int → Prop} {i n : Int} (hV : fs_in L H V s) (i0 : 0 ≤ i) (i1 : i < s) (hF : F (fs_rk L H V s)) : nx_G L H s F i n (fs_rk L H V s) ↔ V i = n := by
  constructor
  · rintro ⟨-, V', h1, h2, h3⟩
    rw [← h3]
    exact fs_inj s hV h1 h2.symm i i0 i1
  · intro h
    exact ⟨hF, V, hV, rfl, h⟩
/-- one tuple more -/
theorem nx_c {L H V : Int → Int} {s : Nat} {F : Int → Prop} {i n r : Int} (hV : fs_in L H V s) (i0 : 0 ≤ i) (i1 : i < s) (hr : fs_rk L H V s = r) (hF : F r) (r0 : 0 ≤ r) : fs_c (nx_G L H s F i n) (r + 1).toNat = fs_c (nx_G L H s F i n) r.toNat + (if V i = n then 1 else 0) := by
  subst hr
  by_cases h : V i = n
  · rw [if_pos h]
    exact fa_c1 r0 ((nx_Gi hV i0 i1 hF).mpr h)
  · rw [if_neg h, Int.add_zero]
    exact fa_c0 r0 (fun g => h ((nx_Gi hV i0 i1 hF).mp g))
/-- a tuple that doesn't fit -/
theorem nx_c0 {L H : Int → Int} {s : Nat} {F : Int → Prop} {i n r : Int} (hF : ¬ F r) (r0 : 0 ≤ r) : fs_c (nx_G L H s F i n) (r + 1).toNat = fs_c (nx_G L H s F i n) r.toNat := fa_c0 r0 (fun g => hF g.1)
theorem nx_eq {F G : Int → Prop} (hGF : ∀ k : Int, G k → F k) {x y : Nat} (hxy : x ≤ y) (h : fs_c F x = fs_c F y) : fs_c G x = fs_c G y := by
  obtain ⟨d, rfl⟩ := Nat.exists_eq_add_of_le hxy
  exact (fs_cn d (fun k k0 k1 hG => by
    have a := fs_cl (F := F) k0
    have b := fs_end (hGF _ hG) k1
    omega)).symm
theorem nx_eq2 {F G : Int → Prop} (hGF : ∀ k : Int, G k → F k) {x y : Nat} (h : fs_c F x = fs_c F y) : fs_c G x = fs_c G y := by
  rcases Nat.le_total x y with c | c
  · exact nx_eq hGF c h
  · exact (nx_eq hGF c h.symm).symm
theorem nx_GF {L H : Int → Int} {s : Nat} {F : Int → Prop} {i n : Int} : ∀ k : Int, nx_G L H s F i n k → F k := fun _ h => h.1
/-- outside of its span a wheel has no teeth -/
theorem nx_z {L H : Int → Int} {s : Nat} {F : Int → Prop} {i n : Int} (i0 : 0 ≤ i) (i1 : i < s) (hn : ¬ (L i ≤ n ∧ n ≤ H i)) (k : Nat) : fs_c (nx_G L H s F i n) k = 0 := by
  have e := fs_cn (F := nx_G L H s F i n) (a := 0) k (fun j _ _ g => by
    obtain ⟨-, V, h1, -, h3⟩ := g
    have := h1 i i0 i1
    rw [h3] at this
    exact hn this)
  rw [Nat.zero_add] at e
  rw [e]
  rfl
/-- the most of them -/
def nx_mx (c : Int → Int) : Nat → Int
  | 0 => 0
  | k + 1 => if nx_mx c k ≤ c (k : Int) then c (k : Int) else nx_mx c k
theorem nx_mxs {c : Int → Int} {k x r : Int} (k0 : 0 ≤ k) (hx : x = nx_mx c k.toNat) (h : x ≤ r ∧ c k ≤ r ∧ (r = x ∨ r = c k)) : r = nx_mx c (k + 1).toNat := by
  have e : ((k.toNat : Nat) : Int) = k := Int.toNat_of_nonneg k0
  rw [show (k + 1).toNat = k.toNat + 1 by omega]
  show r = if nx_mx c k.toNat ≤ c ((k.toNat : Nat) : Int) then c ((k.toNat : Nat) : Int) else nx_mx c k.toNat
  rw [e, ← hx]
  split <;> omega
def nx_m (c : Int → Int) (m : Int) : Prop := (∀ n, c n ≤ m) ∧ (m = 0 ∨ ∃ n, c n = m) ∧ 0 ≤ m
theorem nx_m1 {c : Int → Int} {m m' : Int} (h : nx_m c m) (h' : nx_m c m') : m = m' := by
  obtain ⟨a, b, d⟩ := h
  obtain ⟨a', b', d'⟩ := h'
  have x : m ≤ m' := by
    rcases b with b | ⟨n, b⟩
    · omega
    · rw [← b]
      exact a' n
  have y : m' ≤ m := by
    rcases b' with b | ⟨n, b⟩
    · omega
    · rw [← b]
      exact a n
  omega
theorem nx_mxk {c : Int → Int} (k : Nat) : (∀ n : Int, 0 ≤ n → n < k → c n ≤ nx_mx c k) ∧ (nx_mx c k = 0 ∨ ∃ n, c n = nx_mx c k) ∧ 0 ≤ nx_mx c k := by
  induction k with
  | zero => exact ⟨fun n n0 n1 => by omega, Or.inl rfl, Int.le_refl 0⟩
  | succ k ih =>
    obtain ⟨a, b, d⟩ := ih
    have e : nx_mx c (k + 1) = if nx_mx c k ≤ c (k : Int) then c (k : Int) else nx_mx c k := rfl
    rw [e]
    split
    · rename_i h
      refine ⟨fun n n0 n1 => ?_, Or.inr ⟨(k : Int), rfl⟩, by omega⟩
      by_cases q : n = k
      · rw [q]
        exact Int.le_refl _
      · have := a n n0 (by omega)
        omega
    · rename_i h
      refine ⟨fun n n0 n1 => ?_, b, d⟩
      by_cases q : n = k
      · rw [q]
        omega
      · exact a n n0 (by omega)
theorem nx_mxm {c : Int → Int} {k : Nat} (hz : ∀ n : Int, ¬ (0 ≤ n ∧ n < k) → c n ≤ 0) : nx_m c (nx_mx c k) := by
  obtain ⟨a, b, d⟩ := nx_mxk (c := c) k
  refine ⟨fun n => ?_, b, d⟩
  by_cases h : 0 ≤ n ∧ n < k
  · exact a n h.1 h.2
  · have := hz n h
    omega
/-- where a wheel's counts begin -/
def nx_B (L H : Int → Int) : Nat → Int
  | 0 => 0
  | n + 1 => nx_B L H n + (H n - L n + 1)
theorem nx_Bs {L H : Int → Int} {i : Int} (i0 : 0 ≤ i) : nx_B L H (i + 1).toNat = nx_B L H i.toNat + (H i - L i + 1) := by
  have e : ((i.toNat : Nat) : Int) = i := Int.toNat_of_nonneg i0
  rw [show (i + 1).toNat = i.toNat + 1 by omega]
  show nx_B L H i.toNat + (H ((i.toNat : Nat) : Int) - L ((i.toNat : Nat) : Int) + 1) = _
  rw [e]
theorem nx_Bm {L H : Int → Int} {s a b : Nat} (h : ∀ i : Int, 0 ≤ i → i < s → 10 ≤ L i ∧ L i ≤ H i ∧ H i ≤ 400) (hb : b ≤ s) (hab : a ≤ b) : nx_B L H a ≤ nx_B L H b := by
  obtain ⟨d, rfl⟩ := Nat.exists_eq_add_of_le hab
  induction d with
  | zero => exact Int.le_refl _
  | succ d ih =>
    have := ih (by omega) (by omega)
    have g := h ((a + d : Nat) : Int) (by omega) (by omega)
    have e : nx_B L H (a + (d + 1)) = nx_B L H (a + d) + (H ((a + d : Nat) : Int) - L ((a + d : Nat) : Int) + 1) := rfl
    omega
/-- so long are the spans together at most -/
theorem nx_sum {L H : Int → Int} (n : Nat) : (∀ i : Int, 0 ≤ i → i < n → 10 ≤ L i ∧ L i ≤ H i ∧ H i ≤ 400) → 1 ≤ fs_pr L H n ∧ nx_B L H n - n ≤ fs_pr L H n - 1 ∧ 391 * (nx_B L H n - n) ≤ 152490 + fs_pr L H n ∧ (fs_pr L H n ≤ 200000 → nx_B L H n - n ≤ 786) := by
  induction n with
  | zero =>
    intro _
    have e1 : fs_pr L H 0 = 1 := rfl
    have e2 : nx_B L H 0 = 0 := rfl
    rw [e1, e2]
    omega
  | succ n ih =>
    intro h
    obtain ⟨p1, a, b, c⟩ := ih (fun i i0 i1 => h i i0 (by omega))
    have g := h (n : Int) (by omega) (by omega)
    have e1 : fs_pr L H (n + 1) = fs_pr L H n * (H n - L n + 1) := rfl
    have e2 : nx_B L H (n + 1) = nx_B L H n + (H n - L n + 1) := rfl
    obtain ⟨x, hx⟩ : ∃ x, x = H (n : Int) - L (n : Int) + 1 := ⟨_, rfl⟩
    rw [e1, e2, ← hx]
    have x1 : 1 ≤ x ∧ x ≤ 391 := by omega
    generalize fs_pr L H n = P at p1 a b c
    generalize hS : nx_B L H n - (n : Int) = S at a b c
    have hS' : nx_B L H n + x - ((n + 1 : Nat) : Int) = S + x - 1 := by omega
    rw [hS']
    have q1 : 0 ≤ (P - 1) * (x - 1) := Int.mul_nonneg (by omega) (by omega)
    have q1' : (P - 1) * (x - 1) = P * x - P - x + 1 := by
      rw [Int.sub_mul, Int.mul_sub, Int.mul_one, Int.one_mul]
      omega
    have p2 : 1 ≤ P * x := by
      have := Int.mul_pos (show 0 < P by omega) (show 0 < x by omega)
      omega
    refine ⟨p2, by omega, ?_, fun hP => ?_⟩
    · by_cases d : 391 ≤ P
      · have q2 : 0 ≤ (P - 391) * (x - 1) := Int.mul_nonneg (by omega) (by omega)
        have q2' : (P - 391) * (x - 1) = P * x - P - 391 * x + 391 := by
          rw [Int.sub_mul, Int.mul_sub, Int.mul_sub, Int.mul_one, Int.mul_one]
          omega
        omega
      · have q2 : 0 ≤ (391 - P) * (391 - x) := Int.mul_nonneg (by omega) (by omega)
        have q2' : (391 - P) * (391 - x) = 152881 - 391 * x - P * 391 + P * x := by
          rw [Int.sub_mul, Int.mul_sub, Int.mul_sub]
          omega
        omega
    · by_cases d1 : x = 1
      · subst d1
        rw [Int.mul_one] at hP
        have := c hP
        omega
      · by_cases d2 : x ≤ 5
        · have q := Int.mul_le_mul_of_nonneg_left (show 2 ≤ x by omega) (show 0 ≤ P by omega)
          omega
        · by_cases d3 : x ≤ 300
          · have q := Int.mul_le_mul_of_nonneg_left (show 6 ≤ x by omega) (show 0 ≤ P by omega)
            omega
          · have q := Int.mul_le_mul_of_nonneg_left (show 301 ≤ x by omega) (show 0 ≤ P by omega)
            omega
/-- the place of a count -/
def nx_ix (L H : Int → Int) (j n : Int) : Int := nx_B L H j.toNat - L j + n
theorem nx_ixb {L H : Int → Int} {s : Nat} {j n : Int} (h : ∀ i : Int, 0 ≤ i → i < s → 10 ≤ L i ∧ L i ≤ H i ∧ H i ≤ 400) (hs : s ≤ 14) (hp : fs_pr L H s ≤ 200000) (j0 : 0 ≤ j) (j1 : j < s) (n0 : L j ≤ n) (n1 : n ≤ H j) : 0 ≤ nx_ix L H j n ∧ nx_ix L H j n < 800 := by
  have a := (nx_sum s h).2.2.2 hp
  have b := nx_Bm h (Nat.le_refl s) (show (j + 1).toNat ≤ s by omega)
  rw [nx_Bs j0] at b
  have c := nx_Bm h (show j.toNat ≤ s by omega) (Nat.zero_le _)
  have c0 : nx_B L H 0 = 0 := rfl
  unfold nx_ix
  omega
theorem nx_ixd {L H : Int → Int} {s : Nat} {j n w m : Int} (h : ∀ i : Int, 0 ≤ i → i < s → 10 ≤ L i ∧ L i ≤ H i ∧ H i ≤ 400) (j0 : 0 ≤ j) (j1 : j < s) (n0 : L j ≤ n) (n1 : n ≤ H j) (w0 : 0 ≤ w) (w1 : w < s) (m0 : L w ≤ m) (m1 : m ≤ H w) (e : nx_ix L H j n = nx_ix L H w m) : j = w ∧ n = m := by
  unfold nx_ix at e
  rcases Int.lt_trichotomy j w with c | c | c
  · have b := nx_Bm h (show w.toNat ≤ s by omega) (show (j + 1).toNat ≤ w.toNat by omega)
    rw [nx_Bs j0] at b
    omega
  · subst c
    exact ⟨rfl, by omega⟩
  · have b := nx_Bm h (show j.toNat ≤ s by omega) (show (w + 1).toNat ≤ j.toNat by omega)
    rw [nx_Bs w0] at b
    omega
/-- the counts as the class keeps them -/
def nx_T (T : Int → Int) (L H : Int → Int) (s : Int) (c : Int → Int → Int) : Prop := ∀ j n : Int, 0 ≤ j → j < s → L j ≤ n → n ≤ H j → T (nx_ix L H j n) = c j n
/-- one wheel more is counted -/
theorem nx_Ts {L H V : Int → Int} {s : Int} {F : Int → Prop} {r w v : Int} {M1 : xa_M} (h : ∀ i : Int, 0 ≤ i → i < s.toNat → 10 ≤ L i ∧ L i ≤ H i ∧ H i ≤ 400) (hV : fs_in L H V s.toNat) (hr : fs_rk L H V s.toNat = r) (hF : F r) (r0 : 0 ≤ r) (w0 : 0 ≤ w) (w1 : w < s) (hT : nx_T (M1 28) L H s (fun j n => fs_c (nx_G L H s.toNat F j n) (if j < w then r + 1 else r).toNat)) (hv : v = M1 28 (nx_ix L H w (V w)) + 1) : nx_T ((xa_up M1 28 (nx_ix L H w (V w)) v) 28) L H s (fun j n => fs_c (nx_G L H s.toNat F j n) (if j < w + 1 then r + 1 else r).toNat) := by
  intro j n j0 j1 n0 n1
  have hw := hV w w0 (by omega)
  have a := hT j n j0 j1 n0 n1
  show (xa_up M1 28 (nx_ix L H w (V w)) v) 28 (nx_ix L H j n) = fs_c (nx_G L H s.toNat F j n) (if j < w + 1 then r + 1 else r).toNat
  have a : M1 28 (nx_ix L H j n) = fs_c (nx_G L H s.toNat F j n) (if j < w then r + 1 else r).toNat := a
  by_cases e : j = w ∧ n = V w
  · obtain ⟨rfl, rfl⟩ := e
    rw [xa_up_eq, hv, a, if_neg (by omega), if_pos (by omega), nx_c hV j0 (by omega) hr hF r0, if_pos rfl]
  · rw [xa_up_ne (fun g => e (nx_ixd h j0 (by omega) n0 n1 w0 (by omega) hw.1 hw.2 g.2)), a]
    by_cases c : j < w
    · rw [if_pos c, if_pos (by omega)]
    · rw [if_neg c]
      by_cases c2 : j = w
      · rw [if_pos (by omega), nx_c hV j0 (by omega) hr hF r0, if_neg (fun g => e ⟨c2, by rw [← c2]; exact g.symm⟩), Int.add_zero]
      · rw [if_neg (by omega)]
/-- what next answers: the first of the wheels whose counts' most is least -/
noncomputable def nx_K (N : xa_M) (s : Int) (W R : Int → Int) (p i n : Int) : Int := fs_c (nx_G (fun i => N 61 (W i)) (fun i => N 62 (W i)) s.toNat (tk_F N s W R p) i n) (tk_pr N s W).toNat
def tf_107 (N : xa_M) (X p r : Int) : Prop := ∃ (e s : Int) (W R : Int → Int), tk_S N X p e s W R ∧ ((¬ e = 0 ∧ r = e) ∨ (e = 0 ∧ ((fs_c (tk_F N s W R p) (tk_pr N s W).toNat = 0 ∧ r = -2) ∨ (1 ≤ fs_c (tk_F N s W R p) (tk_pr N s W).toNat ∧ ∃ (m : Int → Int) (b : Int), (∀ i, 0 ≤ i → i < s → nx_m (nx_K N s W R p i) (m i)) ∧ (0 ≤ b ∧ b < s) ∧ (∀ i, 0 ≤ i → i < b → m b < m i) ∧ (∀ i, 0 ≤ i → i < s → m b ≤ m i) ∧ r = W b))))
theorem nx_K_e {N : xa_M} {s : Int} {W R W' R' : Int → Int} {p i n : Int} (h : ∀ i : Int, 0 ≤ i → i < s → W' i = W i ∧ R' i = R i) : nx_K N s W' R' p i n = nx_K N s W R p i n := by
  obtain ⟨k3, k4, -, -⟩ := tk_e (M := N) h
  have eL : ∀ j : Int, 0 ≤ j → j < s.toNat → N 61 (W' j) = N 61 (W j) ∧ N 62 (W' j) = N 62 (W j) := fun j j0 j1 => by
    rw [(h j j0 (by omega)).1]
    exact ⟨rfl, rfl⟩
  unfold nx_K
  rw [k3 p, k4]
  have e : (nx_G (fun i => N 61 (W' i)) (fun i => N 62 (W' i)) s.toNat (tk_F N s W R p) i n) = (nx_G (fun i => N 61 (W i)) (fun i => N 62 (W i)) s.toNat (tk_F N s W R p) i n) := by
    funext r
    refine propext ⟨fun g => ?_, fun g => ?_⟩
    · obtain ⟨g1, V, g2, g3, g4⟩ := g
      exact ⟨g1, V, fun j j0 j1 => by have g : N 61 (W' j) ≤ V j ∧ V j ≤ N 62 (W' j) := g2 j j0 j1; have q := eL j j0 j1; show N 61 (W j) ≤ V j ∧ V j ≤ N 62 (W j); omega, by rw [← g3]; exact (fs_rk_e2 s.toNat (fun j j0 j1 => ⟨(eL j j0 j1).1, (eL j j0 j1).2⟩)).symm, g4⟩
    · obtain ⟨g1, V, g2, g3, g4⟩ := g
      exact ⟨g1, V, fun j j0 j1 => by have g : N 61 (W j) ≤ V j ∧ V j ≤ N 62 (W j) := g2 j j0 j1; have q := eL j j0 j1; show N 61 (W' j) ≤ V j ∧ V j ≤ N 62 (W' j); omega, by rw [← g3]; exact fs_rk_e2 s.toNat (fun j j0 j1 => ⟨(eL j j0 j1).1, (eL j j0 j1).2⟩), g4⟩
  rw [e]
theorem tf_107_one {N : xa_M} {X p r r' : Int} (hM : tk_M N) (h : tf_107 N X p r) (h' : tf_107 N X p r') : r = r' := by
  obtain ⟨e, s, W, R, hS, h1⟩ := h
  obtain ⟨e', s', W', R', hS', h2⟩ := h'
  obtain ⟨ee, k⟩ := tk_S_one hM hS hS'
  subst ee
  rcases h1 with ⟨a1, a2⟩ | ⟨a1, a2⟩
  · rcases h2 with ⟨-, b2⟩ | ⟨b1, -⟩
    · omega
    · exact absurd b1 a1
  · rcases h2 with ⟨b1, -⟩ | ⟨-, b2⟩
    · exact absurd a1 b1
    · obtain ⟨es, k2⟩ := k (Or.inl a1)
      subst s'
      obtain ⟨k3, k4, -, -⟩ := tk_e (M := N) k2
      rw [k3 p, k4] at b2
      rcases a2 with ⟨c1, c2⟩ | ⟨c1, m, b, m1, ⟨b0, b1⟩, m2, m3, c2⟩
      · rcases b2 with ⟨-, d2⟩ | ⟨d1, -⟩ <;> omega
      · rcases b2 with ⟨d1, -⟩ | ⟨-, m', b', m1', ⟨b0', b1'⟩, m2', m3', d2⟩
        · omega
        · have em : ∀ i, 0 ≤ i → i < s → m i = m' i := fun i i0 i1 => by
            have x := m1 i i0 i1
            have y := m1' i i0 i1
            have q : nx_K N s W' R' p i = nx_K N s W R p i := funext (fun n => nx_K_e k2)
            rw [q] at y
            exact nx_m1 x y
          have eb : b = b' := by
            rcases Int.lt_trichotomy b b' with c | c | c
            · have x := m2' b b0 c
              have y := m3 b' b0' b1'
              rw [em b b0 b1, em b' b0' b1'] at y
              omega
            · exact c
            · have x := m2 b' b0' c
              have y := m3' b b0 b1
              rw [← em b b0 b1, ← em b' b0' b1'] at y
              omega
          rw [c2, d2, ← eb, (k2 b b0 b1).1]
theorem tk_Zr {N : xa_M} {X p : Int} {M : xa_M} (hT : tk_M N) (hZ : tk_Z N X p M) : (1 ≤ M 15 10 ∧ M 15 10 ≤ 14) ∧ (∀ i : Int, 0 ≤ i → i < (M 15 10).toNat → 10 ≤ N 61 (M 21 i) ∧ N 61 (M 21 i) ≤ N 62 (M 21 i) ∧ N 62 (M 21 i) ≤ 400) ∧ (∀ i : Int, 0 ≤ i → i < M 15 10 → M 23 i = N 61 (M 21 i) ∧ M 24 i = N 62 (M 21 i)) ∧ fs_pr (fun i => N 61 (M 21 i)) (fun i => N 62 (M 21 i)) (M 15 10).toNat ≤ 200000 := by
  obtain ⟨hX, hL, hp, hl, -⟩ := hZ
  obtain ⟨s1, -, s3⟩ := tk_lst hT ⟨hX.1, by omega⟩ hL
  exact ⟨s1, fun i i0 i1 => (s3 i i0 (by omega)).2, hl, hp⟩
theorem tk_rkb {N : xa_M} {s : Int} {W V : Int → Int} (h : tk_in N s W V) : 0 ≤ tk_rk N s W V ∧ tk_rk N s W V < tk_pr N s W := fs_rk_b s.toNat h
/-- one fitting more: the counts at any place that has so many ahead -/
theorem nx_any {N : xa_M} {s p i : Int} {W R V : Int → Int} {T : Int → Int} (hin : tk_in N s W V) (hF : tk_F N s W R p (tk_rk N s W V)) (hc : fs_c (tk_F N s W R p) (tk_rk N s W V).toNat = i) (hT : nx_T T (fun i => N 61 (W i)) (fun i => N 62 (W i)) s (fun j n => fs_c (nx_G (fun i => N 61 (W i)) (fun i => N 62 (W i)) s.toNat (tk_F N s W R p) j n) (if j < s then tk_rk N s W V + 1 else tk_rk N s W V).toNat)) : ∀ x : Nat, fs_c (tk_F N s W R p) x = i + 1 → nx_T T (fun i => N 61 (W i)) (fun i => N 62 (W i)) s (fun j n => fs_c (nx_G (fun i => N 61 (W i)) (fun i => N 62 (W i)) s.toNat (tk_F N s W R p) j n) x) := by
  intro x hx j n j0 j1 n0 n1
  have a := hT j n j0 j1 n0 n1
  have a : T (nx_ix (fun i => N 61 (W i)) (fun i => N 62 (W i)) j n) = fs_c (nx_G (fun i => N 61 (W i)) (fun i => N 62 (W i)) s.toNat (tk_F N s W R p) j n) (if j < s then tk_rk N s W V + 1 else tk_rk N s W V).toNat := a
  rw [if_pos j1] at a
  show T (nx_ix (fun i => N 61 (W i)) (fun i => N 62 (W i)) j n) = fs_c (nx_G (fun i => N 61 (W i)) (fun i => N 62 (W i)) s.toNat (tk_F N s W R p) j n) x
  rw [a]
  have h1 := fa_c1 (F := tk_F N s W R p) (tk_rkb hin).1 hF
  exact nx_eq2 nx_GF (by rw [h1, hc, hx])
theorem cx_77n {b : Bool} {A : Nat → Nat} {h0 : g_H} {d : Nat} {M : xa_M} {post : Option xa_V → xa_M → Prop} {l1 u1 x1 : Int} (k : ∀ M1 : xa_M, (∀ (q : Nat) (j : Int), ¬ q = 28 → M1 q j = M q j) → (∀ j : Int, 0 ≤ j → j < 800 → M1 28 j = x1) → post none M1) : xa_C (xl_I b) A h0 (d + 1) 77 [(2, 28, 0, 0, 0), (0, 0, l1, u1, x1)] M post := by
  refine xa_C_arg [(2, 28, 0, 0, 0), (0, 0, (-2147483648), 2147483647, x1)] (xa_svR (xa_svI (fun _ _ _ _ => by omega) xa_sv0)) ?_
  refine xa_meth (Q0 := (3, 0, false, 0, 0, 11)) (by decide +kernel) ⟨rfl, rfl⟩ (full := s_c_77) rfl rfl ?_
  intro hM hv Q hgo
  have loop : ∀ (f : Nat) (i : Int) (M1 : xa_M), 0 ≤ i ∧ i ≤ 800 → (∀ (q : Nat) (j : Int), ¬ q = 28 → M1 q j = M q j) → (∀ j : Int, 0 ≤ j → j < i → M1 28 j = x1) → 800 - i < (f : Int) → Q 2 [(2, (0, 0, 0, 800, i)), (0, (2, 28, 0, 0, 0)), (1, (0, 0, (-2147483648), 2147483647, x1))] [] M1 := by
    intro f
    induction f with
    | zero => intro i M1 i1 hk hz hms; omega
    | succ f ih =>
      intro i M1 i1 hk hz hms
      refine hgo.1 15 [2] 2 _ _ _ ?_
      refine And.intro ?_ ?_
      · intro (c1 : 800 ≤ i)
        show post none M1
        exact k M1 hk (fun j j0 j1 => hz j j0 (by omega))
      · intro (c1 : i < 800)
        refine And.intro (show 0 ≤ i ∧ i < 800 by omega) ?_
        show Q 2 [(2, (0, 0, 1, 801, i + 1)), (0, (2, 28, 0, 0, 0)), (1, (0, 0, (-2147483648), 2147483647, x1))] [] (xa_up M1 28 i x1)
        refine hgo.2.1 2 _ [(2, (0, 0, 0, 800, i + 1)), (0, (2, 28, 0, 0, 0)), (1, (0, 0, (-2147483648), 2147483647, x1))] _ _ (xa_subI rfl rfl (fun _ _ _ _ => by omega) (xa_subR rfl (xa_subI rfl rfl (fun _ _ _ _ => by omega) (xa_sub0)))) ?_
        exact ih (i + 1) (xa_up M1 28 i x1) (by omega) (fun q j hq => (xa_up_ne (fun e => hq e.1)).trans (hk q j hq)) (fun j j0 j1 => by
          by_cases e : j = i
          · rw [e]
            exact xa_up_eq
          · exact (xa_up_ne (fun g => e g.2)).trans (hz j j0 (by omega))) (by omega)
  refine hgo.1 7 [2] 0 _ _ _ ?_
  show Q 2 [(2, (0, 0, 0, 0, 0)), (0, (2, 28, 0, 0, 0)), (1, (0, 0, (-2147483648), 2147483647, x1))] [] M
  refine hgo.2.1 2 _ [(2, (0, 0, 0, 800, 0)), (0, (2, 28, 0, 0, 0)), (1, (0, 0, (-2147483648), 2147483647, x1))] _ _ (xa_subI rfl rfl (fun _ _ _ _ => by omega) (xa_subR rfl (xa_subI rfl rfl (fun _ _ _ _ => by omega) (xa_sub0)))) ?_
  exact loop 801 0 M (by omega) (fun _ _ _ => rfl) (fun j j0 j1 => by omega) (by omega)
theorem cx_18_29 {b : Bool} {A : Nat → Nat} {h0 : g_H} {d : Nat} {M : xa_M} {post : Option xa_V → xa_M → Prop} {l1 u1 l2 u2 : Int} {i v : Int} (h1 : 0 ≤ i ∧ i < 14) (k1 : post none (xa_up M 29 i v)) : xa_C (xl_I b) A h0 (d + 1) 18 [(2, 29, 0, 0, 0), (0, 0, l1, u1, i), (0, 0, l2, u2, v)] M post := by
  refine xa_C_arg [(2, 29, 0, 0, 0), (0, 0, (-2147483648), 2147483647, i), (0, 0, (-2147483648), 2147483647, v)] (xa_svR (xa_svI (fun _ _ _ _ => by omega) (xa_svI (fun _ _ _ _ => by omega) xa_sv0))) ?_
  refine xa_meth (Q0 := (3, 0, false, 0, 0, 11)) (by decide +kernel) ⟨rfl, rfl⟩ (full := s_c_18) rfl rfl ?_
  intro hM hv Q hgo
  refine hgo.1 15 [] 0 _ _ _ ?_
  refine And.intro ?_ ?_
  · intro (c1 : i < 0)
    show post none M
    exact absurd h1 (by omega)
  · intro (c1 : 0 ≤ i)
    refine And.intro ?_ ?_
    · intro (c2 : 14 ≤ i)
      show post none M
      exact absurd h1 (by omega)
    · intro (c2 : i < 14)
      refine And.intro (show 0 ≤ i ∧ i < 14 by omega) ?_
      show post none (xa_up M 29 i v)
      exact k1
theorem cx_23_28 {b : Bool} {A : Nat → Nat} {h0 : g_H} {d : Nat} {M : xa_M} {post : Option xa_V → xa_M → Prop} {l1 u1 : Int} {i : Int} (h1 : 0 ≤ i ∧ i < 800) (k1 : post (some (0, 0, (-2147483648), 2147483647, M 28 i)) M) : xa_C (xl_I b) A h0 (d + 1) 23 [(2, 28, 0, 0, 0), (0, 0, l1, u1, i)] M post := by
  refine xa_C_arg [(2, 28, 0, 0, 0), (0, 0, (-2147483648), 2147483647, i)] (xa_svR (xa_svI (fun _ _ _ _ => by omega) xa_sv0)) ?_
  refine xa_meth (Q0 := (2, 1, false, 0, 0, 11)) (by decide +kernel) ⟨rfl, rfl⟩ (full := s_c_23) rfl rfl ?_
  intro hM hv Q hgo
  refine hgo.1 15 [] 0 _ _ _ ?_
  refine And.intro ?_ ?_
  · intro (c1 : i < 0)
    show post (some (0, 0, 0, 0, 0)) M
    exact absurd h1 (by omega)
  · intro (c1 : 0 ≤ i)
    refine And.intro ?_ ?_
    · intro (c2 : 800 ≤ i)
      show post (some (0, 0, 0, 0, 0)) M
      exact absurd h1 (by omega)
    · intro (c2 : i < 800)
      refine And.intro (show 0 ≤ i ∧ i < 800 by omega) ?_
      show post (some (0, 0, (-2147483648), 2147483647, M 28 i)) M
      exact k1
theorem cx_18_28 {b : Bool} {A : Nat → Nat} {h0 : g_H} {d : Nat} {M : xa_M} {post : Option xa_V → xa_M → Prop} {l1 u1 l2 u2 : Int} {i v : Int} (h1 : 0 ≤ i ∧ i < 800) (k1 : post none (xa_up M 28 i v)) : xa_C (xl_I b) A h0 (d + 1) 18 [(2, 28, 0, 0, 0), (0, 0, l1, u1, i), (0, 0, l2, u2, v)] M post := by
  refine xa_C_arg [(2, 28, 0, 0, 0), (0, 0, (-2147483648), 2147483647, i), (0, 0, (-2147483648), 2147483647, v)] (xa_svR (xa_svI (fun _ _ _ _ => by omega) (xa_svI (fun _ _ _ _ => by omega) xa_sv0))) ?_
  refine xa_meth (Q0 := (3, 0, false, 0, 0, 11)) (by decide +kernel) ⟨rfl, rfl⟩ (full := s_c_18) rfl rfl ?_
  intro hM hv Q hgo
  refine hgo.1 15 [] 0 _ _ _ ?_
  refine And.intro ?_ ?_
  · intro (c1 : i < 0)
    show post none M
    exact absurd h1 (by omega)
  · intro (c1 : 0 ≤ i)
    refine And.intro ?_ ?_
    · intro (c2 : 800 ≤ i)
      show post none M
      exact absurd h1 (by omega)
    · intro (c2 : i < 800)
      refine And.intro (show 0 ≤ i ∧ i < 800 by omega) ?_
      show post none (xa_up M 28 i v)
      exact k1
theorem cx_103n {b : Bool} {A : Nat → Nat} {h0 : g_H} {d : Nat} {M : xa_M} {post : Option xa_V → xa_M → Prop} {N : xa_M} {X p : Int} (hT : tk_M N) (hZ : tk_Z N X p M) (k : ∀ (r : Int) (M1 : xa_M), (r = 0 ∧ fs_c (tk_F N (M 15 10) (M 21) (M 22) p) (tk_pr N (M 15 10) (M 21)).toNat = 0) ∨ (r = 1 ∧ 1 ≤ fs_c (tk_F N (M 15 10) (M 21) (M 22) p) (tk_pr N (M 15 10) (M 21)).toNat) → (r = 1 → (∀ w : Int, 0 ≤ w → w < M 15 10 → M1 29 w = nx_B (fun i => N 61 (M 21 i)) (fun i => N 62 (M 21 i)) w.toNat - N 61 (M 21 w)) ∧ nx_T (M1 28) (fun i => N 61 (M 21 i)) (fun i => N 62 (M 21 i)) (M 15 10) (fun j n => fs_c (nx_G (fun i => N 61 (M 21 i)) (fun i => N 62 (M 21 i)) (M 15 10).toNat (tk_F N (M 15 10) (M 21) (M 22) p) j n) (tk_pr N (M 15 10) (M 21)).toNat)) → (∀ (q : Nat) (j : Int), ¬ (25 ≤ q ∧ q ≤ 29) → ¬ (q = 15 ∧ j = 13) → M1 q j = M q j) → post (some (0, 0, 0, 1, r)) M1) : xa_C (xl_I b) A h0 (d + 6) 103 [(2, 15, 0, 0, 0)] M post := by
  refine xa_C_wk ?_
  refine xa_meth (Q0 := (5, 2, false, 0, 0, 3)) (by decide +kernel) ⟨rfl, rfl⟩ (full := s_c_103) rfl rfl ?_
  intro hM hv Q hgo
  obtain ⟨hL1, hr2, hr3, hr4⟩ := tk_Zr hT hZ
  have loopC : ∀ (i : Int), 0 ≤ i ∧ i < 200000 → ∀ (Mc : xa_M) (r : Int), (0 ≤ r ∧ r < 200000) → fs_in (fun i => N 61 (M 21 i)) (fun i => N 62 (M 21 i)) (Mc 25) (M 15 10).toNat → fs_rk (fun i => N 61 (M 21 i)) (fun i => N 62 (M 21 i)) (Mc 25) (M 15 10).toNat = r → (tk_F N (M 15 10) (M 21) (M 22) p) r → Mc 15 10 = M 15 10 → (∀ w : Int, 0 ≤ w → w < M 15 10 → Mc 29 w = nx_B (fun i => N 61 (M 21 i)) (fun i => N 62 (M 21 i)) w.toNat - N 61 (M 21 w)) → (∀ M1 : xa_M, (∀ (q : Nat) (j : Int), ¬ q = 28 → M1 q j = Mc q j) → nx_T (M1 28) (fun i => N 61 (M 21 i)) (fun i => N 62 (M 21 i)) (M 15 10) (fun j n => fs_c (nx_G (fun i => N 61 (M 21 i)) (fun i => N 62 (M 21 i)) (M 15 10).toNat (tk_F N (M 15 10) (M 21) (M 22) p) j n) (if j < M 15 10 then r + 1 else r).toNat) → Q 54 [(2, (0, 0, 0, 200000, i + 1)), (0, (2, 15, 0, 0, 0))] [] M1) → ∀ (f : Nat) (w : Int) (M1 : xa_M), 0 ≤ w ∧ w ≤ 14 → (∀ (q : Nat) (j : Int), ¬ q = 28 → M1 q j = Mc q j) → nx_T (M1 28) (fun i => N 61 (M 21 i)) (fun i => N 62 (M 21 i)) (M 15 10) (fun j n => fs_c (nx_G (fun i => N 61 (M 21 i)) (fun i => N 62 (M 21 i)) (M 15 10).toNat (tk_F N (M 15 10) (M 21) (M 22) p) j n) (if j < w then r + 1 else r).toNat) → 14 - w < (f : Int) → Q 69 [(3, (0, 0, 0, 14, w)), (2, (0, 0, 0, 200000, i)), (0, (2, 15, 0, 0, 0))] [] M1 := by
    intro i ii Mc r hr hin hrr hF m10 hBc kk f
    induction f with
    | zero => intro w M1 w1 hb hTT hms; clear hTT; omega
    | succ f ihC =>
      intro w M1 w1 hb hTT hms
      have e10 := hb 15 10 (by decide)
      refine hgo.1 31 [69, 54] 69 _ _ _ ?_
      refine And.intro ?_ ?_
      · intro (c1 : (M1 15 10) ≤ w)
        show Q 54 [(2, (0, 0, 1, 200001, i + 1)), (3, (0, 0, 0, 14, w)), (0, (2, 15, 0, 0, 0))] [] M1
        refine hgo.2.1 54 _ [(2, (0, 0, 0, 200000, i + 1)), (0, (2, 15, 0, 0, 0))] _ _ (xa_subI rfl rfl (fun _ _ _ _ => by omega) (xa_subR rfl (xa_sub0))) ?_
        exact kk M1 hb (fun j n j0 j1 n0 n1 => by
          have a := hTT j n j0 j1 n0 n1
          have a : M1 28 (nx_ix (fun i => N 61 (M 21 i)) (fun i => N 62 (M 21 i)) j n) = fs_c (nx_G (fun i => N 61 (M 21 i)) (fun i => N 62 (M 21 i)) (M 15 10).toNat (tk_F N (M 15 10) (M 21) (M 22) p) j n) (if j < w then r + 1 else r).toNat := a
          rw [if_pos (by omega)] at a
          show M1 28 (nx_ix (fun i => N 61 (M 21 i)) (fun i => N 62 (M 21 i)) j n) = fs_c (nx_G (fun i => N 61 (M 21 i)) (fun i => N 62 (M 21 i)) (M 15 10).toNat (tk_F N (M 15 10) (M 21) (M 22) p) j n) (if j < M 15 10 then r + 1 else r).toNat
          rw [if_pos j1]
          exact a)
      · intro (c1 : w < (M1 15 10))
        have g25 := hb 25 w (by decide)
        have g29 := hb 29 w (by decide)
        have hVw := hin w w1.1 (by omega)
        have hVw : N 61 (M 21 w) ≤ Mc 25 w ∧ Mc 25 w ≤ N 62 (M 21 w) := hVw
        have ixb := nx_ixb hr2 (by omega) hr4 w1.1 (by omega) hVw.1 hVw.2
        have hix : xa_w32 ((M1 29 w) + (M1 25 w)) = nx_ix (fun i => N 61 (M 21 i)) (fun i => N 62 (M 21 i)) w (Mc 25 w) := by
          have e : M1 29 w + M1 25 w = nx_ix (fun i => N 61 (M 21 i)) (fun i => N 62 (M 21 i)) w (Mc 25 w) := by
            rw [g29, g25, hBc w w1.1 (by omega)]
            rfl
          rw [e]
          exact xa_w32_id (by omega) (by omega)
        have hval : M1 28 (nx_ix (fun i => N 61 (M 21 i)) (fun i => N 62 (M 21 i)) w (Mc 25 w)) = fs_c (nx_G (fun i => N 61 (M 21 i)) (fun i => N 62 (M 21 i)) (M 15 10).toNat (tk_F N (M 15 10) (M 21) (M 22) p) w (Mc 25 w)) (if w < w then r + 1 else r).toNat := hTT w (Mc 25 w) w1.1 (by omega) hVw.1 hVw.2
        rw [if_neg (by omega)] at hval
        have hcb := fs_cb (F := nx_G (fun i => N 61 (M 21 i)) (fun i => N 62 (M 21 i)) (M 15 10).toNat (tk_F N (M 15 10) (M 21) (M 22) p) w (Mc 25 w)) r.toNat
        have hv1 : xa_w32 ((M1 28 (nx_ix (fun i => N 61 (M 21 i)) (fun i => N 62 (M 21 i)) w (Mc 25 w))) + 1) = M1 28 (nx_ix (fun i => N 61 (M 21 i)) (fun i => N 62 (M 21 i)) w (Mc 25 w)) + 1 := xa_w32_id (by omega) (by omega)
        show xa_C (xl_I b) A h0 _ 23 [(2, 29, 0, 0, 0), (0, 0, 0, 14, w)] M1 _
        refine cx_23_29 (show 0 ≤ w ∧ w < 14 by omega) ?_
        show xa_C (xl_I b) A h0 _ 23 [(2, 25, 0, 0, 0), (0, 0, 0, 14, w)] M1 _
        refine cx_23_25 (show 0 ≤ w ∧ w < 14 by omega) ?_
        show xa_C (xl_I b) A h0 _ 23 [(2, 28, 0, 0, 0), (0, 0, (-2147483648), 2147483647, xa_w32 ((M1 29 w) + (M1 25 w)))] M1 _
        refine cx_23_28 (show 0 ≤ (xa_w32 ((M1 29 w) + (M1 25 w))) ∧ (xa_w32 ((M1 29 w) + (M1 25 w))) < 800 by omega) ?_
        show xa_C (xl_I b) A h0 _ 18 [(2, 28, 0, 0, 0), (0, 0, (-2147483648), 2147483647, xa_w32 ((M1 29 w) + (M1 25 w))), (0, 0, (-2147483648), 2147483647, xa_w32 ((M1 28 (xa_w32 ((M1 29 w) + (M1 25 w)))) + 1))] M1 _
        refine cx_18_28 (show 0 ≤ (xa_w32 ((M1 29 w) + (M1 25 w))) ∧ (xa_w32 ((M1 29 w) + (M1 25 w))) < 800 by omega) ?_
        show Q 69 [(3, (0, 0, 1, 15, w + 1)), (4, (0, 0, (-2147483648), 2147483647, xa_w32 ((M1 29 w) + (M1 25 w)))), (2, (0, 0, 0, 200000, i)), (0, (2, 15, 0, 0, 0))] [] (xa_up M1 28 (xa_w32 ((M1 29 w) + (M1 25 w))) (xa_w32 ((M1 28 (xa_w32 ((M1 29 w) + (M1 25 w)))) + 1)))
        refine hgo.2.1 69 _ [(3, (0, 0, 0, 14, w + 1)), (2, (0, 0, 0, 200000, i)), (0, (2, 15, 0, 0, 0))] _ _ (xa_subI rfl rfl (fun _ _ _ _ => by omega) (xa_subI rfl rfl (fun _ _ _ _ => by omega) (xa_subR rfl (xa_sub0)))) ?_
        exact ihC (w + 1) (xa_up M1 28 (xa_w32 ((M1 29 w) + (M1 25 w))) (xa_w32 ((M1 28 (xa_w32 ((M1 29 w) + (M1 25 w)))) + 1))) (by omega) (fun q j hq => (xa_up_ne (by omega)).trans (hb q j hq)) (by rw [hix]; exact nx_Ts hr2 hin hrr hF hr.1 w1.1 (by omega) hTT hv1) (by omega)
  have loopA : ∀ (f : Nat) (i : Int) (M1 : xa_M), 0 ≤ i ∧ i ≤ 200000 → (∃ Ma : xa_M, tk_Z N X p Ma ∧ fa_K Ma M1 ∧ tk_st N p Ma M1 i ∧ Ma 15 10 = M 15 10 ∧ Ma 21 = M 21 ∧ Ma 22 = M 22) → i ≤ fs_c (tk_F N (M 15 10) (M 21) (M 22) p) (tk_pr N (M 15 10) (M 21)).toNat → (∀ (q : Nat) (j : Int), ¬ (25 ≤ q ∧ q ≤ 29) → ¬ (q = 15 ∧ j = 13) → M1 q j = M q j) → (∀ w : Int, 0 ≤ w → w < M 15 10 → M1 29 w = nx_B (fun i => N 61 (M 21 i)) (fun i => N 62 (M 21 i)) w.toNat - N 61 (M 21 w)) → (∀ x : Nat, fs_c (tk_F N (M 15 10) (M 21) (M 22) p) x = i → nx_T (M1 28) (fun i => N 61 (M 21 i)) (fun i => N 62 (M 21 i)) (M 15 10) (fun j n => fs_c (nx_G (fun i => N 61 (M 21 i)) (fun i => N 62 (M 21 i)) (M 15 10).toNat (tk_F N (M 15 10) (M 21) (M 22) p) j n) x)) → 200000 - i < (f : Int) → Q 54 [(2, (0, 0, 0, 200000, i)), (0, (2, 15, 0, 0, 0))] [] M1 := by
    intro f
    induction f with
    | zero => intro i M1 i1 hE hge hfr hBB hTT hms; clear hE hge hTT; omega
    | succ f ih =>
      intro i M1 i1 hE hge hfr hBB hTT hms
      obtain ⟨Ma, hZa, hK, hst, x10, x21, x22⟩ := hE
      refine hgo.1 15 [54, 69] 54 _ _ _ ?_
      refine And.intro ?_ ?_
      · intro (c1 : 200000 ≤ i)
        refine And.intro ?_ ?_
        · intro (c2 : i ≤ 0)
          show xa_wk post (some (0, 0, 0, 0, 0)) M1
          exfalso
          omega
        · intro (c2 : 0 < i)
          show xa_wk post (some (0, 0, 1, 1, 1)) M1
          have e := fs_cb (F := (tk_F N (M 15 10) (M 21) (M 22) p)) (tk_pr N (M 15 10) (M 21)).toNat
          have e2 := hZ.2.2.1
          exact xa_wkI 1 rfl (fun _ _ => by omega) (k 1 M1 (Or.inr ⟨rfl, by omega⟩) (fun _ => ⟨hBB, hTT _ (by omega)⟩) hfr)
      · intro (c1 : i < 200000)
        show xa_C (xl_I b) A h0 _ 91 [(2, 15, 0, 0, 0)] M1 _
        refine cx_91t hT hZa hK hst ?_ ?_
        · intro M101 (i3 : fa_K Ma M101) (i4 : tk_in N (Ma 15 10) (Ma 21) (M101 25)) (i5 : tk_F N (Ma 15 10) (Ma 21) (Ma 22) p (tk_rk N (Ma 15 10) (Ma 21) (M101 25))) (i6 : fs_c (tk_F N (Ma 15 10) (Ma 21) (Ma 22) p) (tk_rk N (Ma 15 10) (Ma 21) (M101 25)).toNat = i) (i7 : tk_st N p Ma M101 (i + 1))
          refine And.intro ?_ ?_
          · intro (c8 : 1 = 0)
            exfalso
            omega
          · intro (c8 : ¬ 1 = 0)
            show Q 69 [(3, (0, 0, 0, 0, 0)), (2, (0, 0, 0, 200000, i)), (0, (2, 15, 0, 0, 0))] [] M101
            rw [x10, x21] at i4
            rw [x10, x21, x22] at i5 i6
            have hrb := tk_rkb i4
            refine hgo.2.1 69 _ [(3, (0, 0, 0, 14, 0)), (2, (0, 0, 0, 200000, i)), (0, (2, 15, 0, 0, 0))] _ _ (xa_subI rfl rfl (fun _ _ _ _ => by omega) (xa_subI rfl rfl (fun _ _ _ _ => by omega) (xa_subR rfl (xa_sub0)))) ?_
            exact loopC i (by omega) M101 (tk_rk N (M 15 10) (M 21) (M101 25)) ⟨hrb.1, by have := hZ.2.2.1; omega⟩ i4 rfl i5 (by rw [i3 15 10 (by decide) (by decide) (by decide) (by omega), x10]) (fun w w0 w1 => (i3 29 w (by decide) (by decide) (by decide) (by omega)).trans ((hK 29 w (by decide) (by decide) (by decide) (by omega)).symm.trans (hBB w w0 w1))) (fun M2 hb2 hT2 => by
              obtain ⟨Mb, z1, z2, z3, z4, z5, z6⟩ := tk_r2 (M2 := M2) hZa i3 i7 (fun q j hq => hb2 q j (by omega))
              exact ih (i + 1) M2 (by omega) ⟨Mb, z1, z2, z3, z4.trans x10, z5.trans x21, z6.trans x22⟩ (tk_ge i4 i5 i6) (fun q j h1 h2 => (hb2 q j (by omega)).trans ((i3 q j (by omega) (by omega) (by omega) h2).trans ((hK q j (by omega) (by omega) (by omega) h2).symm.trans (hfr q j h1 h2)))) (fun w w0 w1 => (hb2 29 w (by decide)).trans ((i3 29 w (by decide) (by decide) (by decide) (by omega)).trans ((hK 29 w (by decide) (by decide) (by decide) (by omega)).symm.trans (hBB w w0 w1)))) (nx_any i4 i5 i6 hT2) (by omega)) 15 0 M101 (by omega) (fun _ _ _ => rfl) (fun j n j0 j1 n0 n1 => by
              have e28 : M101 28 (nx_ix (fun i => N 61 (M 21 i)) (fun i => N 62 (M 21 i)) j n) = M1 28 (nx_ix (fun i => N 61 (M 21 i)) (fun i => N 62 (M 21 i)) j n) := (i3 28 _ (by decide) (by decide) (by decide) (by omega)).trans (hK 28 _ (by decide) (by decide) (by decide) (by omega)).symm
              show M101 28 (nx_ix (fun i => N 61 (M 21 i)) (fun i => N 62 (M 21 i)) j n) = fs_c (nx_G (fun i => N 61 (M 21 i)) (fun i => N 62 (M 21 i)) (M 15 10).toNat (tk_F N (M 15 10) (M 21) (M 22) p) j n) (if j < 0 then tk_rk N (M 15 10) (M 21) (M101 25) + 1 else tk_rk N (M 15 10) (M 21) (M101 25)).toNat
              rw [if_neg (by omega), e28]
              exact hTT _ i6 j n j0 j1 n0 n1) (by omega)
        · intro M101 (i9 : fa_K Ma M101) (i10 : fs_c (tk_F N (Ma 15 10) (Ma 21) (Ma 22) p) (tk_pr N (Ma 15 10) (Ma 21)).toNat = i)
          refine And.intro ?_ ?_
          · intro (c11 : 0 = 0)
            refine And.intro ?_ ?_
            · intro (c12 : i ≤ 0)
              show xa_wk post (some (0, 0, 0, 0, 0)) M101
              rw [x10, x21, x22] at i10
              exact xa_wkI 0 rfl (fun _ _ => by omega) (k 0 _ (Or.inl ⟨rfl, by omega⟩) (fun e => absurd e (by decide)) (fun q j h1 h2 => (i9 q j (by omega) (by omega) (by omega) h2).trans ((hK q j (by omega) (by omega) (by omega) h2).symm.trans (hfr q j h1 h2))))
            · intro (c12 : 0 < i)
              show xa_wk post (some (0, 0, 1, 1, 1)) M101
              rw [x10, x21, x22] at i10
              have e29 : M101 29 = M1 29 := funext (fun w => (i9 29 w (by decide) (by decide) (by decide) (by omega)).trans (hK 29 w (by decide) (by decide) (by decide) (by omega)).symm)
              have e28 : M101 28 = M1 28 := funext (fun w => (i9 28 w (by decide) (by decide) (by decide) (by omega)).trans (hK 28 w (by decide) (by decide) (by decide) (by omega)).symm)
              exact xa_wkI 1 rfl (fun _ _ => by omega) (k 1 _ (Or.inr ⟨rfl, by omega⟩) (fun _ => ⟨by rw [e29]; exact hBB, by rw [e28]; exact hTT _ i10⟩) (fun q j h1 h2 => (i9 q j (by omega) (by omega) (by omega) h2).trans ((hK q j (by omega) (by omega) (by omega) h2).symm.trans (hfr q j h1 h2))))
          · intro (c11 : ¬ 0 = 0)
            exfalso
            omega
  have loopB : ∀ (f : Nat) (i g : Int) (M1 : xa_M), 0 ≤ i ∧ i ≤ 14 → g = nx_B (fun i => N 61 (M 21 i)) (fun i => N 62 (M 21 i)) i.toNat → (∀ (q : Nat) (j : Int), ¬ (q = 28 ∨ q = 29) → M1 q j = M q j) → (∀ j : Int, 0 ≤ j → j < 800 → M1 28 j = 0) → (∀ w : Int, 0 ≤ w → w < i → M1 29 w = nx_B (fun i => N 61 (M 21 i)) (fun i => N 62 (M 21 i)) w.toNat - N 61 (M 21 w)) → 14 - i < (f : Int) → Q 12 [(2, (0, 0, 0, 14, i)), (1, (0, 0, (-2147483648), 2147483647, g)), (0, (2, 15, 0, 0, 0))] [] M1 := by
    intro f
    induction f with
    | zero => intro i g M1 i1 hg hb hz hBB hms; clear hg hBB; omega
    | succ f ihB =>
      intro i g M1 i1 hg hb hz hBB hms
      have e10 := hb 15 10 (by decide)
      refine hgo.1 27 [12, 54] 12 _ _ _ ?_
      refine And.intro ?_ ?_
      · intro (c1 : (M1 15 10) ≤ i)
        show Q 54 [(2, (0, 0, 0, 0, 0)), (1, (0, 0, (-2147483648), 2147483647, g)), (0, (2, 15, 0, 0, 0))] [] M1
        refine hgo.2.1 54 _ [(2, (0, 0, 0, 200000, 0)), (0, (2, 15, 0, 0, 0))] _ _ (xa_subI rfl rfl (fun _ _ _ _ => by omega) (xa_subR rfl (xa_sub0))) ?_
        obtain ⟨Ma, z1, z2, z3, z4, z5, z6⟩ := tk_r2 (Ma := M) (M1 := M) (M2 := M1) hZ fa_Kr (tk_st0 hZ.2.2.2) hb
        exact loopA 200001 0 M1 (by omega) ⟨Ma, z1, z2, z3, z4, z5, z6⟩ (fs_cb _).1 (fun q j h1 h2 => hb q j (by omega)) (fun w w0 w1 => hBB w w0 (by omega)) (fun x hx j n j0 j1 n0 n1 => by
          have ix := nx_ixb hr2 (by omega) hr4 j0 (by omega) n0 n1
          refine (hz _ ix.1 ix.2).trans ?_
          exact (nx_eq2 (x := x) (y := 0) nx_GF hx).symm) (by omega)
      · intro (c1 : i < (M1 15 10))
        obtain ⟨f23, f24⟩ := hr3 i i1.1 (by omega)
        have g23 := hb 23 i (by decide)
        have g24 := hb 24 i (by decide)
        have hw10 := hr2 i i1.1 (by omega)
        have b1 := nx_Bm hr2 (show i.toNat ≤ (M 15 10).toNat by omega) (Nat.zero_le _)
        have b0 : nx_B (fun i => N 61 (M 21 i)) (fun i => N 62 (M 21 i)) 0 = 0 := rfl
        have b2 := nx_Bm hr2 (Nat.le_refl _) (show i.toNat ≤ (M 15 10).toNat by omega)
        have b3 := (nx_sum (M 15 10).toNat hr2).2.2.2 hr4
        have hW1 : xa_w32 (g - (M1 23 i)) = nx_B (fun i => N 61 (M 21 i)) (fun i => N 62 (M 21 i)) i.toNat - N 61 (M 21 i) := by
          rw [hg, g23, f23]
          exact xa_w32_id (by omega) (by omega)
        show xa_C (xl_I b) A h0 _ 23 [(2, 23, 0, 0, 0), (0, 0, 0, 14, i)] M1 _
        refine cx_23_23 (show 0 ≤ i ∧ i < 14 by omega) ?_
        show xa_C (xl_I b) A h0 _ 18 [(2, 29, 0, 0, 0), (0, 0, 0, 14, i), (0, 0, (-2147483648), 2147483647, xa_w32 (g - (M1 23 i)))] M1 _
        refine cx_18_29 (show 0 ≤ i ∧ i < 14 by omega) ?_
        show xa_C (xl_I b) A h0 _ 89 [(2, 15, 0, 0, 0), (0, 0, 0, 14, i)] (xa_up M1 29 i (xa_w32 (g - (M1 23 i)))) _
        refine cx_89_15 (show 0 ≤ i ∧ i < 14 by omega) ?_
        show Q 12 [(2, (0, 0, 1, 15, i + 1)), (1, (0, 0, (-2147483648), 2147483647, xa_w32 (g + (xa_w32 ((xa_w32 ((M1 24 i) - (M1 23 i))) + 1))))), (0, (2, 15, 0, 0, 0))] [] (xa_up M1 29 i (xa_w32 (g - (M1 23 i))))
        refine hgo.2.1 12 _ [(2, (0, 0, 0, 14, i + 1)), (1, (0, 0, (-2147483648), 2147483647, xa_w32 (g + (xa_w32 ((xa_w32 ((M1 24 i) - (M1 23 i))) + 1))))), (0, (2, 15, 0, 0, 0))] _ _ (xa_subI rfl rfl (fun _ _ _ _ => by omega) (xa_subI rfl rfl (fun _ _ _ _ => by omega) (xa_subR rfl (xa_sub0)))) ?_
        have hW2 : xa_w32 ((xa_w32 ((M1 24 i) - (M1 23 i))) + 1) = N 62 (M 21 i) - N 61 (M 21 i) + 1 := by
          rw [g24, g23, f24, f23, xa_w32_id (n := N 62 (M 21 i) - N 61 (M 21 i)) (by omega) (by omega)]
          exact xa_w32_id (by omega) (by omega)
        have hW3 : xa_w32 (g + (N 62 (M 21 i) - N 61 (M 21 i) + 1)) = nx_B (fun i => N 61 (M 21 i)) (fun i => N 62 (M 21 i)) i.toNat + (N 62 (M 21 i) - N 61 (M 21 i) + 1) := by
          rw [hg]
          exact xa_w32_id (by omega) (by omega)
        have wg : xa_w32 (g + (xa_w32 ((xa_w32 ((M1 24 i) - (M1 23 i))) + 1))) = nx_B (fun i => N 61 (M 21 i)) (fun i => N 62 (M 21 i)) (i + 1).toNat := by
          rw [nx_Bs i1.1]
          show xa_w32 (g + (xa_w32 ((xa_w32 ((M1 24 i) - (M1 23 i))) + 1))) = nx_B (fun i => N 61 (M 21 i)) (fun i => N 62 (M 21 i)) i.toNat + (N 62 (M 21 i) - N 61 (M 21 i) + 1)
          rw [hW2, hW3]
        exact ihB (i + 1) _ (xa_up M1 29 i (xa_w32 (g - (M1 23 i)))) (by omega) wg (fun q j hq => (xa_up_ne (by omega)).trans (hb q j hq)) (fun j j0 j1 => (xa_up_ne (by omega)).trans (hz j j0 j1)) (fun w w0 w1 => by
          by_cases e : w = i
          · rw [e]
            exact xa_up_eq.trans hW1
          · exact (xa_up_ne (fun g => e g.2)).trans (hBB w w0 (by omega))) (by omega)
  refine hgo.1 13 [12] 0 _ _ _ ?_
  show xa_C (xl_I b) A h0 _ 77 [(2, 28, 0, 0, 0), (0, 0, 0, 0, 0)] M _
  refine cx_77n ?_
  intro M102 (i1 : ∀ (q : Nat) (j : Int), ¬ q = 28 → M102 q j = M q j) (i2 : ∀ j : Int, 0 ≤ j → j < 800 → M102 28 j = 0)
  show Q 12 [(2, (0, 0, 0, 0, 0)), (1, (0, 0, 0, 0, 0)), (0, (2, 15, 0, 0, 0))] [] M102
  refine hgo.2.1 12 _ [(2, (0, 0, 0, 14, 0)), (1, (0, 0, (-2147483648), 2147483647, 0)), (0, (2, 15, 0, 0, 0))] _ _ (xa_subI rfl rfl (fun _ _ _ _ => by omega) (xa_subI rfl rfl (fun _ _ _ _ => by omega) (xa_subR rfl (xa_sub0)))) ?_
  exact loopB 15 0 0 M102 (by omega) rfl (fun q j hq => i1 q j (by omega)) i2 (fun w w0 w1 => by omega) (by omega)
theorem cx_105n {b : Bool} {A : Nat → Nat} {h0 : g_H} {d : Nat} {M : xa_M} {post : Option xa_V → xa_M → Prop} {l1 u1 l2 u2 x1 x2 : Int} (h1 : 0 ≤ x1 ∧ x1 < 14) (h2 : 0 ≤ M 29 x1 + x2 ∧ M 29 x1 + x2 < 800) (k : post (some (0, 0, (-2147483648), 2147483647, M 28 (M 29 x1 + x2))) M) : xa_C (xl_I b) A h0 (d + 2) 105 [(2, 15, 0, 0, 0), (0, 0, l1, u1, x1), (0, 0, l2, u2, x2)] M post := by
  refine xa_C_arg [(2, 15, 0, 0, 0), (0, 0, (-2147483648), 2147483647, x1), (0, 0, (-2147483648), 2147483647, x2)] (xa_svR (xa_svI (fun _ _ _ _ => by omega) (xa_svI (fun _ _ _ _ => by omega) xa_sv0))) ?_
  refine xa_meth (Q0 := (3, 1, false, 0, 0, 3)) (by decide +kernel) ⟨rfl, rfl⟩ (full := s_c_105) rfl rfl ?_
  intro hM hv Q hgo
  have hw : xa_w32 (M 29 x1 + x2) = M 29 x1 + x2 := xa_w32_id (by omega) (by omega)
  refine hgo.1 14 [] 0 _ _ _ ?_
  show xa_C (xl_I b) A h0 _ 23 [(2, 29, 0, 0, 0), (0, 0, (-2147483648), 2147483647, x1)] M _
  refine cx_23_29 (show 0 ≤ x1 ∧ x1 < 14 by omega) ?_
  show xa_C (xl_I b) A h0 _ 23 [(2, 28, 0, 0, 0), (0, 0, (-2147483648), 2147483647, xa_w32 ((M 29 x1) + x2))] M _
  refine cx_23_28 (show 0 ≤ (xa_w32 ((M 29 x1) + x2)) ∧ (xa_w32 ((M 29 x1) + x2)) < 800 by omega) ?_
  show post (some (0, 0, (-2147483648), 2147483647, M 28 (xa_w32 ((M 29 x1) + x2)))) M
  rw [hw]
  exact k
theorem cx_109n {b : Bool} {A : Nat → Nat} {h0 : g_H} {d : Nat} {M : xa_M} {post : Option xa_V → xa_M → Prop} {l1 u1 x1 m : Int} {c : Int → Int} (h1 : 0 ≤ x1 ∧ x1 < 14) (hL : 10 ≤ M 23 x1 ∧ M 23 x1 ≤ M 24 x1 ∧ M 24 x1 ≤ 400) (hix : ∀ n, M 23 x1 ≤ n → n ≤ M 24 x1 → 0 ≤ M 29 x1 + n ∧ M 29 x1 + n < 800) (hTc : ∀ n, M 23 x1 ≤ n → n ≤ M 24 x1 → M 28 (M 29 x1 + n) = c n) (hc0 : ∀ n, ¬ (M 23 x1 ≤ n ∧ n ≤ M 24 x1) → c n = 0) (hmu : nx_m c m) (k : post (some (0, 0, (-2147483648), 2147483647, m)) M) : xa_C (xl_I b) A h0 (d + 3) 109 [(2, 15, 0, 0, 0), (0, 0, l1, u1, x1)] M post := by
  refine xa_C_arg [(2, 15, 0, 0, 0), (0, 0, (-2147483648), 2147483647, x1)] (xa_svR (xa_svI (fun _ _ _ _ => by omega) xa_sv0)) ?_
  refine xa_meth (Q0 := (4, 1, false, 0, 0, 3)) (by decide +kernel) ⟨rfl, rfl⟩ (full := s_c_109) rfl rfl ?_
  intro hM hv Q hgo
  have loop : ∀ (f : Nat) (n w : Int), 0 ≤ n ∧ n ≤ 401 → M 23 x1 ≤ n → (∀ j, M 23 x1 ≤ j → j < n → c j ≤ w) → (w = 0 ∨ ∃ j, c j = w) → 0 ≤ w → 401 - n < (f : Int) → Q 11 [(3, (0, 0, 0, 401, n)), (2, (0, 0, (-2147483648), 2147483647, w)), (0, (2, 15, 0, 0, 0)), (1, (0, 0, 0, 13, x1))] [] M := by
    intro f
    induction f with
    | zero => intro n w n1 nl hle hex h0w hms; clear hle hex; omega
    | succ f ih =>
      intro n w n1 nl hle hex h0w hms
      have hixn := hix n nl
      refine hgo.1 20 [11] 11 _ _ _ ?_
      show xa_C (xl_I b) A h0 _ 23 [(2, 24, 0, 0, 0), (0, 0, 0, 13, x1)] M _
      refine cx_23_24 (show 0 ≤ x1 ∧ x1 < 14 by omega) ?_
      refine And.intro ?_ ?_
      · intro (c1 : (M 24 x1) < n)
        show post (some (0, 0, (-2147483648), 2147483647, w)) M
        have hm : nx_m c w := ⟨fun j => by
          by_cases e : M 23 x1 ≤ j ∧ j ≤ M 24 x1
          · exact hle j e.1 (by omega)
          · rw [hc0 j e]
            exact h0w, hex, h0w⟩
        rw [nx_m1 hm hmu]
        exact k
      · intro (c1 : n ≤ (M 24 x1))
        show xa_C (xl_I b) A h0 _ 105 [(2, 15, 0, 0, 0), (0, 0, 0, 13, x1), (0, 0, 0, 401, n)] M _
        refine cx_105n (by omega) (by omega) ?_
        show xa_C (xl_I b) A h0 _ 35 [(0, 0, (-2147483648), 2147483647, w), (0, 0, (-2147483648), 2147483647, M 28 (M 29 x1 + n))] M _
        refine ct_max (-2147483648) 2147483647 (by decide) (by decide) (by decide) ?_
        intro r101 (i2 : -2147483648 ≤ r101 ∧ r101 ≤ 2147483647) (i3 : w ≤ r101 ∧ (M 28 (M 29 x1 + n)) ≤ r101 ∧ (r101 = w ∨ r101 = (M 28 (M 29 x1 + n))))
        show Q 11 [(3, (0, 0, 1, 402, n + 1)), (2, (0, 0, (-2147483648), 2147483647, r101)), (0, (2, 15, 0, 0, 0)), (1, (0, 0, 0, 13, x1))] [] M
        rw [hTc n (by omega) (by omega)] at i3
        refine hgo.2.1 11 _ [(3, (0, 0, 0, 401, n + 1)), (2, (0, 0, (-2147483648), 2147483647, r101)), (0, (2, 15, 0, 0, 0)), (1, (0, 0, 0, 13, x1))] _ _ (xa_subI rfl rfl (fun _ _ _ _ => by omega) (xa_subI rfl rfl (fun _ _ _ _ => by omega) (xa_subR rfl (xa_subI rfl rfl (fun _ _ _ _ => by omega) (xa_sub0))))) ?_
        exact ih (n + 1) r101 (by omega) (by omega) (fun j j0 j1 => by
          by_cases e : j = n
          · rw [e]
            omega
          · have := hle j j0 (by omega)
            omega) (by
          rcases i3.2.2 with e | e
          · rw [e]
            exact hex
          · exact Or.inr ⟨n, e.symm⟩) (by omega) (by omega)
  refine hgo.1 12 [11] 0 _ _ _ ?_
  show xa_C (xl_I b) A h0 _ 23 [(2, 23, 0, 0, 0), (0, 0, (-2147483648), 2147483647, x1)] M _
  refine cx_23_23 (show 0 ≤ x1 ∧ x1 < 14 by omega) ?_
  show Q 11 [(3, (0, 0, (-2147483648), 2147483647, M 23 x1)), (2, (0, 0, 0, 0, 0)), (0, (2, 15, 0, 0, 0)), (1, (0, 0, (-2147483648), 2147483647, x1))] [] M
  refine hgo.2.1 11 _ [(3, (0, 0, 0, 401, M 23 x1)), (2, (0, 0, (-2147483648), 2147483647, 0)), (0, (2, 15, 0, 0, 0)), (1, (0, 0, 0, 13, x1))] _ _ (xa_subI rfl rfl (fun _ _ _ _ => by omega) (xa_subI rfl rfl (fun _ _ _ _ => by omega) (xa_subR rfl (xa_subI rfl rfl (fun _ _ _ _ => by omega) (xa_sub0))))) ?_
  exact loop 402 (M 23 x1) 0 (by omega) (by omega) (fun j j0 j1 => by omega) (Or.inl rfl) (Int.le_refl 0) (by omega)
/-- the most counts of each wheel -/
noncomputable def nx_u (N M : xa_M) (p : Int) (w : Int) : Int := nx_mx (nx_K N (M 15 10) (M 21) (M 22) p w) 401
theorem nx_Km {N M : xa_M} {X p w : Int} (hT : tk_M N) (hZ : tk_Z N X p M) (w0 : 0 ≤ w) (w1 : w < M 15 10) : nx_m (nx_K N (M 15 10) (M 21) (M 22) p w) (nx_u N M p w) := by
  obtain ⟨hL1, hr2, -, -⟩ := tk_Zr hT hZ
  refine nx_mxm (fun n hn => ?_)
  have a := hr2 w w0 (by omega)
  have e : nx_K N (M 15 10) (M 21) (M 22) p w n = 0 := nx_z w0 (by omega) (fun h => hn (by have h : N 61 (M 21 w) ≤ n ∧ n ≤ N 62 (M 21 w) := h; omega)) _
  omega
theorem nx_cls {N M M1 : xa_M} {X p : Int} (hT : tk_M N) (hZ : tk_Z N X p M) (h : (∀ w : Int, 0 ≤ w → w < M 15 10 → M1 29 w = nx_B (fun i => N 61 (M 21 i)) (fun i => N 62 (M 21 i)) w.toNat - N 61 (M 21 w)) ∧ nx_T (M1 28) (fun i => N 61 (M 21 i)) (fun i => N 62 (M 21 i)) (M 15 10) (fun j n => fs_c (nx_G (fun i => N 61 (M 21 i)) (fun i => N 62 (M 21 i)) (M 15 10).toNat (tk_F N (M 15 10) (M 21) (M 22) p) j n) (tk_pr N (M 15 10) (M 21)).toNat)) (hf : ∀ (q : Nat) (j : Int), ¬ (25 ≤ q ∧ q ≤ 29) → ¬ (q = 15 ∧ j = 13) → M1 q j = M q j) : (∀ w, 0 ≤ w → w < M1 15 10 → 10 ≤ M1 23 w ∧ M1 23 w ≤ M1 24 w ∧ M1 24 w ≤ 400) ∧ (∀ w, 0 ≤ w → w < M1 15 10 → ∀ n, M1 23 w ≤ n → n ≤ M1 24 w → 0 ≤ M1 29 w + n ∧ M1 29 w + n < 800) ∧ (∀ w, 0 ≤ w → w < M1 15 10 → ∀ n, M1 23 w ≤ n → n ≤ M1 24 w → M1 28 (M1 29 w + n) = nx_K N (M 15 10) (M 21) (M 22) p w n) ∧ (∀ w, 0 ≤ w → w < M1 15 10 → ∀ n, ¬ (M1 23 w ≤ n ∧ n ≤ M1 24 w) → nx_K N (M 15 10) (M 21) (M 22) p w n = 0) ∧ (∀ w, 0 ≤ w → w < M1 15 10 → nx_m (nx_K N (M 15 10) (M 21) (M 22) p w) (nx_u N M p w)) ∧ ∀ i, 0 ≤ i → i < M 15 10 → nx_m (nx_K N (M 15 10) (M 21) (M 22) p i) (nx_u N M p i) := by
  obtain ⟨hL1, hr2, hr3, hr4⟩ := tk_Zr hT hZ
  obtain ⟨hb, ht⟩ := h
  have f10 := hf 15 10 (by decide) (by omega)
  have e : ∀ w, 0 ≤ w → w < M1 15 10 → M1 23 w = N 61 (M 21 w) ∧ M1 24 w = N 62 (M 21 w) := fun w w0 w1 => by
    obtain ⟨a, b⟩ := hr3 w w0 (by omega)
    exact ⟨(hf 23 w (by omega) (by omega)).trans a, (hf 24 w (by omega) (by omega)).trans b⟩
  refine ⟨fun w w0 w1 => ?_, fun w w0 w1 n n0 n1 => ?_, fun w w0 w1 n n0 n1 => ?_, fun w w0 w1 n hn => ?_, fun w w0 w1 => nx_Km hT hZ w0 (by omega), fun w w0 w1 => nx_Km hT hZ w0 w1⟩
  · obtain ⟨a, b⟩ := e w w0 w1
    have c := hr2 w w0 (by omega)
    omega
  · obtain ⟨a, b⟩ := e w w0 w1
    have c := nx_ixb hr2 (by omega) hr4 w0 (by omega) (show N 61 (M 21 w) ≤ n by omega) (show n ≤ N 62 (M 21 w) by omega)
    have c : 0 ≤ nx_B (fun i => N 61 (M 21 i)) (fun i => N 62 (M 21 i)) w.toNat - N 61 (M 21 w) + n ∧ nx_B (fun i => N 61 (M 21 i)) (fun i => N 62 (M 21 i)) w.toNat - N 61 (M 21 w) + n < 800 := c
    have d := hb w w0 (by omega)
    omega
  · obtain ⟨a, b⟩ := e w w0 w1
    rw [hb w w0 (by omega)]
    exact ht w n w0 (by omega) (show N 61 (M 21 w) ≤ n by omega) (show n ≤ N 62 (M 21 w) by omega)
  · obtain ⟨a, b⟩ := e w w0 w1
    exact nx_z w0 (by omega) (fun h => hn (by have h : N 61 (M 21 w) ≤ n ∧ n ≤ N 62 (M 21 w) := h; omega)) _
/-- the counts as the reference keeps them (f: how far each wheel is counted) -/
def fr_A (Mr : xa_M) (p : Int) (T : Int → Int) (f : Int → Int) : Prop := ∀ i n : Int, 0 ≤ i → i < Mr 60 32 → 0 ≤ n → n ≤ 400 → T (401 * i + n) = fs_c (nx_G (fr_L Mr) (fr_H Mr) (Mr 60 32).toNat (fr_F Mr p) i n) (f i).toNat
theorem fr_Af {Mr : xa_M} {p : Int} {T : Int → Int} {f g : Int → Int} (h : fr_A Mr p T f) (e : ∀ i, 0 ≤ i → i < Mr 60 32 → f i = g i) : fr_A Mr p T g := fun i n i0 i1 n0 n1 => by
  rw [← e i i0 i1]
  exact h i n i0 i1 n0 n1
theorem fr_A0 {Mr : xa_M} {p r : Int} {T : Int → Int} (h : fr_A Mr p T (fun _ => r)) (hF : ¬ fr_F Mr p r) (r0 : 0 ≤ r) : fr_A Mr p T (fun _ => r + 1) := fun i n i0 i1 n0 n1 => (h i n i0 i1 n0 n1).trans (nx_c0 hF r0).symm
theorem fr_As {Mr M1 : xa_M} {p r x v : Int} {V : Int → Int} (hV : fs_in (fr_L Mr) (fr_H Mr) V (Mr 60 32).toNat) (hr : fs_rk (fr_L Mr) (fr_H Mr) V (Mr 60 32).toNat = r) (hF : fr_F Mr p r) (r0 : 0 ≤ r) (x0 : 0 ≤ x) (x1 : x < Mr 60 32) (vb : 0 ≤ V x ∧ V x ≤ 400) (h : fr_A Mr p (M1 87) (fun i => if i < x then r + 1 else r)) (hv : v = M1 87 (401 * x + V x) + 1) : fr_A Mr p ((xa_up M1 87 (401 * x + V x) v) 87) (fun i => if i < x + 1 then r + 1 else r) := by
  intro i n i0 i1 n0 n1
  have a := h i n i0 i1 n0 n1
  have a : M1 87 (401 * i + n) = fs_c (nx_G (fr_L Mr) (fr_H Mr) (Mr 60 32).toNat (fr_F Mr p) i n) (if i < x then r + 1 else r).toNat := a
  show (xa_up M1 87 (401 * x + V x) v) 87 (401 * i + n) = fs_c (nx_G (fr_L Mr) (fr_H Mr) (Mr 60 32).toNat (fr_F Mr p) i n) (if i < x + 1 then r + 1 else r).toNat
  by_cases e : i = x ∧ n = V x
  · obtain ⟨rfl, rfl⟩ := e
    rw [xa_up_eq, hv, a, if_neg (by omega), if_pos (by omega), nx_c hV i0 (by omega) hr hF r0, if_pos rfl]
  · rw [xa_up_ne (fun g => e (by omega)), a]
    by_cases c : i < x
    · rw [if_pos c, if_pos (by omega)]
    · rw [if_neg c]
      by_cases c2 : i = x
      · rw [if_pos (by omega), nx_c hV i0 (by omega) hr hF r0, if_neg (fun g => e ⟨c2, by rw [← c2]; exact g.symm⟩), Int.add_zero]
      · rw [if_neg (by omega)]
theorem fr_Ab {Mr : xa_M} {p i n r : Int} {T : Int → Int} {f : Int → Int} (h : fr_A Mr p T f) (i0 : 0 ≤ i) (i1 : i < Mr 60 32) (n0 : 0 ≤ n) (n1 : n ≤ 400) (e : f i = r) (r0 : 0 ≤ r) : 0 ≤ T (401 * i + n) ∧ T (401 * i + n) ≤ r := by
  rw [h i n i0 i1 n0 n1, e]
  have := fs_cb (F := nx_G (fr_L Mr) (fr_H Mr) (Mr 60 32).toNat (fr_F Mr p) i n) r.toNat
  omega
/-- the best of the wheels so far -/
def nx_best (W u : Int → Int) (x6 x4 x5 : Int) : Prop := (x6 = 0 ∧ x4 = -1) ∨ (1 ≤ x6 ∧ ¬ x4 = -1 ∧ ∃ b, (0 ≤ b ∧ b < x6) ∧ x4 = W b ∧ x5 = u b ∧ (∀ i, 0 ≤ i → i < b → u b < u i) ∧ ∀ i, 0 ≤ i → i < x6 → u b ≤ u i)
theorem nx_best1 {W u : Int → Int} {x6 x4 x5 x7 : Int} (h : nx_best W u x6 x4 x5) (h0 : 0 ≤ x6) (h7 : x7 = u x6) (hc : x4 = -1 ∨ x7 < x5) (hW : 0 ≤ W x6) : nx_best W u (x6 + 1) (W x6) x7 := by
  refine Or.inr ⟨by omega, by omega, x6, ⟨h0, by omega⟩, rfl, h7, fun i i0 i1 => ?_, fun i i0 i1 => ?_⟩
  · rcases h with ⟨e, -⟩ | ⟨-, n4, b, -, -, e5, -, h2⟩
    · omega
    · have := h2 i i0 i1
      omega
  · by_cases e : i = x6
    · rw [e]
      exact Int.le_refl _
    · rcases h with ⟨e, -⟩ | ⟨-, n4, b, -, -, e5, -, h2⟩
      · omega
      · have := h2 i i0 (by omega)
        omega
theorem nx_best2 {W u : Int → Int} {x6 x4 x5 x7 : Int} (h : nx_best W u x6 x4 x5) (h0 : 0 ≤ x6) (h7 : x7 = u x6) (c2 : ¬ x4 = -1) (c3 : x5 ≤ x7) : nx_best W u (x6 + 1) x4 x5 := by
  rcases h with ⟨-, e⟩ | ⟨a, n4, b, hb, e4, e5, h1, h2⟩
  · exact absurd e c2
  · refine Or.inr ⟨by omega, c2, b, by omega, e4, e5, h1, fun i i0 i1 => ?_⟩
    by_cases e : i = x6
    · rw [e]
      omega
    · exact h2 i i0 (by omega)

-- the machine over numbers: its steps are the plain machine's
section XA2
variable {CALL : Nat → List Value → g_H → Nat → Nat → (Option Value → g_H → Prop) → Prop} {cc : ByteArray} {o nL : Nat} {ini : Bool} {bc bs : Nat} {P : g_S → Prop}
variable {I : xa_I} {A : Nat → Nat} {h0 h : g_H} {next : xa_K} {full t : List s_I} {L : xa_L} {st rest : List xa_V} {M : xa_M} {Ls : g_L} {sts : List Value} {pc a b kd : Nat} {ins : Instr} {r : s_I} {v u : xa_V} {x : Value}
theorem xa_if_eq {c : Bool} {p : Prop} (e : xa_if c p) : c = true ∧ p := by
  cases c
  · exact e.elim
  · exact ⟨rfl, e⟩
theorem xa_ob_eq {c : Bool} {p k : Prop} (hp : c = true → p) (e : xa_ob c p k) : p ∧ k := by
  cases c
  · exact e
  · exact ⟨hp rfl, e⟩
def xa_P (P : g_S → Prop) (I : xa_I) (A : Nat → Nat) (h0 : g_H) (pc : Nat) (L : xa_L) (st : List xa_V) (M : xa_M) : Prop := ∀ (h : g_H) (Ls : g_L) (sts : List Value), xa_H I A M h0 h → xa_gL A L Ls → xa_gS A st sts → P (pc, Ls, sts, 0, 0, h)
/-- what follows is sound -/
def xa_N (cc : ByteArray) (o : Nat) (P : g_S → Prop) (I : xa_I) (A : Nat → Nat) (h0 : g_H) (next : xa_K) : Prop := ∀ c L st M, (∀ r ∈ c, s_okI cc o r = true) → next c L st M → xa_P P I A h0 (s_pc c) L st M
theorem xa_isI_g (hk : xa_isI v = true) (h : xa_g A v x) : ∃ m : Int32, x = .int m ∧ m.toInt = v.2.2.2.2 ∧ v.2.2.1 ≤ v.2.2.2.2 ∧ v.2.2.2.2 ≤ v.2.2.2.1 := by
  obtain ⟨k, p, lo, hi, n⟩ := v
  have e : k = 0 := Nat.beq_eq.mp hk
  subst e
  exact h
theorem xa_isL_g (hk : xa_isL v = true) (h : xa_g A v x) : ∃ m : Int64, x = .long m ∧ m.toInt = v.2.2.2.2 ∧ v.2.2.1 ≤ v.2.2.2.2 ∧ v.2.2.2.2 ≤ v.2.2.2.1 := by
  obtain ⟨k, p, lo, hi, n⟩ := v
  have e : k = 1 := Nat.beq_eq.mp hk
  subst e
  exact h
theorem xa_cat (h : xa_g A v x) : x.category = bif xa_c2 v then 2 else 1 := by
  obtain ⟨k, p, lo, hi, n⟩ := v
  match k, h with
  | 0, ⟨m, e, _⟩ => rw [e]; rfl
  | 1, ⟨m, e, _⟩ => rw [e]; rfl
  | 2, h =>
    have e : x = .ref (A p) := h
    rw [e]; rfl
  | 3, h =>
    have e : x = (if n < 0 then .null else .ref (A n.toNat)) := h
    rw [e]
    split <;> rfl
  | 4, h =>
    have e : x = .null := h
    rw [e]; rfl
  | 5, ⟨m, e, _⟩ => rw [e]; rfl
theorem xa_tk_g {k : Nat} (hk : xa_tk k v = true) (hv : xa_g A v x) : (k = 0 → ∃ n, x = .int n) ∧ (k = 1 → ∃ n, x = .long n) ∧ (2 ≤ k → x = .null ∨ ∃ a, x = .ref a) := by
  obtain ⟨g, p, lo, hi, m⟩ := v
  unfold xa_tk at hk
  refine ⟨fun h => ?_, fun h => ?_, fun h => ?_⟩
  · subst h
    obtain ⟨n, e, -⟩ := xa_isI_g hk hv
    exact ⟨n, e⟩
  · subst h
    obtain ⟨n, e, -⟩ := xa_isL_g hk hv
    exact ⟨n, e⟩
  · match k, h, hk with
    | k + 2, _, hk =>
      have hk' : (Nat.ble 2 g && Nat.ble g 4) = true := hk
      rw [Bool.and_eq_true, Nat.ble_eq, Nat.ble_eq] at hk'
      have hg : g = 2 ∨ g = 3 ∨ g = 4 := by omega
      rcases hg with rfl | rfl | rfl
      · exact Or.inr ⟨_, hv⟩
      · have e : x = (if m < 0 then .null else .ref (A m.toNat)) := hv
        rw [e]
        split
        · exact Or.inl rfl
        · exact Or.inr ⟨_, rfl⟩
      · exact Or.inl hv
theorem xa_ld_g {k : Nat} (h : s_ldI ins = some (a, k)) (hk : xa_tk k v = true) (hv : xa_g A v x) : ∃ p, g_load ins = some (a, s_len ins, p) ∧ p x = true := by
  obtain ⟨k0, k1, k2⟩ := xa_tk_g hk hv
  cases ins <;> simp only [s_ldI, reduceCtorEq, Option.some.injEq, Prod.mk.injEq] at h <;> obtain ⟨rfl, rfl⟩ := h <;> refine ⟨_, rfl, ?_⟩
  · rcases k2 (by decide) with e | ⟨z, e⟩ <;> rw [e]
  · rcases k2 (by decide) with e | ⟨z, e⟩ <;> rw [e]
  · obtain ⟨z, e⟩ := k0 rfl; rw [e]
  · obtain ⟨z, e⟩ := k0 rfl; rw [e]
  · obtain ⟨z, e⟩ := k1 rfl; rw [e]
  · obtain ⟨z, e⟩ := k1 rfl; rw [e]
theorem xa_st_g {k : Nat} {w : Bool} (h : s_stI ins = some (a, w, k)) (hk : xa_tk k v = true) (hv : xa_g A v x) : ∃ p, g_stor ins = some (a, s_len ins, w, p) ∧ p x = true := by
  obtain ⟨k0, k1, k2⟩ := xa_tk_g hk hv
  cases ins <;> simp only [s_stI, reduceCtorEq, Option.some.injEq, Prod.mk.injEq] at h <;> obtain ⟨rfl, rfl, rfl⟩ := h <;> refine ⟨_, rfl, ?_⟩
  · rcases k2 (by decide) with e | ⟨z, e⟩ <;> rw [e]
  · rcases k2 (by decide) with e | ⟨z, e⟩ <;> rw [e]
  · obtain ⟨z, e⟩ := k0 rfl; rw [e]
  · obtain ⟨z, e⟩ := k0 rfl; rw [e]
  · obtain ⟨z, e⟩ := k1 rfl; rw [e]
  · obtain ⟨z, e⟩ := k1 rfl; rw [e]
theorem xa_find_in {i : Nat} : ∀ {L : xa_L}, xa_find L i = some v → (i, v) ∈ L
  | [], h => by cases h
  | (j, w) :: t, h => by
    rw [xa_find] at h
    cases e : Nat.beq j i
    · rw [e, cond_false] at h
      exact List.mem_cons_of_mem _ (xa_find_in h)
    · rw [e, cond_true] at h
      cases h
      rw [Nat.beq_eq] at e
      subst e
      exact List.mem_cons_self
theorem xa_gS_cons {sts : List Value} (h : xa_gS A (v :: rest) sts) : ∃ x xs, sts = x :: xs ∧ xa_g A v x ∧ xa_gS A rest xs := by
  cases sts with
  | nil => exact h.elim
  | cons x xs => exact ⟨x, xs, rfl, h.1, h.2⟩
theorem xa_N1 (hN : xa_N cc o P I A h0 next) (hIt : ∀ r ∈ t, s_okI cc o r = true) (e : next t L st M) {pc' : Nat} (hgo : s_pc t = pc') (hH : xa_H I A M h0 h) (hL : xa_gL A L Ls) (hS : xa_gS A st sts) : P (pc', Ls, sts, 0, 0, h) := by
  rw [← hgo]
  exact hN t L st M hIt e h Ls sts hH hL hS
theorem xa_in32_g {n : Int} (h : y_in32 n n = true) : xa_g A (0, 0, n, n, n) (.int (Int32.ofInt n)) := by
  unfold y_in32 at h
  rw [Bool.and_eq_true, decide_eq_true_eq, decide_eq_true_eq] at h
  exact ⟨Int32.ofInt n, rfl, Int32.toInt_ofInt_of_le (by omega) (by omega), Int.le_refl _, Int.le_refl _⟩
theorem xa_in64_g {n : Int} (h : y_in64 n n = true) : xa_g A (1, 0, n, n, n) (.long (Int64.ofInt n)) := by
  unfold y_in64 at h
  rw [Bool.and_eq_true, decide_eq_true_eq, decide_eq_true_eq] at h
  exact ⟨Int64.ofInt n, rfl, Int64.toInt_ofInt_of_le (by omega) (by omega), Int.le_refl _, Int.le_refl _⟩
theorem xa_q0_ok (hcl : ∀ S, g_pre CALL o nL ini bc bs cc P S → P S) {w : Int} (hd : decode cc pc = .ok (ins, s_len ins)) (hgo : s_pc t = pc + s_len ins) (hQ : s_conI ins = some (a, w)) (hIt : ∀ r ∈ t, s_okI cc o r = true) (e : xa_q0 next t L st M a w) (hN : xa_N cc o P I A h0 next) : xa_P P I A h0 pc L st M := by
  intro h Ls sts hH hL hS
  have hc := s_con_g (σ := fun _ => 0) (ρ := fun _ => 0) (b := 0) hQ
  unfold xa_q0 at e
  split at e
  next =>
    obtain ⟨h1, h2⟩ := xa_if_eq e
    exact hcl _ ⟨ins, _, hd, Or.inl (Or.inl ⟨_, hc, xa_N1 hN hIt h2 hgo hH hL ⟨xa_in32_g h1, hS⟩⟩)⟩
  next =>
    obtain ⟨h1, h2⟩ := xa_if_eq e
    exact hcl _ ⟨ins, _, hd, Or.inl (Or.inl ⟨_, hc, xa_N1 hN hIt h2 hgo hH hL ⟨xa_in64_g h1, hS⟩⟩)⟩
  next => exact hcl _ ⟨ins, _, hd, Or.inl (Or.inl ⟨_, hc, xa_N1 hN hIt e hgo hH hL ⟨rfl, hS⟩⟩)⟩
  next => exact e.elim
theorem xa_q1_ok (hcl : ∀ S, g_pre CALL o nL ini bc bs cc P S → P S) (hd : decode cc pc = .ok (ins, s_len ins)) (hgo : s_pc t = pc + s_len ins) (hQ : s_ldI ins = some (a, b)) (hIt : ∀ r ∈ t, s_okI cc o r = true) (e : xa_q1 next t L st M a b) (hN : xa_N cc o P I A h0 next) : xa_P P I A h0 pc L st M := by
  intro h Ls sts hH hL hS
  unfold xa_q1 at e
  split at e
  next v ev =>
    obtain ⟨h1, h2⟩ := xa_if_eq e
    obtain ⟨x, hx, hg⟩ := hL _ (xa_find_in ev)
    obtain ⟨p, g1, g2⟩ := xa_ld_g hQ h1 hg
    exact hcl _ ⟨ins, _, hd, Or.inl (Or.inr (Or.inl ⟨_, _, _, g1, hx, g2, xa_N1 hN hIt h2 hgo hH hL ⟨hg, hS⟩⟩))⟩
  next => exact e.elim
theorem xa_fil1_in {i : Nat} {p : Nat × xa_V} : ∀ {L : xa_L}, p ∈ xa_fil1 i L → p ∈ L ∧ ¬ p.1 = i ∧ ¬ (p.1 + 1 = i ∧ xa_c2 p.2 = true)
  | [], h => by cases h
  | (j, u) :: t, h => by
    rw [xa_fil1] at h
    cases e : (Nat.beq j i || (Nat.beq (j + 1) i && xa_c2 u))
    · rw [e, cond_false] at h
      rcases List.mem_cons.mp h with rfl | h
      · refine ⟨List.mem_cons_self, fun h1 => ?_, fun h1 => ?_⟩
        · have h1' : j = i := h1
          rw [h1', Nat.beq_eq.mpr rfl] at e
          cases e
        · have h1' : j + 1 = i := h1.1
          have h2' : xa_c2 u = true := h1.2
          rw [h1', Nat.beq_eq.mpr rfl, h2', Bool.and_true, Bool.or_true] at e
          cases e
      · have := xa_fil1_in h
        exact ⟨List.mem_cons_of_mem _ this.1, this.2⟩
    · rw [e, cond_true] at h
      have := xa_fil1_in h
      exact ⟨List.mem_cons_of_mem _ this.1, this.2⟩
theorem xa_fil2_in {i : Nat} {p : Nat × xa_V} : ∀ {L : xa_L}, p ∈ xa_fil2 i L → p ∈ L ∧ ¬ p.1 = i ∧ ¬ p.1 = i + 1 ∧ ¬ (p.1 + 1 = i ∧ xa_c2 p.2 = true)
  | [], h => by cases h
  | (j, u) :: t, h => by
    rw [xa_fil2] at h
    cases e : (Nat.beq j i || (Nat.beq j (i + 1) || (Nat.beq (j + 1) i && xa_c2 u)))
    · rw [e, cond_false] at h
      rcases List.mem_cons.mp h with rfl | h
      · refine ⟨List.mem_cons_self, fun h1 => ?_, fun h1 => ?_, fun h1 => ?_⟩
        · have h1' : j = i := h1
          rw [h1', Nat.beq_eq.mpr rfl] at e
          cases e
        · have h1' : j = i + 1 := h1
          rw [h1', Nat.beq_eq.mpr rfl, Bool.true_or, Bool.or_true] at e
          cases e
        · have h1' : j + 1 = i := h1.1
          have h2' : xa_c2 u = true := h1.2
          rw [h1', Nat.beq_eq.mpr rfl, h2', Bool.and_true, Bool.or_true, Bool.or_true] at e
          cases e
      · have := xa_fil2_in h
        exact ⟨List.mem_cons_of_mem _ this.1, this.2⟩
    · rw [e, cond_true] at h
      have := xa_fil2_in h
      exact ⟨List.mem_cons_of_mem _ this.1, this.2⟩
theorem xa_gL_st1 {i : Nat} (hL : xa_gL A L Ls) (hv : xa_g A v x) : xa_gL A ((i, v) :: xa_fil1 i L) (g_st1 i x Ls) := by
  intro q hq
  rcases List.mem_cons.mp hq with rfl | hq
  · exact ⟨x, List.mem_cons_self, hv⟩
  · obtain ⟨hm, n1, n2⟩ := xa_fil1_in hq
    obtain ⟨y, hy, hg⟩ := hL q hm
    refine ⟨y, List.mem_cons_of_mem _ (List.mem_filter.mpr ⟨hy, ?_⟩), hg⟩
    have hc := xa_cat hg
    simp only [Bool.and_eq_true, Bool.not_eq_true', beq_eq_false_iff_ne]
    refine ⟨n1, ?_⟩
    cases e1 : (q.1 + 1 == i)
    · rfl
    · rw [beq_iff_eq] at e1
      cases e2 : xa_c2 q.2
      · rw [e2] at hc
        rw [hc]
        rfl
      · exact absurd ⟨e1, e2⟩ n2
theorem xa_gL_st2 {i : Nat} (hL : xa_gL A L Ls) (hv : xa_g A v x) : xa_gL A ((i, v) :: xa_fil2 i L) (g_st2 i x Ls) := by
  intro q hq
  rcases List.mem_cons.mp hq with rfl | hq
  · exact ⟨x, List.mem_cons_self, hv⟩
  · obtain ⟨hm, n1, n3, n2⟩ := xa_fil2_in hq
    obtain ⟨y, hy, hg⟩ := hL q hm
    refine ⟨y, List.mem_cons_of_mem _ (List.mem_filter.mpr ⟨hy, ?_⟩), hg⟩
    have hc := xa_cat hg
    simp only [Bool.and_eq_true, Bool.not_eq_true', beq_eq_false_iff_ne]
    refine ⟨n1, n3, ?_⟩
    cases e1 : (q.1 + 1 == i)
    · rfl
    · rw [beq_iff_eq] at e1
      cases e2 : xa_c2 q.2
      · rw [e2] at hc
        rw [hc]
        rfl
      · exact absurd ⟨e1, e2⟩ n2
theorem xa_q2_ok (hcl : ∀ S, g_pre CALL o nL ini bc bs cc P S → P S) (hd : decode cc pc = .ok (ins, s_len ins)) (hgo : s_pc t = pc + s_len ins) (hQ : s_stI ins = some (a, false, b)) (hIt : ∀ r ∈ t, s_okI cc o r = true) (e : xa_q2 nL next t L st M a b) (hN : xa_N cc o P I A h0 next) : xa_P P I A h0 pc L st M := by
  intro h Ls sts hH hL hS
  unfold xa_q2 at e
  split at e
  next v rest =>
    obtain ⟨h1, h2⟩ := xa_if_eq e
    rw [Bool.and_eq_true, Bool.and_eq_true, Nat.blt_eq] at h1
    obtain ⟨x, xs, rfl, hg, hS'⟩ := xa_gS_cons hS
    obtain ⟨p, g1, g2⟩ := xa_st_g hQ h1.1 hg
    exact hcl _ ⟨ins, _, hd, Or.inl (Or.inr (Or.inr (Or.inl ⟨_, _, _, _, g1, rfl, g2, h1.2.1, xa_N1 hN hIt h2 hgo hH (xa_gL_st1 hL hg) hS'⟩)))⟩
  next => exact e.elim
theorem xa_q3_ok (hcl : ∀ S, g_pre CALL o nL ini bc bs cc P S → P S) (hd : decode cc pc = .ok (ins, s_len ins)) (hgo : s_pc t = pc + s_len ins) (hQ : s_stI ins = some (a, true, b)) (hIt : ∀ r ∈ t, s_okI cc o r = true) (e : xa_q3 nL next t L st M a b) (hN : xa_N cc o P I A h0 next) : xa_P P I A h0 pc L st M := by
  intro h Ls sts hH hL hS
  unfold xa_q3 at e
  split at e
  next v rest =>
    obtain ⟨h1, h2⟩ := xa_if_eq e
    rw [Bool.and_eq_true, Bool.and_eq_true, Nat.blt_eq] at h1
    obtain ⟨x, xs, rfl, hg, hS'⟩ := xa_gS_cons hS
    obtain ⟨p, g1, g2⟩ := xa_st_g hQ h1.1 hg
    exact hcl _ ⟨ins, _, hd, Or.inl (Or.inr (Or.inr (Or.inr (Or.inl ⟨_, _, _, _, g1, rfl, g2, h1.2.1, xa_N1 hN hIt h2 hgo hH (xa_gL_st2 hL hg) hS'⟩))))⟩
  next => exact e.elim
-- arithmetic
theorem xa_mk32_ok {z : Int32} {s lo hi : Int} (hz : z.toInt = s.bmod (2 ^ 32)) (h1 : lo ≤ s) (h2 : s ≤ hi) : xa_g A (xa_mk32 lo hi s) (.int z) := by
  unfold xa_mk32
  cases e : y_in32 lo hi
  · exact ⟨z, rfl, hz, by have := Int32.le_toInt z; rw [hz] at this; exact this, by have := Int32.toInt_lt z; rw [hz] at this; show s.bmod (2 ^ 32) ≤ _; omega⟩
  · unfold y_in32 at e
    rw [Bool.and_eq_true, decide_eq_true_eq, decide_eq_true_eq] at e
    have hz' : z.toInt = s := by
      rw [hz]
      apply Int.bmod_eq_of_le <;> omega
    exact ⟨z, rfl, hz', h1, h2⟩
theorem xa_mk64_ok {z : Int64} {s lo hi : Int} (hz : z.toInt = s.bmod (2 ^ 64)) (h1 : lo ≤ s) (h2 : s ≤ hi) : xa_g A (xa_mk64 lo hi s) (.long z) := by
  unfold xa_mk64
  cases e : y_in64 lo hi
  · exact ⟨z, rfl, hz, by have := Int64.le_toInt z; rw [hz] at this; exact this, by have := Int64.toInt_lt z; rw [hz] at this; show s.bmod (2 ^ 64) ≤ _; omega⟩
  · unfold y_in64 at e
    rw [Bool.and_eq_true, decide_eq_true_eq, decide_eq_true_eq] at e
    have hz' : z.toInt = s := by
      rw [hz]
      apply Int.bmod_eq_of_le <;> omega
    exact ⟨z, rfl, hz', h1, h2⟩
theorem xa_mul_ok {p q r s m n : Int} (a1 : p ≤ m) (a2 : m ≤ q) (b1 : r ≤ n) (b2 : n ≤ s) : xa_mlo p q r s ≤ m * n ∧ m * n ≤ xa_mhi p q r s := y_mulI_ok (x := (0, p, q, y_z)) (y := (0, r, s, y_z)) a1 a2 b1 b2
theorem xa_of32 (m : Int32) : Int32.ofInt m.toInt = m := Int32.ofInt_toInt m
theorem xa_bin32_ok {y : xa_V} {z w : Int32} (h1 : z.toInt = v.2.2.2.2) (h2 : v.2.2.1 ≤ v.2.2.2.2) (h3 : v.2.2.2.2 ≤ v.2.2.2.1) (k1 : w.toInt = y.2.2.2.2) (k2 : y.2.2.1 ≤ y.2.2.2.2) (k3 : y.2.2.2.2 ≤ y.2.2.2.1) : xa_g A (xa_bin32 a v y) (.int (s_fib a z w)) := by
  match a with
  | 0 => exact xa_mk32_ok (by rw [← h1, ← k1]; exact Int32.toInt_add z w) (by omega) (by omega)
  | 1 => exact xa_mk32_ok (by rw [← h1, ← k1]; exact Int32.toInt_sub z w) (by omega) (by omega)
  | 2 =>
    obtain ⟨m1, m2⟩ := xa_mul_ok h2 h3 k2 k3
    exact xa_mk32_ok (by rw [← h1, ← k1]; exact Int32.toInt_mul z w) m1 m2
  | a + 3 =>
    refine ⟨s_fib (a + 3) z w, rfl, ?_, ?_, ?_⟩
    · show _ = (s_fib (a + 3) (Int32.ofInt v.2.2.2.2) (Int32.ofInt y.2.2.2.2)).toInt
      rw [← h1, ← k1, xa_of32, xa_of32]
    · exact Int32.le_toInt _
    · have := Int32.toInt_lt (s_fib (a + 3) (Int32.ofInt v.2.2.2.2) (Int32.ofInt y.2.2.2.2))
      show (s_fib (a + 3) (Int32.ofInt v.2.2.2.2) (Int32.ofInt y.2.2.2.2)).toInt ≤ 2147483647
      omega
theorem xa_bin64_ok {y : xa_V} {z w : Int64} (h1 : z.toInt = v.2.2.2.2) (h2 : v.2.2.1 ≤ v.2.2.2.2) (h3 : v.2.2.2.2 ≤ v.2.2.2.1) (k1 : w.toInt = y.2.2.2.2) (k2 : y.2.2.1 ≤ y.2.2.2.2) (k3 : y.2.2.2.2 ≤ y.2.2.2.1) : xa_g A (xa_bin64 a v y) (.long (s_flb a z w)) := by
  match a with
  | 0 => exact xa_mk64_ok (by rw [← h1, ← k1]; exact Int64.toInt_add z w) (by omega) (by omega)
  | 1 => exact xa_mk64_ok (by rw [← h1, ← k1]; exact Int64.toInt_sub z w) (by omega) (by omega)
  | _ + 2 =>
    obtain ⟨m1, m2⟩ := xa_mul_ok h2 h3 k2 k3
    exact xa_mk64_ok (by rw [← h1, ← k1]; exact Int64.toInt_mul z w) m1 m2
theorem xa_tdv {m n : Int} (hn : 0 < n) {B : Int} (h1 : -B ≤ m) (h2 : m < B) : -B ≤ m.tdiv n ∧ m.tdiv n < B ∧ -B ≤ m.tdiv n * n ∧ m.tdiv n * n < B ∧ m - m.tdiv n * n = m.tmod n ∧ -B ≤ m.tmod n ∧ m.tmod n < B := by
  have e := Int.tmod_add_tdiv_mul m n
  by_cases h0 : 0 ≤ m
  · have e1 : m.tdiv n = m / n := Int.tdiv_eq_ediv_of_nonneg h0
    have q0 : 0 ≤ m / n := Int.ediv_nonneg h0 (by omega)
    have q1 : m / n * n ≤ m := Int.ediv_mul_le _ (by omega)
    have q2 : m / n ≤ m := Int.ediv_le_self _ h0
    have q3 : 0 ≤ m / n * n := Int.mul_nonneg q0 (by omega)
    rw [e1] at e ⊢
    omega
  · have e1 : (-m).tdiv n = -m / n := Int.tdiv_eq_ediv_of_nonneg (by omega)
    rw [Int.neg_tdiv] at e1
    have q0 : 0 ≤ -m / n := Int.ediv_nonneg (by omega) (by omega)
    have q1 : -m / n * n ≤ -m := Int.ediv_mul_le _ (by omega)
    have q2 : -m / n ≤ -m := Int.ediv_le_self _ (by omega)
    have q3 : 0 ≤ -m / n * n := Int.mul_nonneg q0 (by omega)
    have e2 : m.tdiv n = -(-m / n) := by omega
    rw [e2] at e ⊢
    have e3 : -(-m / n) * n = -(-m / n * n) := Int.neg_mul _ _
    rw [e3] at e ⊢
    omega
theorem xa_div32_ok {y : xa_V} {z w : Int32} (h1 : z.toInt = v.2.2.2.2) (h2 : v.2.2.1 ≤ v.2.2.2.2) (h3 : v.2.2.2.2 ≤ v.2.2.2.1) (k1 : w.toInt = y.2.2.2.2) (k2 : y.2.2.1 ≤ y.2.2.2.2) (k3 : y.2.2.2.2 ≤ y.2.2.2.1) (hn : 0 < y.2.2.2.2) : xa_g A (xa_div32 a v y) (.int (s_fid a z w)) := by
  have b1 := Int32.le_toInt z
  have b2 := Int32.toInt_lt z
  rw [h1] at b1 b2
  obtain ⟨d1, d2, d3, d4, d5, d6, d7⟩ := xa_tdv (m := v.2.2.2.2) (n := y.2.2.2.2) (B := 2147483648) hn b1 b2
  have f1 : (z / w).toInt = v.2.2.2.2.tdiv y.2.2.2.2 := by
    rw [Int32.toInt_div, h1, k1]
    apply Int.bmod_eq_of_le <;> omega
  have f2 : (z / w * w).toInt = v.2.2.2.2.tdiv y.2.2.2.2 * y.2.2.2.2 := by
    rw [Int32.toInt_mul, f1, k1]
    apply Int.bmod_eq_of_le <;> omega
  have f3 : (z - z / w * w).toInt = v.2.2.2.2.tmod y.2.2.2.2 := by
    rw [Int32.toInt_sub, f2, h1, d5]
    apply Int.bmod_eq_of_le <;> omega
  unfold xa_div32
  cases e : decide (0 ≤ v.2.2.1)
  · rw [cond_false]
    match a with
    | 0 => exact ⟨z / w, rfl, f1, d1, by omega⟩
    | _ + 1 => exact ⟨z - z / w * w, rfl, f3, d6, by omega⟩
  · rw [cond_true]
    have h0 : 0 ≤ v.2.2.2.2 := Int.le_trans (of_decide_eq_true e) h2
    rw [Int.tdiv_eq_ediv_of_nonneg h0] at f1
    rw [Int.tmod_eq_emod_of_nonneg h0] at f3
    match a with
    | 0 => exact ⟨z / w, rfl, f1, Int.ediv_nonneg h0 (by omega), Int.le_trans (Int.ediv_le_self _ h0) h3⟩
    | _ + 1 =>
      have := Int.emod_lt_of_pos v.2.2.2.2 hn
      refine ⟨z - z / w * w, rfl, f3, Int.emod_nonneg _ (by omega), ?_⟩
      show v.2.2.2.2 % y.2.2.2.2 ≤ y.2.2.2.1 - 1
      omega
theorem xa_div64_ok {y : xa_V} {z w : Int64} (h1 : z.toInt = v.2.2.2.2) (h2 : v.2.2.1 ≤ v.2.2.2.2) (h3 : v.2.2.2.2 ≤ v.2.2.2.1) (k1 : w.toInt = y.2.2.2.2) (k2 : y.2.2.1 ≤ y.2.2.2.2) (k3 : y.2.2.2.2 ≤ y.2.2.2.1) (hn : 0 < y.2.2.2.2) : xa_g A (xa_div64 a v y) (.long (s_fld a z w)) := by
  have b1 := Int64.le_toInt z
  have b2 := Int64.toInt_lt z
  rw [h1] at b1 b2
  obtain ⟨d1, d2, d3, d4, d5, d6, d7⟩ := xa_tdv (m := v.2.2.2.2) (n := y.2.2.2.2) (B := 9223372036854775808) hn b1 b2
  have f1 : (z / w).toInt = v.2.2.2.2.tdiv y.2.2.2.2 := by
    rw [Int64.toInt_div, h1, k1]
    apply Int.bmod_eq_of_le <;> omega
  have f2 : (z / w * w).toInt = v.2.2.2.2.tdiv y.2.2.2.2 * y.2.2.2.2 := by
    rw [Int64.toInt_mul, f1, k1]
    apply Int.bmod_eq_of_le <;> omega
  have f3 : (z - z / w * w).toInt = v.2.2.2.2.tmod y.2.2.2.2 := by
    rw [Int64.toInt_sub, f2, h1, d5]
    apply Int.bmod_eq_of_le <;> omega
  unfold xa_div64
  cases e : decide (0 ≤ v.2.2.1)
  · rw [cond_false]
    match a with
    | 0 => exact ⟨z / w, rfl, f1, d1, by omega⟩
    | _ + 1 => exact ⟨z - z / w * w, rfl, f3, d6, by omega⟩
  · rw [cond_true]
    have h0 : 0 ≤ v.2.2.2.2 := Int.le_trans (of_decide_eq_true e) h2
    rw [Int.tdiv_eq_ediv_of_nonneg h0] at f1
    rw [Int.tmod_eq_emod_of_nonneg h0] at f3
    match a with
    | 0 => exact ⟨z / w, rfl, f1, Int.ediv_nonneg h0 (by omega), Int.le_trans (Int.ediv_le_self _ h0) h3⟩
    | _ + 1 =>
      have := Int.emod_lt_of_pos v.2.2.2.2 hn
      refine ⟨z - z / w * w, rfl, f3, Int.emod_nonneg _ (by omega), ?_⟩
      show v.2.2.2.2 % y.2.2.2.2 ≤ y.2.2.2.1 - 1
      omega
theorem xa_q4_ok (hcl : ∀ S, g_pre CALL o nL ini bc bs cc P S → P S) {n : Int} (hd : decode cc pc = .ok (.iinc a n, s_len (.iinc a n))) (hgo : s_pc t = pc + s_len (.iinc a n)) (hIt : ∀ r ∈ t, s_okI cc o r = true) (e : xa_q4 nL next t L st M a n) (hN : xa_N cc o P I A h0 next) : xa_P P I A h0 pc L st M := by
  intro h Ls sts hH hL hS
  unfold xa_q4 at e
  split at e
  next u eu =>
    obtain ⟨h1, h2⟩ := xa_if_eq e
    rw [Bool.and_eq_true, Bool.and_eq_true, Nat.blt_eq] at h1
    obtain ⟨x, hx, hg⟩ := hL _ (xa_find_in eu)
    obtain ⟨m, rfl, m1, m2, m3⟩ := xa_isI_g h1.1 hg
    obtain ⟨w, ew, w1, w2, w3⟩ := xa_in32_g (A := A) h1.2.2
    cases ew
    have hv : xa_g A (xa_bin32 0 u (0, 0, n, n, n)) (.int (m + Int32.ofInt n)) := xa_bin32_ok (a := 0) (y := (0, 0, n, n, n)) m1 m2 m3 w1 w2 w3
    exact hcl _ ⟨_, _, hd, Or.inl (Or.inr (Or.inr (Or.inr (Or.inr (Or.inl ⟨_, _, _, rfl, Or.inl rfl, hx, h1.2.1, xa_N1 hN hIt h2 hgo hH (xa_gL_st1 hL hv) hS⟩)))))⟩
  next => exact e.elim
theorem xa_c2_1 (hc : (!xa_c2 v) = true) (hg : xa_g A v x) : x.category = 1 := by
  have h1 : xa_c2 v = false := by
    cases e : xa_c2 v
    · rfl
    · rw [e] at hc; cases hc
  rw [xa_cat hg, h1]
  rfl
theorem xa_c2_2 (hc : xa_c2 v = true) (hg : xa_g A v x) : x.category = 2 := by
  rw [xa_cat hg, hc]
  rfl
theorem xa_q5_ok (hcl : ∀ S, g_pre CALL o nL ini bc bs cc P S → P S) (hd : decode cc pc = .ok (.dup, 1)) (hgo : s_pc t = pc + 1) (hIt : ∀ r ∈ t, s_okI cc o r = true) (e : xa_q5 next t L st M) (hN : xa_N cc o P I A h0 next) : xa_P P I A h0 pc L st M := by
  intro h Ls sts hH hL hS
  unfold xa_q5 at e
  split at e
  next v rest =>
    obtain ⟨h1, h2⟩ := xa_if_eq e
    obtain ⟨x, xs, rfl, hg, hS'⟩ := xa_gS_cons hS
    exact hcl _ ⟨_, _, hd, Or.inl (Or.inr (Or.inr (Or.inr (Or.inr (Or.inr (Or.inl ⟨_, _, rfl, rfl, rfl, xa_c2_1 h1 hg, xa_N1 hN hIt h2 hgo hH hL ⟨hg, hg, hS'⟩⟩))))))⟩
  next => exact e.elim
theorem xa_q6_ok (hcl : ∀ S, g_pre CALL o nL ini bc bs cc P S → P S) (hd : decode cc pc = .ok (.pop, 1)) (hgo : s_pc t = pc + 1) (hIt : ∀ r ∈ t, s_okI cc o r = true) (e : xa_q6 next t L st M) (hN : xa_N cc o P I A h0 next) : xa_P P I A h0 pc L st M := by
  intro h Ls sts hH hL hS
  unfold xa_q6 at e
  split at e
  next v rest =>
    obtain ⟨h1, h2⟩ := xa_if_eq e
    obtain ⟨x, xs, rfl, hg, hS'⟩ := xa_gS_cons hS
    exact hcl _ ⟨_, _, hd, Or.inl (Or.inr (Or.inr (Or.inr (Or.inr (Or.inr (Or.inr (Or.inl ⟨_, _, rfl, rfl, rfl, xa_c2_1 h1 hg, xa_N1 hN hIt h2 hgo hH hL hS'⟩)))))))⟩
  next => exact e.elim
theorem xa_q7_ok (hcl : ∀ S, g_pre CALL o nL ini bc bs cc P S → P S) (hd : decode cc pc = .ok (.dup_x1, 1)) (hgo : s_pc t = pc + 1) (hIt : ∀ r ∈ t, s_okI cc o r = true) (e : xa_q7 next t L st M) (hN : xa_N cc o P I A h0 next) : xa_P P I A h0 pc L st M := by
  intro h Ls sts hH hL hS
  unfold xa_q7 at e
  split at e
  next v u rest =>
    obtain ⟨h1, h2⟩ := xa_if_eq e
    rw [Bool.and_eq_true] at h1
    obtain ⟨x, xs, rfl, hg, hS'⟩ := xa_gS_cons hS
    obtain ⟨y, ys, rfl, hg2, hS2⟩ := xa_gS_cons hS'
    exact hcl _ ⟨_, _, hd, Or.inl (Or.inr (Or.inr (Or.inr (Or.inr (Or.inr (Or.inr (Or.inr (Or.inl ⟨_, _, _, rfl, rfl, rfl, xa_c2_1 h1.1 hg, xa_c2_1 h1.2 hg2, xa_N1 hN hIt h2 hgo hH hL ⟨hg, hg2, hg, hS2⟩⟩))))))))⟩
  next => exact e.elim
theorem xa_q8_ok (hcl : ∀ S, g_pre CALL o nL ini bc bs cc P S → P S) (hd : decode cc pc = .ok (.dup2, 1)) (hgo : s_pc t = pc + 1) (hIt : ∀ r ∈ t, s_okI cc o r = true) (e : xa_q8 next t L st M) (hN : xa_N cc o P I A h0 next) : xa_P P I A h0 pc L st M := by
  intro h Ls sts hH hL hS
  unfold xa_q8 at e
  split at e
  next v u rest =>
    obtain ⟨x, xs, rfl, hg, hS'⟩ := xa_gS_cons hS
    obtain ⟨y, ys, rfl, hg2, hS2⟩ := xa_gS_cons hS'
    cases h1 : xa_c2 v
    · rw [h1, cond_false] at e
      obtain ⟨h3, h2⟩ := xa_if_eq e
      exact hcl _ ⟨_, _, hd, Or.inl (Or.inr (Or.inr (Or.inr (Or.inr (Or.inr (Or.inr (Or.inr (Or.inr (Or.inl ⟨_, _, _, rfl, rfl, rfl, xa_c2_1 (by rw [h1]; rfl) hg, xa_c2_1 h3 hg2, xa_N1 hN hIt h2 hgo hH hL ⟨hg, hg2, hg, hg2, hS2⟩⟩)))))))))⟩
    · rw [h1, cond_true] at e
      exact hcl _ ⟨_, _, hd, Or.inl (Or.inr (Or.inr (Or.inr (Or.inr (Or.inr (Or.inr (Or.inr (Or.inr (Or.inr (Or.inl ⟨_, _, rfl, rfl, rfl, xa_c2_2 h1 hg, xa_N1 hN hIt e hgo hH hL ⟨hg, hg, hg2, hS2⟩⟩))))))))))⟩
  next => exact e.elim
theorem xa_q11_ok (hcl : ∀ S, g_pre CALL o nL ini bc bs cc P S → P S) (hQ : s_ibn ins = some a) (hd : decode cc pc = .ok (ins, s_len ins)) (hgo : s_pc t = pc + s_len ins) (hIt : ∀ r ∈ t, s_okI cc o r = true) (e : xa_q11 next t L st M a) (hN : xa_N cc o P I A h0 next) : xa_P P I A h0 pc L st M := by
  intro h Ls sts hH hL hS
  unfold xa_q11 at e
  split at e
  next y x rest =>
    obtain ⟨h1, h2⟩ := xa_if_eq e
    rw [Bool.and_eq_true] at h1
    obtain ⟨n, xs, rfl, hg, hS'⟩ := xa_gS_cons hS
    obtain ⟨m, ys, rfl, hg2, hS2⟩ := xa_gS_cons hS'
    obtain ⟨n, rfl, n1, n2, n3⟩ := xa_isI_g h1.2 hg
    obtain ⟨m, rfl, m1, m2, m3⟩ := xa_isI_g h1.1 hg2
    obtain ⟨g1, g2⟩ := s_ib_g hQ
    rw [g2] at hd hgo
    exact hcl _ ⟨_, _, hd, Or.inr (Or.inl (Or.inl ⟨_, _, _, _, g1, rfl, rfl, xa_N1 hN hIt h2 hgo hH hL ⟨xa_bin32_ok m1 m2 m3 n1 n2 n3, hS2⟩⟩))⟩
  next => exact e.elim
theorem xa_q12_ok (hcl : ∀ S, g_pre CALL o nL ini bc bs cc P S → P S) (hQ : s_idn ins = some a) (hd : decode cc pc = .ok (ins, s_len ins)) (hgo : s_pc t = pc + s_len ins) (hIt : ∀ r ∈ t, s_okI cc o r = true) (e : xa_q12 next t L st M a) (hN : xa_N cc o P I A h0 next) : xa_P P I A h0 pc L st M := by
  intro h Ls sts hH hL hS
  unfold xa_q12 at e
  split at e
  next y x rest =>
    obtain ⟨h1, h2⟩ := xa_if_eq e
    rw [Bool.and_eq_true] at h1
    obtain ⟨n, xs, rfl, hg, hS'⟩ := xa_gS_cons hS
    obtain ⟨m, ys, rfl, hg2, hS2⟩ := xa_gS_cons hS'
    obtain ⟨n, rfl, n1, n2, n3⟩ := xa_isI_g h1.2 hg
    obtain ⟨m, rfl, m1, m2, m3⟩ := xa_isI_g h1.1 hg2
    obtain ⟨h4, h5⟩ := xa_ob_eq (fun h => Int.lt_of_lt_of_le (of_decide_eq_true h) n2) h2
    obtain ⟨g1, g2⟩ := s_id_g hQ
    rw [g2] at hd hgo
    have hz : ¬ n = 0 := fun hz => by
      rw [hz] at n1
      have : (0 : Int32).toInt = 0 := rfl
      omega
    exact hcl _ ⟨_, _, hd, Or.inr (Or.inl (Or.inr (Or.inl ⟨_, _, _, _, g1, rfl, hz, rfl, xa_N1 hN hIt h5 hgo hH hL ⟨xa_div32_ok m1 m2 m3 n1 n2 n3 h4, hS2⟩⟩)))⟩
  next => exact e.elim
theorem xa_q13_ok (hcl : ∀ S, g_pre CALL o nL ini bc bs cc P S → P S) (hQ : s_iun ins = some a) (hd : decode cc pc = .ok (ins, s_len ins)) (hgo : s_pc t = pc + s_len ins) (hIt : ∀ r ∈ t, s_okI cc o r = true) (e : xa_q13 next t L st M a) (hN : xa_N cc o P I A h0 next) : xa_P P I A h0 pc L st M := by
  intro h Ls sts hH hL hS
  unfold xa_q13 at e
  split at e
  next x rest =>
    obtain ⟨h1, h2⟩ := xa_if_eq e
    obtain ⟨m, ys, rfl, hg2, hS2⟩ := xa_gS_cons hS
    obtain ⟨m, rfl, m1, m2, m3⟩ := xa_isI_g h1 hg2
    obtain ⟨g1, g2⟩ := s_iu_g hQ
    rw [g2] at hd hgo
    refine hcl _ ⟨_, _, hd, Or.inr (Or.inl (Or.inr (Or.inr (Or.inl ⟨_, _, _, g1, rfl, rfl, ?_⟩))))⟩
    match a, h2 with
    | 0, h2 =>
      obtain ⟨h3, h4⟩ := xa_if_eq h2
      have h3 := of_decide_eq_true h3
      have b1 := Int32.toInt_lt m
      have f : (-m).toInt = -x.2.2.2.2 := by
        rw [Int32.toInt_neg, m1]
        apply Int.bmod_eq_of_le <;> omega
      exact xa_N1 hN hIt h4 hgo hH hL ⟨⟨-m, rfl, f, by omega, by omega⟩, hS2⟩
    | 1, h2 =>
      have b1 := Int8.le_toInt m.toInt8
      have b2 := Int8.toInt_lt m.toInt8
      have f : (m.toInt8.toInt32).toInt = xa_i8 x.2.2.2.2 := by
        unfold xa_i8
        rw [← m1, xa_of32]
      have f2 : (m.toInt8.toInt32).toInt = m.toInt8.toInt := Int8.toInt_toInt32 _
      refine xa_N1 hN hIt h2 hgo hH hL ⟨⟨_, rfl, f, ?_, ?_⟩, hS2⟩
      · show -128 ≤ xa_i8 x.2.2.2.2
        omega
      · show xa_i8 x.2.2.2.2 ≤ 127
        omega
    | _ + 2, h2 =>
      have b1 := Int16.le_toInt m.toInt16
      have b2 := Int16.toInt_lt m.toInt16
      have f : (m.toInt16.toInt32).toInt = xa_i16 x.2.2.2.2 := by
        unfold xa_i16
        rw [← m1, xa_of32]
      have f2 : (m.toInt16.toInt32).toInt = m.toInt16.toInt := Int16.toInt_toInt32 _
      refine xa_N1 hN hIt h2 hgo hH hL ⟨⟨_, rfl, f, ?_, ?_⟩, hS2⟩
      · show -32768 ≤ xa_i16 x.2.2.2.2
        omega
      · show xa_i16 x.2.2.2.2 ≤ 32767
        omega
  next => exact e.elim
theorem xa_q14_ok (hcl : ∀ S, g_pre CALL o nL ini bc bs cc P S → P S) (hQ : s_lbn ins = some a) (hd : decode cc pc = .ok (ins, s_len ins)) (hgo : s_pc t = pc + s_len ins) (hIt : ∀ r ∈ t, s_okI cc o r = true) (e : xa_q14 next t L st M a) (hN : xa_N cc o P I A h0 next) : xa_P P I A h0 pc L st M := by
  intro h Ls sts hH hL hS
  unfold xa_q14 at e
  split at e
  next y x rest =>
    obtain ⟨h1, h2⟩ := xa_if_eq e
    rw [Bool.and_eq_true] at h1
    obtain ⟨n, xs, rfl, hg, hS'⟩ := xa_gS_cons hS
    obtain ⟨m, ys, rfl, hg2, hS2⟩ := xa_gS_cons hS'
    obtain ⟨n, rfl, n1, n2, n3⟩ := xa_isL_g h1.2 hg
    obtain ⟨m, rfl, m1, m2, m3⟩ := xa_isL_g h1.1 hg2
    obtain ⟨g1, g2⟩ := s_lb_g hQ
    rw [g2] at hd hgo
    exact hcl _ ⟨_, _, hd, Or.inr (Or.inl (Or.inr (Or.inr (Or.inr (Or.inl ⟨_, _, _, _, g1, rfl, rfl, xa_N1 hN hIt h2 hgo hH hL ⟨xa_bin64_ok m1 m2 m3 n1 n2 n3, hS2⟩⟩)))))⟩
  next => exact e.elim
theorem xa_q15_ok (hcl : ∀ S, g_pre CALL o nL ini bc bs cc P S → P S) (hQ : s_ldn ins = some a) (hd : decode cc pc = .ok (ins, s_len ins)) (hgo : s_pc t = pc + s_len ins) (hIt : ∀ r ∈ t, s_okI cc o r = true) (e : xa_q15 next t L st M a) (hN : xa_N cc o P I A h0 next) : xa_P P I A h0 pc L st M := by
  intro h Ls sts hH hL hS
  unfold xa_q15 at e
  split at e
  next y x rest =>
    obtain ⟨h1, h2⟩ := xa_if_eq e
    rw [Bool.and_eq_true] at h1
    obtain ⟨n, xs, rfl, hg, hS'⟩ := xa_gS_cons hS
    obtain ⟨m, ys, rfl, hg2, hS2⟩ := xa_gS_cons hS'
    obtain ⟨n, rfl, n1, n2, n3⟩ := xa_isL_g h1.2 hg
    obtain ⟨m, rfl, m1, m2, m3⟩ := xa_isL_g h1.1 hg2
    obtain ⟨h4, h5⟩ := xa_ob_eq (fun h => Int.lt_of_lt_of_le (of_decide_eq_true h) n2) h2
    obtain ⟨g1, g2⟩ := s_ldv_g hQ
    rw [g2] at hd hgo
    have hz : ¬ n = 0 := fun hz => by
      rw [hz] at n1
      have : (0 : Int64).toInt = 0 := rfl
      omega
    exact hcl _ ⟨_, _, hd, Or.inr (Or.inl (Or.inr (Or.inr (Or.inr (Or.inr (Or.inl ⟨_, _, _, _, g1, rfl, hz, rfl, xa_N1 hN hIt h5 hgo hH hL ⟨xa_div64_ok m1 m2 m3 n1 n2 n3 h4, hS2⟩⟩))))))⟩
  next => exact e.elim
theorem xa_q16_ok (hcl : ∀ S, g_pre CALL o nL ini bc bs cc P S → P S) (hd : decode cc pc = .ok (.lneg, 1)) (hgo : s_pc t = pc + 1) (hIt : ∀ r ∈ t, s_okI cc o r = true) (e : xa_q16 next t L st M) (hN : xa_N cc o P I A h0 next) : xa_P P I A h0 pc L st M := by
  intro h Ls sts hH hL hS
  unfold xa_q16 at e
  split at e
  next x rest =>
    obtain ⟨h1, h2⟩ := xa_if_eq e
    obtain ⟨m, ys, rfl, hg2, hS2⟩ := xa_gS_cons hS
    obtain ⟨m, rfl, m1, m2, m3⟩ := xa_isL_g h1 hg2
    refine hcl _ ⟨_, _, hd, Or.inr (Or.inl (Or.inr (Or.inr (Or.inr (Or.inr (Or.inr (Or.inl ⟨_, _, rfl, rfl, rfl, ?_⟩)))))))⟩
    have b1 := Int64.toInt_lt m
    cases e9 : decide (-9223372036854775808 < x.2.2.1)
    · rw [e9, cond_false] at h2
      have f : (-m).toInt = xa_w64 (-x.2.2.2.2) := by
        rw [Int64.toInt_neg, m1]
        rfl
      have c1 := Int64.le_toInt (-m)
      have c2 := Int64.toInt_lt (-m)
      refine xa_N1 hN hIt h2 hgo hH hL ⟨⟨-m, rfl, f, ?_, ?_⟩, hS2⟩
      · show _ ≤ xa_w64 (-x.2.2.2.2)
        omega
      · show xa_w64 (-x.2.2.2.2) ≤ _
        omega
    · rw [e9, cond_true] at h2
      have h3 := of_decide_eq_true e9
      have f : (-m).toInt = -x.2.2.2.2 := by
        rw [Int64.toInt_neg, m1]
        apply Int.bmod_eq_of_le <;> omega
      exact xa_N1 hN hIt h2 hgo hH hL ⟨⟨-m, rfl, f, by omega, by omega⟩, hS2⟩
  next => exact e.elim
theorem xa_q17_ok (hcl : ∀ S, g_pre CALL o nL ini bc bs cc P S → P S) (hd : decode cc pc = .ok (.i2l, 1)) (hgo : s_pc t = pc + 1) (hIt : ∀ r ∈ t, s_okI cc o r = true) (e : xa_q17 next t L st M) (hN : xa_N cc o P I A h0 next) : xa_P P I A h0 pc L st M := by
  intro h Ls sts hH hL hS
  unfold xa_q17 at e
  split at e
  next x rest =>
    obtain ⟨h1, h2⟩ := xa_if_eq e
    obtain ⟨m, ys, rfl, hg2, hS2⟩ := xa_gS_cons hS
    obtain ⟨m, rfl, m1, m2, m3⟩ := xa_isI_g h1 hg2
    exact hcl _ ⟨_, _, hd, Or.inr (Or.inl (Or.inr (Or.inr (Or.inr (Or.inr (Or.inr (Or.inr (Or.inr (Or.inl ⟨_, _, rfl, rfl, rfl, xa_N1 hN hIt h2 hgo hH hL ⟨⟨_, rfl, by rw [Int32.toInt_toInt64]; exact m1, m2, m3⟩, hS2⟩⟩)))))))))⟩
  next => exact e.elim
theorem xa_q18_ok (hcl : ∀ S, g_pre CALL o nL ini bc bs cc P S → P S) (hd : decode cc pc = .ok (.l2i, 1)) (hgo : s_pc t = pc + 1) (hIt : ∀ r ∈ t, s_okI cc o r = true) (e : xa_q18 next t L st M) (hN : xa_N cc o P I A h0 next) : xa_P P I A h0 pc L st M := by
  intro h Ls sts hH hL hS
  unfold xa_q18 at e
  split at e
  next x rest =>
    obtain ⟨h1, h2⟩ := xa_if_eq e
    obtain ⟨m, ys, rfl, hg2, hS2⟩ := xa_gS_cons hS
    obtain ⟨m, rfl, m1, m2, m3⟩ := xa_isL_g h1 hg2
    exact hcl _ ⟨_, _, hd, Or.inr (Or.inl (Or.inr (Or.inr (Or.inr (Or.inr (Or.inr (Or.inr (Or.inr (Or.inr (Or.inl ⟨_, _, rfl, rfl, rfl, xa_N1 hN hIt h2 hgo hH hL ⟨xa_mk32_ok (by rw [Int64.toInt_toInt32, m1]) m2 m3, hS2⟩⟩))))))))))⟩
  next => exact e.elim
end XA2

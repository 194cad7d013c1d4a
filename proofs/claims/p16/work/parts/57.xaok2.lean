-- the machine over numbers: branches, cells, calls
section XA3
variable {CALL : Nat → List Value → g_H → Nat → Nat → (Option Value → g_H → Prop) → Prop} {cc : ByteArray} {o nL : Nat} {ini : Bool} {bc bs : Nat} {P : g_S → Prop}
variable {I : xa_I} {A : Nat → Nat} {h0 h : g_H} {next : xa_K} {full t : List s_I} {L : xa_L} {st rest : List xa_V} {M : xa_M} {Ls : g_L} {sts : List Value} {pc a b kd : Nat} {ins : Instr} {r : s_I} {v u : xa_V} {x : Value}
theorem xa_jp_ok (hfull : ∀ r ∈ full, s_okI cc o r = true) (e : xa_jp full next a L st M) (hN : xa_N cc o P I A h0 next) : xa_P P I A h0 a L st M := by
  unfold xa_jp at e
  split at e
  next c ec =>
    have k := hN c L st M (fun r hr => hfull r (s_jump_in ec r hr)) e
    rw [show s_pc c = a from (s_jump_mem ec).1] at k
    exact k
  next => exact e.elim
theorem xa_cd_ok {cd : ClassFile.Cond} {m n : Int} (h : h_ci m n cd = true) : xa_cd (s_cdn cd) m n := by
  cases cd <;> simp only [h_ci, decide_eq_true_eq] at h <;> exact h
theorem xa_cd_no {cd : ClassFile.Cond} {m n : Int} (h : ¬ h_ci m n cd = true) : xa_cd (y_neg (s_cdn cd)) m n := by
  cases cd <;> simp only [h_ci, decide_eq_true_eq] at h
  · exact h
  · show m = n
    omega
  · show n ≤ m
    omega
  · show m < n
    omega
  · show m ≤ n
    omega
  · show n < m
    omega
theorem xa_dc_1 {cd : ClassFile.Cond} {m n a b c d : Int} (a1 : a ≤ m) (a2 : m ≤ b) (b1 : c ≤ n) (b2 : n ≤ d) (e : xa_dc (s_cdn cd) a b c d = 1) : h_ci m n cd = true := by
  cases cd <;> simp only [h_ci, decide_eq_true_eq] <;> simp only [s_cdn, xa_dc, Bool.cond_eq_ite, Bool.or_eq_true, Bool.and_eq_true, decide_eq_true_eq] at e <;> repeat' split at e
  all_goals first | omega | (exfalso; revert e; decide)
theorem xa_dc_2 {cd : ClassFile.Cond} {m n a b c d : Int} (a1 : a ≤ m) (a2 : m ≤ b) (b1 : c ≤ n) (b2 : n ≤ d) (e : xa_dc (s_cdn cd) a b c d = 2) : ¬ h_ci m n cd = true := by
  cases cd <;> simp only [h_ci, decide_eq_true_eq] <;> simp only [s_cdn, xa_dc, Bool.cond_eq_ite, Bool.or_eq_true, Bool.and_eq_true, decide_eq_true_eq] at e <;> repeat' split at e
  all_goals first | omega | (exfalso; revert e; decide)
theorem xa_br_ok (hfull : ∀ r ∈ full, s_okI cc o r = true) (hIt : ∀ r ∈ t, s_okI cc o r = true) {cd : ClassFile.Cond} {x y : xa_V} (hx : x.2.2.1 ≤ x.2.2.2.2 ∧ x.2.2.2.2 ≤ x.2.2.2.1) (hy : y.2.2.1 ≤ y.2.2.2.2 ∧ y.2.2.2.2 ≤ y.2.2.2.1) (e : xa_br full next r t a (s_cdn cd) x y L rest M) (hN : xa_N cc o P I A h0 next) : xa_P P I A h0 (if h_ci x.2.2.2.2 y.2.2.2.2 cd = true then a else r.1 + r.2.1) L rest M := by
  have fall : xa_if (s_go r t) (next t L rest M) → xa_P P I A h0 (r.1 + r.2.1) L rest M := fun e => by
    obtain ⟨h1, h2⟩ := xa_if_eq e
    have k := hN t L rest M hIt h2
    rw [s_go_eq h1] at k
    exact k
  unfold xa_br at e
  split at e
  next e1 =>
    rw [if_pos (xa_dc_1 hx.1 hx.2 hy.1 hy.2 e1)]
    exact xa_jp_ok hfull e hN
  next e1 =>
    rw [if_neg (xa_dc_2 hx.1 hx.2 hy.1 hy.2 e1)]
    exact fall e
  next =>
    by_cases hc : h_ci x.2.2.2.2 y.2.2.2.2 cd = true
    · rw [if_pos hc]
      exact xa_jp_ok hfull (e.1 (xa_cd_ok hc)) hN
    · rw [if_neg hc]
      exact fall (e.2 (xa_cd_no hc))
theorem xa_q21_ok (hcl : ∀ S, g_pre CALL o nL ini bc bs cc P S → P S) (hfull : ∀ r ∈ full, s_okI cc o r = true) (hIt : ∀ r ∈ t, s_okI cc o r = true) {cd : ClassFile.Cond} {off : Int} (hd : decode cc r.1 = .ok (.ifCond cd off, 3)) (hl : r.2.1 = 3) (hQ : (r.1 : Int) + off = (a : Int)) (e : xa_q21 full next r t L st M a (s_cdn cd)) (hN : xa_N cc o P I A h0 next) : xa_P P I A h0 r.1 L st M := by
  intro h Ls sts hH hL hS
  unfold xa_q21 at e
  split at e
  next x rest =>
    obtain ⟨h1, h2⟩ := xa_if_eq e
    obtain ⟨z, zs, rfl, hg, hS'⟩ := xa_gS_cons hS
    obtain ⟨m, rfl, m1, m2, m3⟩ := xa_isI_g h1 hg
    have k := xa_br_ok hfull hIt ⟨m2, m3⟩ ⟨Int.le_refl _, Int.le_refl _⟩ h2 hN h Ls zs hH hL hS'
    rw [hl] at k
    refine hcl _ ⟨_, _, hd, Or.inr (Or.inr (Or.inl (Or.inr (Or.inl ⟨_, _, _, _, _, rfl, rfl, hQ, rfl, ?_⟩))))⟩
    rw [h_c1, m1]
    exact k
  next => exact e.elim
theorem xa_q22_ok (hcl : ∀ S, g_pre CALL o nL ini bc bs cc P S → P S) (hfull : ∀ r ∈ full, s_okI cc o r = true) (hIt : ∀ r ∈ t, s_okI cc o r = true) {cd : ClassFile.Cond} {off : Int} (hd : decode cc r.1 = .ok (.if_icmp cd off, 3)) (hl : r.2.1 = 3) (hQ : (r.1 : Int) + off = (a : Int)) (e : xa_q22 full next r t L st M a (s_cdn cd)) (hN : xa_N cc o P I A h0 next) : xa_P P I A h0 r.1 L st M := by
  intro h Ls sts hH hL hS
  unfold xa_q22 at e
  split at e
  next y x rest =>
    obtain ⟨h1, h2⟩ := xa_if_eq e
    rw [Bool.and_eq_true] at h1
    obtain ⟨z, zs, rfl, hg, hS'⟩ := xa_gS_cons hS
    obtain ⟨w, ws, rfl, hg2, hS2⟩ := xa_gS_cons hS'
    obtain ⟨n, rfl, n1, n2, n3⟩ := xa_isI_g h1.2 hg
    obtain ⟨m, rfl, m1, m2, m3⟩ := xa_isI_g h1.1 hg2
    have k := xa_br_ok hfull hIt ⟨m2, m3⟩ ⟨n2, n3⟩ h2 hN h Ls ws hH hL hS2
    rw [hl] at k
    refine hcl _ ⟨_, _, hd, Or.inr (Or.inr (Or.inl (Or.inr (Or.inr (Or.inl ⟨_, _, _, _, _, _, rfl, rfl, hQ, rfl, ?_⟩)))))⟩
    rw [h_c2, m1, n1]
    exact k
  next => exact e.elim
theorem xa_q20_ok (hcl : ∀ S, g_pre CALL o nL ini bc bs cc P S → P S) (hfull : ∀ r ∈ full, s_okI cc o r = true) {off : Int} (hd : decode cc pc = .ok (.goto off, 3)) (hQ : (pc : Int) + off = (a : Int)) (e : xa_jp full next a L st M) (hN : xa_N cc o P I A h0 next) : xa_P P I A h0 pc L st M := by
  intro h Ls sts hH hL hS
  exact hcl _ ⟨_, _, hd, Or.inr (Or.inr (Or.inl (Or.inl ⟨_, _, rfl, rfl, hQ, xa_jp_ok hfull e hN h Ls sts hH hL hS⟩)))⟩
theorem xa_q19_ok (hcl : ∀ S, g_pre CALL o nL ini bc bs cc P S → P S) (hfull : ∀ r ∈ full, s_okI cc o r = true) (hd : decode cc pc = .ok (.lcmp, 1)) (hgo : s_pc t = pc + 1) (hI : ∀ r ∈ t, s_okI cc o r = true) (e : xa_q19 full next t L st M) (hN : xa_N cc o P I A h0 next) : xa_P P I A h0 pc L st M := by
  intro h Ls sts hH hL hS
  unfold xa_q19 at e
  split at e
  next y x rest =>
    split at e
    next pc2 len q kd a b v ins t' =>
      obtain ⟨h1, h2⟩ := xa_if_eq e
      rw [Bool.and_eq_true, Bool.and_eq_true, Nat.beq_eq] at h1
      obtain ⟨hx1, hy1, rfl⟩ := h1
      obtain ⟨⟨n9, hd2, hlen, hne⟩, hQ, -⟩ := s_okI_eq (hI _ List.mem_cons_self) (by decide)
      have hQ' : ∃ cd off, ins = .ifCond cd off ∧ (pc2 : Int) + off = (a : Int) ∧ s_cdn cd = b := by
        clear hne hlen hd2 h2 e hgo hI
        unfold s_okQ at hQ
        simp only at hQ
        split at hQ
        next cd off =>
          rw [Bool.and_eq_true, decide_eq_true_eq, Nat.beq_eq] at hQ
          exact ⟨cd, off, rfl, hQ.1, hQ.2⟩
        next => cases hQ
      obtain ⟨cd, off, rfl, hq1, rfl⟩ := hQ'
      have hn3 := hne (by decide)
      rw [hn3] at hd2 hlen
      have hpc : pc2 = pc + 1 := hgo
      subst hpc
      obtain ⟨z, zs, rfl, hg, hS'⟩ := xa_gS_cons hS
      obtain ⟨w, ws, rfl, hg2, hS2⟩ := xa_gS_cons hS'
      obtain ⟨n, rfl, n1, n2, n3⟩ := xa_isL_g hy1 hg
      obtain ⟨m, rfl, m1, m2, m3⟩ := xa_isL_g hx1 hg2
      have k := xa_br_ok hfull (fun r hr => hI r (List.mem_cons_of_mem _ hr)) ⟨m2, m3⟩ ⟨n2, n3⟩ h2 hN h Ls ws hH hL hS2
      have hl3 : len = 3 := hlen
      subst hl3
      have k2 : P (pc + 1, Ls, .int (lg_cmp m n) :: ws, 0, 0, h) := by
        refine hcl _ ⟨_, _, hd2, Or.inr (Or.inr (Or.inl (Or.inr (Or.inl ⟨_, _, _, _, _, rfl, rfl, hq1, rfl, ?_⟩))))⟩
        rw [h_cl, m1, n1]
        exact k
      exact hcl _ ⟨_, _, hd, Or.inr (Or.inl (Or.inr (Or.inr (Or.inr (Or.inr (Or.inr (Or.inr (Or.inl ⟨_, _, _, rfl, rfl, rfl, k2⟩))))))))⟩
    next => exact e.elim
  next => exact e.elim
theorem xa_q23_ok (hcl : ∀ S, g_pre CALL o nL ini bc bs cc P S → P S) (hfull : ∀ r ∈ full, s_okI cc o r = true) (hIt : ∀ r ∈ t, s_okI cc o r = true) {off : Int} {nn : Bool} (hd : decode cc r.1 = .ok (if nn = true then .ifnonnull off else .ifnull off, 3)) (hl : r.2.1 = 3) (hQ : (r.1 : Int) + off = (a : Int)) (e : xa_q23 full next r t L st M a nn) (hN : xa_N cc o P I A h0 next) : xa_P P I A h0 r.1 L st M := by
  intro h Ls sts hH hL hS
  unfold xa_q23 at e
  split at e
  next x rest =>
    obtain ⟨z, zs, rfl, hg, hS'⟩ := xa_gS_cons hS
    obtain ⟨g, p, lo, hi, n⟩ := x
    have nxt : xa_if (s_go r t) (next t L rest M) → P (r.1 + 3, Ls, zs, 0, 0, h) := fun k => by
      obtain ⟨k1, k2⟩ := xa_if_eq k
      exact xa_N1 hN hIt k2 (by rw [s_go_eq k1, hl]) hH hL hS'
    have jmp : xa_jp full next a L rest M → P (a, Ls, zs, 0, 0, h) := fun k => xa_jp_ok hfull k hN h Ls zs hH hL hS'
    have isN : z = .null → (nn = false → xa_jp full next a L rest M) → (nn = true → xa_if (s_go r t) (next t L rest M)) → P (r.1, Ls, z :: zs, 0, 0, h) := by
      intro ez k1 k2
      subst ez
      cases nn
      · exact hcl _ ⟨_, _, hd, Or.inr (Or.inr (Or.inl (Or.inr (Or.inr (Or.inr (Or.inl ⟨off, a, 0, _, rfl, rfl, hQ, Or.inl ⟨rfl, jmp (k1 rfl)⟩⟩))))))⟩
      · exact hcl _ ⟨_, _, hd, Or.inr (Or.inr (Or.inl (Or.inr (Or.inr (Or.inr (Or.inr (Or.inl ⟨off, a, 0, _, rfl, rfl, hQ, Or.inl ⟨rfl, nxt (k2 rfl)⟩⟩)))))))⟩
    have isR : ∀ q, z = .ref q → (nn = true → xa_jp full next a L rest M) → (nn = false → xa_if (s_go r t) (next t L rest M)) → P (r.1, Ls, z :: zs, 0, 0, h) := by
      intro q ez k1 k2
      subst ez
      cases nn
      · exact hcl _ ⟨_, _, hd, Or.inr (Or.inr (Or.inl (Or.inr (Or.inr (Or.inr (Or.inl ⟨off, a, q, _, rfl, rfl, hQ, Or.inr ⟨rfl, nxt (k2 rfl)⟩⟩))))))⟩
      · exact hcl _ ⟨_, _, hd, Or.inr (Or.inr (Or.inl (Or.inr (Or.inr (Or.inr (Or.inr (Or.inl ⟨off, a, q, _, rfl, rfl, hQ, Or.inr ⟨rfl, jmp (k1 rfl)⟩⟩)))))))⟩
    match g, hg, e with
    | 2, hg, e =>
      refine isR _ hg (fun hn => ?_) (fun hn => ?_)
      · subst hn; exact e
      · subst hn; exact e
    | 4, hg, e =>
      refine isN hg (fun hn => ?_) (fun hn => ?_)
      · subst hn; exact e
      · subst hn; exact e
    | 3, hg, e =>
      have hg' : z = (if n < 0 then .null else .ref (A n.toNat)) := hg
      by_cases hn0 : n < 0
      · rw [if_pos hn0] at hg'
        refine isN hg' (fun hn => ?_) (fun hn => ?_)
        · subst hn; exact e.1 hn0
        · subst hn; exact e.2 hn0
      · rw [if_neg hn0] at hg'
        have hn1 : 0 ≤ n := by omega
        refine isR _ hg' (fun hn => ?_) (fun hn => ?_)
        · subst hn; exact e.1 hn1
        · subst hn; exact e.2 hn1
    | 0, _, e => exact e.elim
    | 1, _, e => exact e.elim
    | _ + 5, _, e => exact e.elim
  next => exact e.elim
theorem xa_sw1_ok (hfull : ∀ r ∈ full, s_okI cc o r = true) {off : Int} (e : match s_tgt pc off with
    | some p => xa_jp full next p L rest M
    | none => False) (hN : xa_N cc o P I A h0 next) : ∃ p : Nat, (pc : Int) + off = ((p : Nat) : Int) ∧ xa_P P I A h0 p L rest M := by
  split at e
  next p ep => exact ⟨p, s_tgt_eq ep, xa_jp_ok hfull e hN⟩
  next => exact e.elim
theorem xa_swt_ok {x : Int} : ∀ {os : List Int} {i : Int}, xa_swt full next pc L rest M x i os → ∀ (k : Nat) (off : Int), os[k]? = some off → x = i + (k : Int) → match s_tgt pc off with
    | some p => xa_jp full next p L rest M
    | none => False
  | [], _, _, k, off, h, _ => by simp at h
  | off' :: os, i, e, 0, off, h, hx => by
    have h' : off' = off := by simpa using h
    subst h'
    exact e.1 (by omega)
  | off' :: os, i, e, k + 1, off, h, hx => by
    have h' : os[k]? = some off := by simpa using h
    exact xa_swt_ok e.2 k off h' (by omega)
theorem xa_q25_ok (hcl : ∀ S, g_pre CALL o nL ini bc bs cc P S → P S) (hfull : ∀ r ∈ full, s_okI cc o r = true) {len : Nat} (hd : decode cc pc = .ok (ins, len)) (e : xa_q25 full next pc L st M ins) (hN : xa_N cc o P I A h0 next) : xa_P P I A h0 pc L st M := by
  intro h Ls sts hH hL hS
  unfold xa_q25 at e
  split at e
  next dflt lo hi offs =>
    split at e
    next x rest =>
      obtain ⟨h1, h2, h3⟩ := xa_if_eq e
      rw [Bool.and_eq_true, decide_eq_true_eq] at h1
      obtain ⟨z, zs, rfl, hg, hS'⟩ := xa_gS_cons hS
      obtain ⟨m, rfl, m1, -, -⟩ := xa_isI_g h1.1 hg
      by_cases hin : m.toInt < lo ∨ hi < m.toInt
      · obtain ⟨p, a1, a2⟩ := xa_sw1_ok hfull (h2 (by rw [← m1]; exact hin)) hN
        exact hcl _ ⟨_, _, hd, Or.inr (Or.inr (Or.inl (Or.inr (Or.inr (Or.inr (Or.inr (Or.inr ⟨dflt, lo, hi, offs, m, zs, dflt, p, rfl, rfl, a1, Or.inr ⟨hin, rfl⟩, a2 h Ls zs hH hL hS'⟩)))))))⟩
      · have hlt : (m.toInt - lo).toNat < offs.size := by omega
        have hget : offs[(m.toInt - lo).toNat]? = some offs[(m.toInt - lo).toNat] := Array.getElem?_eq_getElem hlt
        have hget2 : offs.toList[(m.toInt - lo).toNat]? = some offs[(m.toInt - lo).toNat] := by
          rw [Array.getElem?_toList]
          exact hget
        obtain ⟨p, a1, a2⟩ := xa_sw1_ok hfull (xa_swt_ok h3 _ _ hget2 (by rw [← m1]; omega)) hN
        exact hcl _ ⟨_, _, hd, Or.inr (Or.inr (Or.inl (Or.inr (Or.inr (Or.inr (Or.inr (Or.inr ⟨dflt, lo, hi, offs, m, zs, _, p, rfl, rfl, a1, Or.inl ⟨fun h => hin (Or.inl h), fun h => hin (Or.inr h), hget⟩, a2 h Ls zs hH hL hS'⟩)))))))⟩
    next => exact e.elim
  next => exact e.elim
-- cells
theorem xa_ro_ok {q : Nat} {ro : y_R1} {S : Nat → Nat} (e : xa_ro I u = some (q, ro, S)) (hg : xa_g A u x) (hH : xa_H I A M h0 h) : I q = some (ro, S) ∧ ∃ f : Nat → Value, x = .ref (A q) ∧ g_get h q = some (A q, ro.1, ro.2.1, ro.2.2.1, f) ∧ ∀ j, j < ro.2.2.1 → xa_g A (xa_cv ro S (M q) j) (f j) := by
  have key : ∀ q', x = .ref (A q') → (match I q' with | some p => some (q', p) | none => none) = some (q, ro, S) → I q = some (ro, S) ∧ ∃ f : Nat → Value, x = .ref (A q) ∧ g_get h q = some (A q, ro.1, ro.2.1, ro.2.2.1, f) ∧ ∀ j, j < ro.2.2.1 → xa_g A (xa_cv ro S (M q) j) (f j) := by
    intro q' ex e
    split at e
    next p ep =>
      have e' := Option.some.inj e
      have e1 : q' = q := congrArg Prod.fst e'
      have e2 : p = (ro, S) := congrArg Prod.snd e'
      subst e1
      subst e2
      obtain ⟨f, f1, f2⟩ := hH.2.1 _ _ _ ep
      exact ⟨ep, f, ex, f1, f2⟩
    next => cases e
  obtain ⟨g, p, lo, hi, n⟩ := u
  match g, hg, e with
  | 2, hg, e => exact key p hg e
  | 3, hg, e =>
    match n, hg, e with
    | .ofNat q', hg, e =>
      have hg' : x = (if (Int.ofNat q') < 0 then .null else .ref (A (Int.ofNat q').toNat)) := hg
      rw [if_neg (show ¬ (Int.ofNat q' < 0) from Int.not_lt.mpr (Int.natCast_nonneg q'))] at hg'
      exact key q' hg' e
    | .negSucc _, _, e => cases e
  | 0, _, e => cases e
  | 1, _, e => cases e
  | 4, _, e => cases e
  | _ + 5, _, e => cases e
theorem xa_q26_ok (hcl : ∀ S, g_pre CALL o nL ini bc bs cc P S → P S) {i : Nat} {v0 : Int} (hd : decode cc pc = .ok (.getfield i, 3)) (hgo : s_pc t = pc + 3) (hlk : s_lkd o i kd a b v0) (hIt : ∀ r ∈ t, s_okI cc o r = true) (e : xa_q26 I next t L st M kd a b) (hN : xa_N cc o P I A h0 next) : xa_P P I A h0 pc L st M := by
  intro h Ls sts hH hL hS
  obtain ⟨ps, hlk⟩ := hlk
  unfold xa_q26 at e
  split at e
  next u rest =>
    split at e
    next q ro S e1 =>
      obtain ⟨h1, h2⟩ := xa_if_eq e
      simp only [Bool.and_eq_true, Nat.beq_eq, Nat.blt_eq, Bool.not_eq_true', Nat.ble_eq] at h1
      obtain ⟨k1, k2, k3, k4⟩ := h1
      obtain ⟨x, xs, rfl, hg, hS'⟩ := xa_gS_cons hS
      obtain ⟨hI, f, rfl, hget, hf⟩ := xa_ro_ok e1 hg hH
      have hk' : kd = 0 ∨ kd = 1 := by omega
      have k : P (pc + 3, Ls, f b :: xs, 0, 0, h) := xa_N1 hN hIt h2 hgo hH hL ⟨hf b k4, hS'⟩
      obtain ⟨isA, kind, n, l⟩ := ro
      have k2' : isA = false := k2
      have k3' : kind = a := k3
      subst k2' k3'
      exact hcl _ ⟨_, _, hd, Or.inr (Or.inr (Or.inr (Or.inl (Or.inl ⟨_, _, _, _, _, _, q, A q, n, f, xs, rfl, rfl, hk', hlk, rfl, hget, k4, k⟩))))⟩
    next => exact e.elim
  next => exact e.elim
theorem xa_up_eq {q : Nat} {j n : Int} : xa_up M q j n q j = n := if_pos ⟨rfl, rfl⟩
theorem xa_up_ne {q q' : Nat} {j j' n : Int} (h : ¬ (q' = q ∧ j' = j)) : xa_up M q j n q' j' = M q' j' := if_neg h
theorem xa_H_set (hH : xa_H I A M h0 h) {q : Nat} {ro : y_R1} {S : Nat → Nat} (hI : I q = some (ro, S)) {f : Nat → Value} (hget : h[q]? = some (A q, ro.1, ro.2.1, ro.2.2.1, f)) (hf : ∀ j, j < ro.2.2.1 → xa_g A (xa_cv ro S (M q) j) (f j)) {b : Nat} {z : Value} {n : Int} (hz : xa_g A (xa_cw (xa_sp ro b) (S b) n) z) : xa_H I A (xa_up M q (b : Int) n) h0 (h.set q (A q, ro.1, ro.2.1, ro.2.2.1, g_up f b z)) := by
  have hl : q < h.length := (List.getElem?_eq_some_iff.mp hget).1
  refine ⟨by rw [List.length_set]; exact hH.1, fun q2 ro2 S2 hq2 => ?_, fun q2 hq2 => ?_⟩
  · by_cases e : q = q2
    · subst e
      rw [hI] at hq2
      cases hq2
      refine ⟨_, List.getElem?_set_self hl, fun j hj => ?_⟩
      unfold g_up
      by_cases ej : j = b
      · subst ej
        rw [if_pos rfl]
        show xa_g A (xa_cw (xa_sp ro j) (S j) (xa_up M q (j : Int) n q (j : Int))) z
        rw [xa_up_eq]
        exact hz
      · rw [if_neg ej]
        show xa_g A (xa_cw (xa_sp ro j) (S j) (xa_up M q (b : Int) n q (j : Int))) (f j)
        rw [xa_up_ne (by omega)]
        exact hf j hj
    · obtain ⟨f2, g1, g2⟩ := hH.2.1 q2 ro2 S2 hq2
      refine ⟨f2, by rw [List.getElem?_set_ne e]; exact g1, fun j hj => ?_⟩
      show xa_g A (xa_cw (xa_sp ro2 j) (S2 j) (xa_up M q (b : Int) n q2 (j : Int))) (f2 j)
      rw [xa_up_ne (by omega)]
      exact g2 j hj
  · by_cases e : q = q2
    · subst e
      rw [hI] at hq2
      cases hq2
    · rw [List.getElem?_set_ne e]
      exact hH.2.2 q2 hq2
theorem xa_fty_ok {ty : Nat} {sp : y_V} (k7 : xa_fty ty v sp = true) (hb : sp.2.1 ≤ v.2.2.2.2 ∧ v.2.2.2.2 ≤ sp.2.2.1) (hg : xa_g A v x) {T : FieldType} (hT0 : ty = 0 → T = .int) (hT1 : ty = 1 → T = .long) (hT2 : ty = 2 → T = .boolean) (s : Nat) : narrow T x = x ∧ fits T x = true ∧ xa_g A (xa_cw sp s v.2.2.2.2) x := by
  obtain ⟨g, lo, hi, rr⟩ := sp
  match ty, k7, hT0, hT1, hT2 with
  | 0, k7, hT, _, _ =>
    have k7' : (Nat.beq v.1 0 && Nat.beq g 0) = true := k7
    rw [Bool.and_eq_true, Nat.beq_eq, Nat.beq_eq] at k7'
    obtain ⟨z, ez, e2, -, -⟩ := xa_isI_g (Nat.beq_eq.mpr k7'.1) hg
    have hT' : T = .int := hT rfl
    have hg0 : g = 0 := k7'.2
    subst hT' hg0
    rw [ez]
    exact ⟨rfl, rfl, z, rfl, e2, hb.1, hb.2⟩
  | 1, k7, _, hT, _ =>
    have k7' : (Nat.beq v.1 1 && Nat.beq g 1) = true := k7
    rw [Bool.and_eq_true, Nat.beq_eq, Nat.beq_eq] at k7'
    obtain ⟨z, ez, e2, -, -⟩ := xa_isL_g (Nat.beq_eq.mpr k7'.1) hg
    have hT' : T = .long := hT rfl
    have hg0 : g = 1 := k7'.2
    subst hT' hg0
    rw [ez]
    exact ⟨rfl, rfl, z, rfl, e2, hb.1, hb.2⟩
  | 2, k7, _, _, hT =>
    have k7' : (Nat.beq v.1 0 && (Nat.beq g 0 && (decide (0 ≤ lo) && decide (hi ≤ 1)))) = true := k7
    rw [Bool.and_eq_true, Bool.and_eq_true, Bool.and_eq_true, Nat.beq_eq, Nat.beq_eq, decide_eq_true_eq, decide_eq_true_eq] at k7'
    obtain ⟨z, ez, e2, -, -⟩ := xa_isI_g (Nat.beq_eq.mpr k7'.1) hg
    have hT' : T = .boolean := hT rfl
    have hg0 : g = 0 := k7'.2.1
    subst hT' hg0
    have b1 : lo ≤ v.2.2.2.2 := hb.1
    have b2 : v.2.2.2.2 ≤ hi := hb.2
    have c1 := k7'.2.2.1
    have c2 := k7'.2.2.2
    have h0 : (0 : Int32).toInt = 0 := rfl
    have h1 : (1 : Int32).toInt = 1 := rfl
    have hx : z = 0 ∨ z = 1 := by
      rcases (show z.toInt = 0 ∨ z.toInt = 1 by omega) with h | h
      · exact Or.inl (Int32.toInt_inj.mp (h.trans h0.symm))
      · exact Or.inr (Int32.toInt_inj.mp (h.trans h1.symm))
    have hgg : xa_g A (xa_cw (0, lo, hi, rr) s v.2.2.2.2) x := ⟨z, ez, e2, b1, b2⟩
    refine ⟨?_, ?_, hgg⟩ <;> rcases hx with rfl | rfl <;> rw [ez] <;> rfl
  | _ + 3, k7, _, _, _ => cases k7
theorem xa_fty_lt {ty : Nat} {sp : y_V} (k7 : xa_fty ty v sp = true) : ty < 4 := by
  match ty, k7 with
  | 0, _ => decide
  | 1, _ => decide
  | 2, _ => decide
  | _ + 3, k7 => cases k7
theorem xa_bd_ok {lo hi : Int} {v : xa_V} (hv : v.2.2.1 ≤ v.2.2.2.2 ∧ v.2.2.2.2 ≤ v.2.2.2.1) (h : (decide (lo ≤ v.2.2.1) && decide (v.2.2.2.1 ≤ hi)) = true) : lo ≤ v.2.2.2.2 ∧ v.2.2.2.2 ≤ hi := by
  rw [Bool.and_eq_true, decide_eq_true_eq, decide_eq_true_eq] at h
  omega
theorem xa_num (hk : v.1 < 2) (hg : xa_g A v x) : v.2.2.1 ≤ v.2.2.2.2 ∧ v.2.2.2.2 ≤ v.2.2.2.1 := by
  obtain ⟨g, p, lo, hi, n⟩ := v
  match g, hk, hg with
  | 0, _, ⟨m, _, _, h1, h2⟩ => exact ⟨h1, h2⟩
  | 1, _, ⟨m, _, _, h1, h2⟩ => exact ⟨h1, h2⟩
theorem xa_fty_k {ty : Nat} {sp : y_V} (k7 : xa_fty ty v sp = true) : v.1 < 2 := by
  match ty, k7 with
  | 0, k7 =>
    have k7' : (Nat.beq v.1 0 && Nat.beq sp.1 0) = true := k7
    rw [Bool.and_eq_true, Nat.beq_eq] at k7'
    omega
  | 1, k7 =>
    have k7' : (Nat.beq v.1 1 && Nat.beq sp.1 1) = true := k7
    rw [Bool.and_eq_true, Nat.beq_eq] at k7'
    omega
  | 2, k7 =>
    have k7' : (Nat.beq v.1 0 && (Nat.beq sp.1 0 && (decide (0 ≤ sp.2.1) && decide (sp.2.2.1 ≤ 1)))) = true := k7
    rw [Bool.and_eq_true, Nat.beq_eq] at k7'
    omega
  | _ + 3, k7 => cases k7
theorem xa_q27_ok (hcl : ∀ S, g_pre CALL o nL ini bc bs cc P S → P S) {ft : s_FT} (hft : s_ftok ft) {i : Nat} {v0 : Int} (hd : decode cc pc = .ok (.putfield i, 3)) (hgo : s_pc t = pc + 3) (hlk : s_lkd o i kd a b v0) (hIt : ∀ r ∈ t, s_okI cc o r = true) (e : xa_q27 I ft next t L st M kd a b) (hN : xa_N cc o P I A h0 next) : xa_P P I A h0 pc L st M := by
  intro h Ls sts hH hL hS
  obtain ⟨ps, hlk⟩ := hlk
  unfold xa_q27 at e
  split at e
  next v u rest =>
    split at e
    next q ro S e1 =>
      split at e
      next ty fin e2 =>
        obtain ⟨h1, h2⟩ := xa_if_eq e
        simp only [Bool.and_eq_true, Nat.beq_eq, Nat.blt_eq, Bool.not_eq_true', Nat.ble_eq] at h1
        obtain ⟨k1, k2, k3, k4, k7, k8⟩ := h1
        obtain ⟨x, xs, rfl, hg, hS'⟩ := xa_gS_cons hS
        obtain ⟨y, ys, rfl, hg2, hS2⟩ := xa_gS_cons hS'
        obtain ⟨hI, f, rfl, hget, hf⟩ := xa_ro_ok e1 hg2 hH
        obtain ⟨hb, h3⟩ := xa_ob_eq (xa_bd_ok (xa_num (xa_fty_k k7) hg)) h2
        obtain ⟨f1, T, f2, f3⟩ := hft a b ty fin e2 (xa_fty_lt k7)
        obtain ⟨n1, n2, n3⟩ := xa_fty_ok k7 hb hg (T := T) (fun h => by subst h; exact f3) (fun h => by subst h; exact f3) (fun h => by subst h; exact f3) (S b)
        have hk' : kd = 0 ∨ kd = 1 := by omega
        have k := xa_N1 hN hIt h3 hgo (xa_H_set hH hI hget hf n3) hL hS2
        obtain ⟨isA, kind, n, l⟩ := ro
        have k2' : isA = false := k2
        have k3' : kind = a := k3
        subst k2' k3'
        exact hcl _ ⟨_, _, hd, Or.inr (Or.inr (Or.inr (Or.inl (Or.inr (Or.inl ⟨_, _, _, _, _, _, q, A q, n, f, x, T, ys, rfl, rfl, hk', hlk, rfl, hget, k4, Or.inl (f1.trans k8), f2, n1, n2, k⟩)))))⟩
    next => exact e.elim
  next => exact e.elim
theorem xa_q28_ok (hcl : ∀ S, g_pre CALL o nL ini bc bs cc P S → P S) (hd : decode cc pc = .ok (.arraylength, 1)) (hgo : s_pc t = pc + 1) (hIt : ∀ r ∈ t, s_okI cc o r = true) (e : xa_q28 I next t L st M) (hN : xa_N cc o P I A h0 next) : xa_P P I A h0 pc L st M := by
  intro h Ls sts hH hL hS
  unfold xa_q28 at e
  split at e
  next u rest =>
    split at e
    next q ro S e1 =>
      obtain ⟨h1, h2⟩ := xa_if_eq e
      simp only [Bool.and_eq_true, Nat.blt_eq, Nat.ble_eq] at h1
      obtain ⟨k1, k2, k3⟩ := h1
      obtain ⟨x, xs, rfl, hg, hS'⟩ := xa_gS_cons hS
      obtain ⟨hI, f, rfl, hget, hf⟩ := xa_ro_ok e1 hg hH
      obtain ⟨isA, kind, n, l⟩ := ro
      have k1' : isA = true := k1
      subst k1'
      have k3' : n ≤ 2147483647 := k3
      have hn : xa_g A (0, 0, (n : Int), (n : Int), (n : Int)) (.int (Int32.ofInt (n : Int))) := xa_in32_g (by
        unfold y_in32
        rw [Bool.and_eq_true, decide_eq_true_eq, decide_eq_true_eq]
        omega)
      have k : P (pc + 1, Ls, .int (Int32.ofInt (n : Int)) :: xs, 0, 0, h) := xa_N1 hN hIt h2 hgo hH hL ⟨hn, hS'⟩
      exact hcl _ ⟨_, _, hd, Or.inr (Or.inr (Or.inr (Or.inl (Or.inr (Or.inr (Or.inr (Or.inr (Or.inr (Or.inr (Or.inr (Or.inr (Or.inr (Or.inr (Or.inr (Or.inl ⟨q, A q, kind, n, f, xs, rfl, rfl, rfl, k2, hget, k⟩)))))))))))))))⟩
    next => exact e.elim
  next => exact e.elim
theorem xa_spA {ro : y_R1} (h : ro.1 = true) (j : Nat) : xa_sp ro j = xa_sp ro 0 := by
  unfold xa_sp
  rw [h]
  rfl
theorem xa_idx {n : Nat} {j : Int32} {m : Int} (e : j.toInt = m) (h1 : 0 ≤ m) (h2 : m < (n : Int)) : vp_in j n ∧ j.toNatClampNeg < n ∧ (j.toNatClampNeg : Int) = m := by
  have e2 : j.toNatClampNeg = j.toInt.toNat := rfl
  refine ⟨vp_in_iff.mpr ⟨by omega, by omega⟩, by omega, by omega⟩
theorem xa_q32_ok (hcl : ∀ S, g_pre CALL o nL ini bc bs cc P S → P S) (hQ : s_aln ins = a) (ha : a < 4) (hd : decode cc pc = .ok (ins, 1)) (hgo : s_pc t = pc + 1) (hIt : ∀ r ∈ t, s_okI cc o r = true) (e : xa_q32 I next t L st M a) (hN : xa_N cc o P I A h0 next) : xa_P P I A h0 pc L st M := by
  intro h Ls sts hH hL hS
  unfold xa_q32 at e
  split at e
  next j u rest =>
    split at e
    next q ro S e1 =>
      obtain ⟨h1, h2⟩ := xa_if_eq e
      simp only [Bool.and_eq_true] at h1
      obtain ⟨k1, k2, k3, k5⟩ := h1
      obtain ⟨x, xs, rfl, hg, hS'⟩ := xa_gS_cons hS
      obtain ⟨y, ys, rfl, hg2, hS2⟩ := xa_gS_cons hS'
      obtain ⟨hI, f, rfl, hget, hf⟩ := xa_ro_ok e1 hg2 hH
      obtain ⟨i, rfl, i1, i2, i3⟩ := xa_isI_g k3 hg
      obtain ⟨hb, h3⟩ := xa_ob_eq (fun h => by
        rw [Bool.and_eq_true, decide_eq_true_eq, decide_eq_true_eq] at h
        omega) h2
      obtain ⟨hin, hlt, hc⟩ := xa_idx i1 hb.1 hb.2
      have hv0 := hf _ hlt
      unfold xa_cv at hv0
      rw [xa_spA k1, hc] at hv0
      have hv : xa_g A (xa_cw (xa_sp ro 0) 0 (M q j.2.2.2.2)) (f i.toNatClampNeg) := by
        generalize xa_sp ro 0 = sp at hv0 k5
        obtain ⟨g, lo, hi, rr⟩ := sp
        match g, k5, hv0 with
        | 0, _, hv0 => exact hv0
        | 1, _, hv0 => exact hv0
        | 3, _, hv0 => exact hv0
        | 2, k5, _ =>
          exfalso
          revert k5
          generalize ro.2.1 = tag
          match tag with
          | 0 => exact fun h => by cases h
          | 1 => exact fun h => by cases h
          | 2 => exact fun h => by cases h
          | 3 => exact fun h => by cases h
          | _ + 4 => exact fun h => by cases h
        | 4, _, hv0 => exact hv0
        | _ + 5, _, hv0 => exact hv0
      have k : P (pc + 1, Ls, f i.toNatClampNeg :: ys, 0, 0, h) := xa_N1 hN hIt h3 hgo hH hL ⟨hv, hS2⟩
      generalize xa_sp ro 0 = sp at hv k5
      obtain ⟨g, lo, hi, rr⟩ := sp
      obtain ⟨isA, kind, n, l⟩ := ro
      have k1' : isA = true := k1
      subst k1'
      rcases s_al_i hQ ha with ⟨rfl, rfl⟩ | ⟨rfl, rfl⟩ | ⟨rfl, rfl⟩ | ⟨rfl, rfl⟩
      · have ek : kind = 0 := Nat.beq_eq.mp k2
        subst ek
        have eg : g = 0 := Nat.beq_eq.mp k5
        subst eg
        obtain ⟨z, ez, -⟩ := hv
        refine hcl _ ⟨_, _, hd, Or.inr (Or.inr (Or.inr (Or.inl (Or.inr (Or.inr (Or.inl ⟨q, A q, n, f, i, ys, rfl, rfl, rfl, hget, hin, ?_⟩))))))⟩
        rw [ez] at k ⊢
        exact k
      · have ek : kind = 1 := Nat.beq_eq.mp k2
        subst ek
        have eg : g = 1 := Nat.beq_eq.mp k5
        subst eg
        obtain ⟨z, ez, -⟩ := hv
        refine hcl _ ⟨_, _, hd, Or.inr (Or.inr (Or.inr (Or.inl (Or.inr (Or.inr (Or.inr (Or.inl ⟨q, A q, n, f, i, ys, rfl, rfl, rfl, hget, hin, ?_⟩)))))))⟩
        rw [ez] at k ⊢
        exact k
      · have ek : kind = 2 ∨ kind = 3 := by
          have h2' : (Nat.beq kind 2 || Nat.beq kind 3) = true := k2
          rw [Bool.or_eq_true, Nat.beq_eq, Nat.beq_eq] at h2'
          exact h2'
        have eg : g = 0 := by
          rcases ek with rfl | rfl
          · have k5' : (Nat.beq g 0 && (decide (0 ≤ lo) && decide (hi ≤ 1))) = true := k5
            rw [Bool.and_eq_true, Nat.beq_eq] at k5'
            exact k5'.1
          · have k5' : (Nat.beq g 0 && (decide (-128 ≤ lo) && decide (hi ≤ 127))) = true := k5
            rw [Bool.and_eq_true, Nat.beq_eq] at k5'
            exact k5'.1
        subst eg
        obtain ⟨z, ez, -⟩ := hv
        refine hcl _ ⟨_, _, hd, Or.inr (Or.inr (Or.inr (Or.inl (Or.inr (Or.inr (Or.inr (Or.inr (Or.inl ⟨q, A q, kind, n, f, i, ys, rfl, rfl, rfl, ek, hget, hin, ?_⟩))))))))⟩
        rw [ez] at k ⊢
        exact k
      · have ek : kind = 4 := Nat.beq_eq.mp k2
        subst ek
        have eg : g = 3 := Nat.beq_eq.mp k5
        subst eg
        have hz : f i.toNatClampNeg = .null ∨ ∃ z, f i.toNatClampNeg = .ref z := by
          have hv' : f i.toNatClampNeg = (if M q j.2.2.2.2 < 0 then .null else .ref (A (M q j.2.2.2.2).toNat)) := hv
          rw [hv']
          split
          · exact Or.inl rfl
          · exact Or.inr ⟨_, rfl⟩
        refine hcl _ ⟨_, _, hd, Or.inr (Or.inr (Or.inr (Or.inl (Or.inr (Or.inr (Or.inr (Or.inr (Or.inr (Or.inl ⟨q, A q, n, f, i, ys, rfl, rfl, rfl, hget, hin, ?_⟩)))))))))⟩
        rcases hz with ez | ⟨z, ez⟩ <;> rw [ez] at k ⊢ <;> exact k
    next => exact e.elim
  next => exact e.elim
theorem xa_q33_ok (hcl : ∀ S, g_pre CALL o nL ini bc bs cc P S → P S) (hQ : s_asn ins = a) (ha : a < 4) (hd : decode cc pc = .ok (ins, 1)) (hgo : s_pc t = pc + 1) (hIt : ∀ r ∈ t, s_okI cc o r = true) (e : xa_q33 I next t L st M a) (hN : xa_N cc o P I A h0 next) : xa_P P I A h0 pc L st M := by
  intro h Ls sts hH hL hS
  unfold xa_q33 at e
  split at e
  next v j u rest =>
    split at e
    next q ro S e1 =>
      obtain ⟨h1, h2⟩ := xa_if_eq e
      simp only [Bool.and_eq_true, Nat.blt_eq, Nat.beq_eq] at h1
      obtain ⟨k1, k2, k4, k3, k5, k6⟩ := h1
      obtain ⟨w, ws, rfl, hg0, hS0⟩ := xa_gS_cons hS
      obtain ⟨x, xs, rfl, hg, hS'⟩ := xa_gS_cons hS0
      obtain ⟨y, ys, rfl, hg2, hS2⟩ := xa_gS_cons hS'
      obtain ⟨hI, f, rfl, hget, hf⟩ := xa_ro_ok e1 hg2 hH
      obtain ⟨i, rfl, i1, i2, i3⟩ := xa_isI_g k3 hg
      obtain ⟨hb, h3⟩ := xa_ob_eq (fun h => by
        rw [Bool.and_eq_true, decide_eq_true_eq, decide_eq_true_eq] at h
        omega) h2
      have hv2 : v.1 < 2 := by
        rw [k6]
        revert k5 k4
        generalize ro.2.1 = tag
        generalize xa_sp ro 0 = sp
        obtain ⟨g, lo, hi, rr⟩ := sp
        intro k4 k5
        match tag, k4, k5 with
        | 0, _, k5 =>
          have : g = 0 := Nat.beq_eq.mp k5
          subst this
          exact (by decide : (0 : Nat) < 2)
        | 1, _, k5 =>
          have : g = 1 := Nat.beq_eq.mp k5
          subst this
          exact (by decide : (1 : Nat) < 2)
        | 2, _, k5 =>
          have k5' : (Nat.beq g 0 && (decide (0 ≤ lo) && decide (hi ≤ 1))) = true := k5
          rw [Bool.and_eq_true, Nat.beq_eq] at k5'
          have := k5'.1
          subst this
          exact (by decide : (0 : Nat) < 2)
        | 3, _, k5 =>
          have k5' : (Nat.beq g 0 && (decide (-128 ≤ lo) && decide (hi ≤ 127))) = true := k5
          rw [Bool.and_eq_true, Nat.beq_eq] at k5'
          have := k5'.1
          subst this
          exact (by decide : (0 : Nat) < 2)
      obtain ⟨hw, h4⟩ := xa_ob_eq (xa_bd_ok (xa_num hv2 hg0)) h3
      obtain ⟨hin, hlt, hc⟩ := xa_idx i1 hb.1 hb.2
      have hz : xa_g A (xa_cw (xa_sp ro i.toNatClampNeg) (S i.toNatClampNeg) v.2.2.2.2) w := by
        rw [xa_spA k1]
        generalize xa_sp ro 0 = sp at hw k6
        obtain ⟨g, lo, hi, rr⟩ := sp
        obtain ⟨g2, p2, lo2, hi2, n2⟩ := v
        have k6' : g2 = g := k6
        subst k6'
        have hv2' : g2 < 2 := hv2
        match g2, hv2', hg0 with
        | 0, _, ⟨m, em, e2, _, _⟩ => exact ⟨m, em, e2, hw.1, hw.2⟩
        | 1, _, ⟨m, em, e2, _, _⟩ => exact ⟨m, em, e2, hw.1, hw.2⟩
      have hH2 := xa_H_set hH hI hget hf hz
      rw [hc] at hH2
      have k := xa_N1 hN hIt h4 hgo hH2 hL hS2
      generalize xa_sp ro 0 = sp at hw k5 k6
      obtain ⟨g, lo, hi, rr⟩ := sp
      obtain ⟨g2, p2, lo2, hi2, n2⟩ := v
      have k6' : g2 = g := k6
      subst k6'
      obtain ⟨isA, kind, n, l⟩ := ro
      have k1' : isA = true := k1
      subst k1'
      have k4' : kind < 4 := k4
      rcases s_as_i hQ ha with ⟨rfl, rfl⟩ | ⟨rfl, rfl⟩ | ⟨rfl, rfl⟩ | ⟨rfl, rfl⟩
      · have ek : kind = 0 := Nat.beq_eq.mp k2
        subst ek
        have eg : g2 = 0 := Nat.beq_eq.mp k5
        subst eg
        obtain ⟨z, rfl, -⟩ := hg0
        exact hcl _ ⟨_, _, hd, Or.inr (Or.inr (Or.inr (Or.inl (Or.inr (Or.inr (Or.inr (Or.inr (Or.inr (Or.inr (Or.inl ⟨q, A q, n, f, i, z, ys, rfl, rfl, rfl, hget, hin, k⟩))))))))))⟩
      · have ek : kind = 1 := Nat.beq_eq.mp k2
        subst ek
        have eg : g2 = 1 := Nat.beq_eq.mp k5
        subst eg
        obtain ⟨z, rfl, -⟩ := hg0
        exact hcl _ ⟨_, _, hd, Or.inr (Or.inr (Or.inr (Or.inl (Or.inr (Or.inr (Or.inr (Or.inr (Or.inr (Or.inr (Or.inr (Or.inl ⟨q, A q, n, f, i, z, ys, rfl, rfl, rfl, hget, hin, k⟩)))))))))))⟩
      · have ek : kind = 2 ∨ kind = 3 := by
          have h2' : (Nat.beq kind 2 || Nat.beq kind 3) = true := k2
          rw [Bool.or_eq_true, Nat.beq_eq, Nat.beq_eq] at h2'
          exact h2'
        rcases ek with rfl | rfl
        · have k7' : (Nat.beq g2 0 && (decide (0 ≤ lo) && decide (hi ≤ 1))) = true := k5
          rw [Bool.and_eq_true, Bool.and_eq_true, Nat.beq_eq, decide_eq_true_eq, decide_eq_true_eq] at k7'
          obtain ⟨eg, c1, c2⟩ := k7'
          subst eg
          obtain ⟨z, rfl, e2, -⟩ := hg0
          have hw1 : lo ≤ n2 := hw.1
          have hw2 : n2 ≤ hi := hw.2
          have h0 : (0 : Int32).toInt = 0 := rfl
          have h1 : (1 : Int32).toInt = 1 := rfl
          have hzz : vp_nar .boolean z = z := by
            rcases (show z.toInt = 0 ∨ z.toInt = 1 by omega) with h | h
            · rw [Int32.toInt_inj.mp (h.trans h0.symm)]; decide
            · rw [Int32.toInt_inj.mp (h.trans h1.symm)]; decide
          refine hcl _ ⟨_, _, hd, Or.inr (Or.inr (Or.inr (Or.inl (Or.inr (Or.inr (Or.inr (Or.inr (Or.inr (Or.inr (Or.inr (Or.inr (Or.inl ⟨q, A q, n, f, i, z, ys, rfl, rfl, rfl, hget, hin, ?_⟩))))))))))))⟩
          rw [hzz]
          exact k
        · have k7' : (Nat.beq g2 0 && (decide (-128 ≤ lo) && decide (hi ≤ 127))) = true := k5
          rw [Bool.and_eq_true, Bool.and_eq_true, Nat.beq_eq, decide_eq_true_eq, decide_eq_true_eq] at k7'
          obtain ⟨eg, c1, c2⟩ := k7'
          subst eg
          obtain ⟨z, rfl, e2, -⟩ := hg0
          have hw1 : lo ≤ n2 := hw.1
          have hw2 : n2 ≤ hi := hw.2
          refine hcl _ ⟨_, _, hd, Or.inr (Or.inr (Or.inr (Or.inl (Or.inr (Or.inr (Or.inr (Or.inr (Or.inr (Or.inr (Or.inr (Or.inr (Or.inr (Or.inl ⟨q, A q, n, f, i, z, ys, rfl, rfl, rfl, hget, hin, ?_⟩)))))))))))))⟩
          rw [s_byte (by omega) (by omega)]
          exact k
      · have ek : kind = 4 := Nat.beq_eq.mp k2
        omega
    next => exact e.elim
  next => exact e.elim
end XA3

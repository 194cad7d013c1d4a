-- the model's tellPart; every call, with the answers that are told by bounds
def s_tpc (M : s_M) (t : s_V) : Bool := Nat.beq t.1 5 && (match M.2.2.2[t.2.toNat]? with
  | some c => !c.1 && Nat.beq c.2.1 12
  | none => false)
def s_lo64 : Int := -9223372036854775808
def s_hi64 : Int := 9223372036854775807
def s_tp2 (K : s_Call) (t : s_V) (M : s_M) : Option (List s_M) := bif s_tpc M t then (match s_grow M s_lo64 s_hi64 with
  | some (n, M') => match K 232 [t, (3, (n : Int))] M' with
    | some outs => bif outs.all (fun o => o.1.isNone) then some (outs.map (fun o => o.2)) else none
    | none => none
  | none => none) else none
def s_tp (K : s_Call) (d : Nat) (as : List s_V) (M : s_M) : Option (List (Option s_V × s_M)) := match as with
  | [t, x, y] => bif Nat.ble 2 d && s_gck M x y then (match s_tp2 K t M with
    | some Ms => match s_all (s_tp2 K t) Ms with
      | some Ns => some (Ns.map (fun M => (none, M)))
      | none => none
    | none => none) else none
  | _ => none
/-- every call, to a depth -/
def s_K2 : Nat → s_Call
  | 0 => fun _ _ _ => none
  | d + 1 => fun j as M => bif Nat.beq j 55 || Nat.beq j 230 then s_gc d as M else bif Nat.beq j 21 then s_qu as M else bif Nat.beq j 231 then s_tp (s_K2 d) d as M else match s_ov j as with
    | some v => some [(some v, M)]
    | none => s_body s_codes s_ft s_mi s_F (s_K2 d) j as M
section T43
variable {xs : Nat → Int} {d : Nat} {K : s_Call}
theorem s_tpc_ok {M : s_M} {t : s_V} (h : s_tpc M t = true) : t.1 = 5 ∧ t.2.toNat < M.2.2.2.length ∧ ∀ (σ : Nat → Int) (ρ : Nat → Nat) (b : Nat), ∃ n f, g_get (s_ch σ ρ b 0 M.2.2.2) t.2.toNat = some (ρ t.2.toNat, false, 12, n, f) := by
  unfold s_tpc at h
  rw [Bool.and_eq_true, Nat.beq_eq] at h
  obtain ⟨h1, h2⟩ := h
  split at h2
  next c e =>
    rw [Bool.and_eq_true, Nat.beq_eq] at h2
    refine ⟨h1, (List.getElem?_eq_some_iff.mp e).1, fun σ ρ b => ?_⟩
    obtain ⟨x, y, n, dd, f⟩ := c
    have hx : x = false := by
      cases x with
      | false => rfl
      | true => cases h2.1
    have hy : y = 12 := h2.2
    subst hx hy
    rw [s_ch_get, e, Nat.zero_add]
    exact ⟨_, _, rfl⟩
  next => cases h2
theorem s_tp2_ok (hK : s_CS xs s_mi K (g_run d)) {t : s_V} {M : s_M} {Ms : List s_M} (h : s_tp2 K t M = some Ms) :
    (∀ N ∈ Ms, M.1.length ≤ N.1.length ∧ M.2.2.2.length ≤ N.2.2.2.length) ∧ ∀ σ ρ b, s_ok xs σ M → ∀ (v : Int64) (post : Option Value → g_H → Prop),
      (∀ N ∈ Ms, ∀ (σ' : Nat → Int) (ρ' : Nat → Nat), (∀ i, i < M.1.length → σ' i = σ i) → (∀ i, i < M.2.2.2.length → ρ' i = ρ i) → s_ok xs σ' N → post none (s_ch σ' ρ' b 0 N.2.2.2)) → g_run d 232 [.ref (ρ t.2.toNat), .long v] (s_ch σ ρ b 0 M.2.2.2) 0 0 post := by
  unfold s_tp2 at h
  obtain ⟨h1, h⟩ := s_bif h
  obtain ⟨t5, tl, -⟩ := s_tpc_ok h1
  split at h
  next n M' e =>
    obtain ⟨l1, l2, l3⟩ := s_grow_len e
    split at h
    next outs e2 =>
      obtain ⟨h2, h3⟩ := s_bif h
      cases h3
      obtain ⟨k1, k2⟩ := hK 232 _ _ _ e2
      have lens : ∀ out ∈ outs, M.1.length ≤ out.2.1.length ∧ M.2.2.2.length ≤ out.2.2.2.2.length := by
        intro out ho
        have := k1 out ho
        rw [l3] at this
        exact ⟨by omega, this.2⟩
      refine ⟨fun N hN => ?_, fun σ ρ b hok v post hp => ?_⟩
      · obtain ⟨out, ho, rfl⟩ := List.mem_map.mp hN
        exact lens out ho
      · have hv : s_lo64 ≤ v.toInt ∧ v.toInt ≤ s_hi64 := by
          have h4 := Int64.le_toInt v
          have h5 := Int64.toInt_lt v
          unfold s_lo64 s_hi64
          omega
        obtain ⟨σ', a1, a2, a3, a4⟩ := s_grow_ok e hok hv
        have hq : s_mi[232]? = some (3, 0, false, 0, 0, 12) := by decide +kernel
        have key := k2 σ' ρ b a2 _ hq post (fun out ho σ2 ρ2 b1 b2 b3 => ?_)
        · have e3 : [t, (3, (n : Int))].map (s_cv σ' ρ b) = [.ref (ρ t.2.toNat), .long v] := by
            obtain ⟨t1, t2⟩ := t
            have t5' : t1 = 5 := t5
            subst t5'
            show [Value.ref (ρ t2.toNat), Value.long (Int64.ofInt (σ' (n : Int).toNat))] = _
            rw [Int.toNat_natCast, a3, s_lz]
          rw [e3, l3, a4] at key
          exact key
        · have h6 := List.all_eq_true.mp h2 out ho
          have h7 : out.1 = none := by
            cases ho1 : out.1 with
            | none => rfl
            | some z => rw [ho1] at h6; cases h6
          rw [h7]
          refine hp out.2 (List.mem_map.mpr ⟨out, ho, rfl⟩) σ2 ρ2 (fun i hi => ?_) (fun i hi => ?_) b3
          · rw [b1 i (by omega), a1 i hi]
          · exact b2 i (by rw [l3]; exact hi)
    next => cases h
  next => cases h
theorem h_vret {j : Nat} {q : s_MI} (hq : s_mi[j]? = some q) (hrt : q.2.1 = 0) {full : List s_I} (hfull : ∀ r ∈ full, s_okI (g_by j) q.2.2.2.2.2 r = true) {pc kd a k : Nat} {v0 : Int} (h : t_r full pc = some (pc, 1, 43, kd, a, k, v0, .return_)) {bc bs cn sn : Nat} (hc : cn ≤ bc) (hs : sn ≤ bs) {post : Option Value → g_H → Prop} {L : g_L} {hh : g_H} (kk : post none hh) : g_end (g_by j) (g_rt j) bc bs post (pc, L, [], cn, sn, hh) := by
  obtain ⟨⟨n, hd, hlen, hne⟩, hQ, hlk⟩ := s_okI_eq (t_r_ok hfull h) (by omega)
  subst hlen
  have m3 := (s_mi_ok j q hq).2.2.1
  rw [hrt] at m3
  exact ⟨hc, hs, Or.inr (Or.inr (Or.inr ⟨hd, m3, rfl, kk⟩))⟩
set_option maxRecDepth 10000 in
theorem s_tp_ok (hK : s_CS xs s_mi K (g_run d)) {as : List s_V} {M : s_M} {outs : List (Option s_V × s_M)} (h : s_tp K d as M = some outs) :
    (∀ out ∈ outs, M.1.length ≤ out.2.1.length ∧ M.2.2.2.length ≤ out.2.2.2.2.length) ∧ ∀ σ ρ b, s_ok xs σ M → ∀ post : Option Value → g_H → Prop,
      (∀ out ∈ outs, ∀ (σ' : Nat → Int) (ρ' : Nat → Nat), (∀ i, i < M.1.length → σ' i = σ i) → (∀ i, i < M.2.2.2.length → ρ' i = ρ i) → s_ok xs σ' out.2 → post (out.1.map (s_cv σ' ρ' b)) (s_ch σ' ρ' b 0 out.2.2.2.2)) → g_run (d + 1) 231 (as.map (s_cv σ ρ b)) (s_ch σ ρ b 0 M.2.2.2) 0 0 post := by
  unfold s_tp at h
  split at h
  next t x y =>
    obtain ⟨h1, h⟩ := s_bif h
    rw [Bool.and_eq_true] at h1
    obtain ⟨hd, hg⟩ := h1
    have hd2 : 2 ≤ d := Nat.le_of_ble_eq_true hd
    split at h
    next Ms e1 =>
      split at h
      next Ns e2 =>
        cases h
        obtain ⟨A1, A2⟩ := s_tp2_ok hK e1
        have B1 : ∀ N ∈ Ms, ∃ Os, s_tp2 K t N = some Os ∧ ∀ z ∈ Os, z ∈ Ns := fun N hN => s_all_in e2 N hN
        refine ⟨fun out ho => ?_, fun σ ρ b hok post hp => ?_⟩
        · obtain ⟨N, hN, rfl⟩ := List.mem_map.mp ho
          obtain ⟨N1, hN1, Os, e3, hO⟩ := s_all_out e2 N hN
          have q1 := A1 N1 hN1
          have q2 := (s_tp2_ok hK e3).1 N hO
          exact ⟨Nat.le_trans q1.1 q2.1, Nat.le_trans q1.2 q2.2⟩
        · have htp : s_tpc M t = true := by
            unfold s_tp2 at e1
            exact (s_bif e1).1
          obtain ⟨t5, tl, tg⟩ := s_tpc_ok htp
          obtain ⟨u, v, hu, hv, u1, v1, v2⟩ := s_gck_ok (ρ := ρ) (b := b) hg hok
          have e0 : [t, x, y].map (s_cv σ ρ b) = [.ref (ρ t.2.toNat), .long u, .long v] := by
            obtain ⟨t1, t2⟩ := t
            have t5' : t1 = 5 := t5
            subst t5'
            show [Value.ref (ρ t2.toNat), s_cv σ ρ b x, s_cv σ ρ b y] = _
            rw [hu, hv]
          rw [e0]
          have hq : s_mi[231]? = some (7, 0, false, 0, 0, 12) := by decide +kernel
          have hfull := h_full hq (t := s_c_231) rfl
          have hc12 : (g_me 232).2.1 = 12 := (s_mi_ok 232 (3, 0, false, 0, 0, 12) (by decide +kernel)).2.2.2.2
          obtain ⟨d', rfl⟩ : ∃ d', d = d' + 1 + 1 := ⟨d - 2, by omega⟩
          refine h_meth hq (by show 5 ≤ 7; decide) ?_
          intro P hpost hcl
          obtain ⟨tt, htt⟩ : ∃ tt, tt = ρ t.2.toNat := ⟨_, rfl⟩
          rw [← htt]
          obtain ⟨nf, f, hget⟩ := tg σ ρ b
          rw [← htt] at hget
          refine t_at_ok hcl hfull (pc := 0) (n := 2) (pc' := 2) (L' := [(0, .ref tt), (1, .long u), (3, .long v)]) (st' := [.long v, .long u]) rfl ?_
          refine t_stat hcl hfull (a := 230) rfl (Or.inl rfl) [.long u, .long v] rfl (by decide) (mc := 0) (ms := 0) (Nat.le_refl _) (Nat.le_refl _) (rest := []) ?_ rfl
          refine h_com (B := 4611686018427387904) (by omega) (by omega) u1 v1 v2 (fun r r0 _ => ?_)
          have hr : ¬ r = 0 := fun h => by rw [h] at r0; exact absurd r0 (by decide)
          refine t_at_ok hcl hfull (pc := 5) (n := 4) (pc' := 11) (L' := [(5, .long r), (0, .ref tt), (1, .long u), (3, .long v)]) (st' := [.long r, .long u, .ref tt]) rfl ?_
          refine t_ldv hcl hfull rfl (f := fun x y => x / y) rfl hr ?_
          refine t_virt hcl hfull (a := 232) rfl (Or.inl rfl) [.long (u / r)] (ad := tt) rfl (q := t.2.toNat) (nf := nf) (f := f) (by rw [hc12]; exact hget) (by decide) (mc := 0) (ms := 0) (Nat.le_refl _) (Nat.le_refl _) (rest := []) ?_ rfl
          have key := A2 σ ρ b hok (u / r) (fun r' h' => P (15, [(5, .long r), (0, .ref tt), (1, .long u), (3, .long v)], r'.toList ++ [], 0, 0, h')) (fun N hN σ' ρ' a1 a2 a3 => ?_)
          · rw [← htt] at key
            exact key
          · obtain ⟨Os, e3, hO⟩ := B1 N hN
            have htp2 : s_tpc N t = true := by
              unfold s_tp2 at e3
              exact (s_bif e3).1
            obtain ⟨nf2, f2, hget2⟩ := (s_tpc_ok htp2).2.2 σ' ρ' b
            have htt2 : ρ' t.2.toNat = tt := by rw [a2 _ tl, htt]
            rw [htt2] at hget2
            refine t_at_ok hcl hfull (pc := 15) (n := 3) (pc' := 19) (L' := [(5, .long r), (0, .ref tt), (1, .long u), (3, .long v)]) (st' := [.long r, .long v, .ref tt]) rfl ?_
            refine t_ldv hcl hfull rfl (f := fun x y => x / y) rfl hr ?_
            refine t_virt hcl hfull (a := 232) rfl (Or.inl rfl) [.long (v / r)] (ad := tt) rfl (q := t.2.toNat) (nf := nf2) (f := f2) (by rw [hc12]; exact hget2) (by decide) (mc := 0) (ms := 0) (Nat.le_refl _) (Nat.le_refl _) (rest := []) ?_ rfl
            have key2 := (s_tp2_ok hK e3).2 σ' ρ' b a3 (v / r) (fun r' h' => P (23, [(5, .long r), (0, .ref tt), (1, .long u), (3, .long v)], r'.toList ++ [], 0, 0, h')) (fun N2 hN2 σ2 ρ2 c1 c2 c3 => ?_)
            · rw [htt2] at key2
              exact key2
            · refine hpost _ (h_vret hq rfl hfull rfl (Nat.le_refl _) (Nat.le_refl _) ?_)
              have q1 := A1 N hN
              exact hp (none, N2) (List.mem_map.mpr ⟨N2, hO N2 hN2, rfl⟩) σ2 ρ2 (fun i hi => by rw [c1 i (by omega), a1 i hi]) (fun i hi => by rw [c2 i (by omega), a2 i hi]) c3
      next => cases h
    next => cases h
  next => cases h
end T43
theorem s_gc_ok {xs : Nat → Int} {d : Nat} {as : List s_V} {M : s_M} {outs : List (Option s_V × s_M)} (h : s_gc d as M = some outs) :
    (∀ out ∈ outs, M.1.length ≤ out.2.1.length ∧ M.2.2.2.length ≤ out.2.2.2.2.length) ∧ ∀ σ ρ b, s_ok xs σ M → ∀ (post : Option Value → g_H → Prop),
      (∀ out ∈ outs, ∀ (σ' : Nat → Int) (ρ' : Nat → Nat), (∀ i, i < M.1.length → σ' i = σ i) → (∀ i, i < M.2.2.2.length → ρ' i = ρ i) → s_ok xs σ' out.2 → post (out.1.map (s_cv σ' ρ' b)) (s_ch σ' ρ' b 0 out.2.2.2.2)) →
      g_run (d + 1) 55 (as.map (s_cv σ ρ b)) (s_ch σ ρ b 0 M.2.2.2) 0 0 post ∧ g_run (d + 1) 230 (as.map (s_cv σ ρ b)) (s_ch σ ρ b 0 M.2.2.2) 0 0 post := by
  unfold s_gc at h
  split at h
  next x y =>
    obtain ⟨h1, h9⟩ := s_bif h
    rw [Bool.and_eq_true] at h1
    obtain ⟨hd, hg⟩ := h1
    have hd2 : 1 ≤ d := Nat.le_of_ble_eq_true hd
    refine ⟨s_long_len h9, fun σ ρ b hok post hp => ?_⟩
    obtain ⟨u, v, hu, hv, u1, v1, v2⟩ := s_gck_ok (ρ := ρ) (b := b) hg hok
    have e0 : [x, y].map (s_cv σ ρ b) = [.long u, .long v] := by
      show [s_cv σ ρ b x, s_cv σ ρ b y] = _
      rw [hu, hv]
    rw [e0]
    obtain ⟨d', rfl⟩ : ∃ d', d = d' + 1 := ⟨d - 1, by omega⟩
    exact ⟨h_gcd (B := 4611686018427387904) (by omega) (by omega) u1 v1 v2 (fun r r0 r1 => s_long_ok h9 hok hp r ⟨by omega, r1⟩), h_com (B := 4611686018427387904) (by omega) (by omega) u1 v1 v2 (fun r r0 r1 => s_long_ok h9 hok hp r ⟨by omega, r1⟩)⟩
  next => cases h
theorem s_qu_ok {xs : Nat → Int} {d : Nat} {as : List s_V} {M : s_M} {outs : List (Option s_V × s_M)} (h : s_qu as M = some outs) :
    (∀ out ∈ outs, M.1.length ≤ out.2.1.length ∧ M.2.2.2.length ≤ out.2.2.2.2.length) ∧ ∀ σ ρ b, s_ok xs σ M → ∀ (post : Option Value → g_H → Prop),
      (∀ out ∈ outs, ∀ (σ' : Nat → Int) (ρ' : Nat → Nat), (∀ i, i < M.1.length → σ' i = σ i) → (∀ i, i < M.2.2.2.length → ρ' i = ρ i) → s_ok xs σ' out.2 → post (out.1.map (s_cv σ' ρ' b)) (s_ch σ' ρ' b 0 out.2.2.2.2)) →
      g_run (d + 1) 21 (as.map (s_cv σ ρ b)) (s_ch σ ρ b 0 M.2.2.2) 0 0 post := by
  unfold s_qu at h
  split at h
  next x y =>
    obtain ⟨h1, h⟩ := s_bif h
    rw [Bool.and_eq_true] at h1
    refine ⟨s_long_len h, fun σ ρ b hok post hp => ?_⟩
    obtain ⟨u, hu⟩ := s_tk_1 (σ := σ) (ρ := ρ) (b := b) h1.1
    obtain ⟨v, hv⟩ := s_tk_1 (σ := σ) (ρ := ρ) (b := b) h1.2
    have e0 : [x, y].map (s_cv σ ρ b) = [.long u, .long v] := by
      show [s_cv σ ρ b x, s_cv σ ρ b y] = _
      rw [hu, hv]
    rw [e0]
    refine h_quo (fun r => s_long_ok h hok hp r ?_)
    have h4 := Int64.le_toInt r
    have h5 := Int64.toInt_lt r
    omega
  next => cases h
/-- every call with these answers is sound -/
theorem s_K2_ok (xs : Nat → Int) : ∀ d, s_CS xs s_mi (s_K2 d) (g_run d) := by
  intro d
  induction d with
  | zero => intro j as M outs h; cases h
  | succ d ih =>
    intro j as M outs h
    simp only [s_K2] at h
    cases e1 : (Nat.beq j 55 || Nat.beq j 230)
    · rw [e1, cond_false] at h
      cases e2 : Nat.beq j 21
      · rw [e2, cond_false] at h
        cases e3 : Nat.beq j 231
        · rw [e3, cond_false] at h
          split at h
          next v e =>
            cases h
            exact s_body_ok s_ft_ok s_df_ok s_mi_ok s_codes_ok ih j as M _ (s_ov_ok j as v e _ M)
          next => exact s_body_ok s_ft_ok s_df_ok s_mi_ok s_codes_ok ih j as M outs h
        · rw [e3, cond_true] at h
          rw [Nat.beq_eq] at e3
          subst e3
          obtain ⟨h1, h2⟩ := s_tp_ok ih h
          refine ⟨h1, fun σ ρ b hok q hq post hp => ?_⟩
          have hq' : s_mi[231]? = some (7, 0, false, 0, 0, 12) := by decide +kernel
          rw [hq'] at hq
          cases hq
          exact h2 σ ρ b hok post hp
      · rw [e2, cond_true] at h
        rw [Nat.beq_eq] at e2
        subst e2
        obtain ⟨h1, h2⟩ := s_qu_ok (xs := xs) (d := d) h
        refine ⟨h1, fun σ ρ b hok q hq post hp => ?_⟩
        have hq' : s_mi[21]? = some (4, 3, false, 0, 0, 11) := by decide +kernel
        rw [hq'] at hq
        cases hq
        exact h2 σ ρ b hok post hp
    · rw [e1, cond_true] at h
      rw [Bool.or_eq_true, Nat.beq_eq, Nat.beq_eq] at e1
      obtain ⟨h1, h2⟩ := s_gc_ok (xs := xs) h
      refine ⟨h1, fun σ ρ b hok q hq post hp => ?_⟩
      have hq1 : s_mi[55]? = some (11, 3, false, 0, 0, 11) := by decide +kernel
      have hq2 : s_mi[230]? = some (10, 3, false, 0, 0, 12) := by decide +kernel
      rcases e1 with rfl | rfl
      · rw [hq1] at hq
        cases hq
        exact (h2 σ ρ b hok post hp).1
      · rw [hq2] at hq
        cases hq
        exact (h2 σ ρ b hok post hp).2

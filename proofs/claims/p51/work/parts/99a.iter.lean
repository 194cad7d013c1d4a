-- one turn of the law's loop
set_option maxRecDepth 20000
def z_tab : List s_I := s_cl.map (fun r => bif y_isn r.1 [1246, 1275, 1295, 1312] then (r.1, r.2.1, 34, r.2.2.2) else r)
set_option maxRecDepth 100000 in
theorem z_tab_4 : s_cl.all (fun r => bif y_isn r.1 [1246, 1275, 1295, 1312] then s_okI code 13 (r.1, r.2.1, 34, r.2.2.2) else true) = true := by decide +kernel
theorem z_tab_ok : ∀ r ∈ z_tab, s_okI code 13 r = true := by
  intro r hr
  obtain ⟨q, hq, rfl⟩ := List.mem_map.mp hr
  have h4 := List.all_eq_true.mp z_tab_4 q hq
  cases e : y_isn q.1 [1246, 1275, 1295, 1312]
  · rw [cond_false]
    exact s_cl_ok q hq
  · rw [e, cond_true] at h4
    rw [cond_true]
    exact h4
def z_L0 : z_L := [(0, (4, 0)), (1, (5, 0)), (2, (5, 60)), (3, (5, 106)), (4, (1, 0))]
def z_Ev (i n : Int) (b : Nat) (A : Nat → Nat) (xs ν : Nat → Int32) : z_E := (i, n, b, A, xs, ν)
def iv_sh (A : Nat → Nat) (h : g_H) : Prop := (∃ n f, g_get h 0 = some (A 0, false, 11, n, f)) ∧ (∃ n f, g_get h 60 = some (A 60, false, 12, n, f)) ∧ ∃ f, g_get h 106 = some (A 106, true, 1, 1, f)
/-- arguments: any int (0), a boolean (1) -/
def iv_sp : List Nat → List Value → Prop
  | [], [] => True
  | k :: ks, x :: xs => (∃ m : Int32, x = .int m ∧ (k = 1 → m.toInt = 0 ∨ m.toInt = 1)) ∧ iv_sp ks xs
  | _, _ => False
def iv_an (lg : Bool) (r : Option Value) (v : Int32) : Prop := bif lg then ∃ y : Int64, r = some (.long y) else r = some (.int v)
/-- the reference's call, behind the class's answer -/
def iv_two (INV : g_H → Prop) (A : Nat → Nat) (jm : Nat) (cmp lg : Bool) (as : List Value) (v1 : Int32) (h1 : g_H) : Prop := iv_sh A h1 ∧ g_run 60 jm (.ref (A 60) :: as) h1 0 0 (fun r2 h2 => (∃ v2, iv_an lg r2 v2 ∧ (cmp = true → v1 = v2)) ∧ INV h2)
/-- a pair of calls: of the class, of the reference -/
def iv_pair (INV : g_H → Prop) (A : Nat → Nat) (jx jm : Nat) (spec : List Nat) (cmp lg : Bool) : Prop := ∀ h as, INV h → iv_sp spec as → ∃ mc ms, mc ≤ 10 ∧ ms ≤ 133 ∧ g_run 60 jx (.ref (A 0) :: as) h mc ms (fun r1 h1 => ∃ v1, r1 = some (.int v1) ∧ iv_two INV A jm cmp lg as v1 h1)
-- the checks
def z_tkn : Nat → List z_V → List z_V → Option (List z_V × List z_V)
  | 0, st, acc => some (acc, st)
  | n + 1, v :: st, acc => z_tkn n st (v :: acc)
  | _ + 1, [], _ => none
def z_det (v : z_V) : Bool := Nat.beq v.1 8 || Nat.beq v.1 3
def z_spB : List Nat → List z_V → Bool
  | [], [] => true
  | k :: ks, v :: vs => z_det v && ((Nat.beq k 0 || (Nat.beq v.1 3 && (decide (v.2 = 0) || decide (v.2 = 1)))) && z_spB ks vs)
  | _, _ => false
def z_hd (L : z_L) : Bool := decide (z_find L 0 = some (4, 0)) && (decide (z_find L 1 = some (5, 0)) && (decide (z_find L 2 = some (5, 60)) && (decide (z_find L 3 = some (5, 106)) && decide (z_find L 4 = some (1, 5)))))
def z_at23 (Y : z_X) : Bool := match Y with
  | (r :: _, L, st, _) => Nat.beq r.1 23 && (st.isEmpty && z_hd L)
  | _ => false
def z_endB (cmp : Bool) (Y : z_X) : Bool := bif cmp then (match Y with
  | (r :: t, L, st, F) => Nat.beq r.2.1 3 && (Nat.beq r.2.2.1 22 && (Nat.beq r.2.2.2.2.2.1 0 && (decide (st = [(9, 2), (9, 1)]) && (match s_jump z_tab r.2.2.2.2.1 with
    | some c => (match z_run z_tab [23] 100 (c, L, [], F) with
      | some ends => ends.all z_at23
      | none => false)
    | none => false))))
  | _ => false) else z_at23 Y
def z_call (j n : Nat) (r : s_I) (t : List s_I) : Bool := Nat.beq r.2.1 3 && (Nat.beq r.2.2.1 34 && (Nat.beq r.2.2.2.1 2 && (Nat.beq r.2.2.2.2.1 j && (Nat.beq r.2.2.2.2.2.1 n && s_go r t))))
def z_res (lg : Bool) : z_V := bif lg then (6, 0) else (9, 2)
def z_leafB (jm : Nat) (args : List z_V) (cmp lg : Bool) (Y : z_X) : Bool := match Y with
  | (r :: t, L, st, F) => z_call jm args.length r t && (L.all (fun p => !Nat.beq p.2.1 9 || decide (p.2.2 = 1)) && (match z_tkn args.length st [] with
    | some (as, u :: rest) => decide (as = args) && (decide (u = (5, 60)) && (decide (rest = bif cmp then [(9, 1)] else []) && (match z_run z_tab [23] 100 (t, L, z_res lg :: rest, F) with
      | some ends => ends.all (z_endB cmp)
      | none => false)))
    | _ => false))
  | _ => false
def z_midB (jm : Nat) (args : List z_V) (cmp lg : Bool) (t : List s_I) (L : z_L) (F : z_F) : Bool := match z_run z_tab [23] 200 (t, L, [(9, 1)], F) with
  | some ls => ls.all (z_leafB jm args cmp lg)
  | none => false
def z_leafA (jx jm : Nat) (spec : List Nat) (cmp lg : Bool) (Y : z_X) : Bool := match Y with
  | (r :: t, L, st, F) => z_call jx spec.length r t && (L.all (fun p => !Nat.beq p.2.1 9) && (match z_tkn spec.length st [] with
    | some (as, [u]) => z_spB spec as && (decide (u = (5, 0)) && z_midB jm as cmp lg t L F)
    | _ => false))
  | _ => false
def z_case (jx jm : Nat) (spec : List Nat) (cmp lg : Bool) (tg : Nat) : Bool := match s_jump z_tab tg with
  | some c => (match z_run z_tab [23] 300 (c, z_L0, [], []) with
    | some ls => ls.all (z_leafA jx jm spec cmp lg)
    | none => false)
  | none => false
section Z3
variable {N b : Nat} {xs ν ν' : Nat → Int32} {P : g_S → Prop} {i n : Int} {A : Nat → Nat} {INV : g_H → Prop}
theorem z_nu {v : z_V} {x : Value} (h9 : v.1 = 9 → ν v.2.toNat = ν' v.2.toNat) (h : z_g (z_Ev i n b A xs ν) v x) : z_g (z_Ev i n b A xs ν') v x := by
  obtain ⟨k, z⟩ := v
  match k, h, h9 with
  | 0, h, _ => exact h
  | 1, h, _ => exact h
  | 2, h, _ => exact h
  | 3, h, _ => exact h
  | 4, h, _ => exact h
  | 5, h, _ => exact h
  | 6, h, _ => exact h
  | 8, h, _ => exact h
  | 9, h, h9 =>
    have e : x = .int (ν z.toNat) := h
    show x = .int (ν' z.toNat)
    rw [e, h9 rfl]
theorem z_nuL {L : z_L} {Ls : g_L} (h9 : ∀ p ∈ L, p.2.1 = 9 → ν p.2.2.toNat = ν' p.2.2.toNat) (h : z_gL (z_Ev i n b A xs ν) L Ls) : z_gL (z_Ev i n b A xs ν') L Ls := by
  intro p hp
  obtain ⟨x, h1, h2⟩ := h p hp
  exact ⟨x, h1, z_nu (h9 p hp) h2⟩
theorem z_nuS : ∀ {st : List z_V} {sts : List Value}, (∀ v ∈ st, v.1 = 9 → ν v.2.toNat = ν' v.2.toNat) → z_gS (z_Ev i n b A xs ν) st sts → z_gS (z_Ev i n b A xs ν') st sts
  | [], [], _, _ => trivial
  | [], _ :: _, _, h => h.elim
  | _ :: _, [], _, h => h.elim
  | v :: vs, x :: ys, h9, h => ⟨z_nu (h9 v List.mem_cons_self) h.1, z_nuS (fun u hu => h9 u (List.mem_cons_of_mem _ hu)) h.2⟩
theorem z_gS_app {E : z_E} : ∀ {a c : List z_V} {sts : List Value}, z_gS E (a ++ c) sts → ∃ u v, sts = u ++ v ∧ u.length = a.length ∧ z_gS E a u ∧ z_gS E c v
  | [], c, sts, h => ⟨[], sts, rfl, rfl, trivial, h⟩
  | _ :: _, _, [], h => h.elim
  | _ :: ts, _, x :: ys, h => by
    obtain ⟨u, v, e, hl, h1, h2⟩ := z_gS_app (a := ts) h.2
    exact ⟨x :: u, v, by rw [e]; rfl, by simp [hl], ⟨h.1, h1⟩, h2⟩
theorem z_gS_app2 {E : z_E} : ∀ {a c : List z_V} {u v : List Value}, z_gS E a u → z_gS E c v → z_gS E (a ++ c) (u ++ v)
  | [], _, [], _, _, h => h
  | [], _, _ :: _, _, h, _ => h.elim
  | _ :: _, _, [], _, h, _ => h.elim
  | _ :: _, _, _ :: _, _, h, h2 => ⟨h.1, z_gS_app2 h.2 h2⟩
theorem z_gS_rev {E : z_E} : ∀ {a : List z_V} {u : List Value}, z_gS E a u → z_gS E a.reverse u.reverse
  | [], [], _ => trivial
  | [], _ :: _, h => h.elim
  | _ :: _, [], h => h.elim
  | t :: ts, x :: ys, h => by
    rw [List.reverse_cons, List.reverse_cons]
    exact z_gS_app2 (z_gS_rev h.2) ⟨h.1, trivial⟩
theorem z_tkn_eq : ∀ (n : Nat) (st acc as rest : List z_V), z_tkn n st acc = some (as, rest) → ∃ l, as = l.reverse ++ acc ∧ st = l ++ rest ∧ l.length = n
  | 0, st, acc, as, rest, h => by cases h; exact ⟨[], rfl, rfl, rfl⟩
  | n + 1, v :: st, acc, as, rest, h => by
    obtain ⟨l, h1, h2, h3⟩ := z_tkn_eq n st (v :: acc) as rest h
    exact ⟨v :: l, by rw [h1]; simp, by rw [h2]; rfl, by simp [h3]⟩
  | _ + 1, [], _, _, _, h => by cases h
theorem z_args_g {E : z_E} {st : List z_V} {sts : List Value} (hS : z_gS E st sts) {as rest : List z_V} {n : Nat} (e : z_tkn n st [] = some (as, rest)) : ∃ ys sr, sts = ys.reverse ++ sr ∧ ys.length = n ∧ z_gS E as ys ∧ z_gS E rest sr := by
  obtain ⟨l, g1, g2, g3⟩ := z_tkn_eq _ _ _ _ _ e
  rw [List.append_nil] at g1
  rw [g2] at hS
  obtain ⟨u, w, hu, hul, hS1, hS2⟩ := z_gS_app hS
  have hr := z_gS_rev hS1
  rw [← g1] at hr
  exact ⟨u.reverse, w, by rw [List.reverse_reverse]; exact hu, by rw [List.length_reverse, hul, g3], hr, hS2⟩
theorem z_det_eq {E : z_E} {v : z_V} {x y : Value} (hd : z_det v = true) (hx : z_g E v x) (hy : z_g E v y) : x = y := by
  obtain ⟨k, z⟩ := v
  unfold z_det at hd
  simp only [Bool.or_eq_true, Nat.beq_eq] at hd
  rcases hd with h | h <;> subst h
  · exact (show x = _ from hx).trans (show y = _ from hy).symm
  · obtain ⟨m, rfl, h1⟩ := hx
    obtain ⟨m2, rfl, h2⟩ := hy
    rw [Int32.toInt_inj.mp (h1.trans h2.symm)]
theorem z_spB_eq {E : z_E} : ∀ {ks : List Nat} {vs : List z_V} {ys zs : List Value}, z_spB ks vs = true → z_gS E vs ys → z_gS E vs zs → ys = zs
  | [], [], [], [], _, _, _ => rfl
  | [], [], _ :: _, _, _, h, _ => h.elim
  | [], [], [], _ :: _, _, _, h => h.elim
  | [], _ :: _, _, _, h, _, _ => by cases h
  | _ :: _, [], _, _, h, _, _ => by cases h
  | _ :: _, _ :: _, [], _, _, h, _ => h.elim
  | _ :: _, _ :: _, _ :: _, [], _, _, h => h.elim
  | k :: ks, v :: vs, y :: ys, z :: zs, hb, h1, h2 => by
    rw [z_spB, Bool.and_eq_true, Bool.and_eq_true] at hb
    rw [z_det_eq hb.1 h1.1 h2.1, z_spB_eq hb.2.2 h1.2 h2.2]
theorem z_spB_ok {E : z_E} : ∀ {ks : List Nat} {vs : List z_V} {ys : List Value}, z_spB ks vs = true → z_gS E vs ys → iv_sp ks ys
  | [], [], [], _, _ => trivial
  | [], [], _ :: _, _, h => h.elim
  | [], _ :: _, _, h, _ => by cases h
  | _ :: _, [], _, h, _ => by cases h
  | _ :: _, _ :: _, [], _, h => h.elim
  | k :: ks, v :: vs, y :: ys, hb, h1 => by
    rw [z_spB, Bool.and_eq_true, Bool.and_eq_true] at hb
    refine ⟨?_, z_spB_ok hb.2.2 h1.2⟩
    have hi : z_isI v = true := by
      have := hb.1
      unfold z_det at this
      unfold z_isI
      simp only [Bool.or_eq_true, Nat.beq_eq, Nat.ble_eq] at this ⊢
      omega
    obtain ⟨m, rfl⟩ := z_isI_g hi h1.1
    refine ⟨m, rfl, fun hk => ?_⟩
    have h2 := hb.2.1
    subst hk
    obtain ⟨vk, vc⟩ := v
    simp only [Bool.or_eq_true, Bool.and_eq_true, Nat.beq_eq, decide_eq_true_eq] at h2
    rcases h2 with h2 | ⟨h2, h3⟩
    · omega
    · have h2' : vk = 3 := h2
      subst h2'
      obtain ⟨m2, e2, hm⟩ := h1.1
      cases e2
      have h3 : vc = 0 ∨ vc = 1 := h3
      omega
theorem z_spB_len : ∀ {ks : List Nat} {vs : List z_V}, z_spB ks vs = true → vs.length = ks.length
  | [], [], _ => rfl
  | [], _ :: _, h => by cases h
  | _ :: _, [], h => by cases h
  | k :: ks, v :: vs, hb => by
    rw [z_spB, Bool.and_eq_true, Bool.and_eq_true] at hb
    rw [List.length_cons, List.length_cons, z_spB_len hb.2.2]
/-- a call in the law -/
theorem z_call_ok (hP : z_cl N b xs P) {r : s_I} {t : List s_I} {j n9 : Nat} (hI : s_okI code 13 r = true) (hc : z_call j n9 r t = true) {h : g_H} {q a nf : Nat} {f : Nat → Value} (hget : g_get h q = some (a, false, (g_me j).2.1, nf, f)) {as rest : List Value} (has : as.length = n9) (hsum : g_sum rest ≤ 8) {Ls : g_L} {cells slots mc ms : Nat} (h1 : cells + mc ≤ 1105985) (h2 : slots + ms ≤ 5778149)
    (hrun : g_run 60 j (.ref a :: as) h mc ms (fun r9 h' => P (s_pc t, Ls, r9.toList ++ rest, cells + mc, slots + ms, h'))) : P (r.1, Ls, as.reverse ++ .ref a :: rest, cells, slots, h) := by
  obtain ⟨pc, len, q9, kd, a9, k, v, ins⟩ := r
  unfold z_call at hc
  simp only [Bool.and_eq_true, Nat.beq_eq] at hc
  obtain ⟨rfl, rfl, rfl, rfl, rfl, hg⟩ := hc
  obtain ⟨⟨n8, hd, hlen9, hne⟩, hQ, hlk⟩ := s_okI_eq hI (by decide)
  have hQ' : ∃ i, ins = .invokevirtual i := by
    clear hd hne hlk
    revert hQ
    cases ins <;> intro hQ <;> first | exact ⟨_, rfl⟩ | cases hQ
  obtain ⟨i9, rfl⟩ := hQ'
  obtain ⟨ps, hl⟩ := hlk (by decide) i9 rfl
  have hpc : s_pc t = pc + 3 := s_go_eq hg
  rw [hpc] at hrun
  have h3 : n8 = 3 := hlen9.symm
  rw [h3] at hd
  exact hP.1 _ ⟨_, _, hd, Or.inr (Or.inr (Or.inr (Or.inr (Or.inl ⟨i9, 2, _, _, v, ps, as, a, rest, q, nf, f, mc, ms, rfl, rfl, Or.inl rfl, hl, rfl, has, hget, hsum, h1, h2, hrun⟩))))⟩
/-- at the loop's head again -/
def z_next (P : g_S → Prop) (INV : g_H → Prop) (i n : Int) (b : Nat) (A : Nat → Nat) (xs : Nat → Int32) (cells slots : Nat) : Prop := ∀ (Ls : g_L) (h : g_H), z_gL (z_Ev (i + 5) n b A xs (fun _ => 0)) z_L0 Ls → INV h → P (23, Ls, [], cells, slots, h)
theorem z_hd_ok {L : z_L} {Ls : g_L} (h : z_hd L = true) (hL : z_gL (z_Ev i n b A xs ν) L Ls) : z_gL (z_Ev (i + 5) n b A xs ν') z_L0 Ls := by
  unfold z_hd at h
  simp only [Bool.and_eq_true, decide_eq_true_eq] at h
  obtain ⟨h0, h1, h2, h3, h4⟩ := h
  have g := fun {k : Nat} {v : z_V} (e : z_find L k = some v) => hL _ (z_find_in e)
  intro p hp
  have hp : p ∈ [((0, (4, 0)) : Nat × z_V), (1, (5, 0)), (2, (5, 60)), (3, (5, 106)), (4, (1, 0))] := hp
  simp only [List.mem_cons, List.not_mem_nil, or_false] at hp
  rcases hp with rfl | rfl | rfl | rfl | rfl
  · obtain ⟨x, a1, a2⟩ := g h0
    exact ⟨x, a1, a2⟩
  · obtain ⟨x, a1, a2⟩ := g h1
    exact ⟨x, a1, a2⟩
  · obtain ⟨x, a1, a2⟩ := g h2
    exact ⟨x, a1, a2⟩
  · obtain ⟨x, a1, a2⟩ := g h3
    exact ⟨x, a1, a2⟩
  · obtain ⟨x, a1, m, a2, a3⟩ := g h4
    refine ⟨x, a1, m, a2, ?_⟩
    have a3 : m.toInt = i + 5 := a3
    show m.toInt = i + 5 + 0
    omega
theorem z_at23_ok {Y : z_X} {h : g_H} {cells slots : Nat} (hb : z_at23 Y = true) (hn : z_next P INV i n b A xs cells slots) (hI : INV h) : z_P (z_Ev i n b A xs ν) P (cells, slots, h) (s_pc Y.1) Y.2.1 Y.2.2.1 Y.2.2.2 := by
  obtain ⟨c, L, st, F⟩ := Y
  cases c with
  | nil => cases hb
  | cons r t =>
    unfold z_at23 at hb
    simp only [Bool.and_eq_true, Nat.beq_eq, List.isEmpty_iff] at hb
    obtain ⟨h1, h2, h3⟩ := hb
    intro Ls sts hL hS hF
    have h2 : st = [] := h2
    subst h2
    cases sts with
    | cons _ _ => exact hS.elim
    | nil =>
      show P (r.1, Ls, [], cells, slots, h)
      rw [h1]
      exact hn Ls h (z_hd_ok h3 hL) hI
theorem z_endB_ok (hP : z_cl N b xs P) (hE : z_ok N b xs (z_Ev i n b A xs ν)) {cmp : Bool} {Y : z_X} (hY : ∀ q ∈ Y.1, s_okI code 13 q = true) {h : g_H} {cells slots : Nat} (hb : z_endB cmp Y = true) (hv : cmp = true → ν 1 = ν 2) (hn : z_next P INV i n b A xs cells slots) (hI : INV h) : z_P (z_Ev i n b A xs ν) P (cells, slots, h) (s_pc Y.1) Y.2.1 Y.2.2.1 Y.2.2.2 := by
  unfold z_endB at hb
  cases cmp
  · rw [cond_false] at hb
    exact z_at23_ok hb hn hI
  · rw [cond_true] at hb
    obtain ⟨c, L, st, F⟩ := Y
    cases c with
    | nil => cases hb
    | cons r t =>
      simp only [Bool.and_eq_true, Nat.beq_eq, decide_eq_true_eq] at hb
      obtain ⟨h0, h1, h2, rfl, h4⟩ := hb
      split at h4
      next c ec =>
        split at h4
        next ends ee =>
          intro Ls sts hL hS hF
          obtain ⟨x, ys, rfl, hx, hS2⟩ := z_gS_c hS
          obtain ⟨y, zs, rfl, hy, hS3⟩ := z_gS_c hS2
          have e1 : x = .int (ν 2) := hx
          have e2 : y = .int (ν 1) := hy
          subst e1 e2
          cases zs with
          | cons _ _ => exact hS3.elim
          | nil =>
            have hr := hY r List.mem_cons_self
            obtain ⟨pc, len, q9, kd, a9, k, v, ins⟩ := r
            have h0 : len = 3 := h0
            have h1 : q9 = 22 := h1
            have h2 : k = 0 := h2
            subst h0 h1 h2
            obtain ⟨⟨n8, hd, hlen9, hne⟩, hQ, hlk⟩ := s_okI_eq hr (by decide)
            have hQ' : ∃ cd off, ins = .if_icmp cd off ∧ (pc : Int) + off = (a9 : Int) ∧ s_cdn cd = 0 := by
              clear hd hne hlk hY
              revert hQ
              cases ins <;> intro hQ <;> first | exact ⟨_, _, rfl, of_decide_eq_true ((Bool.and_eq_true _ _).mp hQ).1, Nat.beq_eq.mp ((Bool.and_eq_true _ _).mp hQ).2⟩ | cases hQ
            obtain ⟨cd, off, rfl, hoff, hcd⟩ := hQ'
            have h3 : n8 = 3 := hlen9.symm
            rw [h3] at hd
            have hce : cd = .eq := by cases cd <;> first | rfl | (exfalso; revert hcd; decide)
            subst hce
            refine hP.1 _ ⟨_, _, hd, Or.inr (Or.inr (Or.inl (Or.inr (Or.inr (Or.inl ⟨_, _, _, _, _, _, rfl, rfl, hoff, rfl, ?_⟩)))))⟩
            have ht : g_c2 (ν 1) (ν 2) ClassFile.Cond.eq = true := decide_eq_true (hv rfl)
            rw [if_pos ht]
            have hj := s_jump_mem ec
            obtain ⟨k1, k2⟩ := z_run_ok (w := (cells, slots, h)) hP hE z_tab_ok 100 (c, L, [], F) ends ee (fun q hq => z_tab_ok q (hj.2 q hq))
            have := k2 (fun Z hZ => z_at23_ok (List.all_eq_true.mp h4 Z hZ) hn hI) Ls [] hL trivial hF
            rw [show s_pc c = a9 from hj.1] at this
            exact this
        next => cases h4
      next => cases h4
def z_v2 (v1 v2 : Int32) : Nat → Int32 := fun k => if k = 1 then v1 else v2
/-- from the reference's call on -/
theorem z_leafB_ok (hP : z_cl N b xs P) (hE : ∀ ν, z_ok N b xs (z_Ev i n b A xs ν)) {jm : Nat} (hjm : (g_me jm).2.1 = 12) {spec : List Nat} {args : List z_V} {as : List Value} {cmp lg : Bool} {Y : z_X} (hY : ∀ q ∈ Y.1, s_okI code 13 q = true) {v1 : Int32} {h1 : g_H} {cells slots : Nat} (hb : z_leafB jm args cmp lg Y = true) (hsp : z_spB spec args = true) (hag : z_gS (z_Ev i n b A xs (fun _ => v1)) args as) (htwo : iv_two INV A jm cmp lg as v1 h1) (hlg : lg = true → cmp = false) (hc1 : cells ≤ 1105985) (hc2 : slots ≤ 5778149) (hn : z_next P INV i n b A xs cells slots) : z_P (z_Ev i n b A xs (fun _ => v1)) P (cells, slots, h1) (s_pc Y.1) Y.2.1 Y.2.2.1 Y.2.2.2 := by
  obtain ⟨c, L, st, F⟩ := Y
  cases c with
  | nil => cases hb
  | cons r t =>
    unfold z_leafB at hb
    simp only [Bool.and_eq_true] at hb
    obtain ⟨g1, g2, g3⟩ := hb
    split at g3
    next as9 u rest e1 =>
      simp only [Bool.and_eq_true, decide_eq_true_eq] at g3
      obtain ⟨rfl, rfl, hrest, g4⟩ := g3
      split at g4
      next ends ee =>
        intro Ls sts hL hS hF
        obtain ⟨ys, sr, hs, hl, ha, hr⟩ := z_args_g hS e1
        obtain ⟨y, zs, rfl, hy, hr2⟩ := z_gS_c hr
        have ey : y = .ref (A 60) := hy
        subst ey
        have hyas : ys = as := z_spB_eq hsp ha hag
        subst hyas
        obtain ⟨hsh, hrun⟩ := htwo
        obtain ⟨nf, f, hget⟩ := hsh.2.1
        rw [← hjm] at hget
        have hsum : g_sum zs ≤ 8 := by
          cases cmp
          · rw [cond_false] at hrest
            subst hrest
            cases zs with
            | nil => decide
            | cons _ _ => exact hr2.elim
          · rw [cond_true] at hrest
            subst hrest
            obtain ⟨z, zz, rfl, hz, hr3⟩ := z_gS_c hr2
            have ez : z = .int v1 := hz
            subst ez
            cases zz with
            | nil => exact (show 1 ≤ 8 by decide)
            | cons _ _ => exact hr3.elim
        rw [hs]
        refine z_call_ok (mc := 0) (ms := 0) hP (hY r List.mem_cons_self) g1 hget hl hsum hc1 hc2 ?_
        refine g_run_mono hrun (fun r2 h2 hp => ?_)
        obtain ⟨⟨v2, hv2, hcv⟩, hI2⟩ := hp
        have hYt : ∀ q ∈ t, s_okI code 13 q = true := fun q hq => hY q (List.mem_cons_of_mem _ hq)
        obtain ⟨k1, k2⟩ := z_run_ok (w := (cells, slots, h2)) (E := z_Ev i n b A xs (z_v2 v1 v2)) hP (hE _) z_tab_ok 100 (t, L, z_res lg :: rest, F) ends ee hYt
        have h9 : ∀ p ∈ L, p.2.1 = 9 → (fun _ => v1) p.2.2.toNat = z_v2 v1 v2 p.2.2.toNat := fun p hp h9 => by
          have := List.all_eq_true.mp g2 p hp
          simp only [Bool.or_eq_true, Bool.not_eq_true', decide_eq_true_eq] at this
          rcases this with h | h
          · rw [h9] at h
            cases h
          · show v1 = if p.2.2.toNat = 1 then v1 else v2
            rw [if_pos (by omega)]
        have hrs : z_gS (z_Ev i n b A xs (z_v2 v1 v2)) rest zs := z_nuS (fun v hv h9 => by
          cases cmp
          · rw [cond_false] at hrest
            subst hrest
            cases hv
          · rw [cond_true] at hrest
            subst hrest
            rw [List.mem_singleton] at hv
            subst hv
            rfl) hr2
        refine k2 (fun Z hZ => z_endB_ok (h := h2) hP (hE _) (k1 Z hZ) (List.all_eq_true.mp g4 Z hZ) (fun hc => ?_) hn hI2) Ls (r2.toList ++ zs) (z_nuL h9 hL) ?_ hF
        · show v1 = v2
          exact hcv hc
        · cases lg
          · have e2 : r2 = some (.int v2) := hv2
            subst e2
            exact ⟨rfl, hrs⟩
          · obtain ⟨y2, e2⟩ := hv2
            subst e2
            exact ⟨⟨y2, rfl⟩, hrs⟩
      next => cases g4
    next => cases g3
/-- from behind the class's answer on -/
theorem z_midB_ok (hP : z_cl N b xs P) (hE : ∀ ν, z_ok N b xs (z_Ev i n b A xs ν)) {jm : Nat} (hjm : (g_me jm).2.1 = 12) {spec : List Nat} {args : List z_V} {as : List Value} {cmp lg : Bool} {t : List s_I} (hY : ∀ q ∈ t, s_okI code 13 q = true) {L : z_L} {F : z_F} {v1 : Int32} {h1 : g_H} {cells slots : Nat} (hb : z_midB jm args cmp lg t L F = true) (hsp : z_spB spec args = true) (hag : z_gS (z_Ev i n b A xs (fun _ => v1)) args as) (htwo : iv_two INV A jm cmp lg as v1 h1) (hlg : lg = true → cmp = false) (hc1 : cells ≤ 1105985) (hc2 : slots ≤ 5778149) (hn : z_next P INV i n b A xs cells slots) {Ls : g_L} (hL : z_gL (z_Ev i n b A xs (fun _ => v1)) L Ls) (hF : z_gF (z_Ev i n b A xs (fun _ => v1)) F) : P (s_pc t, Ls, [.int v1], cells, slots, h1) := by
  unfold z_midB at hb
  split at hb
  next ls el =>
    obtain ⟨k1, k2⟩ := z_run_ok (w := (cells, slots, h1)) (E := z_Ev i n b A xs (fun _ => v1)) hP (hE _) z_tab_ok 200 (t, L, [(9, 1)], F) ls el hY
    exact k2 (fun Z hZ => z_leafB_ok hP hE hjm (k1 Z hZ) (List.all_eq_true.mp hb Z hZ) hsp hag htwo hlg hc1 hc2 hn) Ls [.int v1] hL ⟨rfl, trivial⟩ hF
  next => cases hb
theorem z_case_ok (hP : z_cl N b xs P) (hE : ∀ ν, z_ok N b xs (z_Ev i n b A xs ν)) {jx jm : Nat} (hjx : (g_me jx).2.1 = 11) (hjm : (g_me jm).2.1 = 12) {spec : List Nat} {cmp lg : Bool} {tg : Nat} (hb : z_case jx jm spec cmp lg tg = true) (hpr : iv_pair INV A jx jm spec cmp lg) (hlg : lg = true → cmp = false) (hsh : ∀ h, INV h → iv_sh A h) {cells slots : Nat} (hc1 : cells + 10 ≤ 1105985) (hc2 : slots + 133 ≤ 5778149) (hn : ∀ c' s', c' ≤ cells + 10 → s' ≤ slots + 133 → z_next P INV i n b A xs c' s') {Ls : g_L} (hL : z_gL (z_Ev i n b A xs (fun _ => 0)) z_L0 Ls) {h : g_H} (hI : INV h) : P (tg, Ls, [], cells, slots, h) := by
  unfold z_case at hb
  split at hb
  next c ec =>
    split at hb
    next ls el =>
      have hj := s_jump_mem ec
      obtain ⟨k1, k2⟩ := z_run_ok (w := (cells, slots, h)) (E := z_Ev i n b A xs (fun _ => 0)) hP (hE _) z_tab_ok 300 (c, z_L0, [], []) ls el (fun q hq => z_tab_ok q (hj.2 q hq))
      have key := k2 (fun Y hY => ?_) Ls [] hL trivial (fun q hq => by cases hq)
      · rw [show s_pc c = tg from hj.1] at key
        exact key
      · have hbY := List.all_eq_true.mp hb Y hY
        have hYI := k1 Y hY
        obtain ⟨c9, L, st, F⟩ := Y
        cases c9 with
        | nil => cases hbY
        | cons r t =>
          unfold z_leafA at hbY
          simp only [Bool.and_eq_true] at hbY
          obtain ⟨g1, g2, g3⟩ := hbY
          split at g3
          next as9 u e1 =>
            simp only [Bool.and_eq_true, decide_eq_true_eq] at g3
            obtain ⟨hsp, rfl, g4⟩ := g3
            intro Ls sts hL hS hF
            obtain ⟨ys, sr, hs, hl, ha, hr⟩ := z_args_g hS e1
            obtain ⟨y, zs, rfl, hy, hr2⟩ := z_gS_c hr
            have ey : y = .ref (A 0) := hy
            subst ey
            cases zs with
            | cons _ _ => exact hr2.elim
            | nil =>
              obtain ⟨mc, ms, m1, m2, hrun⟩ := hpr h ys hI (z_spB_ok hsp ha)
              obtain ⟨nf, f, hget⟩ := (hsh h hI).1
              rw [← hjx] at hget
              rw [hs]
              refine z_call_ok (mc := mc) (ms := ms) hP (hYI r List.mem_cons_self) g1 hget hl (by decide) (by omega) (by omega) ?_
              refine g_run_mono hrun (fun r1 h1 hp => ?_)
              obtain ⟨v1, rfl, htwo⟩ := hp
              have h9 : ∀ p ∈ L, p.2.1 = 9 → (fun _ => (0 : Int32)) p.2.2.toNat = (fun _ => v1) p.2.2.toNat := fun p hp h9 => by
                have := List.all_eq_true.mp g2 p hp
                rw [h9] at this
                cases this
              have hnd : ∀ {ks : List Nat} {vs : List z_V}, z_spB ks vs = true → ∀ v ∈ vs, ¬ v.1 = 9 := by
                intro ks
                induction ks with
                | nil =>
                  intro vs hb v hv
                  cases vs with
                  | nil => cases hv
                  | cons _ _ => cases hb
                | cons k ks ih =>
                  intro vs hb v hv
                  cases vs with
                  | nil => cases hv
                  | cons w ws =>
                    rw [z_spB, Bool.and_eq_true, Bool.and_eq_true] at hb
                    rcases List.mem_cons.mp hv with rfl | hv
                    · intro h9
                      have := hb.1
                      unfold z_det at this
                      rw [h9] at this
                      cases this
                    · exact ih hb.2.2 v hv
              exact z_midB_ok (v1 := v1) hP hE hjm (fun q hq => hYI q (List.mem_cons_of_mem _ hq)) g4 hsp (z_nuS (fun v hv h9 => absurd h9 (hnd hsp v hv)) ha) htwo hlg (by omega) (by omega) (hn _ _ (by omega) (by omega)) (z_nuL h9 hL) hF
          next => cases g3
    next => cases hb
  next => cases hb
end Z3

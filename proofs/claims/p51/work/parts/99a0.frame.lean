-- what a run doesn't write (made by wip/port/mkframe.py)
set_option maxRecDepth 20000
/-- cells of a class stay, and of their fields those that aren't in E; arrays stay, those of a kind in K as they are -/
def f_Fr (E : Nat → Nat → Bool) (K : Nat → Bool) (h h' : g_H) : Prop := (∀ (q a ci n : Nat) (f : Nat → Value), h[q]? = some (a, false, ci, n, f) → ∃ f', h'[q]? = some (a, false, ci, n, f') ∧ ∀ k, E ci k = false → f' k = f k) ∧ ∀ (q a t n : Nat) (f : Nat → Value), h[q]? = some (a, true, t, n, f) → ∃ f', h'[q]? = some (a, true, t, n, f') ∧ (K t = true → f' = f)
section F1
variable {E : Nat → Nat → Bool} {K : Nat → Bool} {h h1 h2 : g_H}
theorem f_refl : f_Fr E K h h := ⟨fun _ _ _ _ f e => ⟨f, e, fun _ _ => rfl⟩, fun _ _ _ _ f e => ⟨f, e, fun _ => rfl⟩⟩
theorem f_trans (e1 : f_Fr E K h h1) (e2 : f_Fr E K h1 h2) : f_Fr E K h h2 := by
  refine ⟨fun q a ci n f e => ?_, fun q a t n f e => ?_⟩
  · obtain ⟨f1, g1, g2⟩ := e1.1 q a ci n f e
    obtain ⟨f2, g3, g4⟩ := e2.1 q a ci n f1 g1
    exact ⟨f2, g3, fun k hk => (g4 k hk).trans (g2 k hk)⟩
  · obtain ⟨f1, g1, g2⟩ := e1.2 q a t n f e
    obtain ⟨f2, g3, g4⟩ := e2.2 q a t n f1 g1
    exact ⟨f2, g3, fun hk => (g4 hk).trans (g2 hk)⟩
theorem f_app {l : g_H} (e1 : f_Fr E K h h1) : f_Fr E K h (h1 ++ l) := by
  refine ⟨fun q a ci n f e => ?_, fun q a t n f e => ?_⟩
  · obtain ⟨f1, g1, g2⟩ := e1.1 q a ci n f e
    refine ⟨f1, ?_, g2⟩
    rw [List.getElem?_append_left (List.getElem?_eq_some_iff.mp g1).1]
    exact g1
  · obtain ⟨f1, g1, g2⟩ := e1.2 q a t n f e
    refine ⟨f1, ?_, g2⟩
    rw [List.getElem?_append_left (List.getElem?_eq_some_iff.mp g1).1]
    exact g1
theorem f_setA {q a t n : Nat} {f f' : Nat → Value} (e1 : f_Fr E K h h1) (e2 : h1[q]? = some (a, true, t, n, f)) (hK : K t = false) : f_Fr E K h (h1.set q (a, true, t, n, f')) := by
  refine ⟨fun q' a' ci n' f0 e => ?_, fun q' a' t' n' f0 e => ?_⟩
  · obtain ⟨f1, g1, g2⟩ := e1.1 q' a' ci n' f0 e
    refine ⟨f1, ?_, g2⟩
    by_cases hq : q = q'
    · subst hq
      rw [e2] at g1
      cases g1
    · rw [List.getElem?_set_ne hq]
      exact g1
  · obtain ⟨f1, g1, g2⟩ := e1.2 q' a' t' n' f0 e
    by_cases hq : q = q'
    · subst hq
      rw [e2] at g1
      cases g1
      exact ⟨f', List.getElem?_set_self (List.getElem?_eq_some_iff.mp e2).1, fun hk => by rw [hK] at hk; cases hk⟩
    · refine ⟨f1, ?_, g2⟩
      rw [List.getElem?_set_ne hq]
      exact g1
theorem f_setF {q a ci n k : Nat} {f : Nat → Value} {v : Value} (e1 : f_Fr E K h h1) (e2 : h1[q]? = some (a, false, ci, n, f)) (hk : E ci k = true) : f_Fr E K h (h1.set q (a, false, ci, n, g_up f k v)) := by
  refine ⟨fun q' a' ci' n' f0 e => ?_, fun q' a' t' n' f0 e => ?_⟩
  · obtain ⟨f1, g1, g2⟩ := e1.1 q' a' ci' n' f0 e
    by_cases hq : q = q'
    · subst hq
      rw [e2] at g1
      cases g1
      refine ⟨_, List.getElem?_set_self (List.getElem?_eq_some_iff.mp e2).1, fun k' hk' => ?_⟩
      rw [← g2 k' hk']
      unfold g_up
      split
      next e9 =>
        subst e9
        rw [hk] at hk'
        cases hk'
      next => rfl
    · refine ⟨f1, ?_, g2⟩
      rw [List.getElem?_set_ne hq]
      exact g1
  · obtain ⟨f1, g1, g2⟩ := e1.2 q' a' t' n' f0 e
    refine ⟨f1, ?_, g2⟩
    by_cases hq : q = q'
    · subst hq
      rw [e2] at g1
      cases g1
    · rw [List.getElem?_set_ne hq]
      exact g1
end F1
/-- an instruction that another stands behind -/
def f_nx : Instr → Bool
  | .goto _ => false
  | .tableswitch _ _ _ _ => false
  | .ireturn => false
  | .lreturn => false
  | .areturn => false
  | .return_ => false
  | .athrow => false
  | _ => true
def f_tg (pc : Nat) : Instr → List Int
  | .goto off => [(pc : Int) + off]
  | .ifCond _ off => [(pc : Int) + off]
  | .if_icmp _ off => [(pc : Int) + off]
  | .ifnull off => [(pc : Int) + off]
  | .ifnonnull off => [(pc : Int) + off]
  | .tableswitch d _ _ offs => (d :: offs.toList).map (fun o => (pc : Int) + o)
  | _ => []
def f_in (c : List s_I) (n : Nat) : Bool := c.any (fun r => Nat.beq r.1 n)
def f_key (o i : Nat) (p : Nat × Nat × Nat × Nat × Nat × Int × List Nat) : Bool := Nat.beq p.2.1 i && Nat.beq p.1 o
def f_no (o i : Nat) : Bool := g_lk.all (fun p => !f_key o i p)
/-- a method that isn't in B -/
def f_T (B : List Nat) (j : Nat) : Bool := Nat.blt j 302 && !y_isn j B
def f_cal (B : List Nat) (o i q kd a : Nat) : Bool := bif Nat.blt q 40 then Nat.beq kd 8 || f_T B a else f_no o i
def f_eff (E : Nat → Nat → Bool) (K : Nat → Bool) (B : List Nat) (o q kd a b : Nat) : Instr → Bool
  | .putfield i => bif Nat.blt q 40 then E a b else f_no o i
  | .invokevirtual i => f_cal B o i q kd a
  | .invokestatic i => f_cal B o i q kd a
  | .invokespecial i => f_cal B o i q kd a
  | .iastore => !K 0
  | .lastore => !K 1
  | .bastore => !K 2 && !K 3
  | .aastore => !K 4
  | _ => true
def f_ok1 (E : Nat → Nat → Bool) (K : Nat → Bool) (B : List Nat) (o : Nat) (full : List s_I) (r : s_I) (t : List s_I) : Bool := match r with
  | (pc, len, q, kd, a, b, v, ins) => f_eff E K B o q kd a b ins && ((!f_nx ins || s_go (pc, len, q, kd, a, b, v, ins) t) && (f_tg pc ins).all (fun t => decide (0 ≤ t) && f_in full t.toNat))
def f_okL (E : Nat → Nat → Bool) (K : Nat → Bool) (B : List Nat) (o : Nat) (full : List s_I) : List s_I → Bool
  | [] => true
  | r :: t => f_ok1 E K B o full r t && f_okL E K B o full t
def f_P (E : Nat → Nat → Bool) (K : Nat → Bool) (c : List s_I) (h0 : g_H) (P : g_S → Prop) (S : g_S) : Prop := f_in c S.1 = true → f_Fr E K h0 S.2.2.2.2.2 → P S
theorem f_con {ins : Instr} {x : Nat × Value} (h : g_con ins = some x) : f_nx ins = true := by
  cases ins <;> first | rfl | cases h
theorem f_load {ins : Instr} {x : Nat × Nat × (Value → Bool)} (h : g_load ins = some x) : f_nx ins = true := by
  cases ins <;> first | rfl | cases h
theorem f_stor {ins : Instr} {x : Nat × Nat × Bool × (Value → Bool)} (h : g_stor ins = some x) : f_nx ins = true := by
  cases ins <;> first | rfl | cases h
theorem f_ldc {ins : Instr} {x : Nat × Nat × Nat} (h : g_ldc ins = some x) : f_nx ins = true := by
  cases ins <;> first | rfl | cases h
theorem f_ib {ins : Instr} {x : Int32 → Int32 → Int32} (h : g_ib ins = some x) : f_nx ins = true := by
  cases ins <;> first | rfl | cases h
theorem f_id {ins : Instr} {x : Int32 → Int32 → Int32} (h : g_id ins = some x) : f_nx ins = true := by
  cases ins <;> first | rfl | cases h
theorem f_iu {ins : Instr} {x : Int32 → Int32} (h : g_iu ins = some x) : f_nx ins = true := by
  cases ins <;> first | rfl | cases h
theorem f_lb {ins : Instr} {x : Int64 → Int64 → Int64} (h : g_lb ins = some x) : f_nx ins = true := by
  cases ins <;> first | rfl | cases h
theorem f_ld {ins : Instr} {x : Int64 → Int64 → Int64} (h : g_ld ins = some x) : f_nx ins = true := by
  cases ins <;> first | rfl | cases h
def f_srt : Nat → List (Nat × Nat × Nat × Nat × Nat × Int × List Nat) → Bool
  | _, [] => true
  | k, p :: t => Nat.ble k (p.1 * 65536 + p.2.1) && f_srt (p.1 * 65536 + p.2.1 + 1) t
set_option maxRecDepth 100000 in
theorem f_srt_ok : f_srt 0 g_lk = true := by decide +kernel
theorem f_srt_ge : ∀ {l : List (Nat × Nat × Nat × Nat × Nat × Int × List Nat)} {k : Nat} {p : Nat × Nat × Nat × Nat × Nat × Int × List Nat}, f_srt k l = true → p ∈ l → k ≤ p.1 * 65536 + p.2.1
  | [], _, _, _, hp => by cases hp
  | q :: t, k, p, h, hp => by
    rw [f_srt, Bool.and_eq_true, Nat.ble_eq] at h
    rcases List.mem_cons.mp hp with rfl | hp
    · exact h.1
    · have := f_srt_ge h.2 hp
      omega
theorem f_srt_uq : ∀ {l : List (Nat × Nat × Nat × Nat × Nat × Int × List Nat)} {k : Nat} {p p' : Nat × Nat × Nat × Nat × Nat × Int × List Nat}, f_srt k l = true → p ∈ l → p' ∈ l → p.1 = p'.1 → p.2.1 = p'.2.1 → p = p'
  | [], _, _, _, _, hp, _, _, _ => by cases hp
  | q :: t, k, p, p', h, hp, hp', e1, e2 => by
    rw [f_srt, Bool.and_eq_true] at h
    rcases List.mem_cons.mp hp with h3 | h3
    · rcases List.mem_cons.mp hp' with h4 | h4
      · rw [h3, h4]
      · have := f_srt_ge h.2 h4
        rw [← h3, e1, e2] at this
        omega
    · rcases List.mem_cons.mp hp' with h4 | h4
      · have := f_srt_ge h.2 h3
        rw [e1, e2, h4] at this
        omega
      · exact f_srt_uq h.2 h3 h4 e1 e2
theorem f_no_ok {o i kd a b : Nat} {v : Int} {ps : List Nat} (h : f_no o i = true) (hm : (o, i, kd, a, b, v, ps) ∈ g_lk) : False := by
  unfold f_no at h
  have h1 := List.all_eq_true.mp h _ hm
  rw [show f_key o i (o, i, kd, a, b, v, ps) = true from by unfold f_key; simp only [Bool.and_eq_true]; exact ⟨Nat.beq_refl i, Nat.beq_refl o⟩] at h1
  cases h1
theorem f_okL_in {E : Nat → Nat → Bool} {K : Nat → Bool} {B : List Nat} {o : Nat} {full : List s_I} : ∀ {l : List s_I} {r : s_I}, f_okL E K B o full l = true → r ∈ l → ∃ t, f_ok1 E K B o full r t = true ∧ ∀ q ∈ t, q ∈ l
  | [], _, _, hr => by cases hr
  | r' :: t, r, h, hr => by
    rw [f_okL, Bool.and_eq_true] at h
    rcases List.mem_cons.mp hr with rfl | hr
    · exact ⟨t, h.1, fun q hq => List.mem_cons_of_mem _ hq⟩
    · obtain ⟨t', h1, h2⟩ := f_okL_in h.2 hr
      exact ⟨t', h1, fun q hq => List.mem_cons_of_mem _ (h2 q hq)⟩
/-- what may be said of an instruction that writes or calls -/
def f_efP (E : Nat → Nat → Bool) (K : Nat → Bool) (B : List Nat) (o : Nat) : Instr → Prop
  | .putfield i => ∀ kd ci k v ps, (o, i, kd, ci, k, v, ps) ∈ g_lk → E ci k = true
  | .invokevirtual i => ∀ kd j n v ps, (o, i, kd, j, n, v, ps) ∈ g_lk → kd = 8 ∨ f_T B j = true
  | .invokestatic i => ∀ kd j n v ps, (o, i, kd, j, n, v, ps) ∈ g_lk → kd = 8 ∨ f_T B j = true
  | .invokespecial i => ∀ kd j n v ps, (o, i, kd, j, n, v, ps) ∈ g_lk → kd = 8 ∨ f_T B j = true
  | .iastore => K 0 = false
  | .lastore => K 1 = false
  | .bastore => K 2 = false ∧ K 3 = false
  | .aastore => K 4 = false
  | _ => True
theorem f_pool {cc : ByteArray} {o pc len q kd a b : Nat} {v : Int} {ins : Instr} {i : Nat} (hI : s_okI cc o (pc, len, q, kd, a, b, v, ins) = true) (hi : s_pool ins = some i) (hq : q < 40) {kd' a' b' : Nat} {v' : Int} {ps' : List Nat} (hm : (o, i, kd', a', b', v', ps') ∈ g_lk) : kd' = kd ∧ a' = a ∧ b' = b := by
  unfold s_okI at hI
  rw [Bool.and_eq_true, Bool.and_eq_true] at hI
  have h := hI.2.2
  dsimp only at h
  rw [hi] at h
  simp only [Bool.or_eq_true, Nat.ble_eq, List.any_eq_true, Bool.and_eq_true, Nat.beq_eq] at h
  rcases h with h | ⟨p, hp, e1, e2, e3, e4, e5, -⟩
  · omega
  · have := f_srt_uq f_srt_ok hp hm e1 e2
    subst this
    exact ⟨e3, e4, e5⟩
theorem f_calP {B : List Nat} {cc : ByteArray} {o pc len q kd a b : Nat} {v : Int} {ins : Instr} {i : Nat} (hI : s_okI cc o (pc, len, q, kd, a, b, v, ins) = true) (hi : s_pool ins = some i) (h : f_cal B o i q kd a = true) : ∀ kd j n v ps, (o, i, kd, j, n, v, ps) ∈ g_lk → kd = 8 ∨ f_T B j = true := by
  intro kd' j n v' ps hm
  unfold f_cal at h
  cases e : Nat.blt q 40
  · rw [e, cond_false] at h
    exact (f_no_ok h hm).elim
  · rw [e, cond_true, Bool.or_eq_true, Nat.beq_eq] at h
    obtain ⟨h1, h2, -⟩ := f_pool hI hi (by rw [Nat.blt_eq] at e; exact e) hm
    rw [h1, h2]
    exact h
theorem f_k1 {b : Bool} (h : (!b) = true) : b = false := by
  cases b
  · rfl
  · cases h
theorem f_k2 {a b : Bool} (h : (!a && !b) = true) : a = false ∧ b = false := by
  rw [Bool.and_eq_true] at h
  exact ⟨f_k1 h.1, f_k1 h.2⟩
theorem f_effP {E : Nat → Nat → Bool} {K : Nat → Bool} {B : List Nat} {cc : ByteArray} {o pc len q kd a b : Nat} {v : Int} {ins : Instr} (hI : s_okI cc o (pc, len, q, kd, a, b, v, ins) = true) (h : f_eff E K B o q kd a b ins = true) : f_efP E K B o ins := by
  cases ins <;> first | trivial | exact f_calP hI rfl h | exact f_k1 h | exact f_k2 h | skip
  rename_i i
  intro kd' ci k v' ps hm
  have h : (bif Nat.blt q 40 then E a b else f_no o i) = true := h
  cases e : Nat.blt q 40
  · rw [e, cond_false] at h
    exact (f_no_ok h hm).elim
  · rw [e, cond_true] at h
    obtain ⟨-, h2, h3⟩ := f_pool hI rfl (by rw [Nat.blt_eq] at e; exact e) hm
    rw [h2, h3]
    exact h
theorem f_facts {E : Nat → Nat → Bool} {K : Nat → Bool} {B : List Nat} {cc : ByteArray} {o : Nat} {c : List s_I} (hI : ∀ r ∈ c, s_okI cc o r = true) (hB : f_okL E K B o c c = true) {pc len : Nat} {ins : Instr} (hin : f_in c pc = true) (hd : decode cc pc = .ok (ins, len)) : (f_nx ins = true → f_in c (pc + len) = true) ∧ (∀ t : Nat, ((t : Nat) : Int) ∈ f_tg pc ins → f_in c t = true) ∧ f_efP E K B o ins := by
  obtain ⟨r, hr, e⟩ := List.any_eq_true.mp hin
  have e := Nat.beq_eq.mp e
  have h1 := hI r hr
  obtain ⟨t, h2, ht⟩ := f_okL_in hB hr
  have h0 := h1
  unfold s_okI at h1
  rw [Bool.and_eq_true] at h1
  have h1 := h1.1
  rw [e, hd] at h1
  simp only [Bool.and_eq_true, Nat.beq_eq, decide_eq_true_eq] at h1
  obtain ⟨h3, h4, -⟩ := h1
  obtain ⟨pc', len', q, kd, a, b, v, ins'⟩ := r
  have e : pc' = pc := e
  have h3 : ins = ins' := h3
  have h4 : len = len' := h4
  subst e h3 h4
  unfold f_ok1 at h2
  simp only [Bool.and_eq_true] at h2
  obtain ⟨h5, h6, h7⟩ := h2
  refine ⟨fun hn => ?_, fun t ht => ?_, f_effP h0 h5⟩
  · rw [hn] at h6
    have h6 : s_go (pc', len, q, kd, a, b, v, ins) t = true := h6
    cases t with
    | nil => cases h6
    | cons r' t' =>
      have h6 : Nat.beq r'.1 (pc' + len) = true := h6
      exact List.any_eq_true.mpr ⟨r', ht r' List.mem_cons_self, h6⟩
  · have h8 := List.all_eq_true.mp h7 _ ht
    rw [Bool.and_eq_true] at h8
    have := h8.2
    rw [Int.toNat_natCast] at this
    exact this
section F2
variable {CALL : Nat → List Value → g_H → Nat → Nat → (Option Value → g_H → Prop) → Prop} {o nL : Nat} {ini : Bool} {bc bs : Nat} {cc : ByteArray} {P : g_S → Prop} {E : Nat → Nat → Bool} {K : Nat → Bool} {B : List Nat} {c : List s_I} {h0 : g_H}
theorem f_cl (hcl : ∀ S, g_pre CALL o nL ini bc bs cc P S → P S) (hI : ∀ r ∈ c, s_okI cc o r = true) (hB : f_okL E K B o c c = true) (hC : ∀ (j : Nat) (as : List Value) (h : g_H) (mc ms : Nat) (p1 p2 : Option Value → g_H → Prop), f_T B j = true → CALL j as h mc ms p1 → (∀ r h', p1 r h' → f_Fr E K h h' → p2 r h') → CALL j as h mc ms p2) : ∀ S, g_pre CALL o nL ini bc bs cc (f_P E K c h0 P) S → f_P E K c h0 P S := by
  intro S hS hin hF
  obtain ⟨pc, L, st, cn, sn, h⟩ := S
  have hin : f_in c pc = true := hin
  have hF : f_Fr E K h0 h := hF
  obtain ⟨ins, len, hd, hrows⟩ := hS
  have hd : decode cc pc = .ok (ins, len) := hd
  obtain ⟨nx, tg, ef⟩ := f_facts hI hB hin hd
  refine hcl _ ⟨ins, len, hd, ?_⟩
  rcases hrows with hR | hR | hR | hR | hR
  · rcases hR with hR | hR | hR | hR | hR | hR | hR | hR | hR | hR | hR | hR
    · obtain ⟨v, e, hp⟩ := hR
      exact Or.inl (Or.inl (⟨v, e, hp (nx (f_con e)) hF⟩))
    · obtain ⟨i, t, v, e, hm, ht, hp⟩ := hR
      exact Or.inl (Or.inr (Or.inl (⟨i, t, v, e, hm, ht, hp (nx (f_load e)) hF⟩)))
    · obtain ⟨i, t, v, rest, e, hs, ht, hl, hp⟩ := hR
      exact Or.inl (Or.inr (Or.inr (Or.inl (⟨i, t, v, rest, e, hs, ht, hl, hp (nx (f_stor e)) hF⟩))))
    · obtain ⟨i, t, v, rest, e, hs, ht, hl, hp⟩ := hR
      exact Or.inl (Or.inr (Or.inr (Or.inr (Or.inl (⟨i, t, v, rest, e, hs, ht, hl, hp (nx (f_stor e)) hF⟩)))))
    · obtain ⟨i, n, x, rfl, hl, hm, hi, hp⟩ := hR
      exact Or.inl (Or.inr (Or.inr (Or.inr (Or.inr (Or.inl (⟨i, n, x, rfl, hl, hm, hi, hp (nx (rfl)) hF⟩))))))
    · obtain ⟨v, rest, rfl, rfl, hs, hv, hp⟩ := hR
      exact Or.inl (Or.inr (Or.inr (Or.inr (Or.inr (Or.inr (Or.inl (⟨v, rest, rfl, rfl, hs, hv, hp (nx (rfl)) hF⟩)))))))
    · obtain ⟨v, rest, rfl, rfl, hs, hv, hp⟩ := hR
      exact Or.inl (Or.inr (Or.inr (Or.inr (Or.inr (Or.inr (Or.inr (Or.inl (⟨v, rest, rfl, rfl, hs, hv, hp (nx (rfl)) hF⟩))))))))
    · obtain ⟨v, u, rest, rfl, rfl, hs, hv, hu, hp⟩ := hR
      exact Or.inl (Or.inr (Or.inr (Or.inr (Or.inr (Or.inr (Or.inr (Or.inr (Or.inl (⟨v, u, rest, rfl, rfl, hs, hv, hu, hp (nx (rfl)) hF⟩)))))))))
    · obtain ⟨v, u, rest, rfl, rfl, hs, hv, hu, hp⟩ := hR
      exact Or.inl (Or.inr (Or.inr (Or.inr (Or.inr (Or.inr (Or.inr (Or.inr (Or.inr (Or.inl (⟨v, u, rest, rfl, rfl, hs, hv, hu, hp (nx (rfl)) hF⟩))))))))))
    · obtain ⟨v, rest, rfl, rfl, hs, hv, hp⟩ := hR
      exact Or.inl (Or.inr (Or.inr (Or.inr (Or.inr (Or.inr (Or.inr (Or.inr (Or.inr (Or.inr (Or.inl (⟨v, rest, rfl, rfl, hs, hv, hp (nx (rfl)) hF⟩)))))))))))
    · obtain ⟨i, kd, a0, b0, v, ps, e, hm, hp⟩ := hR
      exact Or.inl (Or.inr (Or.inr (Or.inr (Or.inr (Or.inr (Or.inr (Or.inr (Or.inr (Or.inr (Or.inr (Or.inl (⟨i, kd, a0, b0, v, ps, e, hm, hp (nx (f_ldc e)) hF⟩))))))))))))
    · obtain ⟨i, kd, a0, b0, v, ps, rfl, rfl, hk, hm, hp⟩ := hR
      exact Or.inl (Or.inr (Or.inr (Or.inr (Or.inr (Or.inr (Or.inr (Or.inr (Or.inr (Or.inr (Or.inr (Or.inr (⟨i, kd, a0, b0, v, ps, rfl, rfl, hk, hm, hp (nx (rfl)) hF⟩))))))))))))
  · rcases hR with hR | hR | hR | hR | hR | hR | hR | hR | hR | hR | hR | hR | hR
    · obtain ⟨f, x, y, rest, e, rfl, hs, hp⟩ := hR
      exact Or.inr (Or.inl (Or.inl (⟨f, x, y, rest, e, rfl, hs, hp (nx (f_ib e)) hF⟩)))
    · obtain ⟨f, x, y, rest, e, rfl, hy, hs, hp⟩ := hR
      exact Or.inr (Or.inl (Or.inr (Or.inl (⟨f, x, y, rest, e, rfl, hy, hs, hp (nx (f_id e)) hF⟩))))
    · obtain ⟨f, x, rest, e, rfl, hs, hp⟩ := hR
      exact Or.inr (Or.inl (Or.inr (Or.inr (Or.inl (⟨f, x, rest, e, rfl, hs, hp (nx (f_iu e)) hF⟩)))))
    · obtain ⟨f, x, y, rest, e, rfl, hs, hp⟩ := hR
      exact Or.inr (Or.inl (Or.inr (Or.inr (Or.inr (Or.inl (⟨f, x, y, rest, e, rfl, hs, hp (nx (f_lb e)) hF⟩))))))
    · obtain ⟨f, x, y, rest, e, rfl, hy, hs, hp⟩ := hR
      exact Or.inr (Or.inl (Or.inr (Or.inr (Or.inr (Or.inr (Or.inl (⟨f, x, y, rest, e, rfl, hy, hs, hp (nx (f_ld e)) hF⟩)))))))
    · obtain ⟨x, rest, rfl, rfl, hs, hp⟩ := hR
      exact Or.inr (Or.inl (Or.inr (Or.inr (Or.inr (Or.inr (Or.inr (Or.inl (⟨x, rest, rfl, rfl, hs, hp (nx (rfl)) hF⟩))))))))
    · obtain ⟨x, y, rest, rfl, rfl, hs, hp⟩ := hR
      exact Or.inr (Or.inl (Or.inr (Or.inr (Or.inr (Or.inr (Or.inr (Or.inr (Or.inl (⟨x, y, rest, rfl, rfl, hs, hp (nx (rfl)) hF⟩)))))))))
    · obtain ⟨x, rest, rfl, rfl, hs, hp⟩ := hR
      exact Or.inr (Or.inl (Or.inr (Or.inr (Or.inr (Or.inr (Or.inr (Or.inr (Or.inr (Or.inl (⟨x, rest, rfl, rfl, hs, hp (nx (rfl)) hF⟩))))))))))
    · obtain ⟨x, rest, rfl, rfl, hs, hp⟩ := hR
      exact Or.inr (Or.inl (Or.inr (Or.inr (Or.inr (Or.inr (Or.inr (Or.inr (Or.inr (Or.inr (Or.inl (⟨x, rest, rfl, rfl, hs, hp (nx (rfl)) hF⟩)))))))))))
    · obtain ⟨x, rest, rfl, rfl, hs, hp⟩ := hR
      exact Or.inr (Or.inl (Or.inr (Or.inr (Or.inr (Or.inr (Or.inr (Or.inr (Or.inr (Or.inr (Or.inr (Or.inl (⟨x, rest, rfl, rfl, hs, hp (nx (rfl)) hF⟩))))))))))))
    · obtain ⟨x, y, rest, rfl, rfl, hv, hs, hp⟩ := hR
      exact Or.inr (Or.inl (Or.inr (Or.inr (Or.inr (Or.inr (Or.inr (Or.inr (Or.inr (Or.inr (Or.inr (Or.inr (Or.inl (⟨x, y, rest, rfl, rfl, hv, hs, hp (nx (rfl)) hF⟩)))))))))))))
    · obtain ⟨x, y, rest, rfl, rfl, hv, hs, hp⟩ := hR
      exact Or.inr (Or.inl (Or.inr (Or.inr (Or.inr (Or.inr (Or.inr (Or.inr (Or.inr (Or.inr (Or.inr (Or.inr (Or.inr (Or.inl (⟨x, y, rest, rfl, rfl, hv, hs, hp (nx (rfl)) hF⟩))))))))))))))
    · obtain ⟨op, x, y, rest, rfl, rfl, hs, hp⟩ := hR
      exact Or.inr (Or.inl (Or.inr (Or.inr (Or.inr (Or.inr (Or.inr (Or.inr (Or.inr (Or.inr (Or.inr (Or.inr (Or.inr (Or.inr (⟨op, x, y, rest, rfl, rfl, hs, hp (nx (rfl)) hF⟩))))))))))))))
  · rcases hR with hR | hR | hR | hR | hR | hR
    · obtain ⟨off, t, rfl, rfl, ht, hp⟩ := hR
      exact Or.inr (Or.inr (Or.inl (Or.inl (⟨off, t, rfl, rfl, ht, hp (tg t (by rw [← ht]; exact List.mem_cons_self)) hF⟩))))
    · obtain ⟨cd, off, t, x, rest, rfl, rfl, ht, hs, hp⟩ := hR
      exact Or.inr (Or.inr (Or.inl (Or.inr (Or.inl (⟨cd, off, t, x, rest, rfl, rfl, ht, hs, by
      have hp : f_P E K c h0 P (if g_c1 x cd = true then t else pc + 3, L, rest, cn, sn, h) := hp
      show P (if g_c1 x cd = true then t else pc + 3, L, rest, cn, sn, h)
      split at hp
      next e => rw [if_pos e]; exact hp (tg t (by rw [← ht]; exact List.mem_cons_self)) hF
      next e => rw [if_neg e]; exact hp (nx rfl) hF⟩)))))
    · obtain ⟨cd, off, t, x, y, rest, rfl, rfl, ht, hs, hp⟩ := hR
      exact Or.inr (Or.inr (Or.inl (Or.inr (Or.inr (Or.inl (⟨cd, off, t, x, y, rest, rfl, rfl, ht, hs, by
      have hp : f_P E K c h0 P (if g_c2 x y cd = true then t else pc + 3, L, rest, cn, sn, h) := hp
      show P (if g_c2 x y cd = true then t else pc + 3, L, rest, cn, sn, h)
      split at hp
      next e => rw [if_pos e]; exact hp (tg t (by rw [← ht]; exact List.mem_cons_self)) hF
      next e => rw [if_neg e]; exact hp (nx rfl) hF⟩))))))
    · obtain ⟨off, t, a, rest, rfl, rfl, ht, hp⟩ := hR
      exact Or.inr (Or.inr (Or.inl (Or.inr (Or.inr (Or.inr (Or.inl (⟨off, t, a, rest, rfl, rfl, ht, by
      rcases hp with ⟨hs, hp⟩ | ⟨hs, hp⟩
      · exact Or.inl ⟨hs, hp (tg t (by rw [← ht]; exact List.mem_cons_self)) hF⟩
      · exact Or.inr ⟨hs, hp (nx rfl) hF⟩⟩)))))))
    · obtain ⟨off, t, a, rest, rfl, rfl, ht, hp⟩ := hR
      exact Or.inr (Or.inr (Or.inl (Or.inr (Or.inr (Or.inr (Or.inr (Or.inl (⟨off, t, a, rest, rfl, rfl, ht, by
      rcases hp with ⟨hs, hp⟩ | ⟨hs, hp⟩
      · exact Or.inl ⟨hs, hp (nx rfl) hF⟩
      · exact Or.inr ⟨hs, hp (tg t (by rw [← ht]; exact List.mem_cons_self)) hF⟩⟩))))))))
    · obtain ⟨dflt, lo, hi, offs, x, rest, off, t, rfl, hs, ht, hsel, hp⟩ := hR
      exact Or.inr (Or.inr (Or.inl (Or.inr (Or.inr (Or.inr (Or.inr (Or.inr (⟨dflt, lo, hi, offs, x, rest, off, t, rfl, hs, ht, hsel, hp (tg t (by
      rw [← ht]
      refine List.mem_map.mpr ⟨off, ?_, rfl⟩
      rcases hsel with ⟨-, -, h3⟩ | ⟨-, h3⟩
      · exact List.mem_cons_of_mem _ (Array.mem_toList_iff.mpr (Array.mem_of_getElem? h3))
      · rw [h3]; exact List.mem_cons_self)) hF⟩))))))))
  · rcases hR with hR | hR | hR | hR | hR | hR | hR | hR | hR | hR | hR | hR | hR | hR | hR
    · obtain ⟨i, kd, ci, k, v0, ps, q, a, n, f, rest, rfl, rfl, hkd, hm, hs, hg, hk, hp⟩ := hR
      exact Or.inr (Or.inr (Or.inr (Or.inl (Or.inl (⟨i, kd, ci, k, v0, ps, q, a, n, f, rest, rfl, rfl, hkd, hm, hs, hg, hk, hp (nx rfl) hF⟩)))))
    · obtain ⟨i, kd, ci, k, v0, ps, q, a, n, f, v, ty, rest, rfl, rfl, hkd, hm, hs, hg, hk, hf, ht, hn, hft, hp⟩ := hR
      exact Or.inr (Or.inr (Or.inr (Or.inl (Or.inr (Or.inl (⟨i, kd, ci, k, v0, ps, q, a, n, f, v, ty, rest, rfl, rfl, hkd, hm, hs, hg, hk, hf, ht, hn, hft, hp (nx rfl) (f_setF hF hg (ef _ _ _ _ _ hm))⟩))))))
    · obtain ⟨q, a, n, f, j, rest, rfl, rfl, hs, hg, hv, hp⟩ := hR
      exact Or.inr (Or.inr (Or.inr (Or.inl (Or.inr (Or.inr (Or.inl (⟨q, a, n, f, j, rest, rfl, rfl, hs, hg, hv, hp (nx rfl) hF⟩)))))))
    · obtain ⟨q, a, n, f, j, rest, rfl, rfl, hs, hg, hv, hp⟩ := hR
      exact Or.inr (Or.inr (Or.inr (Or.inl (Or.inr (Or.inr (Or.inr (Or.inl (⟨q, a, n, f, j, rest, rfl, rfl, hs, hg, hv, hp (nx rfl) hF⟩))))))))
    · obtain ⟨q, a, t, n, f, j, rest, rfl, rfl, hs, ht, hg, hv, hp⟩ := hR
      exact Or.inr (Or.inr (Or.inr (Or.inl (Or.inr (Or.inr (Or.inr (Or.inr (Or.inl (⟨q, a, t, n, f, j, rest, rfl, rfl, hs, ht, hg, hv, hp (nx rfl) hF⟩)))))))))
    · obtain ⟨q, a, n, f, j, rest, rfl, rfl, hs, hg, hv, hp⟩ := hR
      exact Or.inr (Or.inr (Or.inr (Or.inl (Or.inr (Or.inr (Or.inr (Or.inr (Or.inr (Or.inl (⟨q, a, n, f, j, rest, rfl, rfl, hs, hg, hv, hp (nx rfl) hF⟩))))))))))
    · obtain ⟨q, a, n, f, j, x, rest, rfl, rfl, hs, hg, hv, hp⟩ := hR
      exact Or.inr (Or.inr (Or.inr (Or.inl (Or.inr (Or.inr (Or.inr (Or.inr (Or.inr (Or.inr (Or.inl (⟨q, a, n, f, j, x, rest, rfl, rfl, hs, hg, hv, hp (nx rfl) (f_setA hF hg ef)⟩)))))))))))
    · obtain ⟨q, a, n, f, j, x, rest, rfl, rfl, hs, hg, hv, hp⟩ := hR
      exact Or.inr (Or.inr (Or.inr (Or.inl (Or.inr (Or.inr (Or.inr (Or.inr (Or.inr (Or.inr (Or.inr (Or.inl (⟨q, a, n, f, j, x, rest, rfl, rfl, hs, hg, hv, hp (nx rfl) (f_setA hF hg ef)⟩))))))))))))
    · obtain ⟨q, a, n, f, j, x, rest, rfl, rfl, hs, hg, hv, hp⟩ := hR
      exact Or.inr (Or.inr (Or.inr (Or.inl (Or.inr (Or.inr (Or.inr (Or.inr (Or.inr (Or.inr (Or.inr (Or.inr (Or.inl (⟨q, a, n, f, j, x, rest, rfl, rfl, hs, hg, hv, hp (nx rfl) (f_setA hF hg ef.1)⟩)))))))))))))
    · obtain ⟨q, a, n, f, j, x, rest, rfl, rfl, hs, hg, hv, hp⟩ := hR
      exact Or.inr (Or.inr (Or.inr (Or.inl (Or.inr (Or.inr (Or.inr (Or.inr (Or.inr (Or.inr (Or.inr (Or.inr (Or.inr (Or.inl (⟨q, a, n, f, j, x, rest, rfl, rfl, hs, hg, hv, hp (nx rfl) (f_setA hF hg ef.2)⟩))))))))))))))
    · obtain ⟨q, a, n, f, j, v, qk, nk, fk, rest, rfl, rfl, hs, hg, hgk, hv, hp⟩ := hR
      exact Or.inr (Or.inr (Or.inr (Or.inl (Or.inr (Or.inr (Or.inr (Or.inr (Or.inr (Or.inr (Or.inr (Or.inr (Or.inr (Or.inr (Or.inl (⟨q, a, n, f, j, v, qk, nk, fk, rest, rfl, rfl, hs, hg, hgk, hv, hp (nx rfl) (f_setA hF hg ef)⟩)))))))))))))))
    · obtain ⟨q, a, t, n, f, rest, rfl, rfl, hs, ht, hg, hp⟩ := hR
      exact Or.inr (Or.inr (Or.inr (Or.inl (Or.inr (Or.inr (Or.inr (Or.inr (Or.inr (Or.inr (Or.inr (Or.inr (Or.inr (Or.inr (Or.inr (Or.inl (⟨q, a, t, n, f, rest, rfl, rfl, hs, ht, hg, hp (nx rfl) hF⟩))))))))))))))))
    · obtain ⟨t, x, N, rest, rfl, rfl, ht, hs, hx, hN, hN2, hc1, hc2, hp⟩ := hR
      exact Or.inr (Or.inr (Or.inr (Or.inl (Or.inr (Or.inr (Or.inr (Or.inr (Or.inr (Or.inr (Or.inr (Or.inr (Or.inr (Or.inr (Or.inr (Or.inr (Or.inl (⟨t, x, N, rest, rfl, rfl, ht, hs, hx, hN, hN2, hc1, hc2, fun q => hp q (nx rfl) (f_app hF)⟩)))))))))))))))))
    · obtain ⟨i, ps, x, N, rest, b, v, rfl, rfl, hm, hs, hx, hN, hN2, hc1, hc2, hp⟩ := hR
      exact Or.inr (Or.inr (Or.inr (Or.inl (Or.inr (Or.inr (Or.inr (Or.inr (Or.inr (Or.inr (Or.inr (Or.inr (Or.inr (Or.inr (Or.inr (Or.inr (Or.inr (Or.inl (⟨i, ps, x, N, rest, b, v, rfl, rfl, hm, hs, hx, hN, hN2, hc1, hc2, fun q => hp q (nx rfl) (f_app hF)⟩))))))))))))))))))
    · obtain ⟨i, ci, N, v, ps, rfl, rfl, hm, hc1, hc2, hp⟩ := hR
      exact Or.inr (Or.inr (Or.inr (Or.inl (Or.inr (Or.inr (Or.inr (Or.inr (Or.inr (Or.inr (Or.inr (Or.inr (Or.inr (Or.inr (Or.inr (Or.inr (Or.inr (Or.inr (⟨i, ci, N, v, ps, rfl, rfl, hm, hc1, hc2, fun q => hp q (nx rfl) (f_app hF)⟩))))))))))))))))))
  · rcases hR with hR | hR | hR | hR
    · obtain ⟨i, kd, j, n, v, ps, As, b, rest, q, nf, f, mc, ms, rfl, rfl, hkd, hm, hs, hl, hg, hr, hc1, hc2, hcall⟩ := hR
      exact Or.inr (Or.inr (Or.inr (Or.inr (Or.inl (⟨i, kd, j, n, v, ps, As, b, rest, q, nf, f, mc, ms, rfl, rfl, hkd, hm, hs, hl, hg, hr, hc1, hc2, hC j _ _ mc ms _ _ ((ef _ _ _ _ _ hm).resolve_left (by omega)) hcall (fun r h9 hp hF9 => hp (nx rfl) (f_trans hF hF9))⟩)))))
    · obtain ⟨i, kd, j, n, v, ps, As, rest, mc, ms, rfl, rfl, hkd, hm, hs, hl, hr, hc1, hc2, hcall⟩ := hR
      exact Or.inr (Or.inr (Or.inr (Or.inr (Or.inr (Or.inl (⟨i, kd, j, n, v, ps, As, rest, mc, ms, rfl, rfl, hkd, hm, hs, hl, hr, hc1, hc2, hC j _ _ mc ms _ _ ((ef _ _ _ _ _ hm).resolve_left (by omega)) hcall (fun r h9 hp hF9 => hp (nx rfl) (f_trans hF hF9))⟩))))))
    · obtain ⟨i, kd, j, n, v, ps, As, b, rest, mc, ms, rfl, rfl, hkd, hm, hs, hl, hr, hc1, hc2, hcall⟩ := hR
      exact Or.inr (Or.inr (Or.inr (Or.inr (Or.inr (Or.inr (Or.inl (⟨i, kd, j, n, v, ps, As, b, rest, mc, ms, rfl, rfl, hkd, hm, hs, hl, hr, hc1, hc2, hC j _ _ mc ms _ _ ((ef _ _ _ _ _ hm).resolve_left (by omega)) hcall (fun r h9 hp hF9 => hp (nx rfl) (f_trans hF hF9))⟩)))))))
    · obtain ⟨i, a0, b0, v, ps, a, rest, rfl, rfl, hm, hs, hr, hp⟩ := hR
      exact Or.inr (Or.inr (Or.inr (Or.inr (Or.inr (Or.inr (Or.inr (⟨i, a0, b0, v, ps, a, rest, rfl, rfl, hm, hs, hr, hp (nx rfl) hF⟩)))))))
end F2
def f_chk (E : Nat → Nat → Bool) (K : Nat → Bool) (B : List Nat) (j : Nat) : Bool := match s_mi[j]? with
  | some q => f_in (s_codes.getD j []) 0 && f_okL E K B q.2.2.2.2.2 (s_codes.getD j []) (s_codes.getD j [])
  | none => false
def f_TB (E : Nat → Nat → Bool) (K : Nat → Bool) (B : List Nat) (lo n : Nat) : Bool := (List.range n).all (fun i => y_isn (lo + i) B || f_chk E K B (lo + i))
theorem f_TB_at {E : Nat → Nat → Bool} {K : Nat → Bool} {B : List Nat} {lo n j : Nat} (h : f_TB E K B lo n = true) (h1 : lo ≤ j) (h2 : j < lo + n) (hj : f_T B j = true) : f_chk E K B j = true := by
  have h3 := List.all_eq_true.mp h (j - lo) (List.mem_range.mpr (by omega))
  rw [show lo + (j - lo) = j by omega, Bool.or_eq_true] at h3
  unfold f_T at hj
  rw [Bool.and_eq_true, Bool.not_eq_true'] at hj
  rw [hj.2] at h3
  exact h3.resolve_left (by decide)
def f_all (E : Nat → Nat → Bool) (K : Nat → Bool) (B : List Nat) : Prop := ∀ j, f_T B j = true → f_chk E K B j = true
theorem f_T1 {E : Nat → Nat → Bool} {K : Nat → Bool} {B : List Nat} (hT : f_all E K B) {j : Nat} (hj : f_T B j = true) : f_in (s_codes.getD j []) 0 = true ∧ (∀ r ∈ s_codes.getD j [], s_okI (g_by j) (g_me j).2.1 r = true) ∧ f_okL E K B (g_me j).2.1 (s_codes.getD j []) (s_codes.getD j []) = true := by
  have h1 := hT j hj
  unfold f_chk at h1
  split at h1
  next q e =>
    rw [Bool.and_eq_true] at h1
    have m := (s_mi_ok j q e).2.2.2.2
    refine ⟨h1.1, ?_, ?_⟩
    · rw [m]
      exact (s_codes_ok j q e).2
    · rw [m]
      exact h1.2
  next => cases h1
theorem f_end {cc : ByteArray} {rt : Option FieldType} {bc bs : Nat} {p1 p2 : Option Value → g_H → Prop} {S : g_S} (hS : g_end cc rt bc bs p1 S) (hp : ∀ r, p1 r S.2.2.2.2.2 → p2 r S.2.2.2.2.2) : g_end cc rt bc bs p2 S := by
  obtain ⟨e1, e2, e3⟩ := hS
  refine ⟨e1, e2, ?_⟩
  rcases e3 with ⟨v, ty, a1, a2, a3, a4, a5⟩ | ⟨v, a1, a2, a3, a4⟩ | ⟨v, n, a1, a2, a3, a4, a5⟩ | ⟨a1, a2, a3, a4⟩
  · exact Or.inl ⟨v, ty, a1, a2, a3, a4, hp _ a5⟩
  · exact Or.inr (Or.inl ⟨v, a1, a2, a3, hp _ a4⟩)
  · exact Or.inr (Or.inr (Or.inl ⟨v, n, a1, a2, a3, a4, hp _ a5⟩))
  · exact Or.inr (Or.inr (Or.inr ⟨a1, a2, a3, hp _ a4⟩))
/-- a run's frame -/
theorem f_run {E : Nat → Nat → Bool} {K : Nat → Bool} {B : List Nat} (hT : f_all E K B) : ∀ (d j : Nat) (as : List Value) (h : g_H) (mc ms : Nat) (p1 p2 : Option Value → g_H → Prop), f_T B j = true → g_run d j as h mc ms p1 → (∀ r h', p1 r h' → f_Fr E K h h' → p2 r h') → g_run d j as h mc ms p2
  | 0, _, _, _, _, _, _, _, _, hr, _ => hr.elim
  | d + 1, j, as, h, mc, ms, p1, p2, hj, hr, hp => by
    obtain ⟨m1, m2, hwp⟩ := hr
    obtain ⟨t1, t2, t3⟩ := f_T1 hT hj
    refine ⟨m1, m2, fun P hend hcl => ?_⟩
    exact hwp (f_P E K (s_codes.getD j []) h P) (fun S hS _ hF => hend S (f_end hS (fun r h1 => hp r _ h1 hF))) (f_cl hcl t2 t3 (f_run hT d)) t1 f_refl

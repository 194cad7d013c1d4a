-- instructions that a fresh object reaches in of and row; calls with them; the throw as a run
def x_c_208 : List s_I := [(0, 1, 1, 0, 0, 2, 0, .aload_n 0), (1, 3, 26, 0, 11, 0, 0, .getfield 10), (4, 1, 1, 0, 1, 0, 0, .iload_n 1), (5, 3, 34, 2, 20, 1, 0, .invokevirtual 101), (8, 3, 21, 0, 21, 1, 0, .ifCond .ne 13), (11, 3, 50, 0, 0, 0, 0, .new 163), (14, 1, 5, 0, 0, 0, 0, .dup)]
def x_c_209 : List s_I := [(0, 1, 1, 0, 0, 2, 0, .aload_n 0), (1, 3, 26, 0, 11, 9, 0, .getfield 72), (4, 1, 1, 0, 1, 0, 0, .iload_n 1), (5, 3, 34, 2, 210, 1, 0, .invokevirtual 427), (8, 3, 21, 0, 22, 1, 0, .ifCond .ne 14), (11, 3, 50, 0, 0, 0, 0, .new 163), (14, 1, 5, 0, 0, 0, 0, .dup)]
def x_c_210 : List s_I := [(0, 1, 1, 0, 1, 0, 0, .iload_n 1), (1, 3, 21, 0, 16, 2, 0, .ifCond .lt 15), (4, 1, 1, 0, 1, 0, 0, .iload_n 1), (5, 1, 1, 0, 0, 2, 0, .aload_n 0), (6, 3, 26, 0, 6, 1, 0, .getfield 15), (9, 3, 22, 0, 16, 3, 0, .if_icmp .ge 7), (12, 1, 0, 0, 0, 0, 1, .iconst 1), (13, 3, 20, 0, 17, 0, 0, .goto 4), (16, 1, 0, 0, 0, 0, 0, .iconst 0), (17, 1, 40, 0, 0, 0, 0, .ireturn)]
def x_c_213 : List s_I := [(0, 1, 1, 0, 0, 2, 0, .aload_n 0), (1, 3, 26, 0, 12, 21, 0, .getfield 155), (4, 1, 40, 0, 0, 0, 0, .ireturn)]
def x_c_224 : List s_I := [(0, 1, 1, 0, 0, 2, 0, .aload_n 0), (1, 1, 0, 0, 0, 0, 0, .iconst 0), (2, 3, 27, 0, 12, 21, 0, .putfield 155), (5, 1, 1, 0, 0, 2, 0, .aload_n 0), (6, 1, 1, 0, 1, 0, 0, .iload_n 1), (7, 3, 34, 2, 218, 1, 0, .invokevirtual 189), (10, 3, 21, 0, 22, 0, 0, .ifCond .eq 12), (13, 1, 1, 0, 2, 0, 0, .iload_n 2), (14, 1, 0, 0, 0, 0, 0, .iconst 0), (15, 1, 0, 0, 0, 0, 5, .iconst 5), (16, 3, 35, 4, 215, 3, 0, .invokestatic 178), (19, 3, 21, 0, 27, 1, 0, .ifCond .ne 8), (22, 1, 1, 0, 0, 2, 0, .aload_n 0), (23, 3, 34, 2, 225, 0, 0, .invokevirtual 206), (26, 1, 40, 0, 0, 0, 0, .ireturn)]
def x_c_225 : List s_I := [(0, 1, 1, 0, 0, 2, 0, .aload_n 0), (1, 1, 0, 0, 0, 0, 1, .iconst 1), (2, 3, 27, 0, 12, 21, 0, .putfield 155), (5, 1, 0, 0, 0, 0, 0, .iconst 0), (6, 1, 40, 0, 0, 0, 0, .ireturn)]
def x_c_302 : List s_I := [(0, 1, 1, 0, 0, 2, 0, .aload_n 0), (1, 1, 0, 0, 0, 0, 0, .iconst 0), (2, 3, 27, 0, 12, 21, 0, .putfield 155), (5, 1, 1, 0, 1, 0, 0, .iload_n 1), (6, 1, 0, 0, 0, 0, 0, .iconst 0), (7, 1, 1, 0, 0, 2, 0, .aload_n 0), (8, 3, 26, 0, 12, 20, 0, .getfield 158), (11, 1, 0, 0, 0, 0, 1, .iconst 1), (12, 1, 11, 0, 1, 0, 0, .isub), (13, 3, 35, 4, 215, 3, 0, .invokestatic 178), (16, 3, 21, 0, 28, 0, 0, .ifCond .eq 12), (28, 1, 1, 0, 0, 2, 0, .aload_n 0), (29, 3, 34, 2, 225, 0, 0, .invokevirtual 206), (32, 1, 17, 0, 0, 0, 0, .i2l), (33, 1, 41, 0, 0, 0, 0, .lreturn)]
set_option maxRecDepth 20000 in
def x_codes : List (List s_I) := (((((((s_codes).set 208 x_c_208).set 209 x_c_209).set 210 x_c_210).set 213 x_c_213).set 224 x_c_224).set 225 x_c_225).set 302 x_c_302
set_option maxRecDepth 100000 in
theorem x_ck_208 : (x_c_208.all (s_okI (g_by 208) (g_me 208).2.1) && Nat.beq (s_pc x_c_208) 0) = true := by decide +kernel
set_option maxRecDepth 100000 in
theorem x_ck_209 : (x_c_209.all (s_okI (g_by 209) (g_me 209).2.1) && Nat.beq (s_pc x_c_209) 0) = true := by decide +kernel
set_option maxRecDepth 100000 in
theorem x_ck_210 : (x_c_210.all (s_okI (g_by 210) (g_me 210).2.1) && Nat.beq (s_pc x_c_210) 0) = true := by decide +kernel
set_option maxRecDepth 100000 in
theorem x_ck_213 : (x_c_213.all (s_okI (g_by 213) (g_me 213).2.1) && Nat.beq (s_pc x_c_213) 0) = true := by decide +kernel
set_option maxRecDepth 100000 in
theorem x_ck_224 : (x_c_224.all (s_okI (g_by 224) (g_me 224).2.1) && Nat.beq (s_pc x_c_224) 0) = true := by decide +kernel
set_option maxRecDepth 100000 in
theorem x_ck_225 : (x_c_225.all (s_okI (g_by 225) (g_me 225).2.1) && Nat.beq (s_pc x_c_225) 0) = true := by decide +kernel
set_option maxRecDepth 100000 in
theorem x_ck_302 : (x_c_302.all (s_okI (g_by 302) (g_me 302).2.1) && Nat.beq (s_pc x_c_302) 0) = true := by decide +kernel
theorem x_set_ok {cs : List (List s_I)} {n : Nat} {c : List s_I} (hcs : ∀ j q, s_mi[j]? = some q → s_pc (cs.getD j []) = 0 ∧ ∀ r ∈ cs.getD j [], s_okI (g_by j) q.2.2.2.2.2 r = true) (hc : (c.all (s_okI (g_by n) (g_me n).2.1) && Nat.beq (s_pc c) 0) = true) :
    ∀ j q, s_mi[j]? = some q → s_pc ((cs.set n c).getD j []) = 0 ∧ ∀ r ∈ (cs.set n c).getD j [], s_okI (g_by j) q.2.2.2.2.2 r = true := by
  intro j q hq
  by_cases hn : n = j
  · subst hn
    by_cases hl : n < cs.length
    · have e : (cs.set n c).getD n [] = c := by rw [List.getD_eq_getElem?_getD, List.getElem?_set_self hl]; rfl
      rw [e]
      rw [Bool.and_eq_true, Nat.beq_eq] at hc
      refine ⟨hc.2, ?_⟩
      rw [← (s_mi_ok n q hq).2.2.2.2]
      exact List.all_eq_true.mp hc.1
    · rw [List.set_eq_of_length_le (by omega)]
      exact hcs n q hq
  · have e : (cs.set n c).getD j [] = cs.getD j [] := by rw [List.getD_eq_getElem?_getD, List.getElem?_set_ne hn, List.getD_eq_getElem?_getD]
    rw [e]
    exact hcs j q hq
theorem x_codes_ok : ∀ j q, s_mi[j]? = some q → s_pc (x_codes.getD j []) = 0 ∧ ∀ r ∈ x_codes.getD j [], s_okI (g_by j) q.2.2.2.2.2 r = true := x_set_ok (x_set_ok (x_set_ok (x_set_ok (x_set_ok (x_set_ok (x_set_ok s_codes_ok x_ck_208) x_ck_209) x_ck_210) x_ck_213) x_ck_224) x_ck_225) x_ck_302
def x_ov (j : Nat) (as : List s_V) : Option s_V := none
def x_run (d : Nat) : s_Call := s_run x_codes s_ft s_mi s_F x_ov d
theorem x_run_ok (xs : Nat → Int) (d : Nat) : s_CS xs s_mi (x_run d) (g_run d) := s_run_ok s_ft_ok s_df_ok s_mi_ok x_codes_ok (fun j as v h => by cases h) d
/-- at the throw -/
def x_isat (Y : s_X) : Bool := Nat.beq (s_pc Y.1) 11 && (Y.2.2.1.isEmpty && (Nat.beq Y.2.2.2.1 0 && Nat.beq Y.2.2.2.2.1 0))
def x_thr (j : Nat) (as : List s_V) (M : s_M) : Option (List s_M) := match s_mi[j]? with
  | some q => match s_loop (x_run 20) (x_codes.getD j []) s_ft s_mi 0 q.2.2.2.2.2 q.1 q.2.2.1 q.2.2.2.1 q.2.2.2.2.1 s_F (x_codes.getD j [], s_args 0 as, [], 0, 0, M) with
    | some ys => bif ys.all x_isat then some (ys.map (fun Y => Y.2.2.2.2.2)) else none
    | none => none
  | none => none
theorem x_thr_ok {xs : Nat → Int} {j : Nat} {q : s_MI} (hq : s_mi[j]? = some q) {as : List s_V} {M : s_M} {Ms : List s_M} (h : x_thr j as M = some Ms) {σ : Nat → Int} {ρ : Nat → Nat} {b : Nat} (hok : s_ok xs σ M) {post : g_H → Prop}
    (hp : ∀ N ∈ Ms, ∀ (σ' : Nat → Int) (ρ' : Nat → Nat), (∀ i, i < M.1.length → σ' i = σ i) → (∀ i, i < M.2.2.2.length → ρ' i = ρ i) → s_ok xs σ' N → post (s_ch σ' ρ' b 0 N.2.2.2)) :
    ∀ P : g_S → Prop, (∀ L h', post h' → P (11, L, [], 0, 0, h')) → (∀ S, g_pre (g_run 20) q.2.2.2.2.2 q.1 q.2.2.1 q.2.2.2.1 q.2.2.2.2.1 (g_by j) P S → P S) → P (0, lv_args 0 (as.map (s_cv σ ρ b)), [], 0, 0, s_ch σ ρ b 0 M.2.2.2) := by
  intro P hpost hcl
  unfold x_thr at h
  rw [hq] at h
  simp only at h
  split at h
  next ys e =>
    obtain ⟨h1, h2⟩ := s_bif h
    cases h2
    obtain ⟨c1, c2⟩ := x_codes_ok j q hq
    have key := (s_loop_ok (P := P) (xs := xs) (b := b) hcl (fun h => absurd h (Nat.lt_irrefl 0)) s_ft_ok s_df_ok s_mi_ok (x_run_ok xs 20) c2 s_F _ ys e c2).2 σ ρ hok (fun Y hY σ' ρ' a1 a2 a3 => ?_)
    · have e4 : s_cX σ ρ b (x_codes.getD j [], s_args 0 as, [], 0, 0, M) = (0, lv_args 0 (as.map (s_cv σ ρ b)), [], 0, 0, s_ch σ ρ b 0 M.2.2.2) := by
        unfold s_cX
        dsimp only
        rw [c1, s_args_eq]
        rfl
      rw [e4] at key
      exact key
    · have h3 := List.all_eq_true.mp h1 Y hY
      have h4 := hp _ (List.mem_map.mpr ⟨Y, hY, rfl⟩) σ' ρ' a1 a2 a3
      obtain ⟨code, L', st, cn, sn, N⟩ := Y
      simp only [x_isat, Bool.and_eq_true, Nat.beq_eq, List.isEmpty_iff] at h3
      obtain ⟨g1, g2, g3, g4⟩ := h3
      subst g2 g3 g4
      have g5 := hpost (s_cL σ' ρ' b L') _ h4
      rw [← g1] at g5
      exact g5
  next => cases h
/-- at the law's call of one of its helpers: the call throws and is caught, the law goes on -/
def x_case (pc j : Nat) (vs : List s_V) (Y : s_X) : Bool := match Y with
  | (r :: t, L, st, cn, sn, M) => Nat.beq r.1 pc && (Nat.beq (s_pc t) (pc + 3) && (decide (st = (5, 106) :: (vs.reverse ++ [(5, 0)])) && (Nat.ble (cn + 1) 600002 && (Nat.ble (sn + 6) 7302232 && (s_wL M.1.length M.2.2.2.length L && ((match M.2.2.2[0]? with
    | some c => !c.1 && Nat.beq c.2.1 11
    | none => false) && (match x_thr j ((5, 0) :: vs) M with
    | some Ms => Ms.all (fun N => Nat.ble M.1.length N.1.length && (Nat.ble M.2.2.2.length N.2.2.2.length && s_okK (x_run 30) (t, L, [(0, 1)], cn + 1, sn + 6, N)))
    | none => false)))))))
  | _ => false
def x_okC (c : Int) (pc j : Nat) (vs : List s_V) : Bool := match s_lawK (x_run 30) (s_lit c c) with
  | some outs => outs.all (x_case pc j vs)
  | none => false
set_option maxRecDepth 100000 in
theorem x_r_6 : x_okC 6 536 208 [(2, 1), (2, 2)] = true := by decide +kernel
set_option maxRecDepth 100000 in
theorem x_r_49 : x_okC 49 1872 209 [(2, 1)] = true := by decide +kernel

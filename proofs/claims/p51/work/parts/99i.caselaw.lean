-- the law's cases of its helpers
/-- at the helper's call, and on from behind it -/
def iv_hB (pc : Nat) (st0 : List z_V) (spec : List Nat) (args : List z_V) (jm : Nat) (lg : Bool) (Y : z_X) : Bool := match Y with
  | (r :: t, L, st, F) => Nat.beq r.1 pc && (Nat.beq (s_pc t) (pc + 3) && (decide (st = st0) && (L.all (fun p => !Nat.beq p.2.1 9) && (z_spB spec args && z_midB jm args false lg t L F))))
  | _ => false
def iv_hC (tg pc : Nat) (st0 : List z_V) (spec : List Nat) (args : List z_V) (jm : Nat) (lg : Bool) : Bool := match s_jump z_tab tg with
  | some c => (match z_run z_tab [23, pc] 300 (c, z_L0, [], []) with
    | some ls => ls.all (iv_hB pc st0 spec args jm lg)
    | none => false)
  | none => false
set_option maxRecDepth 100000 in
theorem iv_hC_of : iv_hC 522 536 [(5, 106), (8, 2), (8, 1), (5, 0)] [0, 0] [(8, 1), (8, 2)] 223 false = true := by decide +kernel
set_option maxRecDepth 100000 in
theorem x_st_ok : Cond.stringRef "GreenGears" 165 "no such wheel" ∈ lw_tbl ∧ Cond.stringRef "GreenGears" 428 "no such number of the row" ∈ lw_tbl ∧ Cond.stringRef "GreenGears" 176 "nothing of that kind" ∈ lw_tbl ∧ Cond.laysStatic Bundle.tN "UNASSIGNED_STACK" Bundle.steD ∈ lw_tbl ∧ Cond.laysStatic Bundle.tN "SUPPRESSED_SENTINEL" Bundle.listD ∈ lw_tbl ∧ Cond.initialized Bundle.tN ∈ lw_tbl := by decide +kernel
set_option maxRecDepth 100000 in
theorem x_gv_ok : Cond.exactly (.string "GreenGears" 165) "java/lang/String" ∈ flatC (Jvm.Cond.and given_1 narrow_1) ∧ Cond.exactly (.string "GreenGears" 428) "java/lang/String" ∈ flatC (Jvm.Cond.and given_1 narrow_1) ∧ Cond.exactly (.string "GreenGears" 176) "java/lang/String" ∈ flatC (Jvm.Cond.and given_1 narrow_1) ∧ Cond.isRef (.static Bundle.tN "UNASSIGNED_STACK" Bundle.steD) ∈ flatC (Jvm.Cond.and given_1 narrow_1) ∧ Cond.isRef (.static Bundle.tN "SUPPRESSED_SENTINEL" Bundle.listD) ∈ flatC (Jvm.Cond.and given_1 narrow_1) := by decide +kernel
theorem x_tr {l : Launch} (hflags : l.flags = flags0) : l.stackTraces = false := by
  unfold Launch.stackTraces
  rw [hflags]
  decide +kernel
theorem x_str {own tx : String} {k : Nat} {A : Array Value} {s : State} (h1 : (Cond.stringRef own k tx).before A s = true) (h2 : (Cond.exactly (.string own k) "java/lang/String").before A s = true) : ∃ sa, vk_R own k tx sa s := by
  obtain ⟨a, c, cell, k', e1, -⟩ := Cond.exactly_spec (show (Cond.exactly (.string own k) "java/lang/String").holds A s none s [] = true from h2)
  exact ⟨a, vk_R.of h1 e1⟩
def rw_LL : z_L := [(5, (9, 1)), (0, (4, 0)), (1, (5, 0)), (2, (5, 60)), (3, (5, 106)), (4, (1, 0))]
/-- the reference is asked, its answer is laid down, it is asked what was thrown -/
def rw_lB (jm jt : Nat) (args : List z_V) (Y : z_X) : Bool := match Y with
  | (r :: r1 :: r2 :: r3 :: t, L, st, F) => z_call jm args.length r (r1 :: r2 :: r3 :: t) && (z_call jt 0 r3 t && (Nat.beq r1.1 1859 && (Nat.beq r3.1 1862 && (Nat.beq (s_pc t) 1865 && (decide (L = rw_LL) && (F.isEmpty && (match z_tkn args.length st [] with
    | some (as, u :: rest) => decide (as = args) && (decide (u = (5, 60)) && rest.isEmpty)
    | _ => false)))))))
  | _ => false
def rw_mB (jm jt : Nat) (args : List z_V) (t : List s_I) (L : z_L) (F : z_F) : Bool := match z_run z_tab [23] 200 (t, L, [(9, 1)], F) with
  | some ls => ls.all (rw_lB jm jt args)
  | none => false
def rw_hB (pc : Nat) (st0 : List z_V) (spec : List Nat) (args : List z_V) (jm jt : Nat) (Y : z_X) : Bool := match Y with
  | (r :: t, L, st, F) => Nat.beq r.1 pc && (Nat.beq (s_pc t) (pc + 3) && (decide (st = st0) && (L.all (fun p => !Nat.beq p.2.1 9) && (z_spB spec args && rw_mB jm jt args t L F))))
  | _ => false
def rw_hC (tg pc : Nat) (st0 : List z_V) (spec : List Nat) (args : List z_V) (jm jt : Nat) : Bool := match s_jump z_tab tg with
  | some c => (match z_run z_tab [23, pc] 300 (c, z_L0, [], []) with
    | some ls => ls.all (rw_hB pc st0 spec args jm jt)
    | none => false)
  | none => false
set_option maxRecDepth 100000 in
theorem rw_hC_ok : rw_hC 1836 1844 [(5, 106), (8, 1), (5, 0)] [0] [(8, 1)] 301 302 = true := by decide +kernel
/-- the case's end -/
def rw_fB : Bool := match s_jump z_tab 1888 with
  | some c => (match z_run z_tab [23] 100 (c, rw_LL, [], []) with
    | some ls => ls.all z_at23
    | none => false)
  | none => false
set_option maxRecDepth 100000 in
theorem rw_fB_ok : rw_fB = true := by decide +kernel
set_option maxRecDepth 100000 in
theorem rw_dl : decode code 1859 = .ok (.lstore 6, 2) ∧ decode code 1861 = .ok (.aload_n 2, 1) ∧ decode code 1865 = .ok (.iload 5, 2) ∧ decode code 1867 = .ok (.if_icmp .eq 5, 3) ∧ decode code 1872 = .ok (.iload 5, 2) ∧ decode code 1874 = .ok (.ifCond .ne 14, 3) ∧ decode code 1877 = .ok (.aload_n 3, 1) ∧ decode code 1878 = .ok (.iconst 0, 1) ∧ decode code 1879 = .ok (.laload, 1) ∧ decode code 1880 = .ok (.lload 6, 2) ∧ decode code 1882 = .ok (.lcmp, 1) ∧ decode code 1883 = .ok (.ifCond .eq 5, 3) := ⟨by decide +kernel, by decide +kernel, by decide +kernel, by decide +kernel, by decide +kernel, by decide +kernel, by decide +kernel, by decide +kernel, by decide +kernel, by decide +kernel, by decide +kernel, by decide +kernel⟩
section OF2
variable {CALL : Nat → List Value → g_H → Nat → Nat → (Option Value → g_H → Prop) → Prop} {o nL : Nat} {ini : Bool} {bc bs : Nat} {cc : ByteArray} {P : g_S → Prop} {pc : Nat} {Ls : g_L} {rest : List Value} {w : g_W} {ins : Instr}
theorem of_la (hcl : ∀ S, g_pre CALL o nL ini bc bs cc P S → P S) (hd : decode cc pc = .ok (ins, 1)) {q a n : Nat} {f : Nat → Value} {j : Int32} (hl : ins = .laload) (hq : g_get w.2.2 q = some (a, true, 1, n, f)) (hj : vp_in j n) (k : P (pc + 1, Ls, .long (g_l (f j.toNatClampNeg)) :: rest, w)) : P (pc, Ls, .int j :: .ref a :: rest, w) := hcl _ ⟨ins, 1, hd, Or.inr (Or.inr (Or.inr (Or.inl (Or.inr (Or.inr (Or.inr (Or.inl ⟨q, a, n, f, j, rest, hl, rfl, rfl, hq, hj, k⟩)))))))⟩
theorem of_cm (hcl : ∀ S, g_pre CALL o nL ini bc bs cc P S → P S) (hd : decode cc pc = .ok (ins, 1)) {x y : Int64} (hl : ins = .lcmp) (k : P (pc + 1, Ls, .int (lg_cmp x y) :: rest, w)) : P (pc, Ls, .long y :: .long x :: rest, w) := hcl _ ⟨ins, 1, hd, Or.inr (Or.inl (Or.inr (Or.inr (Or.inr (Or.inr (Or.inr (Or.inr (Or.inl ⟨x, y, rest, hl, rfl, rfl, k⟩))))))))⟩
end OF2
theorem of_cmp (x : Int64) : lg_cmp x x = 0 := by
  refine Int32.toInt_inj.mp ?_
  rw [h_cmp, if_neg (by omega), if_pos rfl]
  rfl
section OF4
variable {CALL : Nat → List Value → g_H → Nat → Nat → (Option Value → g_H → Prop) → Prop} {o nL : Nat} {ini : Bool} {bc bs : Nat} {cc : ByteArray} {P : g_S → Prop} {pc len : Nat} {Ls : g_L} {rest : List Value} {w : g_W} {ins : Instr}
theorem rw_ls2 (hcl : ∀ S, g_pre CALL o nL ini bc bs cc P S → P S) (hd : decode cc pc = .ok (ins, len)) {i : Nat} {t : Value → Bool} {v : Value} (hl : g_stor ins = some (i, len, true, t)) (ht : t v = true) (hi : i + 1 < nL) (k : P (pc + len, g_st2 i v Ls, rest, w)) : P (pc, Ls, v :: rest, w) := hcl _ ⟨ins, len, hd, Or.inl (Or.inr (Or.inr (Or.inr (Or.inl ⟨i, t, v, rest, hl, rfl, ht, hi, k⟩))))⟩
end OF4
theorem rw_st2 {Ls : g_L} {i j : Nat} {x v : Value} (h : (i, x) ∈ Ls) (h1 : i ≠ j) (h2 : i ≠ j + 1) (h3 : i + 1 ≠ j ∨ x.category = 1) : (i, x) ∈ g_st2 j v Ls := by
  refine List.mem_cons_of_mem _ (List.mem_filter.mpr ⟨h, ?_⟩)
  have e1 : (i == j) = false := by simpa using h1
  have e2 : (i == j + 1) = false := by simpa using h2
  show (!(i == j) && (!(i == j + 1) && !(i + 1 == j && x.category == 2))) = true
  rw [e1, e2]
  rcases h3 with h3 | h3
  · have e3 : (i + 1 == j) = false := by simpa using h3
    rw [e3]
    rfl
  · rw [h3]
    cases (i + 1 == j) <;> rfl
/-- what lies in the helper's cell -/
def rw_O9 (A : Nat → Nat) (h : g_H) (y : Int64) : Prop := ∃ f : Nat → Value, g_get h 106 = some (A 106, true, 1, 1, f) ∧ f 0 = .long y
def rw_two (INV : g_H → Prop) (A : Nat → Nat) (jm jt : Nat) (as : List Value) (v1 : Int32) (h1 : g_H) : Prop := iv_sh A h1 ∧ g_run 60 jm (.ref (A 60) :: as) h1 0 0 (fun r2 h2 => ∃ y : Int64, r2 = some (.long y) ∧ iv_sh A h2 ∧ g_run 60 jt [.ref (A 60)] h2 0 0 (fun r3 h3 => ∃ v3 : Int32, r3 = some (.int v3) ∧ v3 = v1 ∧ INV h3 ∧ (v1 = 0 → rw_O9 A h3 y)))
section OF5
variable {N b : Nat} {xs : Nat → Int32} {P : g_S → Prop} {i n : Int} {A : Nat → Nat} {INV : g_H → Prop}
theorem rw_lB_ok (hP : z_cl N b xs P) (hE : ∀ ν, z_ok N b xs (z_Ev i n b A xs ν)) {jm jt : Nat} (hjm : (g_me jm).2.1 = 12) (hjt : (g_me jt).2.1 = 12) {spec : List Nat} {args : List z_V} {as : List Value} {Y : z_X} (hY : ∀ q ∈ Y.1, s_okI code 13 q = true) {v1 : Int32} {h1 : g_H} {cells slots : Nat} (hb : rw_lB jm jt args Y = true) (hsp : z_spB spec args = true) (hag : z_gS (z_Ev i n b A xs (fun _ => v1)) args as) (htwo : rw_two INV A jm jt as v1 h1) (hc1 : cells ≤ 1105985) (hc2 : slots ≤ 5778149) (hn : z_next P INV i n b A xs cells slots) : z_P (z_Ev i n b A xs (fun _ => v1)) P (cells, slots, h1) (s_pc Y.1) Y.2.1 Y.2.2.1 Y.2.2.2 := by
  obtain ⟨c, L, st, F⟩ := Y
  rcases c with _ | ⟨r, _ | ⟨r1, _ | ⟨r2, _ | ⟨r3, t⟩⟩⟩⟩
  · cases hb
  · cases hb
  · cases hb
  · cases hb
  unfold rw_lB at hb
  simp only [Bool.and_eq_true, Nat.beq_eq, decide_eq_true_eq, List.isEmpty_iff] at hb
  obtain ⟨g1, g2, p1, p3, p4, rfl, rfl, g5⟩ := hb
  split at g5
  next as9 u rest e1 =>
    simp only [Bool.and_eq_true, decide_eq_true_eq, List.isEmpty_iff] at g5
    obtain ⟨rfl, rfl, rfl⟩ := g5
    intro Ls sts hL hS hF
    obtain ⟨ys, sr, hs, hl, ha, hr⟩ := z_args_g hS e1
    obtain ⟨y, zs, rfl, hy, hr2⟩ := z_gS_c hr
    have ey : y = .ref (A 60) := hy
    subst ey
    have hyas : ys = as := z_spB_eq hsp ha hag
    subst hyas
    cases zs with
    | cons _ _ => exact hr2.elim
    | nil =>
      obtain ⟨hsh, hrun⟩ := htwo
      obtain ⟨nf, f, hget⟩ := hsh.2.1
      rw [← hjm] at hget
      rw [hs]
      refine z_call_ok (mc := 0) (ms := 0) hP (hY r List.mem_cons_self) g1 hget hl (by decide) hc1 hc2 ?_
      refine g_run_mono hrun (fun r9 h2 hp => ?_)
      obtain ⟨y, rfl, hsh2, hrun2⟩ := hp
      show P (r1.1, Ls, [.long y], cells, slots, h2)
      rw [p1]
      have hcl := hP.1
      obtain ⟨d0, d1, d2, d3, d4, d5, d6, d7, d8, d9, d10, d11⟩ := rw_dl
      obtain ⟨xk, mk, ek⟩ := hL (5, (9, 1)) (by unfold rw_LL; simp)
      have ek : xk = .int v1 := ek
      obtain ⟨xm, mm, em⟩ := hL (2, (5, 60)) (by unfold rw_LL; simp)
      have em : xm = .ref (A 60) := em
      obtain ⟨xo, mo, eo⟩ := hL (3, (5, 106)) (by unfold rw_LL; simp)
      have eo : xo = .ref (A 106) := eo
      subst ek em eo
      refine rw_ls2 hcl d0 rfl rfl (by decide) ?_
      have nk : ((5 : Nat), Value.int v1) ∈ g_st2 6 (.long y) Ls := rw_st2 mk (by decide) (by decide) (Or.inr rfl)
      have nm : ((2 : Nat), Value.ref (A 60)) ∈ g_st2 6 (.long y) Ls := rw_st2 mm (by decide) (by decide) (Or.inr rfl)
      have no : ((3 : Nat), Value.ref (A 106)) ∈ g_st2 6 (.long y) Ls := rw_st2 mo (by decide) (by decide) (Or.inr rfl)
      have nb : ((6 : Nat), Value.long y) ∈ g_st2 6 (.long y) Ls := List.mem_cons_self
      refine ir_ld hcl d1 rfl nm rfl ?_
      rw [show 1861 + 1 = r3.1 from p3.symm]
      obtain ⟨nf2, f2, hget2⟩ := hsh2.2.1
      rw [← hjt] at hget2
      show P (r3.1, g_st2 6 (.long y) Ls, ([] : List Value).reverse ++ .ref (A 60) :: [], cells, slots, h2)
      refine z_call_ok (mc := 0) (ms := 0) hP (hY r3 (List.mem_cons_of_mem _ (List.mem_cons_of_mem _ (List.mem_cons_of_mem _ List.mem_cons_self)))) g2 hget2 rfl (by decide) hc1 hc2 ?_
      refine g_run_mono hrun2 (fun r8 h3 hp => ?_)
      obtain ⟨v3, rfl, hv, hI3, hO⟩ := hp
      have fin : P (1888, g_st2 6 (.long y) Ls, [], cells, slots, h3) := by
        have hb9 := rw_fB_ok
        unfold rw_fB at hb9
        split at hb9
        next c ec =>
          split at hb9
          next ls el =>
            have hj := s_jump_mem ec
            obtain ⟨k1, k2⟩ := z_run_ok (w := (cells, slots, h3)) (E := z_Ev i n b A xs (fun _ => v1)) hP (hE _) z_tab_ok 100 (c, rw_LL, [], []) ls el (fun q hq => z_tab_ok q (hj.2 q hq))
            have hL2 : z_gL (z_Ev i n b A xs (fun _ => v1)) rw_LL (g_st2 6 (.long y) Ls) := by
              intro p hp
              obtain ⟨x, hx, hg⟩ := hL p hp
              refine ⟨x, ?_, hg⟩
              simp only [rw_LL, List.mem_cons, List.not_mem_nil, or_false] at hp
              rcases hp with rfl | rfl | rfl | rfl | rfl | rfl
              · have hg : x = .int v1 := hg
                subst hg
                exact rw_st2 hx (by decide) (by decide) (Or.inr rfl)
              all_goals exact rw_st2 hx (by decide) (by decide) (Or.inl (by decide))
            have := k2 (fun Z hZ => z_at23_ok (List.all_eq_true.mp hb9 Z hZ) hn hI3) (g_st2 6 (.long y) Ls) [] hL2 trivial (fun q hq => by cases hq)
            rw [show s_pc c = 1888 from hj.1] at this
            exact this
          next => cases hb9
        next => cases hb9
      show P (s_pc t, g_st2 6 (.long y) Ls, [.int v3], cells, slots, h3)
      rw [p4]
      refine ir_ld hcl d2 rfl nk rfl ?_
      refine ir_ic hcl d3 1872 rfl rfl ?_
      rw [if_pos (show g_c2 v3 v1 .eq = true from decide_eq_true hv)]
      refine ir_ld hcl d4 rfl nk rfl ?_
      refine ir_if hcl d5 1888 rfl rfl ?_
      by_cases c : v1 = 0
      · rw [if_neg (show ¬ g_c1 v1 .ne = true from fun e => absurd c (of_decide_eq_true e))]
        obtain ⟨f3, hg, hf⟩ := hO c
        refine ir_ld hcl d6 rfl no rfl ?_
        refine ir_co hcl d7 rfl ?_
        refine of_la (w := (cells, slots, h3)) hcl d8 rfl hg (fun hv => by
          rcases hv with hv | hv
          · exact absurd hv (by decide)
          · exact absurd hv (by decide)) ?_
        refine ir_ld hcl d9 rfl nb rfl ?_
        refine of_cm hcl d10 rfl ?_
        refine ir_if hcl d11 1888 rfl rfl ?_
        have e9 : g_l (f3 (Int32.ofInt 0).toNatClampNeg) = y := by
          show g_l (f3 0) = y
          rw [hf]
          rfl
        rw [e9, of_cmp, if_pos (show g_c1 0 .eq = true from rfl)]
        exact fin
      · rw [if_pos (show g_c1 v1 .ne = true from decide_eq_true c)]
        exact fin
  next => cases g5
theorem rw_mB_ok (hP : z_cl N b xs P) (hE : ∀ ν, z_ok N b xs (z_Ev i n b A xs ν)) {jm jt : Nat} (hjm : (g_me jm).2.1 = 12) (hjt : (g_me jt).2.1 = 12) {spec : List Nat} {args : List z_V} {as : List Value} {t : List s_I} (hY : ∀ q ∈ t, s_okI code 13 q = true) {L : z_L} {F : z_F} {v1 : Int32} {h1 : g_H} {cells slots : Nat} (hb : rw_mB jm jt args t L F = true) (hsp : z_spB spec args = true) (hag : z_gS (z_Ev i n b A xs (fun _ => v1)) args as) (htwo : rw_two INV A jm jt as v1 h1) (hc1 : cells ≤ 1105985) (hc2 : slots ≤ 5778149) (hn : z_next P INV i n b A xs cells slots) {Ls : g_L} (hL : z_gL (z_Ev i n b A xs (fun _ => v1)) L Ls) (hF : z_gF (z_Ev i n b A xs (fun _ => v1)) F) : P (s_pc t, Ls, [.int v1], cells, slots, h1) := by
  unfold rw_mB at hb
  split at hb
  next ls el =>
    obtain ⟨k1, k2⟩ := z_run_ok (w := (cells, slots, h1)) (E := z_Ev i n b A xs (fun _ => v1)) hP (hE _) z_tab_ok 200 (t, L, [(9, 1)], F) ls el hY
    exact k2 (fun Z hZ => rw_lB_ok hP hE hjm hjt (k1 Z hZ) (List.all_eq_true.mp hb Z hZ) hsp hag htwo hc1 hc2 hn) Ls [.int v1] hL ⟨rfl, trivial⟩ hF
  next => cases hb
end OF5
/-- what the reference leaves -/
theorem rw_J_m {A : Nat → Nat} {W : y_W} {b : Bool} {h h' : g_H} {M M' : xa_M} (hJ : iv_JW A W b h) (hT : xa_H xm_I A M h h) (hT' : xa_H xm_I A M' h h') (hcor : xm_cor M M') (hInv : xm_Inv M') (e20 : M' 60 20 = M 60 20) (e74 : ∀ i : Int, M' 74 i = M 74 i) (hI : rw_I (iv_num h) M) : iv_JW A W b h' ∧ rw_I (iv_num h') M' ∧ rw_J A h' := by
  have J2 : iv_JW A W b h' := iv_J_m hJ hT hT' (xk_cor hcor) hInv
  have a48 : iv_num h' 48 1 = iv_num h 48 1 := iv_num_h (hT'.2.2 48 (xm_I_none (by omega))) 1
  have a49 : ∀ i : Int, iv_num h' 49 i = iv_num h 49 i := fun i => iv_num_h (hT'.2.2 49 (xm_I_none (by omega))) i
  have b20 := xm_f20 (xa_H_Mok hT)
  refine ⟨J2, rw_I_k hI a48 e20 (fun i _ _ => a49 i) (fun i _ _ => e74 i), ⟨W, b, J2⟩, rw_I_k hI a48 ((rw_n60 hT').trans e20) (fun i _ _ => a49 i) (fun i i0 i1 => (rw_n74 hT' i0 (by omega)).trans (e74 i))⟩
/-- the reference's answer and its word, behind the helper's -/
theorem rw_pair9 {A : Nat → Nat} {M : xa_M} {u1 k : Int32} {h1 : g_H} (hInv : xm_Inv M) (hp : rw_K9 A M u1.toInt (some (.int k)) h1) : rw_two (rw_J A) A 301 302 [.int u1] k h1 := by
  obtain ⟨⟨⟨W, b, hJ⟩, hT, hI⟩, k9, ek, hk⟩ := hp
  cases ek
  refine ⟨iv_sh_ok (iv_J_inv ⟨W, b, hJ⟩), g_run_mono (iv_mrun hT (vs := [(2, 60, 0, 0, 0), (0, 0, (-2147483648), 2147483647, u1.toInt)]) (xs := [.ref (A 60), .int u1]) ⟨rfl, iv_i u1, trivial⟩ (rw_rowF (d := 58) (M := M) (a := u1.toInt) (post := fun o M2 => rw_R9 M u1.toInt o M2) (fun o M2 h => h))) (fun r2 h2 hp2 => ?_)⟩
  obtain ⟨o2, M2, hR, hr2, hM2⟩ := hp2
  have hM3 : xa_H xm_I A M2 h2 h2 := ⟨rfl, hM2.2.1, fun _ _ => rfl⟩
  have hcor : xm_cor M M2 := by
    rcases hR with ⟨-, -, e⟩ | ⟨-, -, e⟩ <;> rw [e]
    · exact xm_cor_f (by omega) xm_cor_r
    · exact xm_cor_f (by omega) (xm_cor_f (by omega) xm_cor_r)
  have e20 : M2 60 20 = M 60 20 := by
    rcases hR with ⟨-, -, e⟩ | ⟨-, -, e⟩ <;> rw [e]
    · exact xa_up_ne (by omega)
    · exact (xa_up_ne (by omega)).trans (xa_up_ne (by omega))
  have e74 : ∀ i : Int, M2 74 i = M 74 i := fun i => by
    rcases hR with ⟨-, -, e⟩ | ⟨-, -, e⟩ <;> rw [e]
    · exact xa_up_ne (by omega)
    · exact (xa_up_ne (by omega)).trans (xa_up_ne (by omega))
  have hInv2 := xm_Inv_cor hcor hInv
  obtain ⟨J2, I2, -⟩ := rw_J_m hJ hT hM2 hcor hInv2 e20 e74 hI
  have g106 : h2[106]? = h1[106]? := hM2.2.2 106 (xm_I_none (by omega))
  have next : ∀ y : Int64, (k = 0 → rw_O9 A h2 y) → M2 60 21 = k.toInt → g_run 60 302 [.ref (A 60)] h2 0 0 (fun r3 h3 => ∃ v3 : Int32, r3 = some (.int v3) ∧ v3 = k ∧ rw_J A h3 ∧ (k = 0 → rw_O9 A h3 y)) := fun y hO ek => by
    refine g_run_mono (iv_mrun hM3 (vs := [(2, 60, 0, 0, 0)]) (xs := [.ref (A 60)]) ⟨rfl, trivial⟩ (ms_thrown (d := 59) (M := M2) (post := fun o M4 => (∃ lo hi, o = some (0, 0, lo, hi, M2 60 21)) ∧ M4 = M2) (fun lo hi => ⟨⟨lo, hi, rfl⟩, rfl⟩))) (fun r3 h3 hp3 => ?_)
    obtain ⟨o3, M4, ⟨⟨lo, hi, rfl⟩, rfl⟩, hr3, hM4⟩ := hp3
    obtain ⟨v3, rfl, hv3⟩ := iv_gRi hr3
    refine ⟨v3, rfl, Int32.toInt_inj.mp (hv3.trans ek), (rw_J_m J2 hM3 hM4 xm_cor_r hInv2 rfl (fun _ => rfl) I2).2.2, fun h0 => ?_⟩
    obtain ⟨f, x1, x2⟩ := hO h0
    exact ⟨f, (hM4.2.2 106 (xm_I_none (by omega))).trans x1, x2⟩
  rcases hR with ⟨p1, ⟨lo, hi, rfl⟩, e⟩ | ⟨p1, ⟨lo, hi, v, rfl⟩, e⟩
  · obtain ⟨y2, rfl, y, rfl, hy, -⟩ := hr2
    refine ⟨y, rfl, iv_sh_ok (iv_J_inv ⟨W, b, J2⟩), next y ?_ ?_⟩
    · intro h0
      rcases hk with ⟨-, -, f, y3, x1, x2, x3⟩ | ⟨-, np⟩
      · have ey : y3 = y := Int64.toInt_inj.mp (x3.trans hy.symm)
        exact ⟨f, g106.trans x1, by rw [x2, ey]⟩
      · exact absurd p1 np
    · rcases hk with ⟨e0, -⟩ | ⟨-, np⟩
      · rw [e, e0]
        rfl
      · exact absurd p1 np
  · obtain ⟨y2, rfl, y, rfl, -⟩ := hr2
    refine ⟨y, rfl, iv_sh_ok (iv_J_inv ⟨W, b, J2⟩), next y ?_ ?_⟩
    · intro h0
      rcases hk with ⟨-, yp, -⟩ | ⟨e1, -⟩
      · exact absurd yp p1
      · rw [e1] at h0
        exact absurd h0 (by decide)
    · rcases hk with ⟨-, yp, -⟩ | ⟨e1, -⟩
      · exact absurd yp p1
      · rw [e, e1]
        rfl
section L64
variable {p : Program} {l : Launch} {e : Env} {s : State} {m : MethodId} {below : List Frame} {meth : Method} {c : Code} {b : Nat} {xs : Nat → Int32} {D : va_G} {dA : Nat → ClassId} {L9 : Nat} {A : Nat → Nat} {i : Int}
theorem x_K_at (C0 : lw_At p s m meth c b L9 xs) : x_K s := by
  obtain ⟨hx, hb, hr, hml, hown, hts, hX, hbl, hlocks, hgv⟩ := C0
  have hs := flat_of_before _ hgv
  refine ⟨fun w hw => va_Nw.of (x_nst (List.mem_filter.mp hw).2) (hts w (List.mem_filter.mp hw).1), x_str (hts _ x_st_ok.1) (hs _ x_gv_ok.1), x_str (hts _ x_st_ok.2.1) (hs _ x_gv_ok.2.1), x_str (hts _ x_st_ok.2.2.1) (hs _ x_gv_ok.2.2.1)⟩
theorem x_Z_at (C0 : lw_At p s m meth c b L9 xs) : x_Z (fun q => s.heap.size ≤ q) s s.heap := by
  obtain ⟨hx, hb, hr, hml, hown, hts, hX, hbl, hlocks, hgv⟩ := C0
  have hs := flat_of_before _ hgv
  exact ⟨vx_Zqof (hts _ x_st_ok.2.2.2.1) (hts _ x_st_ok.2.2.2.2.2) (hs _ x_gv_ok.2.2.2.1) (fun a h1 h2 => absurd h1 (Nat.not_lt.mpr h2)), vx_Zqof (hts _ x_st_ok.2.2.2.2.1) (hts _ x_st_ok.2.2.2.2.2) (hs _ x_gv_ok.2.2.2.2) (fun a h1 h2 => absurd h1 (Nat.not_lt.mpr h2))⟩
set_option maxRecDepth 100000 in
theorem lw_of_d : decode code 536 = .ok (.invokestatic 49, 3) ∧ (Cond.methodLink "GreenGearsLaw" 49 x_lof_y ∈ g_wsl ∧ Cond.static x_lof_y ∈ g_wsl ∧ Cond.initialized x_lof_y.cls ∈ g_wsl) ∧ (x_lof_y.cls ≠ "java/lang/invoke/MethodHandle" ∧ x_lof_y.cls ≠ "java/lang/invoke/VarHandle" ∧ (parseMethodDescriptor x_lof_y.desc).map (fun d => d.parameters.length) = some 4) ∧ (g_me 223).2.1 = 12 ∧ x_lof_ws = .codeWith x_lof_y method_3_code 5 (some .int) [(0, 10, 13, 13)] :: g_wsl := ⟨by decide +kernel, ⟨by decide +kernel, by decide +kernel, by decide +kernel⟩, by decide +kernel, by decide +kernel, rfl⟩
theorem lw_of (hflags : l.flags = flags0) (C0 : lw_At p s m meth c b L9 xs) (hK : g_K4 D dA s) (hP : z_cl L9 b xs (lw_PP p l e s m below meth c b D dA)) (hE : ∀ ν, z_ok L9 b xs (z_Ev i L9 b A xs ν)) {cells slots : Nat} (hc1 : cells + 10 ≤ 1105985) (hc2 : slots + 133 ≤ 5778149) (hn : ∀ c' s', c' ≤ cells + 10 → s' ≤ slots + 133 → z_next (lw_PP p l e s m below meth c b D dA) (rw_J A) i L9 b A xs c' s') {Ls : g_L} (hL : z_gL (z_Ev i L9 b A xs (fun _ => 0)) z_L0 Ls) {h : g_H} (hI : rw_J A h) : lw_PP p l e s m below meth c b D dA (522, Ls, [], cells, slots, h) := by
  have C1 := C0
  obtain ⟨hx, hb, hr, hml, hown, hts0, hX, hbl, hlocks, hgv⟩ := C1
  have hts : ∀ w ∈ g_wsl, w.before #[Value.ref b] s = true := fun w h => hts0 w (g_wsl_in w h)
  obtain ⟨hdg, ⟨w1, w2, w3⟩, hd, hjm, hws⟩ := lw_of_d
  have hb9 := iv_hC_of
  unfold iv_hC at hb9
  split at hb9
  next c9 ec =>
    split at hb9
    next ls9 el =>
      have hj := s_jump_mem ec
      obtain ⟨k1, k2⟩ := z_run_ok (w := (cells, slots, h)) (E := z_Ev i L9 b A xs (fun _ => 0)) hP (hE _) z_tab_ok 300 (c9, z_L0, [], []) ls9 el (fun q hq => z_tab_ok q (hj.2 q hq))
      have key := k2 (fun Y hY => ?_) Ls [] hL trivial (fun q hq => by cases hq)
      · rw [show s_pc c9 = 522 from hj.1] at key
        exact key
      · have hbY := List.all_eq_true.mp hb9 Y hY
        have hYI := k1 Y hY
        obtain ⟨c8, L, st, F⟩ := Y
        cases c8 with
        | nil => cases hbY
        | cons r t =>
          unfold iv_hB at hbY
          simp only [Bool.and_eq_true, Nat.beq_eq, decide_eq_true_eq] at hbY
          obtain ⟨g1, g2, rfl, g3, hsp, g4⟩ := hbY
          intro Ls2 sts hL2 hS hF
          obtain ⟨x0, y0, rfl, e0, hS⟩ := z_gS_c hS
          obtain ⟨x2, y2, rfl, e2, hS⟩ := z_gS_c hS
          obtain ⟨x1, y1, rfl, e1, hS⟩ := z_gS_c hS
          obtain ⟨x9, y9, rfl, e9, hS⟩ := z_gS_c hS
          cases y9 with
          | cons _ _ => exact hS.elim
          | nil =>
            obtain ⟨u1, hu1⟩ : ∃ u : Int32, x1 = .int u := ⟨_, e1⟩
            obtain ⟨u2, hu2⟩ : ∃ u : Int32, x2 = .int u := ⟨_, e2⟩
            have hag : z_gS (z_Ev i L9 b A xs (fun _ => 0)) [(8, 1), (8, 2)] [x1, x2] := ⟨e1, e2, trivial⟩
            have e0 : x0 = .ref (A 106) := e0
            have e9 : x9 = .ref (A 0) := e9
            subst e0 e9
            subst hu1 hu2
            show lw_PP p l e s m below meth c b D dA (r.1, Ls2, [.ref (A 106), .int u2, .int u1, .ref (A 0)], cells, slots, h)
            rw [g1]
            intro ls H locs hl hPP hD hSS
            have hM := x_lof2 l (x_tr hflags) (d := 50) rfl (x := A 0) (o := A 106) (u := u1) (v := u2) (h := h) hI rfl rfl D dA H.size
            refine g_after (D := D) (h := h) (fun q hq => hq) hl hD hSS (vx_runSW (cells := cells) (slots := slots) (As := [.ref (A 0), .int u1, .int u2, .ref (A 106)]) (rest := []) (n := 4) (R := room_1) (own := R_law) ⟨hx, hb, hml, hown, hts⟩ hM (vx_cwSW 4 hts ?_ hws rfl rfl hd ⟨by decide, by decide⟩) ⟨x_blind, x_PC_at (fun q hq => hq) hK (x_K_at C0) (x_Z_at C0) hPP hD hSS⟩ rfl rfl hl.1 rfl (lv_room (show (0 : Nat) ≤ 8 by decide)) hdg ⟨by show cells + 1 ≤ 1105985; omega, by show slots + 6 ≤ 5778149; omega⟩) (fun r9 h' hp => ?_)
            · intro w hw
              have hm : w ∈ g_wsl := by
                unfold va_wsS at hw
                rcases List.mem_append.mp hw with h9 | h9
                · simp only [List.mem_cons, List.not_mem_nil, or_false] at h9
                  rcases h9 with rfl | rfl | rfl
                  · exact w1
                  · exact w2
                  · exact w3
                · exact (x_lof_good w h9).1
              exact ⟨hm, good_of_word (g_wsl_good w hm)⟩
            · obtain ⟨⟨v1, rfl⟩, hI1⟩ := hp
              have h9 : ∀ p ∈ L, p.2.1 = 9 → (fun _ => (0 : Int32)) p.2.2.toNat = (fun _ => v1) p.2.2.toNat := fun p hp h9 => by
                have := List.all_eq_true.mp g3 p hp
                rw [h9] at this
                cases this
              rw [show 536 + 3 = s_pc t from g2.symm]
              refine z_midB_ok (cells := cells + 1) (slots := slots + 6) (INV := rw_J A) (v1 := v1) (cmp := false) (lg := false) hP hE hjm (fun q hq => hYI q (List.mem_cons_of_mem _ hq)) g4 hsp (as := [.int u1, .int u2]) ?_ ⟨iv_sh_ok (rw_J_inv hI1), g_run_mono (rw_hm223 A h' [.int u1, .int u2] hI1 ⟨⟨u1, rfl, fun h => by cases h⟩, ⟨u2, rfl, fun h => by cases h⟩, trivial⟩) (fun r2 h2 hp => ⟨⟨hp.1.choose, hp.1.choose_spec, fun h => by cases h⟩, hp.2⟩)⟩ (fun _ => rfl) (by omega) (by omega) (hn _ _ (by omega) (by omega)) (z_nuL h9 hL2) hF
              exact z_nuS (fun v hv h9 => by
                simp only [List.mem_cons, List.not_mem_nil, or_false] at hv
                rcases hv with rfl | rfl <;> cases h9) hag
    next => cases hb9
  next => cases hb9
set_option maxRecDepth 100000 in
theorem lw_row_d : decode code 1844 = .ok (.invokestatic 229, 3) ∧ (Cond.methodLink "GreenGearsLaw" 229 x_lrow_y ∈ g_wsl ∧ Cond.static x_lrow_y ∈ g_wsl ∧ Cond.initialized x_lrow_y.cls ∈ g_wsl) ∧ (x_lrow_y.cls ≠ "java/lang/invoke/MethodHandle" ∧ x_lrow_y.cls ≠ "java/lang/invoke/VarHandle" ∧ (parseMethodDescriptor x_lrow_y.desc).map (fun d => d.parameters.length) = some 3) ∧ (g_me 301).2.1 = 12 ∧ x_lrow_ws = .codeWith x_lrow_y method_4_code 4 (some .int) [(0, 8, 11, 13)] :: g_wsl := ⟨by decide +kernel, ⟨by decide +kernel, by decide +kernel, by decide +kernel⟩, by decide +kernel, by decide +kernel, rfl⟩
theorem lw_row (hflags : l.flags = flags0) (C0 : lw_At p s m meth c b L9 xs) (hK : g_K4 D dA s) (hP : z_cl L9 b xs (lw_PP p l e s m below meth c b D dA)) (hE : ∀ ν, z_ok L9 b xs (z_Ev i L9 b A xs ν)) {cells slots : Nat} (hc1 : cells + 10 ≤ 1105985) (hc2 : slots + 133 ≤ 5778149) (hn : ∀ c' s', c' ≤ cells + 10 → s' ≤ slots + 133 → z_next (lw_PP p l e s m below meth c b D dA) (rw_J A) i L9 b A xs c' s') {Ls : g_L} (hL : z_gL (z_Ev i L9 b A xs (fun _ => 0)) z_L0 Ls) {h : g_H} (hI : rw_J A h) : lw_PP p l e s m below meth c b D dA (1836, Ls, [], cells, slots, h) := by
  have C1 := C0
  obtain ⟨hx, hb, hr, hml, hown, hts0, hX, hbl, hlocks, hgv⟩ := C1
  have hts : ∀ w ∈ g_wsl, w.before #[Value.ref b] s = true := fun w h => hts0 w (g_wsl_in w h)
  obtain ⟨hdg, ⟨w1, w2, w3⟩, hd, hjm, hws⟩ := lw_row_d
  have hjt : (g_me 302).2.1 = 12 := by decide +kernel
  obtain ⟨⟨W9, b9, hJ9⟩, hI9⟩ := hI
  obtain ⟨M9, hM9, hInv9⟩ := hJ9.1.2.2
  have hR9 := rw_I_h hJ9 hM9 hI9
  have hb9 := rw_hC_ok
  unfold rw_hC at hb9
  split at hb9
  next c9 ec =>
    split at hb9
    next ls9 el =>
      have hj := s_jump_mem ec
      obtain ⟨k1, k2⟩ := z_run_ok (w := (cells, slots, h)) (E := z_Ev i L9 b A xs (fun _ => 0)) hP (hE _) z_tab_ok 300 (c9, z_L0, [], []) ls9 el (fun q hq => z_tab_ok q (hj.2 q hq))
      have key := k2 (fun Y hY => ?_) Ls [] hL trivial (fun q hq => by cases hq)
      · rw [show s_pc c9 = 1836 from hj.1] at key
        exact key
      · have hbY := List.all_eq_true.mp hb9 Y hY
        have hYI := k1 Y hY
        obtain ⟨c8, L, st, F⟩ := Y
        cases c8 with
        | nil => cases hbY
        | cons r t =>
          unfold rw_hB at hbY
          simp only [Bool.and_eq_true, Nat.beq_eq, decide_eq_true_eq] at hbY
          obtain ⟨g1, g2, rfl, g3, hsp, g4⟩ := hbY
          intro Ls2 sts hL2 hS hF
          obtain ⟨x0, y0, rfl, e0, hS⟩ := z_gS_c hS
          obtain ⟨x1, y1, rfl, e1, hS⟩ := z_gS_c hS
          obtain ⟨x9, y9, rfl, e9, hS⟩ := z_gS_c hS
          cases y9 with
          | cons _ _ => exact hS.elim
          | nil =>
            obtain ⟨u1, hu1⟩ : ∃ u : Int32, x1 = .int u := ⟨_, e1⟩
            have hag : z_gS (z_Ev i L9 b A xs (fun _ => 0)) [(8, 1)] [x1] := ⟨e1, trivial⟩
            have e0 : x0 = .ref (A 106) := e0
            have e9 : x9 = .ref (A 0) := e9
            subst e0 e9
            subst hu1
            show lw_PP p l e s m below meth c b D dA (r.1, Ls2, [.ref (A 106), .int u1, .ref (A 0)], cells, slots, h)
            rw [g1]
            intro ls H locs hl hPP hD hSS
            have hM := x_lrow2 l (x_tr hflags) (d := 50) rfl (x := A 0) (o := A 106) (u := u1) (h := h) hJ9 hM9 hInv9 hR9 rfl rfl D dA H.size
            refine g_after (D := D) (h := h) (fun q hq => hq) hl hD hSS (vx_runSW (cells := cells) (slots := slots) (As := [.ref (A 0), .int u1, .ref (A 106)]) (rest := []) (n := 3) (R := room_1) (own := R_law) ⟨hx, hb, hml, hown, hts⟩ hM (vx_cwSW 3 hts ?_ hws rfl rfl hd ⟨by decide, by decide⟩) ⟨x_blind, x_PC_at (fun q hq => hq) hK (x_K_at C0) (x_Z_at C0) hPP hD hSS⟩ rfl rfl hl.1 rfl (lv_room (show (0 : Nat) ≤ 8 by decide)) hdg ⟨by show cells + 1 ≤ 1105985; omega, by show slots + 6 ≤ 5778149; omega⟩) (fun r9 h' hp => ?_)
            · intro w hw
              have hm : w ∈ g_wsl := by
                unfold va_wsS at hw
                rcases List.mem_append.mp hw with h9 | h9
                · simp only [List.mem_cons, List.not_mem_nil, or_false] at h9
                  rcases h9 with rfl | rfl | rfl
                  · exact w1
                  · exact w2
                  · exact w3
                · exact (x_lrow_good w h9).1
              exact ⟨hm, good_of_word (g_wsl_good w hm)⟩
            · have hp9 := hp
              obtain ⟨hT1, v1, rfl, hk⟩ := hp9
              have h9 : ∀ p ∈ L, p.2.1 = 9 → (fun _ => (0 : Int32)) p.2.2.toNat = (fun _ => v1) p.2.2.toNat := fun p hp h9 => by
                have := List.all_eq_true.mp g3 p hp
                rw [h9] at this
                cases this
              rw [show 1844 + 3 = s_pc t from g2.symm]
              refine rw_mB_ok (cells := cells + 1) (slots := slots + 6) (INV := rw_J A) (v1 := v1) hP hE hjm hjt (fun q hq => hYI q (List.mem_cons_of_mem _ hq)) g4 hsp (as := [.int u1]) ?_ (rw_pair9 hInv9 hp) (by omega) (by omega) (hn _ _ (by omega) (by omega)) (z_nuL h9 hL2) hF
              exact z_nuS (fun v hv h9 => by
                simp only [List.mem_cons, List.not_mem_nil, or_false] at hv
                rcases hv with rfl <;> cases h9) hag
    next => cases hb9
  next => cases hb9
end L64

-- the law's cases of its helpers
/-- at the helper's call, and on from behind it -/
def iv_hB (pc : Nat) (st0 : List z_V) (spec : List Nat) (args : List z_V) (jm : Nat) (lg : Bool) (Y : z_X) : Bool := match Y with
  | (r :: t, L, st, F) => Nat.beq r.1 pc && (Nat.beq (s_pc t) (pc + 3) && (decide (st = st0) && (L.all (fun p => !Nat.beq p.2.1 9) && (z_spB spec args && z_midB jm args false lg t L F))))
  | _ => false
def iv_hC (tg pc : Nat) (st0 : List z_V) (spec : List Nat) (args : List z_V) (jm : Nat) (lg : Bool) : Bool := match s_jump z_tab tg with
  | some c => (match z_run z_tab [23, pc] 300 (c, z_L0, [], []) with
    | some ls => ls.all (iv_hB pc st0 spec args jm lg)
    | none => false)
  | none => false
set_option maxRecDepth 100000 in
theorem iv_hC_row : iv_hC 1864 1872 [(5, 106), (8, 1), (5, 0)] [0] [(8, 1)] 301 true = true := by decide +kernel
set_option maxRecDepth 100000 in
theorem x_st_ok : Cond.stringRef "GreenGears" 165 "no such wheel" ∈ lw_tbl ∧ Cond.stringRef "GreenGears" 428 "no such number of the row" ∈ lw_tbl ∧ Cond.stringRef "GreenGears" 176 "nothing of that kind" ∈ lw_tbl ∧ Cond.laysStatic Bundle.tN "UNASSIGNED_STACK" Bundle.steD ∈ lw_tbl ∧ Cond.laysStatic Bundle.tN "SUPPRESSED_SENTINEL" Bundle.listD ∈ lw_tbl ∧ Cond.initialized Bundle.tN ∈ lw_tbl := by decide +kernel
set_option maxRecDepth 100000 in
theorem x_gv_ok : Cond.exactly (.string "GreenGears" 165) "java/lang/String" ∈ flatC (Jvm.Cond.and given_1 narrow_1) ∧ Cond.exactly (.string "GreenGears" 428) "java/lang/String" ∈ flatC (Jvm.Cond.and given_1 narrow_1) ∧ Cond.exactly (.string "GreenGears" 176) "java/lang/String" ∈ flatC (Jvm.Cond.and given_1 narrow_1) ∧ Cond.isRef (.static Bundle.tN "UNASSIGNED_STACK" Bundle.steD) ∈ flatC (Jvm.Cond.and given_1 narrow_1) ∧ Cond.isRef (.static Bundle.tN "SUPPRESSED_SENTINEL" Bundle.listD) ∈ flatC (Jvm.Cond.and given_1 narrow_1) := by decide +kernel
theorem x_tr {l : Launch} (hflags : l.flags = flags0) : l.stackTraces = false := by
  unfold Launch.stackTraces
  rw [hflags]
  decide +kernel
theorem x_str {own tx : String} {k : Nat} {A : Array Value} {s : State} (h1 : (Cond.stringRef own k tx).before A s = true) (h2 : (Cond.exactly (.string own k) "java/lang/String").before A s = true) : ∃ sa, vk_R own k tx sa s := by
  obtain ⟨a, c, cell, k', e1, -⟩ := Cond.exactly_spec (show (Cond.exactly (.string own k) "java/lang/String").holds A s none s [] = true from h2)
  exact ⟨a, vk_R.of h1 e1⟩
def of_LL : z_L := [(6, (9, 2)), (5, (9, 1)), (0, (4, 0)), (1, (5, 0)), (2, (5, 60)), (3, (5, 106)), (4, (1, 0))]
/-- k is compared with what was thrown -/
def of_eB (Y : z_X) : Bool := match Y with
  | (r :: _, L, st, F) => Nat.beq r.1 565 && (decide (st = [(9, 1), (9, 3)]) && (decide (L = of_LL) && F.isEmpty))
  | _ => false
/-- the reference is asked what was thrown -/
def of_tB (jt : Nat) (Y : z_X) : Bool := match Y with
  | (r :: t, L, st, F) => z_call jt 0 r t && (L.all (fun p => !Nat.beq p.2.1 9 || (decide (p.2.2 = 1) || decide (p.2.2 = 2))) && (decide (st = [(5, 60)]) && (match z_run z_tab [23] 100 (t, L, [(9, 3)], F) with
    | some ls => ls.all of_eB
    | none => false)))
  | _ => false
/-- the reference is asked -/
def of_lB (jm jt : Nat) (args : List z_V) (Y : z_X) : Bool := match Y with
  | (r :: t, L, st, F) => z_call jm args.length r t && (L.all (fun p => !Nat.beq p.2.1 9 || decide (p.2.2 = 1)) && (match z_tkn args.length st [] with
    | some (as, u :: rest) => decide (as = args) && (decide (u = (5, 60)) && (rest.isEmpty && (match z_run z_tab [23] 100 (t, L, [(9, 2)], F) with
      | some ls => ls.all (of_tB jt)
      | none => false)))
    | _ => false))
  | _ => false
def of_mB (jm jt : Nat) (args : List z_V) (t : List s_I) (L : z_L) (F : z_F) : Bool := match z_run z_tab [23] 200 (t, L, [(9, 1)], F) with
  | some ls => ls.all (of_lB jm jt args)
  | none => false
def of_hB (pc : Nat) (st0 : List z_V) (spec : List Nat) (args : List z_V) (jm jt : Nat) (Y : z_X) : Bool := match Y with
  | (r :: t, L, st, F) => Nat.beq r.1 pc && (Nat.beq (s_pc t) (pc + 3) && (decide (st = st0) && (L.all (fun p => !Nat.beq p.2.1 9) && (z_spB spec args && of_mB jm jt args t L F))))
  | _ => false
def of_hC (tg pc : Nat) (st0 : List z_V) (spec : List Nat) (args : List z_V) (jm jt : Nat) : Bool := match s_jump z_tab tg with
  | some c => (match z_run z_tab [23, pc] 300 (c, z_L0, [], []) with
    | some ls => ls.all (of_hB pc st0 spec args jm jt)
    | none => false)
  | none => false
set_option maxRecDepth 100000 in
theorem of_hC_ok : of_hC 522 536 [(5, 106), (8, 2), (8, 1), (5, 0)] [0, 0] [(8, 1), (8, 2)] 223 302 = true := by decide +kernel
/-- the case's end -/
def of_fB : Bool := match s_jump z_tab 587 with
  | some c => (match z_run z_tab [23] 100 (c, of_LL, [], []) with
    | some ls => ls.all z_at23
    | none => false)
  | none => false
set_option maxRecDepth 100000 in
theorem of_fB_ok : of_fB = true := by decide +kernel
set_option maxRecDepth 100000 in
theorem of_dl : decode code 565 = .ok (.if_icmp .eq 5, 3) ∧ decode code 570 = .ok (.iload 5, 2) ∧ decode code 572 = .ok (.ifCond .ne 15, 3) ∧ decode code 575 = .ok (.aload_n 3, 1) ∧ decode code 576 = .ok (.iconst 0, 1) ∧ decode code 577 = .ok (.laload, 1) ∧ decode code 578 = .ok (.iload 6, 2) ∧ decode code 580 = .ok (.i2l, 1) ∧ decode code 581 = .ok (.lcmp, 1) ∧ decode code 582 = .ok (.ifCond .eq 5, 3) := ⟨by decide +kernel, by decide +kernel, by decide +kernel, by decide +kernel, by decide +kernel, by decide +kernel, by decide +kernel, by decide +kernel, by decide +kernel, by decide +kernel⟩
section OF2
variable {CALL : Nat → List Value → g_H → Nat → Nat → (Option Value → g_H → Prop) → Prop} {o nL : Nat} {ini : Bool} {bc bs : Nat} {cc : ByteArray} {P : g_S → Prop} {pc : Nat} {Ls : g_L} {rest : List Value} {w : g_W} {ins : Instr}
theorem of_la (hcl : ∀ S, g_pre CALL o nL ini bc bs cc P S → P S) (hd : decode cc pc = .ok (ins, 1)) {q a n : Nat} {f : Nat → Value} {j : Int32} (hl : ins = .laload) (hq : g_get w.2.2 q = some (a, true, 1, n, f)) (hj : vp_in j n) (k : P (pc + 1, Ls, .long (g_l (f j.toNatClampNeg)) :: rest, w)) : P (pc, Ls, .int j :: .ref a :: rest, w) := hcl _ ⟨ins, 1, hd, Or.inr (Or.inr (Or.inr (Or.inl (Or.inr (Or.inr (Or.inr (Or.inl ⟨q, a, n, f, j, rest, hl, rfl, rfl, hq, hj, k⟩)))))))⟩
theorem of_cm (hcl : ∀ S, g_pre CALL o nL ini bc bs cc P S → P S) (hd : decode cc pc = .ok (ins, 1)) {x y : Int64} (hl : ins = .lcmp) (k : P (pc + 1, Ls, .int (lg_cmp x y) :: rest, w)) : P (pc, Ls, .long y :: .long x :: rest, w) := hcl _ ⟨ins, 1, hd, Or.inr (Or.inl (Or.inr (Or.inr (Or.inr (Or.inr (Or.inr (Or.inr (Or.inl ⟨x, y, rest, hl, rfl, rfl, k⟩))))))))⟩
theorem of_il (hcl : ∀ S, g_pre CALL o nL ini bc bs cc P S → P S) (hd : decode cc pc = .ok (ins, 1)) {x : Int32} (hl : ins = .i2l) (k : P (pc + 1, Ls, .long x.toInt64 :: rest, w)) : P (pc, Ls, .int x :: rest, w) := hcl _ ⟨ins, 1, hd, Or.inr (Or.inl (Or.inr (Or.inr (Or.inr (Or.inr (Or.inr (Or.inr (Or.inr (Or.inl ⟨x, rest, hl, rfl, rfl, k⟩)))))))))⟩
end OF2
theorem of_cmp (x : Int64) : lg_cmp x x = 0 := by
  refine Int32.toInt_inj.mp ?_
  rw [h_cmp, if_neg (by omega), if_pos rfl]
  rfl
/-- what lies in the helper's cell -/
def of_O (A : Nat → Nat) (h : g_H) (v : Int32) : Prop := ∃ (f : Nat → Value) (y : Int64), g_get h 106 = some (A 106, true, 1, 1, f) ∧ f 0 = .long y ∧ y.toInt = v.toInt
def of_two (INV : g_H → Prop) (A : Nat → Nat) (jm jt : Nat) (as : List Value) (v1 : Int32) (h1 : g_H) : Prop := iv_sh A h1 ∧ g_run 60 jm (.ref (A 60) :: as) h1 0 0 (fun r2 h2 => ∃ v2 : Int32, r2 = some (.int v2) ∧ iv_sh A h2 ∧ g_run 60 jt [.ref (A 60)] h2 0 0 (fun r3 h3 => ∃ v3 : Int32, r3 = some (.int v3) ∧ v3 = v1 ∧ INV h3 ∧ (v1 = 0 → of_O A h3 v2)))
def of_v2 (v1 v2 : Int32) : Nat → Int32 := fun k => if k = 1 then v1 else v2
def of_v3 (v1 v2 v3 : Int32) : Nat → Int32 := fun k => if k = 1 then v1 else if k = 2 then v2 else v3
section OF3
variable {N b : Nat} {xs : Nat → Int32} {P : g_S → Prop} {i n : Int} {A : Nat → Nat} {INV : g_H → Prop}
theorem of_eB_ok (hP : z_cl N b xs P) (hE : ∀ ν, z_ok N b xs (z_Ev i n b A xs ν)) {v1 v2 v3 : Int32} {Y : z_X} (hb : of_eB Y = true) {h : g_H} {cells slots : Nat} (hv : v3 = v1) (hO : v1 = 0 → of_O A h v2) (hn : z_next P INV i n b A xs cells slots) (hI : INV h) : z_P (z_Ev i n b A xs (of_v3 v1 v2 v3)) P (cells, slots, h) (s_pc Y.1) Y.2.1 Y.2.2.1 Y.2.2.2 := by
  obtain ⟨c, L, st, F⟩ := Y
  cases c with
  | nil => cases hb
  | cons r t =>
    unfold of_eB at hb
    simp only [Bool.and_eq_true, Nat.beq_eq, decide_eq_true_eq, List.isEmpty_iff] at hb
    obtain ⟨g1, rfl, rfl, rfl⟩ := hb
    intro Ls sts hL hS hF
    obtain ⟨x, ys, rfl, hx, hS1⟩ := z_gS_c hS
    obtain ⟨y, zs, rfl, hy, hS2⟩ := z_gS_c hS1
    have ex : x = .int v1 := hx
    have ey : y = .int v3 := hy
    subst ex ey
    cases zs with
    | cons _ _ => exact hS2.elim
    | nil =>
      show P (r.1, Ls, [.int v1, .int v3], cells, slots, h)
      rw [g1]
      have hcl := hP.1
      obtain ⟨d0, d1, d2, d3, d4, d5, d6, d7, d8, d9⟩ := of_dl
      obtain ⟨xk, mk, ek⟩ := hL (5, (9, 1)) (by unfold of_LL; simp)
      have ek : xk = .int v1 := ek
      obtain ⟨xb, mb, eb⟩ := hL (6, (9, 2)) (by unfold of_LL; simp)
      have eb : xb = .int v2 := eb
      obtain ⟨xo, mo, eo⟩ := hL (3, (5, 106)) (by unfold of_LL; simp)
      have eo : xo = .ref (A 106) := eo
      subst ek eb eo
      have fin : P (587, Ls, [], cells, slots, h) := by
        have hb9 := of_fB_ok
        unfold of_fB at hb9
        split at hb9
        next c ec =>
          split at hb9
          next ls el =>
            have hj := s_jump_mem ec
            obtain ⟨k1, k2⟩ := z_run_ok (w := (cells, slots, h)) (E := z_Ev i n b A xs (of_v3 v1 v2 v3)) hP (hE _) z_tab_ok 100 (c, of_LL, [], []) ls el (fun q hq => z_tab_ok q (hj.2 q hq))
            have := k2 (fun Z hZ => z_at23_ok (List.all_eq_true.mp hb9 Z hZ) hn hI) Ls [] hL trivial (fun q hq => by cases hq)
            rw [show s_pc c = 587 from hj.1] at this
            exact this
          next => cases hb9
        next => cases hb9
      refine ir_ic hcl d0 570 rfl rfl ?_
      rw [if_pos (show g_c2 v3 v1 .eq = true from decide_eq_true hv)]
      refine ir_ld hcl d1 rfl mk rfl ?_
      refine ir_if hcl d2 587 rfl rfl ?_
      by_cases c : v1 = 0
      · rw [if_neg (show ¬ g_c1 v1 .ne = true from fun e => absurd c (of_decide_eq_true e))]
        obtain ⟨f, y, hg, hf, hy⟩ := hO c
        refine ir_ld hcl d3 rfl mo rfl ?_
        refine ir_co hcl d4 rfl ?_
        refine of_la (w := (cells, slots, h)) hcl d5 rfl hg (fun hv => by
          rcases hv with hv | hv
          · exact absurd hv (by decide)
          · exact absurd hv (by decide)) ?_
        refine ir_ld hcl d6 rfl mb rfl ?_
        refine of_il hcl d7 rfl ?_
        refine of_cm hcl d8 rfl ?_
        refine ir_if hcl d9 587 rfl rfl ?_
        have e9 : g_l (f (Int32.ofInt 0).toNatClampNeg) = v2.toInt64 := by
          show g_l (f 0) = v2.toInt64
          rw [hf]
          exact Int64.toInt_inj.mp (by rw [Int32.toInt_toInt64]; exact hy)
        rw [e9, of_cmp, if_pos (show g_c1 0 .eq = true from rfl)]
        exact fin
      · rw [if_pos (show g_c1 v1 .ne = true from decide_eq_true c)]
        exact fin
theorem of_tB_ok (hP : z_cl N b xs P) (hE : ∀ ν, z_ok N b xs (z_Ev i n b A xs ν)) {jt : Nat} (hjt : (g_me jt).2.1 = 12) {v1 v2 : Int32} {Y : z_X} (hY : ∀ q ∈ Y.1, s_okI code 13 q = true) (hb : of_tB jt Y = true) {h : g_H} {cells slots : Nat} (hsh : iv_sh A h) (hrun : g_run 60 jt [.ref (A 60)] h 0 0 (fun r3 h3 => ∃ v3 : Int32, r3 = some (.int v3) ∧ v3 = v1 ∧ INV h3 ∧ (v1 = 0 → of_O A h3 v2))) (hc1 : cells ≤ 601024) (hc2 : slots ≤ 7293034) (hn : z_next P INV i n b A xs cells slots) : z_P (z_Ev i n b A xs (of_v2 v1 v2)) P (cells, slots, h) (s_pc Y.1) Y.2.1 Y.2.2.1 Y.2.2.2 := by
  obtain ⟨c, L, st, F⟩ := Y
  cases c with
  | nil => cases hb
  | cons r t =>
    unfold of_tB at hb
    simp only [Bool.and_eq_true, decide_eq_true_eq] at hb
    obtain ⟨g1, g2, rfl, g4⟩ := hb
    split at g4
    next ls el =>
      intro Ls sts hL hS hF
      obtain ⟨x, ys, rfl, hx, hS1⟩ := z_gS_c hS
      have ex : x = .ref (A 60) := hx
      subst ex
      cases ys with
      | cons _ _ => exact hS1.elim
      | nil =>
        obtain ⟨nf, f, hget⟩ := hsh.2.1
        rw [← hjt] at hget
        show P (r.1, Ls, ([] : List Value).reverse ++ .ref (A 60) :: [], cells, slots, h)
        refine z_call_ok (mc := 0) (ms := 0) hP (hY r List.mem_cons_self) g1 hget rfl (by decide) hc1 hc2 ?_
        refine g_run_mono hrun (fun r3 h3 hp => ?_)
        obtain ⟨v3, rfl, hv, hI3, hO⟩ := hp
        obtain ⟨k1, k2⟩ := z_run_ok (w := (cells, slots, h3)) (E := z_Ev i n b A xs (of_v3 v1 v2 v3)) hP (hE _) z_tab_ok 100 (t, L, [(9, 3)], F) ls el (fun q hq => hY q (List.mem_cons_of_mem _ hq))
        have h9 : ∀ p ∈ L, p.2.1 = 9 → of_v2 v1 v2 p.2.2.toNat = of_v3 v1 v2 v3 p.2.2.toNat := fun p hp h9 => by
          have := List.all_eq_true.mp g2 p hp
          simp only [Bool.or_eq_true, Bool.not_eq_true', decide_eq_true_eq] at this
          unfold of_v2 of_v3
          rcases this with h | h | h
          · rw [h9] at h
            cases h
          · rw [if_pos (by omega), if_pos (by omega)]
          · rw [if_neg (by omega), if_neg (by omega), if_pos (by omega)]
        exact k2 (fun Z hZ => of_eB_ok hP hE (List.all_eq_true.mp g4 Z hZ) hv hO hn hI3) Ls [.int v3] (z_nuL h9 hL) ⟨rfl, trivial⟩ hF
    next => cases g4
theorem of_lB_ok (hP : z_cl N b xs P) (hE : ∀ ν, z_ok N b xs (z_Ev i n b A xs ν)) {jm jt : Nat} (hjm : (g_me jm).2.1 = 12) (hjt : (g_me jt).2.1 = 12) {spec : List Nat} {args : List z_V} {as : List Value} {Y : z_X} (hY : ∀ q ∈ Y.1, s_okI code 13 q = true) {v1 : Int32} {h1 : g_H} {cells slots : Nat} (hb : of_lB jm jt args Y = true) (hsp : z_spB spec args = true) (hag : z_gS (z_Ev i n b A xs (fun _ => v1)) args as) (htwo : of_two INV A jm jt as v1 h1) (hc1 : cells ≤ 601024) (hc2 : slots ≤ 7293034) (hn : z_next P INV i n b A xs cells slots) : z_P (z_Ev i n b A xs (fun _ => v1)) P (cells, slots, h1) (s_pc Y.1) Y.2.1 Y.2.2.1 Y.2.2.2 := by
  obtain ⟨c, L, st, F⟩ := Y
  cases c with
  | nil => cases hb
  | cons r t =>
    unfold of_lB at hb
    simp only [Bool.and_eq_true] at hb
    obtain ⟨g1, g2, g3⟩ := hb
    split at g3
    next as9 u rest e1 =>
      simp only [Bool.and_eq_true, decide_eq_true_eq, List.isEmpty_iff] at g3
      obtain ⟨rfl, rfl, rfl, g4⟩ := g3
      split at g4
      next ls el =>
        intro Ls sts hL hS hF
        obtain ⟨ys, sr, hs, hl, ha, hr⟩ := z_args_g hS e1
        obtain ⟨y, zs, rfl, hy, hr2⟩ := z_gS_c hr
        have ey : y = .ref (A 60) := hy
        subst ey
        have hyas : ys = as := z_spB_eq hsp ha hag
        subst hyas
        cases zs with
        | cons _ _ => exact hr2.elim
        | nil =>
          obtain ⟨hsh, hrun⟩ := htwo
          obtain ⟨nf, f, hget⟩ := hsh.2.1
          rw [← hjm] at hget
          rw [hs]
          refine z_call_ok (mc := 0) (ms := 0) hP (hY r List.mem_cons_self) g1 hget hl (by decide) hc1 hc2 ?_
          refine g_run_mono hrun (fun r2 h2 hp => ?_)
          obtain ⟨v2, rfl, hsh2, hrun2⟩ := hp
          have hYt : ∀ q ∈ t, s_okI code 13 q = true := fun q hq => hY q (List.mem_cons_of_mem _ hq)
          obtain ⟨k1, k2⟩ := z_run_ok (w := (cells, slots, h2)) (E := z_Ev i n b A xs (of_v2 v1 v2)) hP (hE _) z_tab_ok 100 (t, L, [(9, 2)], F) ls el hYt
          have h9 : ∀ p ∈ L, p.2.1 = 9 → (fun _ => v1) p.2.2.toNat = of_v2 v1 v2 p.2.2.toNat := fun p hp h9 => by
            have := List.all_eq_true.mp g2 p hp
            simp only [Bool.or_eq_true, Bool.not_eq_true', decide_eq_true_eq] at this
            rcases this with h | h
            · rw [h9] at h
              cases h
            · show v1 = if p.2.2.toNat = 1 then v1 else v2
              rw [if_pos (by omega)]
          exact k2 (fun Z hZ => of_tB_ok hP hE hjt (k1 Z hZ) (List.all_eq_true.mp g4 Z hZ) hsh2 hrun2 hc1 hc2 hn) Ls [.int v2] (z_nuL h9 hL) ⟨rfl, trivial⟩ hF
      next => cases g4
    next => cases g3
theorem of_mB_ok (hP : z_cl N b xs P) (hE : ∀ ν, z_ok N b xs (z_Ev i n b A xs ν)) {jm jt : Nat} (hjm : (g_me jm).2.1 = 12) (hjt : (g_me jt).2.1 = 12) {spec : List Nat} {args : List z_V} {as : List Value} {t : List s_I} (hY : ∀ q ∈ t, s_okI code 13 q = true) {L : z_L} {F : z_F} {v1 : Int32} {h1 : g_H} {cells slots : Nat} (hb : of_mB jm jt args t L F = true) (hsp : z_spB spec args = true) (hag : z_gS (z_Ev i n b A xs (fun _ => v1)) args as) (htwo : of_two INV A jm jt as v1 h1) (hc1 : cells ≤ 601024) (hc2 : slots ≤ 7293034) (hn : z_next P INV i n b A xs cells slots) {Ls : g_L} (hL : z_gL (z_Ev i n b A xs (fun _ => v1)) L Ls) (hF : z_gF (z_Ev i n b A xs (fun _ => v1)) F) : P (s_pc t, Ls, [.int v1], cells, slots, h1) := by
  unfold of_mB at hb
  split at hb
  next ls el =>
    obtain ⟨k1, k2⟩ := z_run_ok (w := (cells, slots, h1)) (E := z_Ev i n b A xs (fun _ => v1)) hP (hE _) z_tab_ok 200 (t, L, [(9, 1)], F) ls el hY
    exact k2 (fun Z hZ => of_lB_ok hP hE hjm hjt (k1 Z hZ) (List.all_eq_true.mp hb Z hZ) hsp hag htwo hc1 hc2 hn) Ls [.int v1] hL ⟨rfl, trivial⟩ hF
  next => cases hb
end OF3
/-- the reference's answer and its word, behind the helper's -/
theorem of_pair {A : Nat → Nat} {M : xa_M} {u1 u2 k : Int32} {h1 : g_H} (hInv : xm_Inv M) (hp : of_K A M u1.toInt u2.toInt (some (.int k)) h1) : of_two (iv_J A) A 223 302 [.int u1, .int u2] k h1 := by
  obtain ⟨⟨⟨W, b, hJ⟩, hT⟩, k9, ek, hk⟩ := hp
  cases ek
  refine ⟨iv_sh_ok (iv_J_inv ⟨W, b, hJ⟩), g_run_mono (iv_mrun hT (vs := [(2, 60, 0, 0, 0), (0, 0, (-2147483648), 2147483647, u1.toInt), (0, 0, (-2147483648), 2147483647, u2.toInt)]) (xs := [.ref (A 60), .int u1, .int u2]) ⟨rfl, iv_i u1, iv_i u2, trivial⟩ (ms_ofF (d := 57) (M := M) (a := u1.toInt) (b := u2.toInt) hInv (post := fun o M2 => of_R M u1.toInt u2.toInt o M2) (fun o M2 h => h))) (fun r2 h2 hp2 => ?_)⟩
  obtain ⟨o2, M2, hR, hr2, hM2⟩ := hp2
  have hM3 : xa_H xm_I A M2 h2 h2 := ⟨rfl, hM2.2.1, fun _ _ => rfl⟩
  have hcor : xm_cor M M2 := by
    rcases hR with ⟨-, -, e⟩ | ⟨-, -, e⟩ <;> rw [e]
    · exact xm_cor_f (by omega) xm_cor_r
    · exact xm_cor_f (by omega) (xm_cor_f (by omega) xm_cor_r)
  have hInv2 := xm_Inv_cor hcor hInv
  have J2 : iv_JW A W b h2 := iv_J_m hJ hT hM2 (xk_cor hcor) hInv2
  have g106 : h2[106]? = h1[106]? := hM2.2.2 106 (xm_I_none (by omega))
  have next : ∀ v2 : Int32, (k = 0 → of_O A h2 v2) → M2 60 21 = k.toInt → g_run 60 302 [.ref (A 60)] h2 0 0 (fun r3 h3 => ∃ v3 : Int32, r3 = some (.int v3) ∧ v3 = k ∧ iv_J A h3 ∧ (k = 0 → of_O A h3 v2)) := fun v2 hO ek => by
    refine g_run_mono (iv_mrun hM3 (vs := [(2, 60, 0, 0, 0)]) (xs := [.ref (A 60)]) ⟨rfl, trivial⟩ (ms_thrown (d := 59) (M := M2) (post := fun o M4 => (∃ lo hi, o = some (0, 0, lo, hi, M2 60 21)) ∧ M4 = M2) (fun lo hi => ⟨⟨lo, hi, rfl⟩, rfl⟩))) (fun r3 h3 hp3 => ?_)
    obtain ⟨o3, M4, ⟨⟨lo, hi, rfl⟩, rfl⟩, hr3, hM4⟩ := hp3
    obtain ⟨v3, rfl, hv3⟩ := iv_gRi hr3
    refine ⟨v3, rfl, Int32.toInt_inj.mp (hv3.trans ek), ⟨W, b, iv_J_m J2 hM3 hM4 (fun _ _ _ => rfl) hInv2⟩, fun h0 => ?_⟩
    obtain ⟨f, y, x1, x2, x3⟩ := hO h0
    exact ⟨f, y, (hM4.2.2 106 (xm_I_none (by omega))).trans x1, x2, x3⟩
  rcases hR with ⟨p1, ⟨lo, hi, v, rfl, hv⟩, e⟩ | ⟨p1, ⟨lo, hi, v, rfl⟩, e⟩
  · obtain ⟨v2, rfl, hv2⟩ := iv_gRi hr2
    refine ⟨v2, rfl, iv_sh_ok (iv_J_inv ⟨W, b, J2⟩), next v2 ?_ ?_⟩
    · intro h0
      rcases hk with ⟨-, -, f, y, x1, x2, x3⟩ | ⟨-, np⟩
      · exact ⟨f, y, g106.trans x1, x2, by rw [hv2]; exact of_Vu x3 hv⟩
      · exact absurd p1 np
    · rcases hk with ⟨e0, -⟩ | ⟨-, np⟩
      · rw [e, e0]
        rfl
      · exact absurd p1 np
  · obtain ⟨v2, rfl, hv2⟩ := iv_gRi hr2
    refine ⟨v2, rfl, iv_sh_ok (iv_J_inv ⟨W, b, J2⟩), next v2 ?_ ?_⟩
    · intro h0
      rcases hk with ⟨-, yp, -⟩ | ⟨e1, -⟩
      · exact absurd yp p1
      · rw [e1] at h0
        exact absurd h0 (by decide)
    · rcases hk with ⟨-, yp, -⟩ | ⟨e1, -⟩
      · exact absurd yp p1
      · rw [e, e1]
        rfl
section L64
variable {p : Program} {l : Launch} {e : Env} {s : State} {m : MethodId} {below : List Frame} {meth : Method} {c : Code} {b : Nat} {xs : Nat → Int32} {D : va_G} {dA : Nat → ClassId} {L9 : Nat} {A : Nat → Nat} {i : Int}
theorem x_K_at (C0 : lw_At p s m meth c b L9 xs) : x_K s := by
  obtain ⟨hx, hb, hr, hml, hown, hts, hX, hbl, hlocks, hgv⟩ := C0
  have hs := flat_of_before _ hgv
  refine ⟨fun w hw => va_Nw.of (x_nst (List.mem_filter.mp hw).2) (hts w (List.mem_filter.mp hw).1), x_str (hts _ x_st_ok.1) (hs _ x_gv_ok.1), x_str (hts _ x_st_ok.2.1) (hs _ x_gv_ok.2.1), x_str (hts _ x_st_ok.2.2.1) (hs _ x_gv_ok.2.2.1)⟩
theorem x_Z_at (C0 : lw_At p s m meth c b L9 xs) : x_Z (fun q => s.heap.size ≤ q) s s.heap := by
  obtain ⟨hx, hb, hr, hml, hown, hts, hX, hbl, hlocks, hgv⟩ := C0
  have hs := flat_of_before _ hgv
  exact ⟨vx_Zqof (hts _ x_st_ok.2.2.2.1) (hts _ x_st_ok.2.2.2.2.2) (hs _ x_gv_ok.2.2.2.1) (fun a h1 h2 => absurd h1 (Nat.not_lt.mpr h2)), vx_Zqof (hts _ x_st_ok.2.2.2.2.1) (hts _ x_st_ok.2.2.2.2.2) (hs _ x_gv_ok.2.2.2.2) (fun a h1 h2 => absurd h1 (Nat.not_lt.mpr h2))⟩
set_option maxRecDepth 100000 in
theorem lw_of_d : decode code 536 = .ok (.invokestatic 49, 3) ∧ (Cond.methodLink "GreenGearsLaw" 49 x_lof_y ∈ g_wsl ∧ Cond.static x_lof_y ∈ g_wsl ∧ Cond.initialized x_lof_y.cls ∈ g_wsl) ∧ (x_lof_y.cls ≠ "java/lang/invoke/MethodHandle" ∧ x_lof_y.cls ≠ "java/lang/invoke/VarHandle" ∧ (parseMethodDescriptor x_lof_y.desc).map (fun d => d.parameters.length) = some 4) ∧ (g_me 223).2.1 = 12 ∧ x_lof_ws = .codeWith x_lof_y method_3_code 5 (some .int) [(0, 10, 13, 13)] :: g_wsl := ⟨by decide +kernel, ⟨by decide +kernel, by decide +kernel, by decide +kernel⟩, by decide +kernel, by decide +kernel, rfl⟩
theorem lw_of (hflags : l.flags = flags0) (C0 : lw_At p s m meth c b L9 xs) (hK : g_K4 D dA s) (hP : z_cl L9 b xs (lw_PP p l e s m below meth c b D dA)) (hE : ∀ ν, z_ok L9 b xs (z_Ev i L9 b A xs ν)) {cells slots : Nat} (hc1 : cells + 10 ≤ 601024) (hc2 : slots + 133 ≤ 7293034) (hn : ∀ c' s', c' ≤ cells + 10 → s' ≤ slots + 133 → z_next (lw_PP p l e s m below meth c b D dA) (iv_J A) i L9 b A xs c' s') {Ls : g_L} (hL : z_gL (z_Ev i L9 b A xs (fun _ => 0)) z_L0 Ls) {h : g_H} (hI : iv_J A h) : lw_PP p l e s m below meth c b D dA (522, Ls, [], cells, slots, h) := by
  have C1 := C0
  obtain ⟨hx, hb, hr, hml, hown, hts0, hX, hbl, hlocks, hgv⟩ := C1
  have hts : ∀ w ∈ g_wsl, w.before #[Value.ref b] s = true := fun w h => hts0 w (g_wsl_in w h)
  obtain ⟨hdg, ⟨w1, w2, w3⟩, hd, hjm, hws⟩ := lw_of_d
  have hjt : (g_me 302).2.1 = 12 := by decide +kernel
  obtain ⟨W9, b9, hJ9⟩ := hI
  obtain ⟨M9, hM9, hInv9⟩ := hJ9.1.2.2
  have hb9 := of_hC_ok
  unfold of_hC at hb9
  split at hb9
  next c9 ec =>
    split at hb9
    next ls9 el =>
      have hj := s_jump_mem ec
      obtain ⟨k1, k2⟩ := z_run_ok (w := (cells, slots, h)) (E := z_Ev i L9 b A xs (fun _ => 0)) hP (hE _) z_tab_ok 300 (c9, z_L0, [], []) ls9 el (fun q hq => z_tab_ok q (hj.2 q hq))
      have key := k2 (fun Y hY => ?_) Ls [] hL trivial (fun q hq => by cases hq)
      · rw [show s_pc c9 = 522 from hj.1] at key
        exact key
      · have hbY := List.all_eq_true.mp hb9 Y hY
        have hYI := k1 Y hY
        obtain ⟨c8, L, st, F⟩ := Y
        cases c8 with
        | nil => cases hbY
        | cons r t =>
          unfold of_hB at hbY
          simp only [Bool.and_eq_true, Nat.beq_eq, decide_eq_true_eq] at hbY
          obtain ⟨g1, g2, rfl, g3, hsp, g4⟩ := hbY
          intro Ls2 sts hL2 hS hF
          obtain ⟨x0, y0, rfl, e0, hS⟩ := z_gS_c hS
          obtain ⟨x2, y2, rfl, e2, hS⟩ := z_gS_c hS
          obtain ⟨x1, y1, rfl, e1, hS⟩ := z_gS_c hS
          obtain ⟨x9, y9, rfl, e9, hS⟩ := z_gS_c hS
          cases y9 with
          | cons _ _ => exact hS.elim
          | nil =>
            obtain ⟨u1, hu1⟩ : ∃ u : Int32, x1 = .int u := ⟨_, e1⟩
            obtain ⟨u2, hu2⟩ : ∃ u : Int32, x2 = .int u := ⟨_, e2⟩
            have hag : z_gS (z_Ev i L9 b A xs (fun _ => 0)) [(8, 1), (8, 2)] [x1, x2] := ⟨e1, e2, trivial⟩
            have e0 : x0 = .ref (A 106) := e0
            have e9 : x9 = .ref (A 0) := e9
            subst e0 e9
            subst hu1 hu2
            show lw_PP p l e s m below meth c b D dA (r.1, Ls2, [.ref (A 106), .int u2, .int u1, .ref (A 0)], cells, slots, h)
            rw [g1]
            intro ls H locs hl hPP hD hSS
            have hM := x_lof2 l (x_tr hflags) (d := 50) rfl (x := A 0) (o := A 106) (u := u1) (v := u2) (h := h) hJ9 hM9 hInv9 rfl rfl D dA H.size
            refine g_after (D := D) (h := h) (fun q hq => hq) hl hD hSS (vx_runSW (cells := cells) (slots := slots) (As := [.ref (A 0), .int u1, .int u2, .ref (A 106)]) (rest := []) (n := 4) (R := room_1) (own := R_law) ⟨hx, hb, hml, hown, hts⟩ hM (vx_cwSW 4 hts ?_ hws rfl rfl hd ⟨by decide, by decide⟩) ⟨x_blind, x_PC_at (fun q hq => hq) hK (x_K_at C0) (x_Z_at C0) hPP hD hSS⟩ rfl rfl hl.1 rfl (lv_room (show (0 : Nat) ≤ 8 by decide)) hdg ⟨by show cells + 1 ≤ 601024; omega, by show slots + 6 ≤ 7293034; omega⟩) (fun r9 h' hp => ?_)
            · intro w hw
              have hm : w ∈ g_wsl := by
                unfold va_wsS at hw
                rcases List.mem_append.mp hw with h9 | h9
                · simp only [List.mem_cons, List.not_mem_nil, or_false] at h9
                  rcases h9 with rfl | rfl | rfl
                  · exact w1
                  · exact w2
                  · exact w3
                · exact (x_lof_good w h9).1
              exact ⟨hm, good_of_word (g_wsl_good w hm)⟩
            · have hp9 := hp
              obtain ⟨hT1, v1, rfl, hk⟩ := hp9
              have h9 : ∀ p ∈ L, p.2.1 = 9 → (fun _ => (0 : Int32)) p.2.2.toNat = (fun _ => v1) p.2.2.toNat := fun p hp h9 => by
                have := List.all_eq_true.mp g3 p hp
                rw [h9] at this
                cases this
              rw [show 536 + 3 = s_pc t from g2.symm]
              refine of_mB_ok (cells := cells + 1) (slots := slots + 6) (INV := iv_J A) (v1 := v1) hP hE hjm hjt (fun q hq => hYI q (List.mem_cons_of_mem _ hq)) g4 hsp (as := [.int u1, .int u2]) ?_ (of_pair hInv9 hp) (by omega) (by omega) (hn _ _ (by omega) (by omega)) (z_nuL h9 hL2) hF
              exact z_nuS (fun v hv h9 => by
                simp only [List.mem_cons, List.not_mem_nil, or_false] at hv
                rcases hv with rfl | rfl <;> cases h9) hag
    next => cases hb9
  next => cases hb9
set_option maxRecDepth 100000 in
theorem lw_row_d : decode code 1872 = .ok (.invokestatic 232, 3) ∧ (Cond.methodLink "GreenGearsLaw" 232 x_lrow_y ∈ g_wsl ∧ Cond.static x_lrow_y ∈ g_wsl ∧ Cond.initialized x_lrow_y.cls ∈ g_wsl) ∧ (x_lrow_y.cls ≠ "java/lang/invoke/MethodHandle" ∧ x_lrow_y.cls ≠ "java/lang/invoke/VarHandle" ∧ (parseMethodDescriptor x_lrow_y.desc).map (fun d => d.parameters.length) = some 3) ∧ (g_me 301).2.1 = 12 ∧ x_lrow_ws = .codeWith x_lrow_y method_4_code 4 (some .int) [(0, 8, 11, 13)] :: g_wsl := ⟨by decide +kernel, ⟨by decide +kernel, by decide +kernel, by decide +kernel⟩, by decide +kernel, by decide +kernel, rfl⟩
theorem lw_row (hflags : l.flags = flags0) (C0 : lw_At p s m meth c b L9 xs) (hK : g_K4 D dA s) (hP : z_cl L9 b xs (lw_PP p l e s m below meth c b D dA)) (hE : ∀ ν, z_ok L9 b xs (z_Ev i L9 b A xs ν)) {cells slots : Nat} (hc1 : cells + 10 ≤ 601024) (hc2 : slots + 133 ≤ 7293034) (hn : ∀ c' s', c' ≤ cells + 10 → s' ≤ slots + 133 → z_next (lw_PP p l e s m below meth c b D dA) (iv_J A) i L9 b A xs c' s') {Ls : g_L} (hL : z_gL (z_Ev i L9 b A xs (fun _ => 0)) z_L0 Ls) {h : g_H} (hI : iv_J A h) : lw_PP p l e s m below meth c b D dA (1864, Ls, [], cells, slots, h) := by
  have C1 := C0
  obtain ⟨hx, hb, hr, hml, hown, hts0, hX, hbl, hlocks, hgv⟩ := C1
  have hts : ∀ w ∈ g_wsl, w.before #[Value.ref b] s = true := fun w h => hts0 w (g_wsl_in w h)
  obtain ⟨hdg, ⟨w1, w2, w3⟩, hd, hjm, hws⟩ := lw_row_d
  have hb9 := iv_hC_row
  unfold iv_hC at hb9
  split at hb9
  next c9 ec =>
    split at hb9
    next ls9 el =>
      have hj := s_jump_mem ec
      obtain ⟨k1, k2⟩ := z_run_ok (w := (cells, slots, h)) (E := z_Ev i L9 b A xs (fun _ => 0)) hP (hE _) z_tab_ok 300 (c9, z_L0, [], []) ls9 el (fun q hq => z_tab_ok q (hj.2 q hq))
      have key := k2 (fun Y hY => ?_) Ls [] hL trivial (fun q hq => by cases hq)
      · rw [show s_pc c9 = 1864 from hj.1] at key
        exact key
      · have hbY := List.all_eq_true.mp hb9 Y hY
        have hYI := k1 Y hY
        obtain ⟨c8, L, st, F⟩ := Y
        cases c8 with
        | nil => cases hbY
        | cons r t =>
          unfold iv_hB at hbY
          simp only [Bool.and_eq_true, Nat.beq_eq, decide_eq_true_eq] at hbY
          obtain ⟨g1, g2, rfl, g3, hsp, g4⟩ := hbY
          intro Ls2 sts hL2 hS hF
          obtain ⟨x0, y0, rfl, e0, hS⟩ := z_gS_c hS
          obtain ⟨x1, y1, rfl, e1, hS⟩ := z_gS_c hS
          obtain ⟨x9, y9, rfl, e9, hS⟩ := z_gS_c hS
          cases y9 with
          | cons _ _ => exact hS.elim
          | nil =>
            obtain ⟨u1, hu1⟩ : ∃ u : Int32, x1 = .int u := ⟨_, e1⟩
            have hag : z_gS (z_Ev i L9 b A xs (fun _ => 0)) [(8, 1)] [x1] := ⟨e1, trivial⟩
            have e0 : x0 = .ref (A 106) := e0
            have e9 : x9 = .ref (A 0) := e9
            subst e0 e9
            subst hu1
            show lw_PP p l e s m below meth c b D dA (r.1, Ls2, [.ref (A 106), .int u1, .ref (A 0)], cells, slots, h)
            rw [g1]
            intro ls H locs hl hPP hD hSS
            have hM := x_lrow2 l (x_tr hflags) (d := 50) rfl (x := A 0) (o := A 106) (u := u1) (h := h) hI rfl rfl D dA H.size
            refine g_after (D := D) (h := h) (fun q hq => hq) hl hD hSS (vx_runSW (cells := cells) (slots := slots) (As := [.ref (A 0), .int u1, .ref (A 106)]) (rest := []) (n := 3) (R := room_1) (own := R_law) ⟨hx, hb, hml, hown, hts⟩ hM (vx_cwSW 3 hts ?_ hws rfl rfl hd ⟨by decide, by decide⟩) ⟨x_blind, x_PC_at (fun q hq => hq) hK (x_K_at C0) (x_Z_at C0) hPP hD hSS⟩ rfl rfl hl.1 rfl (lv_room (show (0 : Nat) ≤ 8 by decide)) hdg ⟨by show cells + 1 ≤ 601024; omega, by show slots + 6 ≤ 7293034; omega⟩) (fun r9 h' hp => ?_)
            · intro w hw
              have hm : w ∈ g_wsl := by
                unfold va_wsS at hw
                rcases List.mem_append.mp hw with h9 | h9
                · simp only [List.mem_cons, List.not_mem_nil, or_false] at h9
                  rcases h9 with rfl | rfl | rfl
                  · exact w1
                  · exact w2
                  · exact w3
                · exact (x_lrow_good w h9).1
              exact ⟨hm, good_of_word (g_wsl_good w hm)⟩
            · obtain ⟨⟨v1, rfl⟩, hI1⟩ := hp
              have h9 : ∀ p ∈ L, p.2.1 = 9 → (fun _ => (0 : Int32)) p.2.2.toNat = (fun _ => v1) p.2.2.toNat := fun p hp h9 => by
                have := List.all_eq_true.mp g3 p hp
                rw [h9] at this
                cases this
              rw [show 1872 + 3 = s_pc t from g2.symm]
              refine z_midB_ok (cells := cells + 1) (slots := slots + 6) (INV := iv_J A) (v1 := v1) (cmp := false) (lg := true) hP hE hjm (fun q hq => hYI q (List.mem_cons_of_mem _ hq)) g4 hsp (as := [.int u1]) ?_ ⟨iv_sh_ok (iv_J_inv hI1), g_run_mono (hmR_301L A h' [.int u1] hI1 ⟨⟨u1, rfl, fun h => by cases h⟩, trivial⟩) (fun r2 h2 hp => ⟨⟨0, hp.1, fun h => by cases h⟩, hp.2⟩)⟩ (fun _ => rfl) (by omega) (by omega) (hn _ _ (by omega) (by omega)) (z_nuL h9 hL2) hF
              exact z_nuS (fun v hv h9 => by
                simp only [List.mem_cons, List.not_mem_nil, or_false] at hv
                rcases hv with rfl <;> cases h9) hag
    next => cases hb9
  next => cases hb9
end L64

-- methods of the machine over kinds and bounds are the plain machine's
section Y10
variable {cc : ByteArray} {o nL : Nat} {R : y_R} {mi : List s_MI} {ft : s_FT} {W W' : y_W} {β β' : Nat → Int} {φ : Nat → Nat → Value}
/-- the arguments have names of their own -/
def y_b0 (β : Nat → Int) (xs : List Value) : Nat → Int := fun k => if 100000 ≤ k ∧ k < 150000 then y_vn (xs.getD (k - 100000) .null) else if 150000 ≤ k ∧ k < 200000 then β (k + 150000) else β k
theorem y_arg_ok {n : Nat} {v : y_V} {x : Value} (h : y_g W β v x) (hn : β n = y_vn x) : y_g W β (y_arg n v) x := by
  obtain ⟨t, lo, hi, k, c, k2, c2⟩ := v
  unfold y_arg
  cases e : (Nat.blt t 2 && Nat.beq k 0)
  · exact h
  · rw [cond_true]
    rw [Bool.and_eq_true, Nat.blt_eq, Nat.beq_eq] at e
    match t, e.1, h with
    | 0, _, ⟨m, em, b1, b2, b3⟩ =>
      subst em
      exact ⟨m, rfl, b1, b2, fun _ => by show m.toInt = β n + 0; rw [hn]; show m.toInt = m.toInt + 0; omega, b3.2⟩
    | 1, _, ⟨m, em, b1, b2, b3⟩ =>
      subst em
      exact ⟨m, rfl, b1, b2, fun _ => by show m.toInt = β n + 0; rw [hn]; show m.toInt = m.toInt + 0; omega, b3.2⟩
theorem y_args_ok : ∀ {vs : List y_V} {xs : List Value} {i n : Nat}, y_gA W β vs xs → i + y_sum (vs.map (fun v => (v, 0))) ≤ 1000 → (∀ k x, xs[k]? = some x → β (n + k) = y_vn x) → y_gL W β (y_args i n vs) (lv_args i xs)
  | [], [], _, _, _, _, _ => fun q hq => by cases hq
  | [], _ :: _, _, _, h, _, _ => h.elim
  | _ :: _, [], _, _, h, _, _ => h.elim
  | v :: vs, x :: xs, i, n, h, hi, hb => by
    have hc := y_cat h.1
    have hi' : i + ((bif y_c2 v then 2 else 1) + y_sum (vs.map (fun v => (v, 0)))) ≤ 1000 := hi
    have hrec := y_args_ok (i := if x.category = 2 then i + 2 else i + 1) (n := n + 1) h.2 (by
      rw [hc]
      cases e : y_c2 v
      · rw [e, cond_false] at hi'
        show i + 1 + _ ≤ 1000
        omega
      · rw [e, cond_true] at hi'
        show i + 2 + _ ≤ 1000
        omega) (fun k y hk => by
        have := hb (k + 1) y hk
        rw [← this]
        congr 1
        omega)
    have ei : (bif y_c2 v then i + 2 else i + 1) = if x.category = 2 then i + 2 else i + 1 := by
      rw [hc]
      cases y_c2 v <;> rfl
    intro q hq
    rcases List.mem_cons.mp (show q ∈ (i, y_arg n v) :: y_args (bif y_c2 v then i + 2 else i + 1) (n + 1) vs from hq) with rfl | hq
    · refine ⟨x, y_at_m List.mem_cons_self (by show i < 200000; omega), y_arg_ok h.1 (hb 0 x rfl)⟩
    · rw [ei] at hq
      obtain ⟨y, h1, h2⟩ := hrec q hq
      exact ⟨y, ⟨fun h0 => List.mem_cons_of_mem _ (h1.1 h0), h1.2⟩, h2⟩
theorem y_slA : ∀ {vs : List y_V} {xs : List Value}, y_gA W β vs xs → (lg_sl xs).length = y_sum (vs.map (fun v => (v, 0)))
  | [], [], _ => rfl
  | [], _ :: _, h => h.elim
  | _ :: _, [], h => h.elim
  | v :: vs, x :: xs, h => by
    have e := y_slA h.2
    have hc := y_cat h.1
    have e0 : lg_sl (x :: xs) = (if x.category = 2 then [Slot.val x, .second] else [Slot.val x]) ++ lg_sl xs := by
      unfold lg_sl
      rw [List.flatMap_cons]
    rw [e0, List.length_append, e, hc]
    show _ = (bif y_c2 v then 2 else 1) + y_sum (vs.map (fun v => (v, 0)))
    cases y_c2 v <;> rfl
theorem y_lg_ok (hb : ∀ k, 200000 ≤ k → k < 300000 → β' k = β k) {r : y_Q} {n : Int} (h : y_rl β r n) : y_rl β' (y_loq (y_glq r)) n := by
  have h1 : y_rl (fun k => if k < 300000 then β' k else β k) (y_glq r) n := y_glq_ok (fun k hk => by
    by_cases h1 : k < 300000
    · exact (if_pos h1).trans (hb k hk h1)
    · exact if_neg h1) h
  exact y_loq_ok (fun k hk => (if_pos hk).symm) h1
/-- what is told of the arguments at an end -/
theorem y_oargs_ok {L : y_L} {Ls : g_L} (hW : W <+: W') (hb : ∀ k, 200000 ≤ k → k < 300000 → β' k = β k) (hL : y_gL W' β' L Ls) : ∀ {vs : List y_V} {xs : List Value} {i n : Nat} {α : Type} (k : List y_V → α), y_gA W β vs xs → (∀ k x, xs[k]? = some x → β' (n + k) = y_vn x) → 0 < n → ∃ us, y_oargs L i n vs k = k us ∧ y_gA W' β' us xs
  | [], [], _, _, _, k, _, _, _ => ⟨[], rfl, trivial⟩
  | [], _ :: _, _, _, _, _, h, _, _ => h.elim
  | _ :: _, [], _, _, _, _, h, _, _ => h.elim
  | v :: vs, x :: xs, i, n, α, k, h, hn, h0 => by
    obtain ⟨us, e, hus⟩ := y_oargs_ok hW hb hL (vs := vs) (xs := xs) (i := bif y_c2 v then i + 2 else i + 1) (n := n + 1) (fun us => k (y_oarg L i n v :: us)) h.2 (fun k y hk => by
      have := hn (k + 1) y hk
      rw [← this]
      congr 1
      omega) (by omega)
    refine ⟨y_oarg L i n v :: us, ?_, ?_, hus⟩
    · rw [y_oargs, y_fv_eq]
      exact e
    · have hv : y_g W' β' (y_mq (fun r => y_loq (y_glq r)) v) x := y_mq_ok (fun r n => y_lg_ok hb) (y_ext_g hW h.1)
      unfold y_oarg
      split
      next u eu =>
        cases e1 : (Nat.beq u.1 v.1 && (Nat.blt u.1 2 && (Nat.beq u.2.2.2.1 n && decide (u.2.2.2.2.1 = 0))))
        · exact hv
        · rw [cond_true]
          simp only [Bool.and_eq_true, Nat.beq_eq, Nat.blt_eq, decide_eq_true_eq] at e1
          obtain ⟨e2, e3, e4, e5⟩ := e1
          obtain ⟨y, -, hy⟩ := hL _ (y_find_in eu)
          have hx := hn 0 x rfl
          have hn0 : β' n = y_vn x := hx
          have hyx : y = x := by
            obtain ⟨t, lo, hi, r⟩ := u
            obtain ⟨t', lo', hi', r'⟩ := v
            have e2' : t = t' := e2
            subst e2'
            match t, e3, hy, h.1 with
            | 0, _, ⟨m, em, _, _, b3⟩, ⟨m', em', _⟩ =>
              subst em em'
              have b4 := b3.1 (by rw [show r.1 = n from e4]; omega)
              rw [show r.1 = n from e4, show r.2.1 = 0 from e5, hn0] at b4
              have b5 : m.toInt = m'.toInt + 0 := b4
              rw [Int32.toInt_inj.mp (b5.trans (Int.add_zero _))]
            | 1, _, ⟨m, em, _, _, b3⟩, ⟨m', em', _⟩ =>
              subst em em'
              have b4 := b3.1 (by rw [show r.1 = n from e4]; omega)
              rw [show r.1 = n from e4, show r.2.1 = 0 from e5, hn0] at b4
              have b5 : m.toInt = m'.toInt + 0 := b4
              rw [Int64.toInt_inj.mp (b5.trans (Int.add_zero _))]
          rw [← hyx]
          exact y_mq_ok (fun r n => y_glq_ok (fun _ _ => rfl)) hy
      next => exact hv
/-- an end -/
theorem y_ret_ok {rt : Nat} {rtT : Option FieldType} {post : Option Value → g_H → Prop} (hrt : s_rtok rt rtT) {X : y_X} {x : Option y_V} (e : y_ret rt X = some x) (hX : ∀ r ∈ X.1, s_okI cc o r = true) {Ls : g_L} {sts : List Value} {h : g_H} (hS : y_gS W β Ls X.2.2 sts) : ∃ z, y_gR W β x z ∧ (post z h → g_end cc rtT 0 0 post (s_pc X.1, Ls, sts, 0, 0, h)) := by
  obtain ⟨code, L, st⟩ := X
  match code, e, hX with
  | (pc, len, q, kd, a, k, v, ins) :: t, e, hX =>
    have hr := hX _ List.mem_cons_self
    unfold y_ret at e
    dsimp only at e hS
    split at e
    next =>
      obtain ⟨h3, h4⟩ := s_bif e
      cases h4
      rw [Bool.and_eq_true, Nat.beq_eq, Nat.beq_eq] at h3
      obtain ⟨rfl, rfl⟩ := h3
      obtain ⟨⟨n, hd, hlen, hne⟩, hQ, -⟩ := s_okI_eq hr (by omega)
      have hi : ins = .return_ := of_decide_eq_true hQ
      have hn := hne (by decide)
      rw [hn, hi] at hd
      rw [y_gS_nil hS]
      exact ⟨none, rfl, fun hp => ⟨Nat.le_refl _, Nat.le_refl _, Or.inr (Or.inr (Or.inr ⟨hd, hrt, rfl, hp⟩))⟩⟩
    next u he hX2 =>
      obtain ⟨y, ys, rfl, hg, -, hS'⟩ := y_gS_cons hS
      rw [y_gS_nil hS']
      cases e1 : (Nat.beq q 40 && Nat.beq u.1.1 0)
      · rw [e1, cond_false] at e
        cases e2 : (Nat.beq q 41 && (Nat.beq rt 3 && Nat.beq u.1.1 1))
        · rw [e2, cond_false] at e
          obtain ⟨h3, h4⟩ := s_bif e
          cases h4
          simp only [Bool.and_eq_true, Nat.beq_eq] at h3
          obtain ⟨rfl, rfl, hv⟩ := h3
          obtain ⟨⟨n, hd, hlen, hne⟩, hQ, -⟩ := s_okI_eq hr (by omega)
          have hi : ins = .areturn := of_decide_eq_true hQ
          have hn := hne (by decide)
          rw [hn, hi] at hd
          obtain ⟨nm, hnm⟩ := hrt
          have hk : y_tk 2 u.1 = true := by
            show (Nat.ble 2 u.1.1 && Nat.ble u.1.1 4) = true
            rw [Bool.and_eq_true]
            exact hv
          exact ⟨some y, ⟨y, rfl, hg⟩, fun hp => ⟨Nat.le_refl _, Nat.le_refl _, Or.inr (Or.inr (Or.inl ⟨y, nm, hd, hnm, (y_tk_g hk hg).2.2 (by decide), rfl, hp⟩))⟩⟩
        · rw [e2, cond_true] at e
          cases e
          simp only [Bool.and_eq_true, Nat.beq_eq] at e2
          obtain ⟨rfl, rfl, hv⟩ := e2
          obtain ⟨⟨n, hd, hlen, hne⟩, hQ, -⟩ := s_okI_eq hr (by omega)
          have hi : ins = .lreturn := of_decide_eq_true hQ
          have hn := hne (by decide)
          rw [hn, hi] at hd
          obtain ⟨m, rfl, -⟩ := y_isL_g (Nat.beq_eq.mpr hv) hg
          exact ⟨some (.long m), ⟨_, rfl, hg⟩, fun hp => ⟨Nat.le_refl _, Nat.le_refl _, Or.inr (Or.inl ⟨m, hd, hrt, rfl, hp⟩)⟩⟩
      · rw [e1, cond_true] at e
        rw [Bool.and_eq_true, Nat.beq_eq, Nat.beq_eq] at e1
        obtain ⟨rfl, hv⟩ := e1
        obtain ⟨⟨n, hd, hlen, hne⟩, hQ, -⟩ := s_okI_eq hr (by omega)
        have hi : ins = .ireturn := of_decide_eq_true hQ
        have hn := hne (by decide)
        rw [hn, hi] at hd
        obtain ⟨m, rfl, hm⟩ := y_isI_g (Nat.beq_eq.mpr hv) hg
        cases e3 : Nat.beq rt 1
        · rw [e3, cond_false] at e
          obtain ⟨h3, h4⟩ := s_bif e
          cases h4
          simp only [Bool.and_eq_true, Nat.beq_eq, decide_eq_true_eq] at h3
          obtain ⟨rfl, h5, h6⟩ := h3
          have m1 := hm.1
          have m2 := hm.2.1
          have hx : m = 0 ∨ m = 1 := by
            have h0 : (0 : Int32).toInt = 0 := rfl
            have h1 : (1 : Int32).toInt = 1 := rfl
            rcases (show m.toInt = 0 ∨ m.toInt = 1 by omega) with h | h
            · exact Or.inl (Int32.toInt_inj.mp (h.trans h0.symm))
            · exact Or.inr (Int32.toInt_inj.mp (h.trans h1.symm))
          have hnar : narrow .boolean (.int m) = .int m := by rcases hx with rfl | rfl <;> rfl
          exact ⟨some (.int m), ⟨_, rfl, hg⟩, fun hp => ⟨Nat.le_refl _, Nat.le_refl _, Or.inl ⟨m, .boolean, hd, hrt, hnar, rfl, hp⟩⟩⟩
        · rw [e3, cond_true] at e
          cases e
          rw [Nat.beq_eq] at e3
          subst e3
          exact ⟨some (.int m), ⟨_, rfl, hg⟩, fun hp => ⟨Nat.le_refl _, Nat.le_refl _, Or.inl ⟨m, .int, hd, hrt, rfl, rfl, hp⟩⟩⟩
    next => cases e
theorem y_outs_in {rt : Nat} {as : List y_V} : ∀ {Xs : List y_X} {os : List y_O}, y_outs rt as Xs = some os → ∀ X ∈ Xs, ∃ o, y_out rt as X = some o ∧ o ∈ os
  | [], _, e, X, hX => by cases hX
  | Y :: Xs, os, e, X, hX => by
    rw [y_outs] at e
    split at e
    next => cases e
    next o1 e1 =>
      split at e
      next => cases e
      next os1 e2 =>
        cases e
        rcases List.mem_cons.mp hX with rfl | hX
        · exact ⟨o1, e1, List.mem_cons_self⟩
        · obtain ⟨o2, a1, a2⟩ := y_outs_in e2 X hX
          exact ⟨o2, a1, List.mem_cons_of_mem _ a2⟩
theorem y_leA_ok : ∀ {vs ws : List y_V} {xs : List Value}, y_leA vs ws = true → y_gA W β vs xs → y_gA W β ws xs
  | [], [], [], _, _ => trivial
  | [], [], _ :: _, _, h => h
  | [], _ :: _, _, e, _ => by cases e
  | _ :: _, [], _, e, _ => by cases e
  | _ :: _, _ :: _, [], _, h => h.elim
  | v :: vs, w :: ws, x :: xs, e, h => by
    rw [y_leA, Bool.and_eq_true] at e
    exact ⟨y_le_ok e.1 h.1, y_leA_ok e.2 h.2⟩
theorem y_leN_ok {N M : y_L} {Ls : g_L} (e : y_leN N M = true) (h : y_gL W β N Ls) : y_gL W β M Ls := by
  intro q hq
  unfold y_leN at e
  rw [List.all_eq_true] at e
  have h1 := e q hq
  split at h1
  next v ev =>
    obtain ⟨x, hx, hg⟩ := h _ (y_find_in ev)
    exact ⟨x, hx, y_le_ok h1 hg⟩
  next => cases h1
theorem y_leR_ok {a b : Option y_V} {z : Option Value} (e : y_leR a b = true) (h : y_gR W β a z) : y_gR W β b z := by
  unfold y_leR at e
  split at e
  next => exact h
  next v w =>
    obtain ⟨y, e1, hy⟩ := h
    exact ⟨y, e1, y_le_ok e hy⟩
  next => cases e
theorem y_body_ok {codes : List (List s_I)} {An : Nat → List y_B} {F d : Nat} {K : y_Call} (hRo : y_Rok R) (hft : s_ftok ft) (hmi : s_miok mi) (hco : ∀ j q, mi[j]? = some q → s_pc (codes.getD j []) = 0 ∧ ∀ r ∈ codes.getD j [], s_okI (g_by j) q.2.2.2.2.2 r = true) (ih : y_CS R K (g_run d)) :
    y_CS R (y_body R ft mi codes An F K) (g_run (d + 1)) := by
  intro j as N outs e φ W β h xs hH hA hN post hpost
  unfold y_body at e
  split at e
  next => cases e
  next Q e1 =>
    rw [y_mV_eq, y_nms_eq, y_en_eq] at e
    obtain ⟨h1, h2⟩ := s_bif e
    rw [Bool.and_eq_true, Nat.ble_eq, Nat.ble_eq] at h1
    split at h2
    next => cases h2
    next Xs e2 =>
      split at h2
      next => cases h2
      next os e3 =>
        unfold y_mrgd at h2
        obtain ⟨hcov, h4⟩ := s_bif h2
        cases h4
        obtain ⟨m1, m2, m3, m4, m5⟩ := hmi j Q e1
        obtain ⟨c1, c2⟩ := hco j Q e1
        have hA' : y_gA W β (as.map (y_mq y_glq)) xs := y_gA_m (fun r n => y_glq_ok (fun _ _ => rfl)) hA
        have hb0 : ∀ k, 200000 ≤ k → y_b0 β xs k = β k := fun k hk => by
          unfold y_b0
          rw [if_neg (by omega), if_neg (by omega)]
        have hbM : ∀ k, 150000 ≤ k → k < 200000 → y_b0 β xs k = β (k + 150000) := fun k h1 h2 => by
          unfold y_b0
          rw [if_neg (by omega), if_pos (by omega)]
        have hA0 : y_gA W (y_b0 β xs) (as.map (y_mq y_glq)) xs := y_gA_m (fun r n => y_glq_ok hb0) hA
        have hlen : ∀ {vs : List y_V} {ys : List Value}, y_gA W β vs ys → ys.length ≤ y_sum (vs.map (fun v => (v, 0))) := by
          intro vs
          induction vs with
          | nil =>
            intro ys h
            cases ys with
            | nil => exact Nat.le_refl _
            | cons _ _ => exact h.elim
          | cons v vs ihv =>
            intro ys h
            cases ys with
            | nil => exact h.elim
            | cons y ys =>
              have := ihv h.2
              show ys.length + 1 ≤ (bif y_c2 v then 2 else 1) + y_sum (vs.map (fun v => (v, 0)))
              cases y_c2 v
              · show _ ≤ 1 + _
                omega
              · show _ ≤ 2 + _
                omega
        have hl := hlen hA'
        have hnm : ∀ k x, xs[k]? = some x → y_b0 β xs (100000 + k) = y_vn x := fun k x hk => by
          have hkl : k < xs.length := (List.getElem?_eq_some_iff.mp hk).1
          unfold y_b0
          rw [if_pos (by omega), show 100000 + k - 100000 = k by omega, List.getD_eq_getElem?_getD, hk]
          rfl
        refine ⟨m1, ?_, ?_⟩
        · rw [y_slA hA', m2]
          exact h1.1
        · rw [m5, m2, m4]
          intro P hpP hcl
          have key := (y_run_ok (φ := φ) (P := P) hcl hRo hft hmi ih c2 F [] _ Xs e2 c2 (fun g hg => by cases hg))
          have fin := key.2 W (y_b0 β xs) h (lv_args 0 xs) [] (y_H_b hRo hb0 hH) (fun q hq => by
            rcases List.mem_append.mp hq with hq | hq
            · exact y_args_ok hA0 (by omega) hnm q hq
            · exact y_enL_ok (fun k h1 h2 => by rw [hb0 k (by omega), hbM _ (by omega) (by omega)]; congr 1; omega) (y_nmsL_ok hb0 hN) q hq) trivial (fun g hg => by cases hg) ?_
          · dsimp only at fin
            rw [c1] at fin
            exact fin
          · intro Y hY W' β' h' Ls' sts' hW' hb' hH' hL' hS'
            obtain ⟨o1, eo, ho⟩ := y_outs_in e3 Y hY
            have hcv : ∃ m ∈ y_mrg os [], y_leO o1 m = true := by
              unfold y_cov at hcov
              rw [List.all_eq_true] at hcov
              exact List.any_eq_true.mp (hcov o1 ho)
            obtain ⟨m, hm, hle⟩ := hcv
            unfold y_leO at hle
            rw [Bool.and_eq_true, Bool.and_eq_true] at hle
            unfold y_out at eo
            split at eo
            next => cases eo
            next x ex =>
              obtain ⟨z, hz, hend⟩ := y_ret_ok (post := post) (h := h') m3 ex (key.1 Y hY) hS'
              have hbg : ∀ k, 200000 ≤ k → k < 300000 → β' k = β k := fun k h1 h2 => (hb' k (by omega) h2).trans (hb0 k h1)
              obtain ⟨us, eu, hus⟩ := y_oargs_ok hW' hbg hL' (i := 0) (n := 100000) (fun us => y_nmo Y.2.1 (fun N => y_outk x us N)) hA' (fun k x hk => by
                  have hkl : k < xs.length := (List.getElem?_eq_some_iff.mp hk).1
                  rw [hb' _ (by omega) (by omega)]
                  exact hnm k x hk) (by omega)
              rw [eu] at eo
              rw [y_nmo_eq] at eo
              have hNs : y_gL W' β' (y_nmoL Y.2.1) [] := y_nmoL_ok hL'
              have fin2 : y_gR W' β' o1.1 z ∧ o1.2.1 = us ∧ o1.2.2 = y_nmoL Y.2.1 := by
                cases x with
                | none =>
                  cases eo
                  exact ⟨hz, rfl, rfl⟩
                | some v =>
                  unfold y_outk at eo
                  dsimp only at eo
                  rw [y_fv_eq] at eo
                  cases eo
                  obtain ⟨y, ey, hy⟩ := hz
                  exact ⟨⟨y, ey, y_mq_ok (fun r n => y_glq_ok (fun _ _ => rfl)) hy⟩, rfl, rfl⟩
              obtain ⟨f1, f2, f3⟩ := fin2
              rw [f2, f3] at hle
              exact hpP _ (hend (hpost m hm W' β' h' z hW' hbg (fun k h1 h2 => (hb' k (by omega) (by omega)).trans (hbM k h1 h2)) hH' (y_leR_ok hle.1 f1) (y_leA_ok hle.2.1 hus) (y_leN_ok hle.2.2 hNs)))
/-- EVERY CALL of the machine over kinds and bounds is sound, where those told by hand are -/
theorem y_K_ok {codes : List (List s_I)} {An : Nat → List y_B} {F : Nat} {hand : Nat → y_Call} (hRo : y_Rok R) (hft : s_ftok ft) (hmi : s_miok mi) (hco : ∀ j q, mi[j]? = some q → s_pc (codes.getD j []) = 0 ∧ ∀ r ∈ codes.getD j [], s_okI (g_by j) q.2.2.2.2.2 r = true) (hh : ∀ d, y_CS R (hand d) (g_run (d + 1))) :
    ∀ d, y_CS R (y_K R ft mi codes An F hand d) (g_run d) := by
  intro d
  induction d with
  | zero => intro j as N outs e; cases e
  | succ d ih =>
    intro j as N outs e
    simp only [y_K] at e
    split at e
    next outs' e1 =>
      cases e
      exact hh d j as N _ e1
    next => exact y_body_ok hRo hft hmi hco ih j as N outs e
end Y10

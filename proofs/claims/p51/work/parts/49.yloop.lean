-- runs of the machine over kinds and bounds are the plain machine's
section Y9
variable {CALL : Nat → List Value → g_H → Nat → Nat → (Option Value → g_H → Prop) → Prop} {cc : ByteArray} {o nL : Nat} {ini : Bool} {bc bs : Nat} {P : g_S → Prop} {R : y_R} {K : y_Call} {mi : List s_MI} {ft : s_FT} {An : List y_B} {φ : Nat → Nat → Value}
variable {full t : List s_I} {st : List y_T}
theorem y_doE_ok (hcl : ∀ S, g_pre CALL o nL ini bc bs cc P S → P S) (hmi : s_miok mi) {pc len q kd a k : Nat} {v : Int} {ins : Instr} (hq : q = 34 ∨ q = 35) (hI : s_okI cc o (pc, len, q, kd, a, k, v, ins) = true) {j : Nat} {as rest : List y_T} (e : y_doE R mi (pc, len, q, kd, a, k, v, ins) t st = some (j, as, rest)) {W : y_W} {β : Nat → Int} {h : g_H} {Ls : g_L} {sts : List Value} (hH : y_H φ R W β h) (hS : y_gS W β Ls st sts) :
    s_pc t = pc + 3 ∧ ∃ xs sr, y_gS W β Ls as xs ∧ y_gS W β Ls rest sr ∧ (CALL j xs h 0 0 (fun r h' => P (pc + 3, Ls, r.toList ++ sr, 0, 0, h')) → P (pc, Ls, sts, 0, 0, h)) := by
  obtain ⟨⟨n, hd, hlen, hne⟩, hQ, hlk⟩ := s_okI_eq hI (by omega)
  replace hlk := hlk (by omega)
  have hn := hne (by omega)
  rw [hn] at hd hlen
  clear hne hI
  unfold y_doE at e
  dsimp only at e
  split at e
  next as' rest' e1 =>
    obtain ⟨hg, e2⟩ := s_bif e
    obtain ⟨l, g1, g2, g3⟩ := y_tkn_eq _ _ _ _ _ e1
    rw [List.append_nil] at g1
    rw [g2] at hS
    obtain ⟨u, w, hu, hul, hS1, hS2⟩ := y_gS_app hS
    have hr := y_gS_rev hS1
    rw [← g1] at hr
    have hsu : sts = u.reverse.reverse ++ w := by rw [List.reverse_reverse]; exact hu
    have hul2 : u.reverse.length = k := by rw [List.length_reverse, hul, g3]
    rcases hq with rfl | rfl
    · have hQ' : ∃ i, ins = .invokevirtual i := by
        clear e e1 e2 hd hlk hlen hn hcl hg
        revert hQ
        cases ins <;> intro hQ <;> first | exact ⟨_, rfl⟩ | cases hQ
      obtain ⟨i, rfl⟩ := hQ'
      obtain ⟨ps, hlk⟩ := hlk i rfl
      have hgo : s_pc t = pc + 3 := by have := s_go_eq hg; rw [this]; show pc + len = _; rw [hlen]; rfl
      rw [show Nat.beq 34 35 = false from rfl, cond_false] at e2
      split at e2
      next x rest2 =>
        split at e2
        next ro e3 =>
          split at e2
          next Q e4 =>
            obtain ⟨h2, h3⟩ := s_bif e2
            cases h3
            simp only [Bool.and_eq_true, Bool.or_eq_true, Nat.beq_eq, Bool.not_eq_true', Nat.ble_eq] at h2
            obtain ⟨hkd, hc1, hc2, hck⟩ := h2
            obtain ⟨y, ys, rfl, hgy, hpy, hS3⟩ := y_gS_cons hS2
            obtain ⟨q, ad, f, rfl, hqW, hget, -⟩ := y_ro_ok e3 hgy hH
            have hm := hmi _ _ e4
            rw [hc1, hc2, ← hm.2.2.2.2] at hget
            refine ⟨hgo, .ref ad :: u.reverse, ys, ⟨⟨hgy, hpy⟩, hr⟩, hS3, fun hcall => ?_⟩
            exact hcl _ ⟨_, _, hd, Or.inr (Or.inr (Or.inr (Or.inr (Or.inl ⟨i, kd, _, k, v, ps, u.reverse, ad, ys, q, _, f, 0, 0, rfl, rfl, hkd, hlk, hsu, hul2, hget, by rw [y_sum_g hS3]; exact hck, Nat.zero_le _, Nat.zero_le _, hcall⟩))))⟩
          next => cases e2
        next => cases e2
      next => cases e2
    · have hQ' : ∃ i, ins = .invokestatic i := by
        clear e e1 e2 hd hlk hlen hn hcl hg
        revert hQ
        cases ins <;> intro hQ <;> first | exact ⟨_, rfl⟩ | cases hQ
      obtain ⟨i, rfl⟩ := hQ'
      obtain ⟨ps, hlk⟩ := hlk i rfl
      have hgo : s_pc t = pc + 3 := by have := s_go_eq hg; rw [this]; show pc + len = _; rw [hlen]; rfl
      rw [show Nat.beq 35 35 = true from rfl, cond_true] at e2
      obtain ⟨h2, h3⟩ := s_bif e2
      cases h3
      simp only [Bool.and_eq_true, Bool.or_eq_true, Nat.beq_eq, Nat.ble_eq] at h2
      obtain ⟨hkd, hck⟩ := h2
      refine ⟨hgo, u.reverse, w, hr, hS2, fun hcall => ?_⟩
      exact hcl _ ⟨_, _, hd, Or.inr (Or.inr (Or.inr (Or.inr (Or.inr (Or.inl ⟨i, kd, _, k, v, ps, u.reverse, w, 0, 0, rfl, rfl, hkd, hlk, hsu, hul2, by rw [y_sum_g hS2]; exact hck, Nat.zero_le _, Nat.zero_le _, hcall⟩)))))⟩
  next => cases e
/-- what is wanted of an end -/
def y_end (φ : Nat → Nat → Value) (R : y_R) (P : g_S → Prop) (W : y_W) (β : Nat → Int) (Y : y_X) : Prop := ∀ (W' : y_W) (β' : Nat → Int) (h' : g_H) (Ls' : g_L) (sts' : List Value), W <+: W' → (∀ k, 100000 ≤ k → k < 300000 → β' k = β k) → y_H φ R W' β' h' → y_gL W' β' Y.2.1 Ls' → y_gS W' β' Ls' Y.2.2 sts' → P (s_pc Y.1, Ls', sts', 0, 0, h')
theorem y_end_mono {W W1 : y_W} {β β1 : Nat → Int} {Y : y_X} (hW : W <+: W1) (hb : ∀ k, 100000 ≤ k → k < 300000 → β1 k = β k) (h : y_end φ R P W β Y) : y_end φ R P W1 β1 Y := fun W' β' h' Ls' sts' hW' hb' hH hL hS => h W' β' h' Ls' sts' (hW.trans hW') (fun k h1 h2 => (hb' k h1 h2).trans (hb k h1 h2)) hH hL hS
theorem y_fa_pc {pc : Nat} {a : y_A} : ∀ {G : List y_A}, y_fa pc G = some a → a ∈ G ∧ a.1 = pc
  | [], h => by cases h
  | g :: G, h => by
    rw [y_fa] at h
    cases e : Nat.beq g.1 pc
    · rw [e, cond_false] at h
      exact ⟨List.mem_cons_of_mem _ (y_fa_pc h).1, (y_fa_pc h).2⟩
    · rw [e, cond_true] at h
      cases h
      exact ⟨List.mem_cons_self, Nat.beq_eq.mp e⟩
theorem y_fB_pc {pc : Nat} {b : y_B} : ∀ {An : List y_B}, y_fB pc An = some b → b.1 = pc
  | [], h => by cases h
  | g :: G, h => by
    rw [y_fB] at h
    cases e : Nat.beq g.1 pc
    · rw [e, cond_false] at h
      exact y_fB_pc h
    · rw [e, cond_true] at h
      cases h
      exact Nat.beq_eq.mp e
theorem y_keep_eq {α : Type} (ms : List Nat) (eff : Bool) : ∀ (L : y_L), ∃ V, ∀ k : y_L → α, y_keep ms eff L k = k V
  | [] => ⟨[], fun _ => rfl⟩
  | (j, v) :: t => by
    obtain ⟨V, hV⟩ := y_keep_eq ms eff t
    cases e : (y_isn j ms || (eff && Nat.ble 300000 j))
    · exact ⟨(j, v) :: V, fun k => by rw [y_keep, e, cond_false, hV]⟩
    · exact ⟨V, fun k => by rw [y_keep, e, cond_true, hV]⟩
theorem y_gS_nil {W : y_W} {β : Nat → Int} {Ls : g_L} {sts : List Value} (h : y_gS W β Ls [] sts) : sts = [] := by
  cases sts with
  | nil => rfl
  | cons x xs => exact h.elim
theorem y_run_ok (hcl : ∀ S, g_pre CALL o nL ini bc bs cc P S → P S) (hRo : y_Rok R) (hft : s_ftok ft) (hmi : s_miok mi) (hCS : y_CS R K CALL) (hfull : ∀ r ∈ full, s_okI cc o r = true) :
    ∀ (n : Nat) (G : List y_A) (X : y_X) (outs : List y_X), y_run R ft mi K An full nL n G X = some outs → (∀ r ∈ X.1, s_okI cc o r = true) → (∀ g ∈ G, y_Aok g) →
      (∀ Y ∈ outs, ∀ r ∈ Y.1, s_okI cc o r = true) ∧
      ∀ (W : y_W) (β : Nat → Int) (h : g_H) (Ls : g_L) (sts : List Value), y_H φ R W β h → y_gL W β X.2.1 Ls → y_gS W β Ls X.2.2 sts → (∀ g ∈ G, y_act φ R P W β g) → (∀ Y ∈ outs, y_end φ R P W β Y) → P (s_pc X.1, Ls, sts, 0, 0, h) := by
  intro n
  induction n with
  | zero => intro G X outs e; cases e
  | succ n ih =>
    intro G X outs e hX hG
    obtain ⟨code, L, st⟩ := X
    cases code with
    | nil => cases (show (none : Option (List y_X)) = some outs from e)
    | cons r t =>
      unfold y_run at e
      have hr := hX _ List.mem_cons_self
      have ht : ∀ q ∈ t, s_okI cc o q = true := fun q hq => hX q (List.mem_cons_of_mem _ hq)
      have hcd : ∀ {Xs : List y_X}, y_cd full t Xs → ∀ X ∈ Xs, ∀ q ∈ X.1, s_okI cc o q = true := fun hc X hX q hq => by
        rcases hc X hX q hq with h | h
        · exact ht q h
        · exact hfull q h
      dsimp only at e
      split at e
      next a ea =>
        -- the loop goes on
        obtain ⟨ha1, ha2⟩ := y_fa_pc ea
        split at e
        next =>
          obtain ⟨hb, e2⟩ := s_bif e
          cases e2
          refine ⟨fun Y hY => (by cases hY), fun W β h Ls sts hH hL hS hA hE => ?_⟩
          rw [y_gS_nil hS]
          obtain ⟨β', b1, b2, b3⟩ := y_back_ok (hG a ha1) hb hL
          have key := hA a ha1 W β' h Ls (List.prefix_refl _) (fun k hk => b1 k (by omega)) (y_H_b hRo (fun k hk => b1 k (Or.inr (by omega))) hH) b2 b3
          rw [ha2] at key
          exact key
        next => cases e
      next ea =>
        split at e
        next b eA =>
          -- a loop begins
          have hb1 := y_fB_pc eA
          split at e
          next =>
            obtain ⟨V, eV⟩ := y_keep_eq (α := Option (List y_X)) b.2.2.2.2.1 b.2.2.2.2.2.1 L
            rw [eV] at e
            have ha2 : (y_mkA b V).1 = r.1 := hb1
            generalize y_mkA b V = a at e ha2
            obtain ⟨hb, e2⟩ := s_bif e
            rw [Bool.and_eq_true, Nat.blt_eq] at hb
            unfold y_fin at e2
            split at e2
            next => cases e2
            next Xs e3 =>
              have hcX := hcd (y_do_cd (show y_do R ft full nL (r.1, r.2.1, r.2.2.1, r.2.2.2.1, r.2.2.2.2.1, r.2.2.2.2.2.1, r.2.2.2.2.2.2.1, r.2.2.2.2.2.2.2) t a.2.2.2.2 [] = some Xs from e3))
              refine ⟨fun Y hY => ?_, fun W β h Ls sts hH hL hS hA hE => ?_⟩
              · obtain ⟨X, hXm, outs1, e4, hY1⟩ := s_all_out e2 Y hY
                have hAok := y_ent_A hb.1
                exact (ih (a :: G) X outs1 e4 (hcX X hXm) (fun g hg => by
                  rcases List.mem_cons.mp hg with rfl | hg
                  · exact hAok
                  · exact hG g hg)).1 Y hY1
              · rw [y_gS_nil hS]
                obtain ⟨hAok, hGa, β0, c1, c2⟩ := y_ent_ok hb.1 hL
                have hG' : ∀ g ∈ a :: G, y_Aok g := fun g hg => by
                  rcases List.mem_cons.mp hg with rfl | hg
                  · exact hAok
                  · exact hG g hg
                obtain ⟨l, v, hctr⟩ := hAok.2.2
                have loop : ∀ (N : Nat) (W' : y_W) (β' : Nat → Int) (h' : g_H) (Ls' : g_L), W <+: W' → (∀ k, (k < a.2.2.1 ∨ (100000 ≤ k ∧ k < 300000)) → β' k = β k) → y_H φ R W' β' h' → y_gL W' β' a.2.2.2.2 Ls' → (if a.2.1 = true then (v.2.2.1 - β' a.2.2.1).toNat else (β' a.2.2.1 - v.2.1).toNat) = N → P (a.1, Ls', [], 0, 0, h') := by
                  intro N
                  induction N using Nat.strongRecOn with
                  | ind N ihN =>
                    intro W' β' h' Ls' hW' hb' hH' hL' hN
                    have hbd := y_ctr_ok hctr hAok.1 hL'
                    obtain ⟨pc, len, q, kd, aa, k, vv, ins⟩ := r
                    have hpc : a.1 = pc := ha2
                    rw [hpc]
                    refine y_do_ok hcl hRo hft (by have := hb.2; dsimp only at this; omega) hr ht hH' hL' (st := []) (sts := []) trivial e3 ?_
                    intro X hXm β2 h2 Ls2 sts2 hb2 hH2 hL2 hS2
                    obtain ⟨outs1, e4, hsub⟩ := s_all_in e2 X hXm
                    refine (ih (a :: G) X outs1 e4 (hcX X hXm) hG').2 W' β2 h2 Ls2 sts2 hH2 hL2 hS2 ?_ ?_
                    · intro g hg
                      rcases List.mem_cons.mp hg with rfl | hg
                      · intro W3 β3 h3 Ls3 hW3 hb3 hH3 hL3 hp
                        have hid := hAok.2.1
                        have hid2 : g.2.2.1 < 100000 := by
                          have := hAok.2.1 _ (y_mk_in (y_ctr_eq hctr).1)
                          exact this.2
                        have hbd3 := y_ctr_ok hctr hAok.1 hL3
                        have e9 : β2 g.2.2.1 = β' g.2.2.1 := hb2 _ (by omega)
                        rw [e9] at hp
                        have := ihN (if g.2.1 = true then (v.2.2.1 - β3 g.2.2.1).toNat else (β3 g.2.2.1 - v.2.1).toNat) (by
                          rw [← hN]
                          unfold y_pgs at hp
                          split
                          next hu =>
                            rw [if_pos hu] at hp
                            omega
                          next hu =>
                            rw [if_neg hu] at hp
                            omega) W3 β3 h3 Ls3 (hW'.trans hW3) (fun k hk => by rw [hb3 k hk, hb2 k (by omega), hb' k hk]) hH3 hL3 rfl
                        exact this
                      · refine y_act_mono hW' (fun k hk => ?_) (hA g hg)
                        have hlt := hGa g hg
                        have hid2 : a.2.2.1 < 100000 := (hAok.2.1 _ (y_mk_in (y_ctr_eq hctr).1)).2
                        rw [hb2 k (by omega)]
                        exact hb' k (by omega)
                    · intro Y hY
                      refine y_end_mono hW' (fun k h1 h2 => ?_) (hE Y (hsub Y hY))
                      rw [hb2 k h2]
                      exact hb' k (Or.inr ⟨h1, h2⟩)
                have key := loop _ W β0 h Ls (List.prefix_refl _) (fun k hk => c1 k (by omega)) (y_H_b hRo (fun k hk => c1 k (Or.inr (by omega))) hH) c2 rfl
                rw [ha2] at key
                exact key
          next => cases e
        next eA =>
          cases e40 : Nat.ble 40 r.2.2.1
          · rw [e40, cond_false] at e
            have hq40 : r.2.2.1 < 40 := Nat.lt_of_not_le (fun h => by rw [Nat.ble_eq_true_of_le h] at e40; cases e40)
            cases e34 : (Nat.beq r.2.2.1 34 || Nat.beq r.2.2.1 35)
            · -- a step
              rw [e34, cond_false] at e
              unfold y_fin at e
              split at e
              next => cases e
              next Xs e3 =>
                have hcX := hcd (y_do_cd (show y_do R ft full nL (r.1, r.2.1, r.2.2.1, r.2.2.2.1, r.2.2.2.2.1, r.2.2.2.2.2.1, r.2.2.2.2.2.2.1, r.2.2.2.2.2.2.2) t L st = some Xs from e3))
                refine ⟨fun Y hY => ?_, fun W β h Ls sts hH hL hS hA hE => ?_⟩
                · obtain ⟨X, hXm, outs1, e4, hY1⟩ := s_all_out e Y hY
                  exact (ih G X outs1 e4 (hcX X hXm) hG).1 Y hY1
                · obtain ⟨pc, len, q, kd, aa, k, vv, ins⟩ := r
                  refine y_do_ok hcl hRo hft hq40 hr ht hH hL hS e3 ?_
                  intro X hXm β2 h2 Ls2 sts2 hb2 hH2 hL2 hS2
                  obtain ⟨outs1, e4, hsub⟩ := s_all_in e X hXm
                  refine (ih G X outs1 e4 (hcX X hXm) hG).2 W β2 h2 Ls2 sts2 hH2 hL2 hS2 (fun g hg => y_act_mono (List.prefix_refl _) (fun k hk => ?_) (hA g hg)) (fun Y hY => y_end_mono (List.prefix_refl _) (fun k _ h2 => hb2 k h2) (hE Y (hsub Y hY)))
                  have hid2 : g.2.2.1 < 100000 := by
                    obtain ⟨l, v, hctr⟩ := (hG g hg).2.2
                    exact ((hG g hg).2.1 _ (y_mk_in (y_ctr_eq hctr).1)).2
                  exact hb2 k (by omega)
            · -- a call
              rw [e34, cond_true] at e
              rw [Bool.or_eq_true, Nat.beq_eq, Nat.beq_eq] at e34
              unfold y_cal at e
              split at e
              next => cases e
              next j as rest e3 =>
                rw [y_mV_eq, y_nmr_eq] at e
                split at e
                next => cases e
                next outs0 e5 =>
                  rw [y_aft_eq, y_afS_eq] at e
                  refine ⟨fun Y hY => ?_, fun W β h Ls sts hH hL hS hA hE => ?_⟩
                  · obtain ⟨out, ho, outs1, e4, hY1⟩ := s_all_out e Y hY
                    rw [y_mV_eq, y_tr_eq, y_ref_eq] at e4
                    exact (ih G _ outs1 e4 ht hG).1 Y hY1
                  · obtain ⟨pc, len, q, kd, aa, k, vv, ins⟩ := r
                    obtain ⟨hgo, xs, sr, hx1, hx2, hcall⟩ := y_doE_ok hcl hmi e34 hr e3 hH hS
                    refine hcall (hCS j _ _ outs0 e5 φ W β h xs hH (y_gS_gA (fun _ _ => rfl) hx1) (y_nmrL_ok hL) _ ?_)
                    intro out ho W' β' h' x hW' hb' hM' hH' hR' hA' hN'
                    obtain ⟨outs1, e4, hsub⟩ := s_all_in e out ho
                    rw [y_mV_eq, y_tr_eq, y_ref_eq] at e4
                    have hg2 : ∀ k, 200000 ≤ k → (fun k => if k < 200000 then β k else β' k) k = β' k := fun k hk => if_neg (by omega)
                    have hl2 : ∀ k, k < 300000 → (fun k => if k < 200000 then β k else β' k) k = β k := fun k hk => by
                      by_cases h1 : k < 200000
                      · exact if_pos h1
                      · exact (if_neg h1).trans (hb' k (by omega) hk)
                    have key := (ih G _ outs1 e4 ht hG).2 W' (fun k => if k < 200000 then β k else β' k) h' Ls (x.toList ++ sr) (y_H_b hRo hg2 hH') ?_ ?_ (fun g hg => y_act_mono hW' (fun k hk => ?_) (hA g hg)) (fun Y hY => y_end_mono hW' (fun k _ h2 => hl2 k h2) (hE Y (hsub Y hY)))
                    · rw [hgo] at key
                      exact key
                    · refine y_refL_ok (W := W) (β := β) hW' hl2 hx1 (y_gA_m (fun r n => y_glq_ok hg2) hA') ?_
                      intro p hp
                      rcases List.mem_append.mp hp with hp | hp
                      · exact y_trL_ok hg2 hl2 hM' hL hN' p hp
                      · exact y_ext_L hW' (y_aftL_ok hl2 hL) p hp
                    · have hsr := y_ext_S hW' (y_afSL_ok hl2 hx2)
                      unfold y_rst
                      unfold y_gR at hR'
                      cases eo : out.1 with
                      | none =>
                        rw [eo] at hR'
                        rw [show x = none from hR']
                        exact hsr
                      | some v =>
                        rw [eo] at hR'
                        obtain ⟨y, rfl, hy⟩ := hR'
                        dsimp only
                        rw [y_fv_eq]
                        exact ⟨⟨y_mq_ok (fun r n => y_glq_ok hg2) hy, fun h0 => absurd rfl h0⟩, hsr⟩
                    · have hid2 : g.2.2.1 < 100000 := by
                        obtain ⟨l, v, hctr⟩ := (hG g hg).2.2
                        exact ((hG g hg).2.1 _ (y_mk_in (y_ctr_eq hctr).1)).2
                      exact hl2 k (by omega)
          · -- an end
            rw [e40, cond_true] at e
            cases e
            refine ⟨fun Y hY => ?_, fun W β h Ls sts hH hL hS hA hE => ?_⟩
            · rw [List.mem_singleton] at hY
              subst hY
              exact hX
            · exact hE _ List.mem_cons_self W β h Ls sts (List.prefix_refl _) (fun _ _ _ => rfl) hH hL hS
end Y9

-- the law's cases slot and uneven, of every script
set_option maxRecDepth 100000 in
theorem s_un_a : s_okU 0 25 = true := by decide +kernel
set_option maxRecDepth 100000 in
theorem s_un_b : s_okU 25 25 = true := by decide +kernel
set_option maxRecDepth 100000 in
theorem s_un_c : s_okU 50 25 = true := by decide +kernel
set_option maxRecDepth 100000 in
theorem s_un_d : s_okU 75 26 = true := by decide +kernel
theorem s_okU_at {lo n : Nat} (h : s_okU lo n = true) {k : Nat} (h1 : lo ≤ k) (h2 : k < lo + n) : s_okK (s_KU ((k : Int) - 1)) (s_lit 31 31) = true := by
  have := List.all_eq_true.mp h (k - lo) (List.mem_range.mpr (by omega))
  rw [show lo + (k - lo) = k by omega] at this
  exact this
theorem s_okU_all {r : Int} (h1 : -1 ≤ r) (h2 : r ≤ 99) : s_okK (s_KU r) (s_lit 31 31) = true := by
  have e : r = (((r + 1).toNat : Nat) : Int) - 1 := by omega
  rw [e]
  by_cases c1 : (r + 1).toNat < 25
  · exact s_okU_at s_un_a (by omega) (by omega)
  by_cases c2 : (r + 1).toNat < 50
  · exact s_okU_at s_un_b (by omega) (by omega)
  by_cases c3 : (r + 1).toNat < 75
  · exact s_okU_at s_un_c (by omega) (by omega)
  exact s_okU_at s_un_d (by omega) (by omega)
section L50
variable {p : Program} {l : Launch} {e : Env} {s : State} {m : MethodId} {below : List Frame} {meth : Method} {c : Code} {b : Nat} {xs : Nat → Int32} {D : va_G} {dA : Nat → ClassId}
theorem lw_x32 : s_x32 (lw_xs xs) := fun i => by
  unfold lw_xs
  rw [Int32.ofInt_toInt]
theorem lw_allK (C0 : lw_At p s m meth c b 5 xs) (hK : g_K4 D dA s) {K : s_Call} (hCS : s_CS (lw_xs xs) s_mi K (g_run 30)) {X : s_X} (h : s_okK K X = true) (hX : ∀ r ∈ X.1, s_okI code 13 r = true) (σ : Nat → Int) (ρ : Nat → Nat) (hok : s_ok (lw_xs xs) σ X.2.2.2.2.2) : lw_PP p l e s m below meth c b D dA (s_cX σ ρ b X) := by
  unfold s_okK at h
  split at h
  next outs e1 =>
    obtain ⟨h1, h2⟩ := s_loop_ok (lw_cl (l := l) (e := e) (below := below) C0 hK) (lw_scr C0) s_ft_ok s_df_ok s_mi_ok hCS s_cl2_ok s_F X outs e1 hX
    exact h2 σ ρ hok (fun Y hY σ' ρ' _ _ _ => lw_good C0 (h1 Y hY).2.2 (List.all_eq_true.mp h Y hY))
  next => cases h
theorem lw_slot (C0 : lw_At p s m meth c b 5 xs) (hK : g_K4 D dA s) {σ : Nat → Int} (ρ : Nat → Nat) (hok : s_ok (lw_xs xs) σ lw_M) (h : σ 5 = 30) : lw_PP p l e s m below meth c b D dA (s_cX σ ρ b (s_lit 0 0)) := by
  have go : ∀ r : Int, sl_r (lw_xs xs) r → s_okK (s_KS r) (s_lit 30 30) = true → lw_PP p l e s m below meth c b D dA (s_cX σ ρ b (s_lit 0 0)) := fun r hr hk =>
    lw_allK C0 hK (s_KS_ok lw_x32 hr) (X := s_lit 30 30) hk s_c39_ok σ ρ (s_ok_set hok (Int.le_of_eq h.symm) (Int.le_of_eq h))
  by_cases hin : sl_in (lw_xs xs 1) (lw_xs xs 2) (lw_xs xs 3) (lw_xs xs 4)
  · have hr : ∀ r, sl_sg (sl_up (lw_xs xs 1) (lw_xs xs 2) (lw_xs xs 3) (lw_xs xs 4)) (sl_dn (lw_xs xs 1) (lw_xs xs 2) (lw_xs xs 3) (lw_xs xs 4)) = r → r ≠ -1 → sl_r (lw_xs xs) r := fun r h1 h2 => ⟨fun _ => ⟨h1, h2⟩, fun hn => absurd hin hn⟩
    by_cases c1 : sl_dn (lw_xs xs 1) (lw_xs xs 2) (lw_xs xs 3) (lw_xs xs 4) < sl_up (lw_xs xs 1) (lw_xs xs 2) (lw_xs xs 3) (lw_xs xs 4)
    · exact go 1 (hr 1 (by unfold sl_sg; rw [if_pos c1]) (by decide)) s_slot_1
    by_cases c2 : sl_up (lw_xs xs 1) (lw_xs xs 2) (lw_xs xs 3) (lw_xs xs 4) < sl_dn (lw_xs xs 1) (lw_xs xs 2) (lw_xs xs 3) (lw_xs xs 4)
    · exact go 2 (hr 2 (by unfold sl_sg; rw [if_neg c1, if_pos c2]) (by decide)) s_slot_2
    · exact go 0 (hr 0 (by unfold sl_sg; rw [if_neg c1, if_neg c2]) (by decide)) s_slot_0
  · exact go (-1) ⟨fun h1 => absurd h1 hin, fun _ => rfl⟩ s_slot_n
theorem lw_uneven (C0 : lw_At p s m meth c b 5 xs) (hK : g_K4 D dA s) {σ : Nat → Int} (ρ : Nat → Nat) (hok : s_ok (lw_xs xs) σ lw_M) (h : σ 5 = 31) : lw_PP p l e s m below meth c b D dA (s_cX σ ρ b (s_lit 0 0)) := by
  have go : ∀ r : Int, un_r (lw_xs xs) r → s_okK (s_KU r) (s_lit 31 31) = true → lw_PP p l e s m below meth c b D dA (s_cX σ ρ b (s_lit 0 0)) := fun r hr hk =>
    lw_allK C0 hK (s_KU_ok lw_x32 hr) (X := s_lit 31 31) hk s_c39_ok σ ρ (s_ok_set hok (Int.le_of_eq h.symm) (Int.le_of_eq h))
  by_cases hin : un_in (lw_xs xs 1) (lw_xs xs 2)
  · have hb := un_best_rng (lw_xs xs 1) (lw_xs xs 2) 99
    exact go _ ⟨fun _ => ⟨rfl, by omega⟩, fun hn => absurd hin hn⟩ (s_okU_all (by omega) (by omega))
  · exact go (-1) ⟨fun h1 => absurd h1 hin, fun _ => rfl⟩ (s_okU_all (by decide) (by decide))
end L50

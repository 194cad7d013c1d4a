-- the table of roles is right
def y_gloB (k : Nat) : Bool := Nat.beq k 0 || (Nat.ble 200000 k && Nat.blt k 300000)
def y_RokB (R : y_R) : Bool := R.2.all (fun p => Nat.ble 200000 p.1 && (match R.1[p.2.1]? with
  | some ro => !ro.1
  | none => true)) && (R.2.all (fun p => R.2.all (fun p' => !(Nat.beq p.1 p'.1 || (Nat.beq p.2.1 p'.2.1 && Nat.beq p.2.2 p'.2.2)) || (Nat.beq p.1 p'.1 && (Nat.beq p.2.1 p'.2.1 && Nat.beq p.2.2 p'.2.2)))) && R.1.all (fun ro => y_gloB ro.2.2.2.1 && ro.2.2.2.2.all (fun v => y_gloB v.2.2.2.1 && y_gloB v.2.2.2.2.2.1)))
theorem y_gloB_ok {k : Nat} (h : y_gloB k = true) : y_glo k := by
  unfold y_gloB at h
  simp only [Bool.or_eq_true, Bool.and_eq_true, Nat.beq_eq, Nat.ble_eq, Nat.blt_eq] at h
  exact h
theorem y_RokB_ok {R : y_R} (h : y_RokB R = true) : y_Rok R := by
  unfold y_RokB at h
  simp only [Bool.and_eq_true, List.all_eq_true] at h
  obtain ⟨h1, h2, h3⟩ := h
  refine ⟨fun p hp => ⟨Nat.le_of_ble_eq_true (h1 p hp).1, fun ro hro => ?_⟩, fun p hp p' hp' e => ?_, fun ro hro => ⟨y_gloB_ok (h3 ro hro).1, fun v hv => ⟨y_gloB_ok ((h3 ro hro).2 v hv).1, y_gloB_ok ((h3 ro hro).2 v hv).2⟩⟩⟩
  · have := (h1 p hp).2
    rw [hro] at this
    simpa using this
  · have := h2 p hp p' hp'
    simp only [Bool.or_eq_true, Bool.and_eq_true, Nat.beq_eq, Bool.not_eq_true'] at this
    rcases this with h | h
    · exfalso
      rw [Bool.or_eq_false_iff] at h
      rcases e with e | e
      · rw [e, Nat.beq_eq.mpr rfl] at h
        cases h.1
      · rw [e, Nat.beq_eq.mpr rfl, Nat.beq_eq.mpr rfl] at h
        cases h.2
    · exact Prod.ext h.1 (Prod.ext h.2.1 h.2.2)
theorem y_Rc_ok : y_Rok y_Rc := y_RokB_ok (by decide +kernel)
theorem y_Rm_ok : y_Rok y_Rm := y_RokB_ok (by decide +kernel)
theorem y_Rn_ok : y_Rok y_Rn := y_RokB_ok (by decide +kernel)
/-- nothing told by hand -/
theorem y_hand_ok (R : y_R) (d : Nat) : y_CS R (y_hand d) (g_run (d + 1)) := by
  intro j vs N outs e
  cases e
/-- EVERY CALL that passes is safe -/
theorem y_Kc_ok (d : Nat) : y_CS y_Rc (y_Kc d) (g_run d) := y_K_ok y_Rc_ok s_ft_ok s_mi_ok s_codes_ok (y_hand_ok y_Rc) d
theorem y_Kn_ok (d : Nat) : y_CS y_Rn (y_Kn d) (g_run d) := y_K_ok y_Rn_ok s_ft_ok s_mi_ok s_codes_ok (y_hand_ok y_Rn) d

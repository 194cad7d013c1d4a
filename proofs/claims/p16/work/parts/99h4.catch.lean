-- the law's helpers: they return, or catch what of and row throw
/-- the ends of of and row: an answer, or just before the throw -/
def iv_oE (pcs : List Nat) (ret kd : Nat) (Y : y_X) : Bool := match Y with
  | (r :: _, _, st) => bif y_isn r.1 pcs then st.isEmpty else (match st with
      | [v] => Nat.beq r.2.2.1 ret && Nat.beq v.1.1 kd
      | _ => false)
  | _ => false
def iv_o208r : Bool := match y_run y_Rr s_ft s_mi (y_Kr 50) [] s_c_208 3 1000 [] (s_c_208, [(0, (2, 0, 0, 0, 0, 0, 0)), (1, (0, -2147483648, 2147483647, 0, 0, 0, 0)), (2, (0, -2147483648, 2147483647, 0, 0, 0, 0))], []) with
  | some ls => ls.all (iv_oE [11, 114] 40 0)
  | none => false
set_option maxRecDepth 100000 in
theorem iv_o208r_ok : iv_o208r = true := by decide +kernel
def iv_o209r : Bool := match y_run y_Rr s_ft s_mi (y_Kr 50) [] s_c_209 2 1000 [] (s_c_209, [(0, (2, 0, 0, 0, 0, 0, 0)), (1, (0, -2147483648, 2147483647, 0, 0, 0, 0))], []) with
  | some ls => ls.all (iv_oE [11] 41 1)
  | none => false
set_option maxRecDepth 100000 in
theorem iv_o209r_ok : iv_o209r = true := by decide +kernel
theorem iv_outJ {A : Nat → Nat} {h : g_H} (hI : iv_J A h) : ∃ f, g_get h 106 = some (A 106, true, 1, 1, f) ∧ ∀ w : Int64, iv_J A (h.set 106 (A 106, true, 1, 1, g_up f 0 (.long w))) := by
  obtain ⟨W, b, hJ⟩ := hI
  have hJ1 := hJ.1
  obtain ⟨⟨β, hH⟩, hW, M, hM, hInv⟩ := hJ1
  have hq := hW 106 101 rfl
  obtain ⟨ro, f, e1, e2, e3⟩ := hH.2.1 106 (A 106) 101 hq
  cases e1
  refine ⟨f, e2, fun w => ?_⟩
  have hH' := y_H_set (f' := g_up f 0 (.long w)) hH hq rfl e2 (fun p hp hpr => by
    have hp' : p = (300001, 8, 5) := by
      have : p ∈ [(300001, 8, 5)] := hp
      simpa using this
    subst hp'
    cases hpr) (fun j hj => by
    have hj : j < 1 := hj
    have : j = 0 := by omega
    subst this
    have b1 := Int64.le_toInt w
    have b2 := Int64.toInt_lt w
    exact ⟨w, rfl, b1, by show w.toInt ≤ 9223372036854775807; omega, fun h => absurd rfl h, fun h => absurd rfl h⟩)
  have hx : iv_xW A W h (h.set 106 (A 106, true, 1, 1, g_up f 0 (.long w))) := by
    refine ⟨W, List.prefix_refl W, ⟨⟨β, y_H_ct hH'⟩, hW, M, ?_, hInv⟩, ?_, fun M2 hM2 => ?_⟩
    · exact iv_mod_k (W := W) (β := β) hM hW hH'
    · intro q a r ro hq2 hro hv
      by_cases e : q = 106
      · subst e
        rw [hq] at hq2
        cases hq2
        cases hro
        cases hv
      · obtain ⟨ro2, f2, g1, g2, -⟩ := (y_ro_fwd y_Rr_ro hH).2.1 q a r hq2
        rw [hro] at g1
        cases g1
        exact ⟨f2, (iv_get_set (fun h => e h.symm)).trans g2, fun j hj => (iv_ctZ g2 j).symm⟩
    · exact iv_mod_k (W := W) (β := β) hM2 hW hH'
  obtain ⟨W', -, hJ'⟩ := iv_J_c hJ hx (f_setA f_refl e2 rfl)
  exact ⟨W', b, hJ'⟩

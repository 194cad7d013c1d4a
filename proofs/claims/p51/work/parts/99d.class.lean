-- the class's calls keep what holds between calls (made by wip/p24/law/gen99d.py)
set_option maxRecDepth 20000
def iv_vs (k : Nat) : y_V := bif Nat.beq k 1 then (0, 0, 1, 0, 0, 0, 0) else (0, -2147483648, 2147483647, 0, 0, 0, 0)
/-- a call of the class keeps it -/
def iv_hx (j : Nat) (spec : List Nat) : Prop := ∀ (A : Nat → Nat) (h : g_H) (as : List Value), iv_inv A h → iv_sp spec as → g_run 60 j (.ref (A 0) :: as) h 0 0 (fun r h' => (∃ v, r = some (.int v)) ∧ iv_inv A h')
theorem iv_vs_g {W : y_W} {β : Nat → Int} : ∀ {spec : List Nat} {as : List Value}, iv_sp spec as → y_gA W β (spec.map iv_vs) as
  | [], as, h => by
    rw [iv_sp0 h]
    exact trivial
  | k :: ks, as, h => by
    obtain ⟨m, ys, rfl, h1, h2⟩ := iv_spc h
    refine ⟨?_, iv_vs_g h2⟩
    have b1 := Int32.le_toInt m
    have b2 := Int32.toInt_lt m
    unfold iv_vs
    cases e : Nat.beq k 1
    · exact ⟨m, rfl, b1, by show m.toInt ≤ 2147483647; omega, fun h => absurd rfl h, fun h => absurd rfl h⟩
    · rw [Nat.beq_eq] at e
      have := h1 e
      exact ⟨m, rfl, by show (0 : Int) ≤ m.toInt; omega, by show m.toInt ≤ 1; omega, fun h => absurd rfl h, fun h => absurd rfl h⟩
theorem iv_hxG {j : Nat} {K : y_Call} {Q : s_MI} {spec : List Nat} (hK : y_CS y_Rc K (g_run 60)) (hs : (K j ((2, 0, 0, 0, 0, 0, 0) :: spec.map iv_vs) []).isSome = true) (hq : s_mi[j]? = some Q) (hk : Q.2.1 = 1 ∨ Q.2.1 = 2) : iv_hx j spec := by
  intro A h as hI hsp
  exact g_run_rt (iv_call hK hs hI (fun W β hW => ⟨⟨0, A 0, rfl, hW 0 0 rfl⟩, iv_vs_g hsp⟩)) (fun _ _ h1 h2 => ⟨iv_rtI hq hk h2, h1⟩)
theorem iv_sh_ok {A : Nat → Nat} {h : g_H} (hI : iv_inv A h) : iv_sh A h := by
  obtain ⟨⟨W, β, hH, hW⟩, -⟩ := hI
  refine ⟨?_, ?_, ?_⟩
  · obtain ⟨ro, f, h1, h2, -⟩ := hH.2.1 0 (A 0) 0 (hW 0 0 rfl)
    cases h1
    exact ⟨_, _, h2⟩
  · obtain ⟨ro, f, h1, h2, -⟩ := hH.2.1 60 (A 60) 12 (hW 60 12 rfl)
    cases h1
    exact ⟨_, _, h2⟩
  · obtain ⟨ro, f, h1, h2, -⟩ := hH.2.1 106 (A 106) 101 (hW 106 101 rfl)
    cases h1
    exact ⟨_, h2⟩
theorem iv_pairG {A : Nat → Nat} {jx jm : Nat} {spec : List Nat} (hx : iv_hx jx spec) (hm : iv_hm jm spec) : iv_pair (iv_inv A) A jx jm spec false false := by
  intro h as hI hsp
  refine ⟨0, 0, by decide, by decide, g_run_mono (hx A h as hI hsp) (fun r1 h1 hp => ?_)⟩
  obtain ⟨⟨v1, e1⟩, hI1⟩ := hp
  refine ⟨v1, e1, iv_sh_ok hI1, g_run_mono (hm A h1 as hI1 hsp) (fun r2 h2 hp2 => ?_)⟩
  obtain ⟨⟨v2, e2⟩, hI2⟩ := hp2
  exact ⟨⟨v2, e2, fun h => by cases h⟩, hI2⟩
theorem hx_12 : iv_hx 12 [0, 0, 0, 0] := iv_hxG (Q := (5, 1, false, 0, 0, 11)) (y_Kc_ok 60) y_safe_12 (by decide +kernel) (by decide)
theorem hx_19 : iv_hx 19 [0, 0, 0, 0] := iv_hxG (Q := (13, 1, false, 0, 0, 11)) (y_Kc_ok 60) y_safe_19 (by decide +kernel) (by decide)
theorem hx_27 : iv_hx 27 [0, 0] := iv_hxG (Q := (4, 1, false, 0, 0, 11)) (y_Kc_ok 60) y_safe_27 (by decide +kernel) (by decide)
theorem hx_30 : iv_hx 30 [0, 0, 0, 0] := iv_hxG (Q := (7, 1, false, 0, 0, 11)) (y_Kc_ok 60) y_safe_30 (by decide +kernel) (by decide)
theorem hx_36 : iv_hx 36 [0, 0] := iv_hxG (Q := (3, 1, false, 0, 0, 11)) (y_Kc_ok 60) y_safe_36 (by decide +kernel) (by decide)
theorem hx_43 : iv_hx 43 [] := iv_hxG (Q := (1, 1, false, 0, 0, 11)) (y_Kc_ok 60) y_safe_43 (by decide +kernel) (by decide)
theorem hx_45 : iv_hx 45 [0] := iv_hxG (Q := (3, 1, false, 0, 0, 11)) (y_Kc_ok 60) y_safe_45 (by decide +kernel) (by decide)
theorem hx_61 : iv_hx 61 [] := iv_hxG (Q := (5, 1, false, 0, 0, 11)) (y_Kc_ok 60) y_safe_61 (by decide +kernel) (by decide)
theorem hx_62 : iv_hx 62 [] := iv_hxG (Q := (5, 1, false, 0, 0, 11)) (y_Kc_ok 60) y_safe_62 (by decide +kernel) (by decide)
theorem hx_63 : iv_hx 63 [0] := iv_hxG (Q := (7, 1, false, 0, 0, 11)) (y_Kc_ok 60) y_safe_63 (by decide +kernel) (by decide)
theorem hx_66 : iv_hx 66 [0, 0] := iv_hxG (Q := (6, 1, false, 0, 0, 11)) (y_Kc_ok 60) y_safe_66 (by decide +kernel) (by decide)
theorem hx_72 : iv_hx 72 [0, 0] := iv_hxG (Q := (12, 1, false, 0, 0, 11)) (y_Kc_ok 60) y_safe_72 (by decide +kernel) (by decide)
theorem hx_73 : iv_hx 73 [0] := iv_hxG (Q := (2, 1, false, 0, 0, 11)) (y_Kc_ok 60) y_safe_73 (by decide +kernel) (by decide)
theorem hx_85 : iv_hx 85 [0, 0] := iv_hxG (Q := (5, 1, false, 0, 0, 11)) (y_Kc_ok 60) y_safe_85 (by decide +kernel) (by decide)
theorem hx_99 : iv_hx 99 [0, 0, 0] := iv_hxG (Q := (5, 2, false, 0, 0, 11)) (y_Kc_ok 60) y_safe_99 (by decide +kernel) (by decide)
theorem hx_101 : iv_hx 101 [0, 0, 0] := iv_hxG (Q := (6, 1, false, 0, 0, 11)) (y_Kc_ok 60) y_safe_101 (by decide +kernel) (by decide)
theorem hx_106 : iv_hx 106 [0] := iv_hxG (Q := (4, 1, false, 0, 0, 11)) (y_Kc_ok 60) y_safe_106 (by decide +kernel) (by decide)
theorem hx_107 : iv_hx 107 [0, 0] := iv_hxG (Q := (4, 1, false, 0, 0, 11)) (y_Kc_ok 60) y_safe_107 (by decide +kernel) (by decide)
theorem hx_110 : iv_hx 110 [0] := iv_hxG (Q := (2, 1, false, 0, 0, 11)) (y_Kc_ok 60) y_safe_110 (by decide +kernel) (by decide)
theorem hx_112 : iv_hx 112 [0] := iv_hxG (Q := (2, 2, false, 0, 0, 11)) (y_Kc_ok 60) y_safe_112 (by decide +kernel) (by decide)
theorem hx_114 : iv_hx 114 [] := iv_hxG (Q := (3, 1, false, 0, 0, 11)) (y_Kc_ok 60) y_safe_114 (by decide +kernel) (by decide)
theorem hx_121 : iv_hx 121 [0, 0] := iv_hxG (Q := (3, 2, false, 0, 0, 11)) (y_Kc_ok 60) y_safe_121 (by decide +kernel) (by decide)
theorem hx_122 : iv_hx 122 [0, 0] := iv_hxG (Q := (7, 1, false, 0, 0, 11)) (y_Kc_ok 60) y_safe_122 (by decide +kernel) (by decide)
theorem hx_129 : iv_hx 129 [0] := iv_hxG (Q := (2, 1, false, 0, 0, 11)) (y_Kc_ok 60) y_safe_129 (by decide +kernel) (by decide)
theorem hx_132 : iv_hx 132 [0] := iv_hxG (Q := (2, 1, false, 0, 0, 11)) (y_Kc_ok 60) y_safe_132 (by decide +kernel) (by decide)
theorem hx_137 : iv_hx 137 [0, 0, 0] := iv_hxG (Q := (4, 2, false, 0, 0, 11)) (y_Kc_ok 60) y_safe_137 (by decide +kernel) (by decide)
theorem hx_140 : iv_hx 140 [0] := iv_hxG (Q := (2, 1, false, 0, 0, 11)) (y_Kd_ok 60) y_safe_140 (by decide +kernel) (by decide)
theorem hx_149 : iv_hx 149 [] := iv_hxG (Q := (3, 1, false, 0, 0, 11)) (y_Kc_ok 60) y_safe_149 (by decide +kernel) (by decide)
theorem hx_151 : iv_hx 151 [] := iv_hxG (Q := (1, 1, false, 0, 0, 11)) (y_Kd_ok 60) y_safe_151 (by decide +kernel) (by decide)
theorem hx_162 : iv_hx 162 [0, 0, 0, 0] := iv_hxG (Q := (9, 1, false, 0, 0, 11)) (y_Kc_ok 60) y_safe_162 (by decide +kernel) (by decide)
theorem hx_163 : iv_hx 163 [0, 0] := iv_hxG (Q := (9, 1, false, 0, 0, 11)) (y_Kc_ok 60) y_safe_163 (by decide +kernel) (by decide)
theorem hx_164 : iv_hx 164 [0, 0, 0] := iv_hxG (Q := (7, 1, false, 0, 0, 11)) (y_Kc_ok 60) y_safe_164 (by decide +kernel) (by decide)
theorem hx_166 : iv_hx 166 [0, 0, 0] := iv_hxG (Q := (9, 1, false, 0, 0, 11)) (y_Kc_ok 60) y_safe_166 (by decide +kernel) (by decide)
theorem hx_167 : iv_hx 167 [0] := iv_hxG (Q := (3, 1, false, 0, 0, 11)) (y_Kc_ok 60) y_safe_167 (by decide +kernel) (by decide)
theorem hx_170 : iv_hx 170 [0] := iv_hxG (Q := (3, 1, false, 0, 0, 11)) (y_Kc_ok 60) y_safe_170 (by decide +kernel) (by decide)
theorem hx_174 : iv_hx 174 [] := iv_hxG (Q := (2, 1, false, 0, 0, 11)) (y_Kc_ok 60) y_safe_174 (by decide +kernel) (by decide)
theorem hx_179 : iv_hx 179 [0, 1] := iv_hxG (Q := (3, 1, false, 0, 0, 11)) (y_Kc_ok 60) y_safe_179 (by decide +kernel) (by decide)
theorem hx_181 : iv_hx 181 [0, 1] := iv_hxG (Q := (3, 1, false, 0, 0, 11)) (y_Kc_ok 60) y_safe_181 (by decide +kernel) (by decide)
theorem hx_183 : iv_hx 183 [0] := iv_hxG (Q := (2, 1, false, 0, 0, 11)) (y_Kc_ok 60) y_safe_183 (by decide +kernel) (by decide)
theorem hx_185 : iv_hx 185 [] := iv_hxG (Q := (1, 1, false, 0, 0, 11)) (y_Kc_ok 60) y_safe_185 (by decide +kernel) (by decide)
theorem hx_188 : iv_hx 188 [] := iv_hxG (Q := (1, 1, false, 0, 0, 11)) (y_Kc_ok 60) y_safe_188 (by decide +kernel) (by decide)
theorem hx_190 : iv_hx 190 [] := iv_hxG (Q := (1, 1, false, 0, 0, 11)) (y_Kc_ok 60) y_safe_190 (by decide +kernel) (by decide)
theorem hx_192 : iv_hx 192 [0, 0, 0, 0] := iv_hxG (Q := (5, 1, false, 0, 0, 11)) (y_Kc_ok 60) y_safe_192 (by decide +kernel) (by decide)
theorem hx_194 : iv_hx 194 [] := iv_hxG (Q := (2, 1, false, 0, 0, 11)) (y_Kc_ok 60) y_safe_194 (by decide +kernel) (by decide)
theorem hx_203 : iv_hx 203 [0] := iv_hxG (Q := (3, 2, false, 0, 0, 11)) (y_Kc_ok 60) y_safe_203 (by decide +kernel) (by decide)
theorem hx_205 : iv_hx 205 [0, 0] := iv_hxG (Q := (6, 1, false, 0, 0, 11)) (y_Kc_ok 60) y_safe_205 (by decide +kernel) (by decide)
theorem hx_207 : iv_hx 207 [0] := iv_hxG (Q := (2, 1, false, 0, 0, 11)) (y_Kc_ok 60) y_safe_207 (by decide +kernel) (by decide)

-- what the symbolic run asks of its tables
theorem s_getD_ge {α : Type} {l : List α} {i : Nat} {d : α} (h : l.length ≤ i) : l.getD i d = d := by
  rw [List.getD_eq_getElem?_getD, List.getElem?_eq_none h]
  rfl
theorem s_getD_lt {α : Type} {l : List α} {i : Nat} (h : i < l.length) (d : α) : l[i]? = some (l.getD i d) := by
  rw [List.getD_eq_getElem?_getD, List.getElem?_eq_getElem h]
  rfl
def s_rtB (rt : Nat) (r : Option FieldType) : Bool := match rt, r with
  | 0, none => true
  | 1, some .int => true
  | 2, some .boolean => true
  | 3, some .long => true
  | 4, some (.object _) => true
  | 0, _ => false
  | 1, _ => false
  | 2, _ => false
  | 3, _ => false
  | 4, _ => false
  | _, _ => true
theorem s_rtB_ok {rt : Nat} {r : Option FieldType} (h : s_rtB rt r = true) : s_rtok rt r := by
  unfold s_rtB at h
  split at h <;> first | cases h | skip
  · exact rfl
  · exact rfl
  · exact rfl
  · exact rfl
  · exact ⟨_, rfl⟩
  · unfold s_rtok
    split <;> first | trivial | contradiction
def s_miB (j : Nat) : Bool := match s_mi[j]? with
  | some q => decide (j < g_mt.length) && (decide (g_nl j = q.1) && (s_rtB q.2.1 (g_rt j) && (decide (((g_y j).name == "<init>") = q.2.2.1) && decide ((g_me j).2.1 = q.2.2.2.2.2))))
  | none => false
set_option maxRecDepth 100000 in
theorem s_mi_okB : (List.range s_mi.length).all s_miB = true := by decide +kernel
theorem s_mi_ok : s_miok s_mi := by
  intro j q h
  obtain ⟨hj, -⟩ := List.getElem?_eq_some_iff.mp h
  have h1 := List.all_eq_true.mp s_mi_okB j (List.mem_range.mpr hj)
  unfold s_miB at h1
  rw [h] at h1
  simp only [Bool.and_eq_true, decide_eq_true_eq] at h1
  exact ⟨h1.1, h1.2.1, s_rtB_ok h1.2.2.1, h1.2.2.2.1, h1.2.2.2.2⟩
def s_tyB (ty : Nat) (T : Option FieldType) : Bool := match ty, T with
  | 0, some .int => true
  | 1, some .long => true
  | 2, some .boolean => true
  | 3, some (.object _) => true
  | 3, some (.array _) => true
  | _, _ => false
theorem s_tyB_ok {ty : Nat} {t : Option FieldType} : s_tyB ty t = true → ∃ T, t = some T ∧ (match ty with | 0 => T = .int | 1 => T = .long | 2 => T = .boolean | _ => (∃ n, T = .object n) ∨ ∃ u, T = .array u) := by
  intro h
  unfold s_tyB at h
  split at h
  · exact ⟨_, rfl, rfl⟩
  · exact ⟨_, rfl, rfl⟩
  · exact ⟨_, rfl, rfl⟩
  · exact ⟨_, rfl, Or.inl ⟨_, rfl⟩⟩
  · exact ⟨_, rfl, Or.inr ⟨_, rfl⟩⟩
  · cases h
theorem s_tyB_dv {ty : Nat} {t : Option FieldType} (h : s_tyB ty t = true) (σ : Nat → Int) (ρ : Nat → Nat) (b : Nat) : s_cv σ ρ b (s_dv ty) = defaultValue (t.getD .int) := by
  unfold s_tyB at h
  split at h <;> first | rfl | cases h
def s_ftB (a : Nat) : Bool := decide ((g_fl.getD a ("", [])).2.length = (s_ft.getD a []).length) && (List.range (s_ft.getD a []).length).all (fun k => decide ((g_fd a k).2 = ((s_ft.getD a []).getD k (9, true)).2) && s_tyB ((s_ft.getD a []).getD k (9, true)).1 (parseFieldDescriptor (g_fd a k).1))
set_option maxRecDepth 100000 in
theorem s_ft_okB : (List.range g_fl.length).all s_ftB = true := by decide +kernel
set_option maxRecDepth 100000 in
theorem s_ft_len : s_ft.length = g_fl.length := by decide +kernel
theorem s_ft_ok : s_ftok s_ft := by
  intro a k ty fin h hty
  by_cases ha : a < s_ft.length
  · by_cases hk : k < (s_ft.getD a []).length
    · have h1 := List.all_eq_true.mp s_ft_okB a (List.mem_range.mpr (s_ft_len ▸ ha))
      unfold s_ftB at h1
      rw [Bool.and_eq_true] at h1
      have h2 := List.all_eq_true.mp h1.2 k (List.mem_range.mpr hk)
      rw [h, Bool.and_eq_true, decide_eq_true_eq] at h2
      exact ⟨h2.1, s_tyB_ok h2.2⟩
    · rw [s_getD_ge (by omega)] at h
      cases h
      omega
  · rw [s_getD_ge (by omega : s_ft.length ≤ a)] at h
    cases h
    omega
theorem s_dfl_lk (d : s_V) : ∀ (l : List (Nat × Bool)) (i j : Nat), i ≤ j → s_lk (s_dfl i l) j d = (match l[j - i]? with | some f => s_dv f.1 | none => d) := by
  intro l
  induction l with
  | nil => intro i j _; rfl
  | cons f t ih =>
    intro i j hij
    rw [s_dfl, s_lk]
    by_cases e : i = j
    · subst e
      rw [show Nat.beq i i = true from Nat.beq_refl i, Nat.sub_self]
      rfl
    · rw [show Nat.beq i j = false from by cases hb : Nat.beq i j with | true => exact absurd (Nat.eq_of_beq_eq_true hb) e | false => rfl]
      rw [cond_false, ih (i + 1) j (by omega), show j - i = (j - (i + 1)) + 1 by omega]
      rfl
theorem s_df_ok : s_dfok s_ft := by
  intro a ha σ ρ b j
  have h1 := List.all_eq_true.mp s_ft_okB a (List.mem_range.mpr ha)
  unfold s_ftB at h1
  rw [Bool.and_eq_true, decide_eq_true_eq] at h1
  rw [s_dfl_lk _ _ 0 j (Nat.zero_le j), Nat.sub_zero]
  by_cases hk : j < (s_ft.getD a []).length
  · have h2 := List.all_eq_true.mp h1.2 j (List.mem_range.mpr hk)
    rw [Bool.and_eq_true] at h2
    have e : (s_ft.getD a [])[j]? = some ((s_ft.getD a []).getD j (9, true)) := s_getD_lt hk _
    rw [e]
    exact s_tyB_dv h2.2 σ ρ b
  · rw [List.getElem?_eq_none (by omega)]
    have e : g_fd a j = ("", false) := by
      unfold g_fd
      rw [s_getD_ge (by omega)]
    rw [e]
    rfl
def s_okL : Nat → List (List s_I) → Prop
  | _, [] => True
  | j, c :: t => c.all (s_okI (g_by j) (g_me j).2.1) = true ∧ s_okL (j + 1) t
theorem s_okL_cons {j : Nat} {c : List s_I} {t : List (List s_I)} (h : c.all (s_okI (g_by j) (g_me j).2.1) = true) (ht : s_okL (j + 1) t) : s_okL j (c :: t) := ⟨h, ht⟩
theorem s_okL_get : ∀ (l : List (List s_I)) (i j : Nat), s_okL i l → (l.getD j []).all (s_okI (g_by (i + j)) (g_me (i + j)).2.1) = true
  | [], _, _, _ => rfl
  | _ :: _, _, 0, h => h.1
  | _ :: t, i, j + 1, h => by
    have h1 := s_okL_get t (i + 1) j h.2
    rw [show i + (j + 1) = i + 1 + j by omega]
    exact h1
def s_cs_0 : List (List s_I) := [s_c_0, s_c_1, s_c_2, s_c_3, s_c_4, s_c_5, s_c_6, s_c_7, s_c_8, s_c_9, s_c_10, s_c_11, s_c_12, s_c_13, s_c_14, s_c_15, s_c_16, s_c_17, s_c_18, s_c_19, s_c_20, s_c_21, s_c_22, s_c_23, s_c_24]
theorem s_okL_0 (t : List (List s_I)) (h : s_okL 25 t) : s_okL 0 (s_cs_0 ++ t) :=
  s_okL_cons (j := 0) s_ck_0 (s_okL_cons (j := 1) s_ck_1 (s_okL_cons (j := 2) s_ck_2 (s_okL_cons (j := 3) s_ck_3 (s_okL_cons (j := 4) s_ck_4 (s_okL_cons (j := 5) s_ck_5 (s_okL_cons (j := 6) s_ck_6 (s_okL_cons (j := 7) s_ck_7 (s_okL_cons (j := 8) s_ck_8 (s_okL_cons (j := 9) s_ck_9 (s_okL_cons (j := 10) s_ck_10 (s_okL_cons (j := 11) s_ck_11 (s_okL_cons (j := 12) s_ck_12 (s_okL_cons (j := 13) s_ck_13 (s_okL_cons (j := 14) s_ck_14 (s_okL_cons (j := 15) s_ck_15 (s_okL_cons (j := 16) s_ck_16 (s_okL_cons (j := 17) s_ck_17 (s_okL_cons (j := 18) s_ck_18 (s_okL_cons (j := 19) s_ck_19 (s_okL_cons (j := 20) s_ck_20 (s_okL_cons (j := 21) s_ck_21 (s_okL_cons (j := 22) s_ck_22 (s_okL_cons (j := 23) s_ck_23 (s_okL_cons (j := 24) s_ck_24 (h)))))))))))))))))))))))))
def s_cs_25 : List (List s_I) := [s_c_25, s_c_26, s_c_27, s_c_28, s_c_29, s_c_30, s_c_31, s_c_32, s_c_33, s_c_34, s_c_35, s_c_36, s_c_37, s_c_38, s_c_39, s_c_40, s_c_41, s_c_42, s_c_43, s_c_44, s_c_45, s_c_46, s_c_47, s_c_48, s_c_49]
theorem s_okL_25 (t : List (List s_I)) (h : s_okL 50 t) : s_okL 25 (s_cs_25 ++ t) :=
  s_okL_cons (j := 25) s_ck_25 (s_okL_cons (j := 26) s_ck_26 (s_okL_cons (j := 27) s_ck_27 (s_okL_cons (j := 28) s_ck_28 (s_okL_cons (j := 29) s_ck_29 (s_okL_cons (j := 30) s_ck_30 (s_okL_cons (j := 31) s_ck_31 (s_okL_cons (j := 32) s_ck_32 (s_okL_cons (j := 33) s_ck_33 (s_okL_cons (j := 34) s_ck_34 (s_okL_cons (j := 35) s_ck_35 (s_okL_cons (j := 36) s_ck_36 (s_okL_cons (j := 37) s_ck_37 (s_okL_cons (j := 38) s_ck_38 (s_okL_cons (j := 39) s_ck_39 (s_okL_cons (j := 40) s_ck_40 (s_okL_cons (j := 41) s_ck_41 (s_okL_cons (j := 42) s_ck_42 (s_okL_cons (j := 43) s_ck_43 (s_okL_cons (j := 44) s_ck_44 (s_okL_cons (j := 45) s_ck_45 (s_okL_cons (j := 46) s_ck_46 (s_okL_cons (j := 47) s_ck_47 (s_okL_cons (j := 48) s_ck_48 (s_okL_cons (j := 49) s_ck_49 (h)))))))))))))))))))))))))
def s_cs_50 : List (List s_I) := [s_c_50, s_c_51, s_c_52, s_c_53, s_c_54, s_c_55, s_c_56, s_c_57, s_c_58, s_c_59, s_c_60, s_c_61, s_c_62, s_c_63, s_c_64, s_c_65, s_c_66, s_c_67, s_c_68, s_c_69, s_c_70, s_c_71, s_c_72, s_c_73, s_c_74]
theorem s_okL_50 (t : List (List s_I)) (h : s_okL 75 t) : s_okL 50 (s_cs_50 ++ t) :=
  s_okL_cons (j := 50) s_ck_50 (s_okL_cons (j := 51) s_ck_51 (s_okL_cons (j := 52) s_ck_52 (s_okL_cons (j := 53) s_ck_53 (s_okL_cons (j := 54) s_ck_54 (s_okL_cons (j := 55) s_ck_55 (s_okL_cons (j := 56) s_ck_56 (s_okL_cons (j := 57) s_ck_57 (s_okL_cons (j := 58) s_ck_58 (s_okL_cons (j := 59) s_ck_59 (s_okL_cons (j := 60) s_ck_60 (s_okL_cons (j := 61) s_ck_61 (s_okL_cons (j := 62) s_ck_62 (s_okL_cons (j := 63) s_ck_63 (s_okL_cons (j := 64) s_ck_64 (s_okL_cons (j := 65) s_ck_65 (s_okL_cons (j := 66) s_ck_66 (s_okL_cons (j := 67) s_ck_67 (s_okL_cons (j := 68) s_ck_68 (s_okL_cons (j := 69) s_ck_69 (s_okL_cons (j := 70) s_ck_70 (s_okL_cons (j := 71) s_ck_71 (s_okL_cons (j := 72) s_ck_72 (s_okL_cons (j := 73) s_ck_73 (s_okL_cons (j := 74) s_ck_74 (h)))))))))))))))))))))))))
def s_cs_75 : List (List s_I) := [s_c_75, s_c_76, s_c_77, s_c_78, s_c_79, s_c_80, s_c_81, s_c_82, s_c_83, s_c_84, s_c_85, s_c_86, s_c_87, s_c_88, s_c_89, s_c_90, s_c_91, s_c_92, s_c_93, s_c_94, s_c_95, s_c_96, s_c_97, s_c_98, s_c_99]
theorem s_okL_75 (t : List (List s_I)) (h : s_okL 100 t) : s_okL 75 (s_cs_75 ++ t) :=
  s_okL_cons (j := 75) s_ck_75 (s_okL_cons (j := 76) s_ck_76 (s_okL_cons (j := 77) s_ck_77 (s_okL_cons (j := 78) s_ck_78 (s_okL_cons (j := 79) s_ck_79 (s_okL_cons (j := 80) s_ck_80 (s_okL_cons (j := 81) s_ck_81 (s_okL_cons (j := 82) s_ck_82 (s_okL_cons (j := 83) s_ck_83 (s_okL_cons (j := 84) s_ck_84 (s_okL_cons (j := 85) s_ck_85 (s_okL_cons (j := 86) s_ck_86 (s_okL_cons (j := 87) s_ck_87 (s_okL_cons (j := 88) s_ck_88 (s_okL_cons (j := 89) s_ck_89 (s_okL_cons (j := 90) s_ck_90 (s_okL_cons (j := 91) s_ck_91 (s_okL_cons (j := 92) s_ck_92 (s_okL_cons (j := 93) s_ck_93 (s_okL_cons (j := 94) s_ck_94 (s_okL_cons (j := 95) s_ck_95 (s_okL_cons (j := 96) s_ck_96 (s_okL_cons (j := 97) s_ck_97 (s_okL_cons (j := 98) s_ck_98 (s_okL_cons (j := 99) s_ck_99 (h)))))))))))))))))))))))))
def s_cs_100 : List (List s_I) := [s_c_100, s_c_101, s_c_102, s_c_103, s_c_104, s_c_105, s_c_106, s_c_107, s_c_108, s_c_109, s_c_110, s_c_111, s_c_112, s_c_113, s_c_114, s_c_115, s_c_116, s_c_117, s_c_118, s_c_119, s_c_120, s_c_121, s_c_122, s_c_123, s_c_124]
theorem s_okL_100 (t : List (List s_I)) (h : s_okL 125 t) : s_okL 100 (s_cs_100 ++ t) :=
  s_okL_cons (j := 100) s_ck_100 (s_okL_cons (j := 101) s_ck_101 (s_okL_cons (j := 102) s_ck_102 (s_okL_cons (j := 103) s_ck_103 (s_okL_cons (j := 104) s_ck_104 (s_okL_cons (j := 105) s_ck_105 (s_okL_cons (j := 106) s_ck_106 (s_okL_cons (j := 107) s_ck_107 (s_okL_cons (j := 108) s_ck_108 (s_okL_cons (j := 109) s_ck_109 (s_okL_cons (j := 110) s_ck_110 (s_okL_cons (j := 111) s_ck_111 (s_okL_cons (j := 112) s_ck_112 (s_okL_cons (j := 113) s_ck_113 (s_okL_cons (j := 114) s_ck_114 (s_okL_cons (j := 115) s_ck_115 (s_okL_cons (j := 116) s_ck_116 (s_okL_cons (j := 117) s_ck_117 (s_okL_cons (j := 118) s_ck_118 (s_okL_cons (j := 119) s_ck_119 (s_okL_cons (j := 120) s_ck_120 (s_okL_cons (j := 121) s_ck_121 (s_okL_cons (j := 122) s_ck_122 (s_okL_cons (j := 123) s_ck_123 (s_okL_cons (j := 124) s_ck_124 (h)))))))))))))))))))))))))
def s_cs_125 : List (List s_I) := [s_c_125, s_c_126, s_c_127, s_c_128, s_c_129, s_c_130, s_c_131, s_c_132, s_c_133, s_c_134, s_c_135, s_c_136, s_c_137, s_c_138, s_c_139, s_c_140, s_c_141, s_c_142, s_c_143, s_c_144, s_c_145, s_c_146, s_c_147, s_c_148, s_c_149]
theorem s_okL_125 (t : List (List s_I)) (h : s_okL 150 t) : s_okL 125 (s_cs_125 ++ t) :=
  s_okL_cons (j := 125) s_ck_125 (s_okL_cons (j := 126) s_ck_126 (s_okL_cons (j := 127) s_ck_127 (s_okL_cons (j := 128) s_ck_128 (s_okL_cons (j := 129) s_ck_129 (s_okL_cons (j := 130) s_ck_130 (s_okL_cons (j := 131) s_ck_131 (s_okL_cons (j := 132) s_ck_132 (s_okL_cons (j := 133) s_ck_133 (s_okL_cons (j := 134) s_ck_134 (s_okL_cons (j := 135) s_ck_135 (s_okL_cons (j := 136) s_ck_136 (s_okL_cons (j := 137) s_ck_137 (s_okL_cons (j := 138) s_ck_138 (s_okL_cons (j := 139) s_ck_139 (s_okL_cons (j := 140) s_ck_140 (s_okL_cons (j := 141) s_ck_141 (s_okL_cons (j := 142) s_ck_142 (s_okL_cons (j := 143) s_ck_143 (s_okL_cons (j := 144) s_ck_144 (s_okL_cons (j := 145) s_ck_145 (s_okL_cons (j := 146) s_ck_146 (s_okL_cons (j := 147) s_ck_147 (s_okL_cons (j := 148) s_ck_148 (s_okL_cons (j := 149) s_ck_149 (h)))))))))))))))))))))))))
def s_cs_150 : List (List s_I) := [s_c_150, s_c_151, s_c_152, s_c_153, s_c_154, s_c_155, s_c_156, s_c_157, s_c_158, s_c_159, s_c_160, s_c_161, s_c_162, s_c_163, s_c_164, s_c_165, s_c_166, s_c_167, s_c_168, s_c_169, s_c_170, s_c_171, s_c_172, s_c_173, s_c_174]
theorem s_okL_150 (t : List (List s_I)) (h : s_okL 175 t) : s_okL 150 (s_cs_150 ++ t) :=
  s_okL_cons (j := 150) s_ck_150 (s_okL_cons (j := 151) s_ck_151 (s_okL_cons (j := 152) s_ck_152 (s_okL_cons (j := 153) s_ck_153 (s_okL_cons (j := 154) s_ck_154 (s_okL_cons (j := 155) s_ck_155 (s_okL_cons (j := 156) s_ck_156 (s_okL_cons (j := 157) s_ck_157 (s_okL_cons (j := 158) s_ck_158 (s_okL_cons (j := 159) s_ck_159 (s_okL_cons (j := 160) s_ck_160 (s_okL_cons (j := 161) s_ck_161 (s_okL_cons (j := 162) s_ck_162 (s_okL_cons (j := 163) s_ck_163 (s_okL_cons (j := 164) s_ck_164 (s_okL_cons (j := 165) s_ck_165 (s_okL_cons (j := 166) s_ck_166 (s_okL_cons (j := 167) s_ck_167 (s_okL_cons (j := 168) s_ck_168 (s_okL_cons (j := 169) s_ck_169 (s_okL_cons (j := 170) s_ck_170 (s_okL_cons (j := 171) s_ck_171 (s_okL_cons (j := 172) s_ck_172 (s_okL_cons (j := 173) s_ck_173 (s_okL_cons (j := 174) s_ck_174 (h)))))))))))))))))))))))))
def s_cs_175 : List (List s_I) := [s_c_175, s_c_176, s_c_177, s_c_178, s_c_179, s_c_180, s_c_181, s_c_182, s_c_183, s_c_184, s_c_185, s_c_186, s_c_187, s_c_188, s_c_189, s_c_190, s_c_191, s_c_192, s_c_193, s_c_194, s_c_195, s_c_196, s_c_197, s_c_198, s_c_199]
theorem s_okL_175 (t : List (List s_I)) (h : s_okL 200 t) : s_okL 175 (s_cs_175 ++ t) :=
  s_okL_cons (j := 175) s_ck_175 (s_okL_cons (j := 176) s_ck_176 (s_okL_cons (j := 177) s_ck_177 (s_okL_cons (j := 178) s_ck_178 (s_okL_cons (j := 179) s_ck_179 (s_okL_cons (j := 180) s_ck_180 (s_okL_cons (j := 181) s_ck_181 (s_okL_cons (j := 182) s_ck_182 (s_okL_cons (j := 183) s_ck_183 (s_okL_cons (j := 184) s_ck_184 (s_okL_cons (j := 185) s_ck_185 (s_okL_cons (j := 186) s_ck_186 (s_okL_cons (j := 187) s_ck_187 (s_okL_cons (j := 188) s_ck_188 (s_okL_cons (j := 189) s_ck_189 (s_okL_cons (j := 190) s_ck_190 (s_okL_cons (j := 191) s_ck_191 (s_okL_cons (j := 192) s_ck_192 (s_okL_cons (j := 193) s_ck_193 (s_okL_cons (j := 194) s_ck_194 (s_okL_cons (j := 195) s_ck_195 (s_okL_cons (j := 196) s_ck_196 (s_okL_cons (j := 197) s_ck_197 (s_okL_cons (j := 198) s_ck_198 (s_okL_cons (j := 199) s_ck_199 (h)))))))))))))))))))))))))
def s_cs_200 : List (List s_I) := [s_c_200, s_c_201, s_c_202, s_c_203, s_c_204, s_c_205, s_c_206, s_c_207, s_c_208, s_c_209, s_c_210, s_c_211, s_c_212, s_c_213, s_c_214, s_c_215, s_c_216, s_c_217, s_c_218, s_c_219, s_c_220, s_c_221, s_c_222, s_c_223, s_c_224]
theorem s_okL_200 (t : List (List s_I)) (h : s_okL 225 t) : s_okL 200 (s_cs_200 ++ t) :=
  s_okL_cons (j := 200) s_ck_200 (s_okL_cons (j := 201) s_ck_201 (s_okL_cons (j := 202) s_ck_202 (s_okL_cons (j := 203) s_ck_203 (s_okL_cons (j := 204) s_ck_204 (s_okL_cons (j := 205) s_ck_205 (s_okL_cons (j := 206) s_ck_206 (s_okL_cons (j := 207) s_ck_207 (s_okL_cons (j := 208) s_ck_208 (s_okL_cons (j := 209) s_ck_209 (s_okL_cons (j := 210) s_ck_210 (s_okL_cons (j := 211) s_ck_211 (s_okL_cons (j := 212) s_ck_212 (s_okL_cons (j := 213) s_ck_213 (s_okL_cons (j := 214) s_ck_214 (s_okL_cons (j := 215) s_ck_215 (s_okL_cons (j := 216) s_ck_216 (s_okL_cons (j := 217) s_ck_217 (s_okL_cons (j := 218) s_ck_218 (s_okL_cons (j := 219) s_ck_219 (s_okL_cons (j := 220) s_ck_220 (s_okL_cons (j := 221) s_ck_221 (s_okL_cons (j := 222) s_ck_222 (s_okL_cons (j := 223) s_ck_223 (s_okL_cons (j := 224) s_ck_224 (h)))))))))))))))))))))))))
def s_cs_225 : List (List s_I) := [s_c_225, s_c_226, s_c_227, s_c_228, s_c_229, s_c_230, s_c_231, s_c_232, s_c_233, s_c_234, s_c_235, s_c_236, s_c_237, s_c_238, s_c_239, s_c_240, s_c_241, s_c_242, s_c_243, s_c_244, s_c_245, s_c_246, s_c_247, s_c_248, s_c_249]
theorem s_okL_225 (t : List (List s_I)) (h : s_okL 250 t) : s_okL 225 (s_cs_225 ++ t) :=
  s_okL_cons (j := 225) s_ck_225 (s_okL_cons (j := 226) s_ck_226 (s_okL_cons (j := 227) s_ck_227 (s_okL_cons (j := 228) s_ck_228 (s_okL_cons (j := 229) s_ck_229 (s_okL_cons (j := 230) s_ck_230 (s_okL_cons (j := 231) s_ck_231 (s_okL_cons (j := 232) s_ck_232 (s_okL_cons (j := 233) s_ck_233 (s_okL_cons (j := 234) s_ck_234 (s_okL_cons (j := 235) s_ck_235 (s_okL_cons (j := 236) s_ck_236 (s_okL_cons (j := 237) s_ck_237 (s_okL_cons (j := 238) s_ck_238 (s_okL_cons (j := 239) s_ck_239 (s_okL_cons (j := 240) s_ck_240 (s_okL_cons (j := 241) s_ck_241 (s_okL_cons (j := 242) s_ck_242 (s_okL_cons (j := 243) s_ck_243 (s_okL_cons (j := 244) s_ck_244 (s_okL_cons (j := 245) s_ck_245 (s_okL_cons (j := 246) s_ck_246 (s_okL_cons (j := 247) s_ck_247 (s_okL_cons (j := 248) s_ck_248 (s_okL_cons (j := 249) s_ck_249 (h)))))))))))))))))))))))))
def s_cs_250 : List (List s_I) := [s_c_250, s_c_251, s_c_252, s_c_253, s_c_254, s_c_255, s_c_256, s_c_257, s_c_258, s_c_259, s_c_260, s_c_261, s_c_262, s_c_263, s_c_264, s_c_265, s_c_266, s_c_267, s_c_268, s_c_269, s_c_270, s_c_271, s_c_272, s_c_273, s_c_274]
theorem s_okL_250 (t : List (List s_I)) (h : s_okL 275 t) : s_okL 250 (s_cs_250 ++ t) :=
  s_okL_cons (j := 250) s_ck_250 (s_okL_cons (j := 251) s_ck_251 (s_okL_cons (j := 252) s_ck_252 (s_okL_cons (j := 253) s_ck_253 (s_okL_cons (j := 254) s_ck_254 (s_okL_cons (j := 255) s_ck_255 (s_okL_cons (j := 256) s_ck_256 (s_okL_cons (j := 257) s_ck_257 (s_okL_cons (j := 258) s_ck_258 (s_okL_cons (j := 259) s_ck_259 (s_okL_cons (j := 260) s_ck_260 (s_okL_cons (j := 261) s_ck_261 (s_okL_cons (j := 262) s_ck_262 (s_okL_cons (j := 263) s_ck_263 (s_okL_cons (j := 264) s_ck_264 (s_okL_cons (j := 265) s_ck_265 (s_okL_cons (j := 266) s_ck_266 (s_okL_cons (j := 267) s_ck_267 (s_okL_cons (j := 268) s_ck_268 (s_okL_cons (j := 269) s_ck_269 (s_okL_cons (j := 270) s_ck_270 (s_okL_cons (j := 271) s_ck_271 (s_okL_cons (j := 272) s_ck_272 (s_okL_cons (j := 273) s_ck_273 (s_okL_cons (j := 274) s_ck_274 (h)))))))))))))))))))))))))
def s_cs_275 : List (List s_I) := [s_c_275, s_c_276, s_c_277, s_c_278, s_c_279, s_c_280, s_c_281, s_c_282, s_c_283, s_c_284, s_c_285, s_c_286, s_c_287, s_c_288, s_c_289, s_c_290, s_c_291, s_c_292, s_c_293, s_c_294, s_c_295, s_c_296, s_c_297, s_c_298, s_c_299]
theorem s_okL_275 (t : List (List s_I)) (h : s_okL 300 t) : s_okL 275 (s_cs_275 ++ t) :=
  s_okL_cons (j := 275) s_ck_275 (s_okL_cons (j := 276) s_ck_276 (s_okL_cons (j := 277) s_ck_277 (s_okL_cons (j := 278) s_ck_278 (s_okL_cons (j := 279) s_ck_279 (s_okL_cons (j := 280) s_ck_280 (s_okL_cons (j := 281) s_ck_281 (s_okL_cons (j := 282) s_ck_282 (s_okL_cons (j := 283) s_ck_283 (s_okL_cons (j := 284) s_ck_284 (s_okL_cons (j := 285) s_ck_285 (s_okL_cons (j := 286) s_ck_286 (s_okL_cons (j := 287) s_ck_287 (s_okL_cons (j := 288) s_ck_288 (s_okL_cons (j := 289) s_ck_289 (s_okL_cons (j := 290) s_ck_290 (s_okL_cons (j := 291) s_ck_291 (s_okL_cons (j := 292) s_ck_292 (s_okL_cons (j := 293) s_ck_293 (s_okL_cons (j := 294) s_ck_294 (s_okL_cons (j := 295) s_ck_295 (s_okL_cons (j := 296) s_ck_296 (s_okL_cons (j := 297) s_ck_297 (s_okL_cons (j := 298) s_ck_298 (s_okL_cons (j := 299) s_ck_299 (h)))))))))))))))))))))))))
def s_cs_300 : List (List s_I) := [s_c_300, s_c_301]
theorem s_okL_300 (t : List (List s_I)) (h : s_okL 302 t) : s_okL 300 (s_cs_300 ++ t) :=
  s_okL_cons (j := 300) s_ck_300 (s_okL_cons (j := 301) s_ck_301 (h))
set_option maxRecDepth 100000 in
theorem s_codes_eq : s_codes = s_cs_0 ++ (s_cs_25 ++ (s_cs_50 ++ (s_cs_75 ++ (s_cs_100 ++ (s_cs_125 ++ (s_cs_150 ++ (s_cs_175 ++ (s_cs_200 ++ (s_cs_225 ++ (s_cs_250 ++ (s_cs_275 ++ (s_cs_300 ++ [])))))))))))) := rfl
theorem s_codes_okL : s_okL 0 s_codes := by
  rw [s_codes_eq]
  exact s_okL_0 _ (s_okL_25 _ (s_okL_50 _ (s_okL_75 _ (s_okL_100 _ (s_okL_125 _ (s_okL_150 _ (s_okL_175 _ (s_okL_200 _ (s_okL_225 _ (s_okL_250 _ (s_okL_275 _ (s_okL_300 _ trivial))))))))))))
set_option maxRecDepth 100000 in
theorem s_pc0 : s_codes.all (fun c => Nat.beq (s_pc c) 0) = true := by decide +kernel
theorem s_codes_ok : ∀ j q, s_mi[j]? = some q → s_pc (s_codes.getD j []) = 0 ∧ ∀ r ∈ s_codes.getD j [], s_okI (g_by j) q.2.2.2.2.2 r = true := by
  intro j q h
  refine ⟨?_, ?_⟩
  · by_cases hj : j < s_codes.length
    · have h1 := List.all_eq_true.mp s_pc0 (s_codes.getD j []) (by
        rw [List.getD_eq_getElem?_getD, List.getElem?_eq_getElem hj]
        exact List.getElem_mem hj)
      exact Nat.eq_of_beq_eq_true h1
    · rw [s_getD_ge (by omega)]
      rfl
  · have h1 := s_okL_get s_codes 0 j s_codes_okL
    rw [Nat.zero_add, (s_mi_ok j q h).2.2.2.2] at h1
    exact List.all_eq_true.mp h1
theorem s_cl_all : s_cl.all (s_okI code 13) = true := by
  simp only [s_cl, List.all_append, s_ckl_0, s_ckl_1, s_ckl_2, s_ckl_3, s_ckl_4, s_ckl_5, Bool.and_self]
theorem s_cl_ok : ∀ r ∈ s_cl, s_okI code 13 r = true := List.all_eq_true.mp s_cl_all

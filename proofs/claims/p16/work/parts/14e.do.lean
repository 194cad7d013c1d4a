-- all steps together
section S25
variable {P : g_S → Prop} {xs : Nat → Int} {σ : Nat → Int} {ρ : Nat → Nat} {b : Nat} {M : s_M} {CALL : Nat → List Value → g_H → Nat → Nat → (Option Value → g_H → Prop) → Prop} {cc : ByteArray} {o nL : Nat} {ini : Bool} {bc bs : Nat}
variable {t : List s_I} {L : s_L} {st : List s_V} {cn sn : Nat} {X' : s_X} {full : List s_I}
theorem s_do_ok (hcl : ∀ S, g_pre CALL o nL ini bc bs cc P S → P S) {scr : Nat} (hscr : s_scr scr cc b xs P) {ft : s_FT} (hft : s_ftok ft) (hdf : s_dfok ft) (hok : s_ok xs σ M) {pc len q kd a k : Nat} {v : Int} {ins : Instr} (hq : q < 40) (hI : s_okI cc o (pc, len, q, kd, a, k, v, ins) = true) (h : s_do full ft scr o nL ini bc bs (pc, len, q, kd, a, k, v, ins) t L st cn sn M = some (.inr X')) (hP : s_hP P xs b σ ρ M X') : P (pc, s_cL σ ρ b L, st.map (s_cv σ ρ b), cn, sn, s_ch σ ρ b 0 M.2.2.2) := by
  obtain ⟨⟨n, hd, hlen, hne⟩, hQ, hlk⟩ := s_okI_eq hI (by omega)
  replace hlk := hlk hq
  clear hI
  match q, hq, h, hne, hQ with
  | 0, _, h, hne, hQ =>
    obtain ⟨hg, h1⟩ := s_bif (show (bif s_go (pc, len, 0, kd, a, k, v, ins) t then s_push t L st cn sn M (a, v) else none) = some (.inr X') from h)
    have hgo : s_pc t = pc + s_len ins := by rw [← hne (by decide), ← hlen]; exact s_go_eq hg
    have hd' : decode cc pc = .ok (ins, s_len ins) := by rw [← hne (by decide)]; exact hd
    exact s_q0_ok hcl hok hd' hgo (of_decide_eq_true hQ) h1 hP
  | 1, _, h, hne, hQ =>
    obtain ⟨hg, h1⟩ := s_bif (show (bif s_go (pc, len, 1, kd, a, k, v, ins) t then s_q1 t L st cn sn M a k else none) = some (.inr X') from h)
    have hgo : s_pc t = pc + s_len ins := by rw [← hne (by decide), ← hlen]; exact s_go_eq hg
    have hd' : decode cc pc = .ok (ins, s_len ins) := by rw [← hne (by decide)]; exact hd
    exact s_q1_ok hcl hok hd' hgo (of_decide_eq_true hQ) h1 hP
  | 2, _, h, hne, hQ =>
    obtain ⟨hg, h1⟩ := s_bif (show (bif s_go (pc, len, 2, kd, a, k, v, ins) t then s_q2 nL t L st cn sn M a k else none) = some (.inr X') from h)
    have hgo : s_pc t = pc + s_len ins := by rw [← hne (by decide), ← hlen]; exact s_go_eq hg
    have hd' : decode cc pc = .ok (ins, s_len ins) := by rw [← hne (by decide)]; exact hd
    exact s_q2_ok hcl hok hd' hgo (of_decide_eq_true hQ) h1 hP
  | 3, _, h, hne, hQ =>
    obtain ⟨hg, h1⟩ := s_bif (show (bif s_go (pc, len, 3, kd, a, k, v, ins) t then s_q3 nL t L st cn sn M a k else none) = some (.inr X') from h)
    have hgo : s_pc t = pc + s_len ins := by rw [← hne (by decide), ← hlen]; exact s_go_eq hg
    have hd' : decode cc pc = .ok (ins, s_len ins) := by rw [← hne (by decide)]; exact hd
    exact s_q3_ok hcl hok hd' hgo (of_decide_eq_true hQ) h1 hP
  | 4, _, h, hne, hQ =>
    obtain ⟨hg, h1⟩ := s_bif (show (bif s_go (pc, len, 4, kd, a, k, v, ins) t then s_q4 nL t L st cn sn M a v else none) = some (.inr X') from h)
    have hgo : s_pc t = pc + s_len ins := by rw [← hne (by decide), ← hlen]; exact s_go_eq hg
    have hd' : decode cc pc = .ok (ins, s_len ins) := by rw [← hne (by decide)]; exact hd
    exact s_q4_ok hcl hok hd' hgo (of_decide_eq_true hQ) h1 hP
  | 5, _, h, hne, hQ =>
    obtain ⟨hg, h1⟩ := s_bif (show (bif s_go (pc, len, 5, kd, a, k, v, ins) t then s_q5 t L st cn sn M else none) = some (.inr X') from h)
    have hgo : s_pc t = pc + s_len ins := by rw [← hne (by decide), ← hlen]; exact s_go_eq hg
    have hd' : decode cc pc = .ok (ins, s_len ins) := by rw [← hne (by decide)]; exact hd
    exact s_q5_ok hcl hok hd' hgo (of_decide_eq_true hQ) h1 hP
  | 6, _, h, hne, hQ =>
    obtain ⟨hg, h1⟩ := s_bif (show (bif s_go (pc, len, 6, kd, a, k, v, ins) t then s_q6 t L st cn sn M else none) = some (.inr X') from h)
    have hgo : s_pc t = pc + s_len ins := by rw [← hne (by decide), ← hlen]; exact s_go_eq hg
    have hd' : decode cc pc = .ok (ins, s_len ins) := by rw [← hne (by decide)]; exact hd
    exact s_q6_ok hcl hok hd' hgo (of_decide_eq_true hQ) h1 hP
  | 7, _, h, hne, hQ =>
    obtain ⟨hg, h1⟩ := s_bif (show (bif s_go (pc, len, 7, kd, a, k, v, ins) t then s_q7 t L st cn sn M else none) = some (.inr X') from h)
    have hgo : s_pc t = pc + s_len ins := by rw [← hne (by decide), ← hlen]; exact s_go_eq hg
    have hd' : decode cc pc = .ok (ins, s_len ins) := by rw [← hne (by decide)]; exact hd
    exact s_q7_ok hcl hok hd' hgo (of_decide_eq_true hQ) h1 hP
  | 8, _, h, hne, hQ =>
    obtain ⟨hg, h1⟩ := s_bif (show (bif s_go (pc, len, 8, kd, a, k, v, ins) t then s_q8 t L st cn sn M else none) = some (.inr X') from h)
    have hgo : s_pc t = pc + s_len ins := by rw [← hne (by decide), ← hlen]; exact s_go_eq hg
    have hd' : decode cc pc = .ok (ins, s_len ins) := by rw [← hne (by decide)]; exact hd
    exact s_q8_ok hcl hok hd' hgo (of_decide_eq_true hQ) h1 hP
  | 9, _, h, hne, hQ =>
    obtain ⟨hg, h1⟩ := s_bif (show (bif s_go (pc, len, 9, kd, a, k, v, ins) t then (bif Nat.beq kd 10 then (some (.inr (t, L, (0, v) :: st, cn, sn, M)) : Option s_O) else none) else none) = some (.inr X') from h)
    have hgo : s_pc t = pc + s_len ins := by rw [← hne (by decide), ← hlen]; exact s_go_eq hg
    have hd' : decode cc pc = .ok (ins, s_len ins) := by rw [← hne (by decide)]; exact hd
    obtain ⟨h2, h3⟩ := s_bif h1
    rw [Nat.beq_eq] at h2
    have hQ' : ∃ i, ins = .ldc i ∨ ins = .ldc_w i := by
      revert hQ
      cases ins <;> intro hQ <;> first | exact ⟨_, Or.inl rfl⟩ | exact ⟨_, Or.inr rfl⟩ | cases hQ
    obtain ⟨i, hi⟩ := hQ'
    exact s_q9_ok hcl hok hd' hgo hi (hlk i (by rcases hi with rfl | rfl <;> rfl)) h2 h3 hP
  | 10, _, h, hne, hQ =>
    obtain ⟨hg, h1⟩ := s_bif (show (bif s_go (pc, len, 10, kd, a, k, v, ins) t then (bif Nat.beq kd 11 then (some (.inr (t, L, (1, v) :: st, cn, sn, M)) : Option s_O) else none) else none) = some (.inr X') from h)
    have hgo : s_pc t = pc + s_len ins := by rw [← hne (by decide), ← hlen]; exact s_go_eq hg
    have hd' : decode cc pc = .ok (ins, s_len ins) := by rw [← hne (by decide)]; exact hd
    obtain ⟨h2, h3⟩ := s_bif h1
    rw [Nat.beq_eq] at h2
    have hQ' : ∃ i, ins = .ldc2_w i := by
      revert hQ
      cases ins <;> intro hQ <;> first | exact ⟨_, rfl⟩ | cases hQ
    obtain ⟨i, hi⟩ := hQ'
    exact s_q10_ok hcl hok hd' hgo hi (hlk i (by rw [hi]; rfl)) h2 h3 hP
  | 11, _, h, hne, hQ =>
    obtain ⟨hg, h1⟩ := s_bif (show (bif s_go (pc, len, 11, kd, a, k, v, ins) t then s_q11 t L st cn sn M a else none) = some (.inr X') from h)
    have hgo : s_pc t = pc + s_len ins := by rw [← hne (by decide), ← hlen]; exact s_go_eq hg
    have hd' : decode cc pc = .ok (ins, s_len ins) := by rw [← hne (by decide)]; exact hd
    exact s_q11_ok hcl hok hd' hgo (of_decide_eq_true hQ) h1 hP
  | 12, _, h, hne, hQ =>
    obtain ⟨hg, h1⟩ := s_bif (show (bif s_go (pc, len, 12, kd, a, k, v, ins) t then s_q12 t L st cn sn M a else none) = some (.inr X') from h)
    have hgo : s_pc t = pc + s_len ins := by rw [← hne (by decide), ← hlen]; exact s_go_eq hg
    have hd' : decode cc pc = .ok (ins, s_len ins) := by rw [← hne (by decide)]; exact hd
    exact s_q12_ok hcl hok hd' hgo (of_decide_eq_true hQ) h1 hP
  | 13, _, h, hne, hQ =>
    obtain ⟨hg, h1⟩ := s_bif (show (bif s_go (pc, len, 13, kd, a, k, v, ins) t then s_q13 t L st cn sn M a else none) = some (.inr X') from h)
    have hgo : s_pc t = pc + s_len ins := by rw [← hne (by decide), ← hlen]; exact s_go_eq hg
    have hd' : decode cc pc = .ok (ins, s_len ins) := by rw [← hne (by decide)]; exact hd
    exact s_q13_ok hcl hok hd' hgo (of_decide_eq_true hQ) h1 hP
  | 14, _, h, hne, hQ =>
    obtain ⟨hg, h1⟩ := s_bif (show (bif s_go (pc, len, 14, kd, a, k, v, ins) t then s_q14 t L st cn sn M a else none) = some (.inr X') from h)
    have hgo : s_pc t = pc + s_len ins := by rw [← hne (by decide), ← hlen]; exact s_go_eq hg
    have hd' : decode cc pc = .ok (ins, s_len ins) := by rw [← hne (by decide)]; exact hd
    exact s_q14_ok hcl hok hd' hgo (of_decide_eq_true hQ) h1 hP
  | 15, _, h, hne, hQ =>
    obtain ⟨hg, h1⟩ := s_bif (show (bif s_go (pc, len, 15, kd, a, k, v, ins) t then s_q15 t L st cn sn M a else none) = some (.inr X') from h)
    have hgo : s_pc t = pc + s_len ins := by rw [← hne (by decide), ← hlen]; exact s_go_eq hg
    have hd' : decode cc pc = .ok (ins, s_len ins) := by rw [← hne (by decide)]; exact hd
    exact s_q15_ok hcl hok hd' hgo (of_decide_eq_true hQ) h1 hP
  | 16, _, h, hne, hQ =>
    obtain ⟨hg, h1⟩ := s_bif (show (bif s_go (pc, len, 16, kd, a, k, v, ins) t then s_q16 t L st cn sn M else none) = some (.inr X') from h)
    have hgo : s_pc t = pc + s_len ins := by rw [← hne (by decide), ← hlen]; exact s_go_eq hg
    have hd' : decode cc pc = .ok (ins, s_len ins) := by rw [← hne (by decide)]; exact hd
    exact s_q16_ok hcl hok hd' hgo (of_decide_eq_true hQ) h1 hP
  | 17, _, h, hne, hQ =>
    obtain ⟨hg, h1⟩ := s_bif (show (bif s_go (pc, len, 17, kd, a, k, v, ins) t then s_q17 t L st cn sn M else none) = some (.inr X') from h)
    have hgo : s_pc t = pc + s_len ins := by rw [← hne (by decide), ← hlen]; exact s_go_eq hg
    have hd' : decode cc pc = .ok (ins, s_len ins) := by rw [← hne (by decide)]; exact hd
    exact s_q17_ok hcl hok hd' hgo (of_decide_eq_true hQ) h1 hP
  | 18, _, h, hne, hQ =>
    obtain ⟨hg, h1⟩ := s_bif (show (bif s_go (pc, len, 18, kd, a, k, v, ins) t then s_q18 t L st cn sn M else none) = some (.inr X') from h)
    have hgo : s_pc t = pc + s_len ins := by rw [← hne (by decide), ← hlen]; exact s_go_eq hg
    have hd' : decode cc pc = .ok (ins, s_len ins) := by rw [← hne (by decide)]; exact hd
    exact s_q18_ok hcl hok hd' hgo (of_decide_eq_true hQ) h1 hP
  | 19, _, h, hne, hQ =>
    obtain ⟨hg, h1⟩ := s_bif (show (bif s_go (pc, len, 19, kd, a, k, v, ins) t then s_q19 t L st cn sn M else none) = some (.inr X') from h)
    have hgo : s_pc t = pc + s_len ins := by rw [← hne (by decide), ← hlen]; exact s_go_eq hg
    have hd' : decode cc pc = .ok (ins, s_len ins) := by rw [← hne (by decide)]; exact hd
    exact s_q19_ok hcl hok hd' hgo (of_decide_eq_true hQ) h1 hP
  | 20, _, h, hne, hQ =>
    have h1 : s_jmp full a L st cn sn M = some (.inr X') := h
    have hQ' : ∃ off, ins = .goto off ∧ (pc : Int) + off = (a : Int) := by
      clear h h1 hd hne hlk hP hok hscr hft hdf hcl
      revert hQ
      cases ins <;> intro hQ <;> first | exact ⟨_, rfl, of_decide_eq_true hQ⟩ | cases hQ
    obtain ⟨off, hi, hoff⟩ := hQ'
    have hn := hne (by decide)
    rw [hi] at hd hn
    rw [hn] at hd hlen
    exact s_q20_ok (r := (pc, len, 20, kd, a, k, v, .goto off)) hcl hok hd hoff h1 hP
  | 21, _, h, hne, hQ =>
    have h1 : s_q21 full (pc, len, 21, kd, a, k, v, ins) t L st cn sn M a k = some (.inr X') := h
    have hQ' : ∃ cd off, ins = .ifCond cd off ∧ (pc : Int) + off = (a : Int) ∧ s_cdn cd = k := by
      clear h h1 hd hne hlk hP hok hscr hft hdf hcl
      revert hQ
      cases ins <;> intro hQ <;> first | exact ⟨_, _, rfl, of_decide_eq_true ((Bool.and_eq_true _ _).mp hQ).1, Nat.beq_eq.mp ((Bool.and_eq_true _ _).mp hQ).2⟩ | cases hQ
    obtain ⟨cd, off, hi, hoff, hcd⟩ := hQ'
    have hn := hne (by decide)
    rw [hi] at hd hn h1
    rw [hn] at hd hlen
    rw [← hcd] at h1
    exact s_q21_ok (r := (pc, len, 21, kd, a, k, v, .ifCond cd off)) hcl hok hd hlen hoff h1 hP
  | 22, _, h, hne, hQ =>
    have h1 : s_q22 full (pc, len, 22, kd, a, k, v, ins) t L st cn sn M a k = some (.inr X') := h
    have hQ' : ∃ cd off, ins = .if_icmp cd off ∧ (pc : Int) + off = (a : Int) ∧ s_cdn cd = k := by
      clear h h1 hd hne hlk hP hok hscr hft hdf hcl
      revert hQ
      cases ins <;> intro hQ <;> first | exact ⟨_, _, rfl, of_decide_eq_true ((Bool.and_eq_true _ _).mp hQ).1, Nat.beq_eq.mp ((Bool.and_eq_true _ _).mp hQ).2⟩ | cases hQ
    obtain ⟨cd, off, hi, hoff, hcd⟩ := hQ'
    have hn := hne (by decide)
    rw [hi] at hd hn h1
    rw [hn] at hd hlen
    rw [← hcd] at h1
    exact s_q22_ok (r := (pc, len, 22, kd, a, k, v, .if_icmp cd off)) hcl hok hd hlen hoff h1 hP
  | 23, _, h, hne, hQ =>
    have h1 : s_q23 full (pc, len, 23, kd, a, k, v, ins) t L st cn sn M a false = some (.inr X') := h
    have hQ' : ∃ off, ins = .ifnull off ∧ (pc : Int) + off = (a : Int) := by
      clear h h1 hd hne hlk hP hok hscr hft hdf hcl
      revert hQ
      cases ins <;> intro hQ <;> first | exact ⟨_, rfl, of_decide_eq_true hQ⟩ | cases hQ
    obtain ⟨off, hi, hoff⟩ := hQ'
    have hn := hne (by decide)
    rw [hi] at hd hn h1
    rw [hn] at hd hlen
    exact s_q23_ok (r := (pc, len, 23, kd, a, k, v, .ifnull off)) hcl hok hd hlen hoff h1 hP
  | 24, _, h, hne, hQ =>
    have h1 : s_q23 full (pc, len, 24, kd, a, k, v, ins) t L st cn sn M a true = some (.inr X') := h
    have hQ' : ∃ off, ins = .ifnonnull off ∧ (pc : Int) + off = (a : Int) := by
      clear h h1 hd hne hlk hP hok hscr hft hdf hcl
      revert hQ
      cases ins <;> intro hQ <;> first | exact ⟨_, rfl, of_decide_eq_true hQ⟩ | cases hQ
    obtain ⟨off, hi, hoff⟩ := hQ'
    have hn := hne (by decide)
    rw [hi] at hd hn h1
    rw [hn] at hd hlen
    exact s_q24_ok (r := (pc, len, 24, kd, a, k, v, .ifnonnull off)) hcl hok hd hlen hoff h1 hP
  | 25, _, h, hne, hQ =>
    have h1 : s_q25 full (pc, len, 25, kd, a, k, v, ins) L st cn sn M = some (.inr X') := h
    exact s_q25_ok (r := (pc, len, 25, kd, a, k, v, ins)) hcl hok hd h1 hP
  | 26, _, h, hne, hQ =>
    obtain ⟨hg, h1⟩ := s_bif (show (bif s_go (pc, len, 26, kd, a, k, v, ins) t then s_q26 t L st cn sn M kd a k else none) = some (.inr X') from h)
    have hgo : s_pc t = pc + s_len ins := by rw [← hne (by decide), ← hlen]; exact s_go_eq hg
    have hd' : decode cc pc = .ok (ins, s_len ins) := by rw [← hne (by decide)]; exact hd
    have hQ' : ∃ i, ins = .getfield i := by
      revert hQ
      cases ins <;> intro hQ <;> first | exact ⟨_, rfl⟩ | cases hQ
    obtain ⟨i, rfl⟩ := hQ'
    exact s_q26_ok hcl hok hd' hgo (hlk i rfl) h1 hP
  | 27, _, h, hne, hQ =>
    obtain ⟨hg, h1⟩ := s_bif (show (bif s_go (pc, len, 27, kd, a, k, v, ins) t then s_q27 ft o ini t L st cn sn M kd a k else none) = some (.inr X') from h)
    have hgo : s_pc t = pc + s_len ins := by rw [← hne (by decide), ← hlen]; exact s_go_eq hg
    have hd' : decode cc pc = .ok (ins, s_len ins) := by rw [← hne (by decide)]; exact hd
    have hQ' : ∃ i, ins = .putfield i := by
      revert hQ
      cases ins <;> intro hQ <;> first | exact ⟨_, rfl⟩ | cases hQ
    obtain ⟨i, rfl⟩ := hQ'
    exact s_q27_ok hcl hft hok hd' hgo (hlk i rfl) h1 hP
  | 28, _, h, hne, hQ =>
    obtain ⟨hg, h1⟩ := s_bif (show (bif s_go (pc, len, 28, kd, a, k, v, ins) t then s_q28 scr t L st cn sn M else none) = some (.inr X') from h)
    have hgo : s_pc t = pc + s_len ins := by rw [← hne (by decide), ← hlen]; exact s_go_eq hg
    have hd' : decode cc pc = .ok (ins, s_len ins) := by rw [← hne (by decide)]; exact hd
    have hi := of_decide_eq_true hQ
    subst hi
    exact s_q28_ok hcl hscr hok hd' hgo h1 hP
  | 29, _, h, hne, hQ =>
    obtain ⟨hg, h1⟩ := s_bif (show (bif s_go (pc, len, 29, kd, a, k, v, ins) t then s_q29 bc bs t L st cn sn M a else none) = some (.inr X') from h)
    have hgo : s_pc t = pc + s_len ins := by rw [← hne (by decide), ← hlen]; exact s_go_eq hg
    have hd' : decode cc pc = .ok (ins, s_len ins) := by rw [← hne (by decide)]; exact hd
    have hQ' : ∃ i, ins = .newarray i := by
      revert hQ
      cases ins <;> intro hQ <;> first | exact ⟨_, rfl⟩ | cases hQ
    obtain ⟨i, rfl⟩ := hQ'
    have hQ1 : (Nat.beq (s_nar i) a && Nat.blt a 4) = true := hQ
    rw [Bool.and_eq_true, Nat.beq_eq, Nat.blt_eq] at hQ1
    exact s_q29_ok hcl hok hd' hgo hQ1.1 hQ1.2 h1 hP
  | 30, _, h, hne, hQ =>
    obtain ⟨hg, h1⟩ := s_bif (show (bif s_go (pc, len, 30, kd, a, k, v, ins) t then s_q30 bc bs t L st cn sn M kd a else none) = some (.inr X') from h)
    have hgo : s_pc t = pc + s_len ins := by rw [← hne (by decide), ← hlen]; exact s_go_eq hg
    have hd' : decode cc pc = .ok (ins, s_len ins) := by rw [← hne (by decide)]; exact hd
    have hQ' : ∃ i, ins = .anewarray i := by
      revert hQ
      cases ins <;> intro hQ <;> first | exact ⟨_, rfl⟩ | cases hQ
    obtain ⟨i, rfl⟩ := hQ'
    exact s_q30_ok hcl hok hd' hgo (hlk i rfl) h1 hP
  | 31, _, h, hne, hQ =>
    obtain ⟨hg, h1⟩ := s_bif (show (bif s_go (pc, len, 31, kd, a, k, v, ins) t then s_q31 ft bc bs t L st cn sn M kd a k else none) = some (.inr X') from h)
    have hgo : s_pc t = pc + s_len ins := by rw [← hne (by decide), ← hlen]; exact s_go_eq hg
    have hd' : decode cc pc = .ok (ins, s_len ins) := by rw [← hne (by decide)]; exact hd
    have hQ' : ∃ i, ins = .new i := by
      revert hQ
      cases ins <;> intro hQ <;> first | exact ⟨_, rfl⟩ | cases hQ
    obtain ⟨i, rfl⟩ := hQ'
    exact s_q31_ok hcl hdf hok hd' hgo (hlk i rfl) h1 hP
  | 32, _, h, hne, hQ =>
    obtain ⟨hg, h1⟩ := s_bif (show (bif s_go (pc, len, 32, kd, a, k, v, ins) t then s_q32 scr t L st cn sn M a else none) = some (.inr X') from h)
    have hgo : s_pc t = pc + s_len ins := by rw [← hne (by decide), ← hlen]; exact s_go_eq hg
    have hd' : decode cc pc = .ok (ins, s_len ins) := by rw [← hne (by decide)]; exact hd
    have hQ1 : (Nat.beq (s_aln ins) a && Nat.blt a 4) = true := hQ
    rw [Bool.and_eq_true, Nat.beq_eq, Nat.blt_eq] at hQ1
    have hl1 : s_len ins = 1 := by
      rcases s_al_i hQ1.1 hQ1.2 with ⟨-, rfl⟩ | ⟨-, rfl⟩ | ⟨-, rfl⟩ | ⟨-, rfl⟩ <;> rfl
    rw [hl1] at hd' hgo
    exact s_q32_ok hcl hscr hok hQ1.1 hQ1.2 hd' hgo h1 hP
  | 33, _, h, hne, hQ =>
    obtain ⟨hg, h1⟩ := s_bif (show (bif s_go (pc, len, 33, kd, a, k, v, ins) t then s_q33 t L st cn sn M a else none) = some (.inr X') from h)
    have hgo : s_pc t = pc + s_len ins := by rw [← hne (by decide), ← hlen]; exact s_go_eq hg
    have hd' : decode cc pc = .ok (ins, s_len ins) := by rw [← hne (by decide)]; exact hd
    have hQ1 : (Nat.beq (s_asn ins) a && Nat.blt a 4) = true := hQ
    rw [Bool.and_eq_true, Nat.beq_eq, Nat.blt_eq] at hQ1
    have hl1 : s_len ins = 1 := by
      rcases s_as_i hQ1.1 hQ1.2 with ⟨-, rfl⟩ | ⟨-, rfl⟩ | ⟨-, rfl⟩ | ⟨-, rfl⟩ <;> rfl
    rw [hl1] at hd' hgo
    exact s_q33_ok hcl hok hQ1.1 hQ1.2 hd' hgo h1 hP
  | 34, _, h, hne, hQ =>
    obtain ⟨hg, h1⟩ := s_bif (show (bif s_go (pc, len, 34, kd, a, k, v, ins) t then (none : Option s_O) else none) = some (.inr X') from h)
    cases h1
  | 35, _, h, hne, hQ =>
    obtain ⟨hg, h1⟩ := s_bif (show (bif s_go (pc, len, 35, kd, a, k, v, ins) t then (none : Option s_O) else none) = some (.inr X') from h)
    cases h1
  | 36, _, h, hne, hQ =>
    obtain ⟨hg, h1⟩ := s_bif (show (bif s_go (pc, len, 36, kd, a, k, v, ins) t then (none : Option s_O) else none) = some (.inr X') from h)
    cases h1
  | 37, _, h, hne, hQ =>
    obtain ⟨hg, h1⟩ := s_bif (show (bif s_go (pc, len, 37, kd, a, k, v, ins) t then s_q37 t L st cn sn M kd else none) = some (.inr X') from h)
    have hgo : s_pc t = pc + s_len ins := by rw [← hne (by decide), ← hlen]; exact s_go_eq hg
    have hd' : decode cc pc = .ok (ins, s_len ins) := by rw [← hne (by decide)]; exact hd
    have hQ' : ∃ i, ins = .invokespecial i := by
      revert hQ
      cases ins <;> intro hQ <;> first | exact ⟨_, rfl⟩ | cases hQ
    obtain ⟨i, rfl⟩ := hQ'
    exact s_q37_ok hcl hok hd' hgo (hlk i rfl) h1 hP
  | 38, _, h, hne, hQ =>
    obtain ⟨hg, h1⟩ := s_bif (show (bif s_go (pc, len, 38, kd, a, k, v, ins) t then (none : Option s_O) else none) = some (.inr X') from h)
    cases h1
  | 39, _, h, hne, hQ =>
    obtain ⟨hg, h1⟩ := s_bif (show (bif s_go (pc, len, 39, kd, a, k, v, ins) t then (none : Option s_O) else none) = some (.inr X') from h)
    cases h1
  | n + 40, hq, h, _, _ => exact absurd hq (by omega)
/-- what a step does to code, variables and cells -/
def s_gd (M : s_M) (t full : List s_I) (x : Option s_O) : Prop := ∀ X', x = some (.inr X') → M.1.length ≤ X'.2.2.2.2.2.1.length ∧ M.2.2.2.length ≤ X'.2.2.2.2.2.2.2.2.length ∧ (X'.1 = t ∨ ∃ pc, s_jump full pc = some X'.1)
theorem s_gd_n {M : s_M} {t full : List s_I} : s_gd M t full none := fun _ h => by cases h
theorem s_gd_l {M : s_M} {t full : List s_I} {c : Nat × Nat × Int} : s_gd M t full (some (.inl c)) := fun _ h => by cases h
theorem s_gd_s {M : s_M} {t full : List s_I} {L : s_L} {st : List s_V} {cn sn : Nat} : s_gd M t full (some (.inr (t, L, st, cn, sn, M))) := fun _ h => by cases h; exact ⟨Nat.le_refl _, Nat.le_refl _, Or.inl rfl⟩
theorem s_gd_b {M : s_M} {t full : List s_I} {c : Bool} {x y : Option s_O} (h1 : s_gd M t full x) (h2 : s_gd M t full y) : s_gd M t full (bif c then x else y) := by
  cases c
  · exact h2
  · exact h1
theorem s_gd_p {M : s_M} {t full : List s_I} {L : s_L} {st : List s_V} {cn sn : Nat} {v : s_V} : s_gd M t full (s_push t L st cn sn M v) := by
  rw [s_push, s_fv_eq]; exact s_gd_s
theorem s_gd_j {M : s_M} {t full : List s_I} {L : s_L} {st : List s_V} {cn sn pc : Nat} : s_gd M t full (s_jmp full pc L st cn sn M) := by
  intro X' h
  unfold s_jmp at h
  split at h
  next t' e => cases h; exact ⟨Nat.le_refl _, Nat.le_refl _, Or.inr ⟨pc, e⟩⟩
  next => cases h
theorem s_gd_x {M : s_M} {t full : List s_I} {r : s_I} {L : s_L} {st : List s_V} {cn sn : Nat} : s_gd M t full (s_nxt r t L st cn sn M) := s_gd_b s_gd_s s_gd_n
theorem s_gd_o {M : s_M} {t full : List s_I} {c : Option (Nat × Nat × Int)} : s_gd M t full (s_o c) := by
  unfold s_o; split
  · exact s_gd_l
  · exact s_gd_n
theorem s_gd_f {M : s_M} {t full : List s_I} {L : s_L} {st : List s_V} {cn sn : Nat} {lo hi : Int} {B : s_B} : s_gd M t full (s_fresh t L st cn sn M lo hi B) := by
  obtain ⟨E, R, B0, H⟩ := M
  refine s_gd_b ?_ s_gd_n
  intro X' h
  simp only [s_fn_eq] at h
  cases h
  refine ⟨?_, Nat.le_refl _, Or.inl rfl⟩
  show E.length ≤ (E ++ [(lo, hi)]).length
  rw [List.length_append]
  exact Nat.le_add_right _ _
theorem s_gd_m {M : s_M} {t full : List s_I} {L : s_L} {st : List s_V} {cn sn : Nat} {c : s_C} : s_gd M t full (s_mk t L st cn sn M c) := by
  obtain ⟨E, R, B0, H⟩ := M
  refine s_gd_b ?_ s_gd_n
  intro X' h
  simp only [s_fn_eq, s_app_eq] at h
  cases h
  refine ⟨Nat.le_refl _, ?_, Or.inl rfl⟩
  show H.length ≤ (H ++ [c]).length
  rw [List.length_append]
  exact Nat.le_add_right _ _
theorem s_gd_t {M : s_M} {t full : List s_I} {L : s_L} {st : List s_V} {cn sn p k : Nat} {c : s_C} {v : s_V} : s_gd M t full (s_set t L st cn sn M p c k v) := by
  obtain ⟨E, R, B0, H⟩ := M
  obtain ⟨x, y, n, d, fs⟩ := c
  intro X' h
  unfold s_set at h
  simp only [s_putK_eq, s_hset_eq] at h
  cases h
  refine ⟨Nat.le_refl _, ?_, Or.inl rfl⟩
  show H.length ≤ (H.set p _).length
  rw [List.length_set]
  exact Nat.le_refl _
theorem s_gd_v {M : s_M} {t full : List s_I} {L : s_L} {st : List s_V} {cn : Nat} {sn : Nat} {i : Nat} {j : Nat} : s_gd M t full (s_q11v t L st cn sn M i j) := by
  unfold s_q11v
  simp only [s_fi_eq, s_fn_eq]
  repeat' (first | exact s_gd_n | exact s_gd_l | exact s_gd_s | exact s_gd_p | exact s_gd_j | exact s_gd_x | exact s_gd_o | exact s_gd_f | exact s_gd_m | exact s_gd_t | apply s_gd_b | split)
theorem s_gd_11 {M : s_M} {t full : List s_I} {L : s_L} {st : List s_V} {cn : Nat} {sn : Nat} {a : Nat} : s_gd M t full (s_q11 t L st cn sn M a) := by
  unfold s_q11
  repeat' (first | exact s_gd_n | exact s_gd_l | exact s_gd_s | exact s_gd_p | exact s_gd_j | exact s_gd_x | exact s_gd_o | exact s_gd_f | exact s_gd_v | exact s_gd_m | exact s_gd_t | apply s_gd_b | split)
theorem s_gd_1 {M : s_M} {t full : List s_I} {L : s_L} {st : List s_V} {cn : Nat} {sn : Nat} {a : Nat} {b : Nat} : s_gd M t full (s_q1 t L st cn sn M a b) := by
  unfold s_q1
  try simp only [s_fi_eq, s_fn_eq, s_fil1_eq, s_fil2_eq]
  repeat' (first | exact s_gd_n | exact s_gd_l | exact s_gd_s | exact s_gd_p | exact s_gd_j | exact s_gd_x | exact s_gd_o | exact s_gd_f | exact s_gd_m | exact s_gd_t | apply s_gd_b | split)
theorem s_gd_2 {M : s_M} {t full : List s_I} {nL : Nat} {L : s_L} {st : List s_V} {cn : Nat} {sn : Nat} {a : Nat} {b : Nat} : s_gd M t full (s_q2 nL t L st cn sn M a b) := by
  unfold s_q2
  try simp only [s_fi_eq, s_fn_eq, s_fil1_eq, s_fil2_eq]
  repeat' (first | exact s_gd_n | exact s_gd_l | exact s_gd_s | exact s_gd_p | exact s_gd_j | exact s_gd_x | exact s_gd_o | exact s_gd_f | exact s_gd_m | exact s_gd_t | apply s_gd_b | split)
theorem s_gd_3 {M : s_M} {t full : List s_I} {nL : Nat} {L : s_L} {st : List s_V} {cn : Nat} {sn : Nat} {a : Nat} {b : Nat} : s_gd M t full (s_q3 nL t L st cn sn M a b) := by
  unfold s_q3
  try simp only [s_fi_eq, s_fn_eq, s_fil1_eq, s_fil2_eq]
  repeat' (first | exact s_gd_n | exact s_gd_l | exact s_gd_s | exact s_gd_p | exact s_gd_j | exact s_gd_x | exact s_gd_o | exact s_gd_f | exact s_gd_m | exact s_gd_t | apply s_gd_b | split)
theorem s_gd_4 {M : s_M} {t full : List s_I} {nL : Nat} {L : s_L} {st : List s_V} {cn : Nat} {sn : Nat} {a : Nat} {v : Int} : s_gd M t full (s_q4 nL t L st cn sn M a v) := by
  unfold s_q4
  try simp only [s_fi_eq, s_fn_eq, s_fil1_eq, s_fil2_eq]
  repeat' (first | exact s_gd_n | exact s_gd_l | exact s_gd_s | exact s_gd_p | exact s_gd_j | exact s_gd_x | exact s_gd_o | exact s_gd_f | exact s_gd_m | exact s_gd_t | apply s_gd_b | split)
theorem s_gd_5 {M : s_M} {t full : List s_I} {L : s_L} {st : List s_V} {cn : Nat} {sn : Nat} : s_gd M t full (s_q5 t L st cn sn M) := by
  unfold s_q5
  try simp only [s_fi_eq, s_fn_eq, s_fil1_eq, s_fil2_eq]
  repeat' (first | exact s_gd_n | exact s_gd_l | exact s_gd_s | exact s_gd_p | exact s_gd_j | exact s_gd_x | exact s_gd_o | exact s_gd_f | exact s_gd_m | exact s_gd_t | apply s_gd_b | split)
theorem s_gd_6 {M : s_M} {t full : List s_I} {L : s_L} {st : List s_V} {cn : Nat} {sn : Nat} : s_gd M t full (s_q6 t L st cn sn M) := by
  unfold s_q6
  try simp only [s_fi_eq, s_fn_eq, s_fil1_eq, s_fil2_eq]
  repeat' (first | exact s_gd_n | exact s_gd_l | exact s_gd_s | exact s_gd_p | exact s_gd_j | exact s_gd_x | exact s_gd_o | exact s_gd_f | exact s_gd_m | exact s_gd_t | apply s_gd_b | split)
theorem s_gd_7 {M : s_M} {t full : List s_I} {L : s_L} {st : List s_V} {cn : Nat} {sn : Nat} : s_gd M t full (s_q7 t L st cn sn M) := by
  unfold s_q7
  try simp only [s_fi_eq, s_fn_eq, s_fil1_eq, s_fil2_eq]
  repeat' (first | exact s_gd_n | exact s_gd_l | exact s_gd_s | exact s_gd_p | exact s_gd_j | exact s_gd_x | exact s_gd_o | exact s_gd_f | exact s_gd_m | exact s_gd_t | apply s_gd_b | split)
theorem s_gd_8 {M : s_M} {t full : List s_I} {L : s_L} {st : List s_V} {cn : Nat} {sn : Nat} : s_gd M t full (s_q8 t L st cn sn M) := by
  unfold s_q8
  try simp only [s_fi_eq, s_fn_eq, s_fil1_eq, s_fil2_eq]
  repeat' (first | exact s_gd_n | exact s_gd_l | exact s_gd_s | exact s_gd_p | exact s_gd_j | exact s_gd_x | exact s_gd_o | exact s_gd_f | exact s_gd_m | exact s_gd_t | apply s_gd_b | split)
theorem s_gd_12 {M : s_M} {t full : List s_I} {L : s_L} {st : List s_V} {cn : Nat} {sn : Nat} {a : Nat} : s_gd M t full (s_q12 t L st cn sn M a) := by
  unfold s_q12
  try simp only [s_fi_eq, s_fn_eq, s_fil1_eq, s_fil2_eq]
  repeat' (first | exact s_gd_n | exact s_gd_l | exact s_gd_s | exact s_gd_p | exact s_gd_j | exact s_gd_x | exact s_gd_o | exact s_gd_f | exact s_gd_m | exact s_gd_t | apply s_gd_b | split)
theorem s_gd_13 {M : s_M} {t full : List s_I} {L : s_L} {st : List s_V} {cn : Nat} {sn : Nat} {a : Nat} : s_gd M t full (s_q13 t L st cn sn M a) := by
  unfold s_q13
  try simp only [s_fi_eq, s_fn_eq, s_fil1_eq, s_fil2_eq]
  repeat' (first | exact s_gd_n | exact s_gd_l | exact s_gd_s | exact s_gd_p | exact s_gd_j | exact s_gd_x | exact s_gd_o | exact s_gd_f | exact s_gd_m | exact s_gd_t | apply s_gd_b | split)
theorem s_gd_14 {M : s_M} {t full : List s_I} {L : s_L} {st : List s_V} {cn : Nat} {sn : Nat} {a : Nat} : s_gd M t full (s_q14 t L st cn sn M a) := by
  unfold s_q14
  try simp only [s_fi_eq, s_fn_eq, s_fil1_eq, s_fil2_eq]
  repeat' (first | exact s_gd_n | exact s_gd_l | exact s_gd_s | exact s_gd_p | exact s_gd_j | exact s_gd_x | exact s_gd_o | exact s_gd_f | exact s_gd_m | exact s_gd_t | apply s_gd_b | split)
theorem s_gd_15 {M : s_M} {t full : List s_I} {L : s_L} {st : List s_V} {cn : Nat} {sn : Nat} {a : Nat} : s_gd M t full (s_q15 t L st cn sn M a) := by
  unfold s_q15
  try simp only [s_fi_eq, s_fn_eq, s_fil1_eq, s_fil2_eq]
  repeat' (first | exact s_gd_n | exact s_gd_l | exact s_gd_s | exact s_gd_p | exact s_gd_j | exact s_gd_x | exact s_gd_o | exact s_gd_f | exact s_gd_m | exact s_gd_t | apply s_gd_b | split)
theorem s_gd_16 {M : s_M} {t full : List s_I} {L : s_L} {st : List s_V} {cn : Nat} {sn : Nat} : s_gd M t full (s_q16 t L st cn sn M) := by
  unfold s_q16
  try simp only [s_fi_eq, s_fn_eq, s_fil1_eq, s_fil2_eq]
  repeat' (first | exact s_gd_n | exact s_gd_l | exact s_gd_s | exact s_gd_p | exact s_gd_j | exact s_gd_x | exact s_gd_o | exact s_gd_f | exact s_gd_m | exact s_gd_t | apply s_gd_b | split)
theorem s_gd_17 {M : s_M} {t full : List s_I} {L : s_L} {st : List s_V} {cn : Nat} {sn : Nat} : s_gd M t full (s_q17 t L st cn sn M) := by
  unfold s_q17
  try simp only [s_fi_eq, s_fn_eq, s_fil1_eq, s_fil2_eq]
  repeat' (first | exact s_gd_n | exact s_gd_l | exact s_gd_s | exact s_gd_p | exact s_gd_j | exact s_gd_x | exact s_gd_o | exact s_gd_f | exact s_gd_m | exact s_gd_t | apply s_gd_b | split)
theorem s_gd_18 {M : s_M} {t full : List s_I} {L : s_L} {st : List s_V} {cn : Nat} {sn : Nat} : s_gd M t full (s_q18 t L st cn sn M) := by
  unfold s_q18
  try simp only [s_fi_eq, s_fn_eq, s_fil1_eq, s_fil2_eq]
  repeat' (first | exact s_gd_n | exact s_gd_l | exact s_gd_s | exact s_gd_p | exact s_gd_j | exact s_gd_x | exact s_gd_o | exact s_gd_f | exact s_gd_m | exact s_gd_t | apply s_gd_b | split)
theorem s_gd_19 {M : s_M} {t full : List s_I} {L : s_L} {st : List s_V} {cn : Nat} {sn : Nat} : s_gd M t full (s_q19 t L st cn sn M) := by
  unfold s_q19
  try simp only [s_fi_eq, s_fn_eq, s_fil1_eq, s_fil2_eq]
  repeat' (first | exact s_gd_n | exact s_gd_l | exact s_gd_s | exact s_gd_p | exact s_gd_j | exact s_gd_x | exact s_gd_o | exact s_gd_f | exact s_gd_m | exact s_gd_t | apply s_gd_b | split)
theorem s_gd_21 {M : s_M} {t full : List s_I} {r : s_I} {L : s_L} {st : List s_V} {cn : Nat} {sn : Nat} {a : Nat} {b : Nat} : s_gd M t full (s_q21 full r t L st cn sn M a b) := by
  unfold s_q21
  try simp only [s_fi_eq, s_fn_eq, s_fil1_eq, s_fil2_eq]
  repeat' (first | exact s_gd_n | exact s_gd_l | exact s_gd_s | exact s_gd_p | exact s_gd_j | exact s_gd_x | exact s_gd_o | exact s_gd_f | exact s_gd_m | exact s_gd_t | apply s_gd_b | split)
theorem s_gd_22 {M : s_M} {t full : List s_I} {r : s_I} {L : s_L} {st : List s_V} {cn : Nat} {sn : Nat} {a : Nat} {b : Nat} : s_gd M t full (s_q22 full r t L st cn sn M a b) := by
  unfold s_q22
  try simp only [s_fi_eq, s_fn_eq, s_fil1_eq, s_fil2_eq]
  repeat' (first | exact s_gd_n | exact s_gd_l | exact s_gd_s | exact s_gd_p | exact s_gd_j | exact s_gd_x | exact s_gd_o | exact s_gd_f | exact s_gd_m | exact s_gd_t | apply s_gd_b | split)
theorem s_gd_23 {M : s_M} {t full : List s_I} {r : s_I} {L : s_L} {st : List s_V} {cn : Nat} {sn : Nat} {a : Nat} {nn : Bool} : s_gd M t full (s_q23 full r t L st cn sn M a nn) := by
  unfold s_q23
  try simp only [s_fi_eq, s_fn_eq, s_fil1_eq, s_fil2_eq]
  repeat' (first | exact s_gd_n | exact s_gd_l | exact s_gd_s | exact s_gd_p | exact s_gd_j | exact s_gd_x | exact s_gd_o | exact s_gd_f | exact s_gd_m | exact s_gd_t | apply s_gd_b | split)
theorem s_gd_25 {M : s_M} {t full : List s_I} {r : s_I} {L : s_L} {st : List s_V} {cn : Nat} {sn : Nat} : s_gd M t full (s_q25 full r L st cn sn M) := by
  unfold s_q25
  try simp only [s_fi_eq, s_fn_eq, s_fil1_eq, s_fil2_eq]
  repeat' (first | exact s_gd_n | exact s_gd_l | exact s_gd_s | exact s_gd_p | exact s_gd_j | exact s_gd_x | exact s_gd_o | exact s_gd_f | exact s_gd_m | exact s_gd_t | apply s_gd_b | split)
theorem s_gd_26 {M : s_M} {t full : List s_I} {L : s_L} {st : List s_V} {cn : Nat} {sn : Nat} {kd : Nat} {a : Nat} {b : Nat} : s_gd M t full (s_q26 t L st cn sn M kd a b) := by
  unfold s_q26
  try simp only [s_fi_eq, s_fn_eq, s_fil1_eq, s_fil2_eq]
  repeat' (first | exact s_gd_n | exact s_gd_l | exact s_gd_s | exact s_gd_p | exact s_gd_j | exact s_gd_x | exact s_gd_o | exact s_gd_f | exact s_gd_m | exact s_gd_t | apply s_gd_b | split)
theorem s_gd_27 {M : s_M} {t full : List s_I} {ft : s_FT} {o : Nat} {ini : Bool} {L : s_L} {st : List s_V} {cn : Nat} {sn : Nat} {kd : Nat} {a : Nat} {b : Nat} : s_gd M t full (s_q27 ft o ini t L st cn sn M kd a b) := by
  unfold s_q27
  try simp only [s_fi_eq, s_fn_eq, s_fil1_eq, s_fil2_eq]
  repeat' (first | exact s_gd_n | exact s_gd_l | exact s_gd_s | exact s_gd_p | exact s_gd_j | exact s_gd_x | exact s_gd_o | exact s_gd_f | exact s_gd_m | exact s_gd_t | apply s_gd_b | split)
theorem s_gd_28 {M : s_M} {t full : List s_I} {scr : Nat} {L : s_L} {st : List s_V} {cn : Nat} {sn : Nat} : s_gd M t full (s_q28 scr t L st cn sn M) := by
  unfold s_q28
  try simp only [s_fi_eq, s_fn_eq, s_fil1_eq, s_fil2_eq]
  repeat' (first | exact s_gd_n | exact s_gd_l | exact s_gd_s | exact s_gd_p | exact s_gd_j | exact s_gd_x | exact s_gd_o | exact s_gd_f | exact s_gd_m | exact s_gd_t | apply s_gd_b | split)
theorem s_gd_29 {M : s_M} {t full : List s_I} {bc : Nat} {bs : Nat} {L : s_L} {st : List s_V} {cn : Nat} {sn : Nat} {a : Nat} : s_gd M t full (s_q29 bc bs t L st cn sn M a) := by
  unfold s_q29
  try simp only [s_fi_eq, s_fn_eq, s_fil1_eq, s_fil2_eq]
  repeat' (first | exact s_gd_n | exact s_gd_l | exact s_gd_s | exact s_gd_p | exact s_gd_j | exact s_gd_x | exact s_gd_o | exact s_gd_f | exact s_gd_m | exact s_gd_t | apply s_gd_b | split)
theorem s_gd_30 {M : s_M} {t full : List s_I} {bc : Nat} {bs : Nat} {L : s_L} {st : List s_V} {cn : Nat} {sn : Nat} {kd : Nat} {a : Nat} : s_gd M t full (s_q30 bc bs t L st cn sn M kd a) := by
  unfold s_q30
  try simp only [s_fi_eq, s_fn_eq, s_fil1_eq, s_fil2_eq]
  repeat' (first | exact s_gd_n | exact s_gd_l | exact s_gd_s | exact s_gd_p | exact s_gd_j | exact s_gd_x | exact s_gd_o | exact s_gd_f | exact s_gd_m | exact s_gd_t | apply s_gd_b | split)
theorem s_gd_31 {M : s_M} {t full : List s_I} {ft : s_FT} {bc : Nat} {bs : Nat} {L : s_L} {st : List s_V} {cn : Nat} {sn : Nat} {kd : Nat} {a : Nat} {b : Nat} : s_gd M t full (s_q31 ft bc bs t L st cn sn M kd a b) := by
  unfold s_q31
  try simp only [s_fi_eq, s_fn_eq, s_fil1_eq, s_fil2_eq]
  repeat' (first | exact s_gd_n | exact s_gd_l | exact s_gd_s | exact s_gd_p | exact s_gd_j | exact s_gd_x | exact s_gd_o | exact s_gd_f | exact s_gd_m | exact s_gd_t | apply s_gd_b | split)
theorem s_gd_32 {M : s_M} {t full : List s_I} {scr : Nat} {L : s_L} {st : List s_V} {cn : Nat} {sn : Nat} {a : Nat} : s_gd M t full (s_q32 scr t L st cn sn M a) := by
  unfold s_q32
  try simp only [s_fi_eq, s_fn_eq, s_fil1_eq, s_fil2_eq]
  repeat' (first | exact s_gd_n | exact s_gd_l | exact s_gd_s | exact s_gd_p | exact s_gd_j | exact s_gd_x | exact s_gd_o | exact s_gd_f | exact s_gd_m | exact s_gd_t | apply s_gd_b | split)
theorem s_gd_33 {M : s_M} {t full : List s_I} {L : s_L} {st : List s_V} {cn : Nat} {sn : Nat} {a : Nat} : s_gd M t full (s_q33 t L st cn sn M a) := by
  unfold s_q33
  try simp only [s_fi_eq, s_fn_eq, s_fil1_eq, s_fil2_eq]
  repeat' (first | exact s_gd_n | exact s_gd_l | exact s_gd_s | exact s_gd_p | exact s_gd_j | exact s_gd_x | exact s_gd_o | exact s_gd_f | exact s_gd_m | exact s_gd_t | apply s_gd_b | split)
theorem s_gd_37 {M : s_M} {t full : List s_I} {L : s_L} {st : List s_V} {cn : Nat} {sn : Nat} {kd : Nat} : s_gd M t full (s_q37 t L st cn sn M kd) := by
  unfold s_q37
  try simp only [s_fi_eq, s_fn_eq, s_fil1_eq, s_fil2_eq]
  repeat' (first | exact s_gd_n | exact s_gd_l | exact s_gd_s | exact s_gd_p | exact s_gd_j | exact s_gd_x | exact s_gd_o | exact s_gd_f | exact s_gd_m | exact s_gd_t | apply s_gd_b | split)
theorem s_gd_do {M : s_M} {t full : List s_I} {ft : s_FT} {scr : Nat} {o : Nat} {nL : Nat} {ini : Bool} {bc : Nat} {bs : Nat} {r : s_I} {L : s_L} {st : List s_V} {cn : Nat} {sn : Nat} : s_gd M t full (s_do full ft scr o nL ini bc bs r t L st cn sn M) := by
  obtain ⟨pc, len, q, kd, a, k, v, ins⟩ := r
  unfold s_do
  simp only [s_d1, s_d2, s_d3, s_d4, s_d5, s_d6, s_d7]
  repeat' (first | exact s_gd_n | exact s_gd_s | exact s_gd_p | exact s_gd_j | exact s_gd_11 | exact s_gd_1 | exact s_gd_2 | exact s_gd_3 | exact s_gd_4 | exact s_gd_5 | exact s_gd_6 | exact s_gd_7 | exact s_gd_8 | exact s_gd_12 | exact s_gd_13 | exact s_gd_14 | exact s_gd_15 | exact s_gd_16 | exact s_gd_17 | exact s_gd_18 | exact s_gd_19 | exact s_gd_21 | exact s_gd_22 | exact s_gd_23 | exact s_gd_25 | exact s_gd_26 | exact s_gd_27 | exact s_gd_28 | exact s_gd_29 | exact s_gd_30 | exact s_gd_31 | exact s_gd_32 | exact s_gd_33 | exact s_gd_37 | apply s_gd_b)
end S25

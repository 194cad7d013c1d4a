-- kinds and bounds: all steps together
section Y4
variable {CALL : Nat → List Value → g_H → Nat → Nat → (Option Value → g_H → Prop) → Prop} {cc : ByteArray} {o nL : Nat} {ini : Bool} {bc bs : Nat} {P : g_S → Prop} {R : y_R} {W : y_W} {β : Nat → Int} {φ : Nat → Nat → Value}
variable {full t : List s_I} {L : y_L} {st : List y_T} {Ls : g_L} {sts : List Value} {h : g_H} {Xs : List y_X}
theorem y_tgts_ok {pc : Nat} {rest : List y_T} : ∀ {os : List Int} {Xs : List y_X}, y_tgts full pc L rest os = some Xs → ∀ off ∈ os, ∃ p t', (pc : Int) + off = ((p : Nat) : Int) ∧ s_pc t' = p ∧ (t', L, rest) ∈ Xs
  | [], _, _, off, hm => by cases hm
  | off' :: os, Xs, e, off, hm => by
    rw [y_tgts] at e
    split at e
    next p e1 =>
      split at e
      next t' e2 =>
        split at e
        next Ys e3 =>
          cases e
          rcases List.mem_cons.mp hm with rfl | hm
          · exact ⟨p, t', s_tgt_eq e1, (s_jump_mem e2).1, List.mem_cons_self⟩
          · obtain ⟨p2, t2, a1, a2, a3⟩ := y_tgts_ok e3 off hm
            exact ⟨p2, t2, a1, a2, List.mem_cons_of_mem _ a3⟩
        next => cases e
      next => cases e
    next => cases e
theorem y_q25_ok (hcl : ∀ S, g_pre CALL o nL ini bc bs cc P S → P S) {pc len : Nat} {ins : Instr} (hd : decode cc pc = .ok (ins, len)) (hH : y_H φ R W β h) (hL : y_gL W β L Ls) (hS : y_gS W β Ls st sts) (e : y_q25 full pc L st ins = some Xs) (hN : y_N φ R P W β Xs) : P (pc, Ls, sts, 0, 0, h) := by
  unfold y_q25 at e
  split at e
  next dflt lo hi offs =>
    split at e
    next x rest =>
      obtain ⟨h1, h2⟩ := s_bif e
      rw [Bool.and_eq_true, decide_eq_true_eq] at h1
      obtain ⟨v, vs, rfl, hg, hp, hS'⟩ := y_gS_cons hS
      obtain ⟨m, rfl, hm⟩ := y_isI_g h1.1 hg
      have hall := y_tgts_ok h2
      by_cases hin : m.toInt < lo ∨ hi < m.toInt
      · obtain ⟨p, t', a1, a2, a3⟩ := hall dflt List.mem_cons_self
        have k := hN _ a3 β h Ls vs (fun _ _ => rfl) hH hL hS'
        rw [show s_pc t' = p from a2] at k
        exact hcl _ ⟨_, _, hd, Or.inr (Or.inr (Or.inl (Or.inr (Or.inr (Or.inr (Or.inr (Or.inr ⟨dflt, lo, hi, offs, m, vs, dflt, p, rfl, rfl, a1, Or.inr ⟨hin, rfl⟩, k⟩)))))))⟩
      · have hlt : (m.toInt - lo).toNat < offs.size := by omega
        have hget : offs[(m.toInt - lo).toNat]? = some offs[(m.toInt - lo).toNat] := Array.getElem?_eq_getElem hlt
        obtain ⟨p, t', a1, a2, a3⟩ := hall offs[(m.toInt - lo).toNat] (List.mem_cons_of_mem _ (Array.getElem_mem_toList hlt))
        have k := hN _ a3 β h Ls vs (fun _ _ => rfl) hH hL hS'
        rw [show s_pc t' = p from a2] at k
        exact hcl _ ⟨_, _, hd, Or.inr (Or.inr (Or.inl (Or.inr (Or.inr (Or.inr (Or.inr (Or.inr ⟨dflt, lo, hi, offs, m, vs, _, p, rfl, rfl, a1, Or.inl ⟨fun h => hin (Or.inl h), fun h => hin (Or.inr h), hget⟩, k⟩)))))))⟩
    next => cases e
  next => cases e
theorem y_do_ok (hcl : ∀ S, g_pre CALL o nL ini bc bs cc P S → P S) (hRo : y_Rok R) {ft : s_FT} (hft : s_ftok ft) {pc len q kd a k : Nat} {v : Int} {ins : Instr} (hq : q < 40) (hI : s_okI cc o (pc, len, q, kd, a, k, v, ins) = true) (hIt : ∀ r ∈ t, s_okI cc o r = true) (hH : y_H φ R W β h) (hL : y_gL W β L Ls) (hS : y_gS W β Ls st sts) (e : y_do R ft full nL (pc, len, q, kd, a, k, v, ins) t L st = some Xs) (hN : y_N φ R P W β Xs) : P (pc, Ls, sts, 0, 0, h) := by
  obtain ⟨⟨n, hd, hlen, hne⟩, hQ, hlk⟩ := s_okI_eq hI (by omega)
  replace hlk := hlk hq
  clear hI
  match q, hq, e, hne, hQ with
  | 0, _, e, hne, hQ =>
    obtain ⟨hg, h1⟩ := s_bif (show (bif s_go (pc, len, 0, kd, a, k, v, ins) t then y_q0 t L st ins else none) = some Xs from e)
    have hgo : s_pc t = pc + s_len ins := by rw [← hne (by decide), ← hlen]; exact s_go_eq hg
    have hd' : decode cc pc = .ok (ins, s_len ins) := by rw [← hne (by decide)]; exact hd
    exact y_q0_ok hcl hd' hgo hH hL hS h1 hN
  | 1, _, e, hne, hQ =>
    obtain ⟨hg, h1⟩ := s_bif (show (bif s_go (pc, len, 1, kd, a, k, v, ins) t then y_q1 t L st a k else none) = some Xs from e)
    have hgo : s_pc t = pc + s_len ins := by rw [← hne (by decide), ← hlen]; exact s_go_eq hg
    have hd' : decode cc pc = .ok (ins, s_len ins) := by rw [← hne (by decide)]; exact hd
    exact y_q1_ok hcl hd' hgo (of_decide_eq_true hQ) hH hL hS h1 hN
  | 2, _, e, hne, hQ =>
    obtain ⟨hg, h1⟩ := s_bif (show (bif s_go (pc, len, 2, kd, a, k, v, ins) t then y_q2 nL t L st a k else none) = some Xs from e)
    have hgo : s_pc t = pc + s_len ins := by rw [← hne (by decide), ← hlen]; exact s_go_eq hg
    have hd' : decode cc pc = .ok (ins, s_len ins) := by rw [← hne (by decide)]; exact hd
    exact y_q2_ok hcl hd' hgo (of_decide_eq_true hQ) hH hL hS h1 hN
  | 3, _, e, hne, hQ =>
    obtain ⟨hg, h1⟩ := s_bif (show (bif s_go (pc, len, 3, kd, a, k, v, ins) t then y_q3 nL t L st a k else none) = some Xs from e)
    have hgo : s_pc t = pc + s_len ins := by rw [← hne (by decide), ← hlen]; exact s_go_eq hg
    have hd' : decode cc pc = .ok (ins, s_len ins) := by rw [← hne (by decide)]; exact hd
    exact y_q3_ok hcl hd' hgo (of_decide_eq_true hQ) hH hL hS h1 hN
  | 4, _, e, hne, hQ =>
    obtain ⟨hg, h1⟩ := s_bif (show (bif s_go (pc, len, 4, kd, a, k, v, ins) t then y_q4 nL t L st a v else none) = some Xs from e)
    have hgo : s_pc t = pc + s_len ins := by rw [← hne (by decide), ← hlen]; exact s_go_eq hg
    have hd' : decode cc pc = .ok (ins, s_len ins) := by rw [← hne (by decide)]; exact hd
    have hi := of_decide_eq_true hQ
    subst hi
    exact y_q4_ok hcl hd' hgo hH hL hS h1 hN
  | 5, _, e, hne, hQ =>
    obtain ⟨hg, h1⟩ := s_bif (show (bif s_go (pc, len, 5, kd, a, k, v, ins) t then y_q5 t L st else none) = some Xs from e)
    have hgo : s_pc t = pc + s_len ins := by rw [← hne (by decide), ← hlen]; exact s_go_eq hg
    have hd' : decode cc pc = .ok (ins, s_len ins) := by rw [← hne (by decide)]; exact hd
    have hi := of_decide_eq_true hQ
    subst hi
    exact y_q5_ok hcl hd' hgo hH hL hS h1 hN
  | 6, _, e, hne, hQ =>
    obtain ⟨hg, h1⟩ := s_bif (show (bif s_go (pc, len, 6, kd, a, k, v, ins) t then y_q6 t L st else none) = some Xs from e)
    have hgo : s_pc t = pc + s_len ins := by rw [← hne (by decide), ← hlen]; exact s_go_eq hg
    have hd' : decode cc pc = .ok (ins, s_len ins) := by rw [← hne (by decide)]; exact hd
    have hi := of_decide_eq_true hQ
    subst hi
    exact y_q6_ok hcl hd' hgo hH hL hS h1 hN
  | 7, _, e, hne, hQ =>
    obtain ⟨hg, h1⟩ := s_bif (show (bif s_go (pc, len, 7, kd, a, k, v, ins) t then y_q7 t L st else none) = some Xs from e)
    have hgo : s_pc t = pc + s_len ins := by rw [← hne (by decide), ← hlen]; exact s_go_eq hg
    have hd' : decode cc pc = .ok (ins, s_len ins) := by rw [← hne (by decide)]; exact hd
    have hi := of_decide_eq_true hQ
    subst hi
    exact y_q7_ok hcl hd' hgo hH hL hS h1 hN
  | 8, _, e, hne, hQ =>
    obtain ⟨hg, h1⟩ := s_bif (show (bif s_go (pc, len, 8, kd, a, k, v, ins) t then y_q8 t L st else none) = some Xs from e)
    have hgo : s_pc t = pc + s_len ins := by rw [← hne (by decide), ← hlen]; exact s_go_eq hg
    have hd' : decode cc pc = .ok (ins, s_len ins) := by rw [← hne (by decide)]; exact hd
    have hi := of_decide_eq_true hQ
    subst hi
    exact y_q8_ok hcl hd' hgo hH hL hS h1 hN
  | 9, _, e, hne, hQ =>
    obtain ⟨hg, h1⟩ := s_bif (show (bif s_go (pc, len, 9, kd, a, k, v, ins) t then (bif Nat.beq kd 10 && y_in32 v v then (some [(t, L, ((0, v, v, y_z), 0) :: st)] : Option (List y_X)) else none) else none) = some Xs from e)
    have hgo : s_pc t = pc + s_len ins := by rw [← hne (by decide), ← hlen]; exact s_go_eq hg
    have hd' : decode cc pc = .ok (ins, s_len ins) := by rw [← hne (by decide)]; exact hd
    obtain ⟨h2, h3⟩ := s_bif h1
    cases h3
    rw [Bool.and_eq_true, Nat.beq_eq] at h2
    obtain ⟨rfl, h2⟩ := h2
    have hQ' : ∃ i, ins = .ldc i ∨ ins = .ldc_w i := by
      revert hQ
      cases ins <;> intro hQ <;> first | exact ⟨_, Or.inl rfl⟩ | exact ⟨_, Or.inr rfl⟩ | cases hQ
    obtain ⟨i, hi⟩ := hQ'
    obtain ⟨ps, hm⟩ := hlk i (by rcases hi with rfl | rfl <;> rfl)
    have kk := y_N1 hN hH hL (sts := .int (Int32.ofInt v) :: sts) ⟨⟨y_in32_g h2, fun h => absurd rfl h⟩, hS⟩
    rw [show s_pc t = pc + s_len ins from hgo] at kk
    have hldc : g_ldc ins = some (i, s_len ins, 10) := by rcases hi with rfl | rfl <;> rfl
    exact hcl _ ⟨_, _, hd', Or.inl (Or.inr (Or.inr (Or.inr (Or.inr (Or.inr (Or.inr (Or.inr (Or.inr (Or.inr (Or.inr (Or.inl ⟨i, 10, a, k, v, ps, hldc, hm, kk⟩)))))))))))⟩
  | 10, _, e, hne, hQ =>
    obtain ⟨hg, h1⟩ := s_bif (show (bif s_go (pc, len, 10, kd, a, k, v, ins) t then (bif Nat.beq kd 11 && y_in64 v v then (some [(t, L, ((1, v, v, y_z), 0) :: st)] : Option (List y_X)) else none) else none) = some Xs from e)
    have hgo : s_pc t = pc + s_len ins := by rw [← hne (by decide), ← hlen]; exact s_go_eq hg
    have hd' : decode cc pc = .ok (ins, s_len ins) := by rw [← hne (by decide)]; exact hd
    obtain ⟨h2, h3⟩ := s_bif h1
    cases h3
    rw [Bool.and_eq_true, Nat.beq_eq] at h2
    obtain ⟨rfl, h2⟩ := h2
    have hQ' : ∃ i, ins = .ldc2_w i := by
      revert hQ
      cases ins <;> intro hQ <;> first | exact ⟨_, rfl⟩ | cases hQ
    obtain ⟨i, rfl⟩ := hQ'
    obtain ⟨ps, hm⟩ := hlk i rfl
    have kk := y_N1 hN hH hL (sts := .long (Int64.ofInt v) :: sts) ⟨⟨y_in64_g h2, fun h => absurd rfl h⟩, hS⟩
    rw [show s_pc t = pc + 3 from hgo] at kk
    exact hcl _ ⟨_, _, hd', Or.inl (Or.inr (Or.inr (Or.inr (Or.inr (Or.inr (Or.inr (Or.inr (Or.inr (Or.inr (Or.inr (Or.inr ⟨i, 11, a, k, v, ps, rfl, rfl, Or.inl rfl, hm, kk⟩)))))))))))⟩
  | 11, _, e, hne, hQ =>
    obtain ⟨hg, h1⟩ := s_bif (show (bif s_go (pc, len, 11, kd, a, k, v, ins) t then y_q11 t L st a else none) = some Xs from e)
    have hgo : s_pc t = pc + s_len ins := by rw [← hne (by decide), ← hlen]; exact s_go_eq hg
    have hd' : decode cc pc = .ok (ins, s_len ins) := by rw [← hne (by decide)]; exact hd
    exact y_q11_ok hcl (of_decide_eq_true hQ) hd' hgo hH hL hS h1 hN
  | 12, _, e, hne, hQ =>
    obtain ⟨hg, h1⟩ := s_bif (show (bif s_go (pc, len, 12, kd, a, k, v, ins) t then y_q12 t L st a else none) = some Xs from e)
    have hgo : s_pc t = pc + s_len ins := by rw [← hne (by decide), ← hlen]; exact s_go_eq hg
    have hd' : decode cc pc = .ok (ins, s_len ins) := by rw [← hne (by decide)]; exact hd
    exact y_q12_ok hcl (of_decide_eq_true hQ) hd' hgo hH hL hS h1 hN
  | 13, _, e, hne, hQ =>
    obtain ⟨hg, h1⟩ := s_bif (show (bif s_go (pc, len, 13, kd, a, k, v, ins) t then y_q13 t L st a else none) = some Xs from e)
    have hgo : s_pc t = pc + s_len ins := by rw [← hne (by decide), ← hlen]; exact s_go_eq hg
    have hd' : decode cc pc = .ok (ins, s_len ins) := by rw [← hne (by decide)]; exact hd
    exact y_q13_ok hcl (of_decide_eq_true hQ) hd' hgo hH hL hS h1 hN
  | 14, _, e, hne, hQ =>
    obtain ⟨hg, h1⟩ := s_bif (show (bif s_go (pc, len, 14, kd, a, k, v, ins) t then y_q14 t L st a else none) = some Xs from e)
    have hgo : s_pc t = pc + s_len ins := by rw [← hne (by decide), ← hlen]; exact s_go_eq hg
    have hd' : decode cc pc = .ok (ins, s_len ins) := by rw [← hne (by decide)]; exact hd
    exact y_q14_ok hcl (of_decide_eq_true hQ) hd' hgo hH hL hS h1 hN
  | 15, _, e, hne, hQ =>
    obtain ⟨hg, h1⟩ := s_bif (show (bif s_go (pc, len, 15, kd, a, k, v, ins) t then y_q15 t L st a else none) = some Xs from e)
    have hgo : s_pc t = pc + s_len ins := by rw [← hne (by decide), ← hlen]; exact s_go_eq hg
    have hd' : decode cc pc = .ok (ins, s_len ins) := by rw [← hne (by decide)]; exact hd
    exact y_q15_ok hcl (of_decide_eq_true hQ) hd' hgo hH hL hS h1 hN
  | 16, _, e, hne, hQ =>
    obtain ⟨hg, h1⟩ := s_bif (show (bif s_go (pc, len, 16, kd, a, k, v, ins) t then y_q16 t L st else none) = some Xs from e)
    have hgo : s_pc t = pc + s_len ins := by rw [← hne (by decide), ← hlen]; exact s_go_eq hg
    have hd' : decode cc pc = .ok (ins, s_len ins) := by rw [← hne (by decide)]; exact hd
    have hi := of_decide_eq_true hQ
    subst hi
    exact y_q16_ok hcl hd' hgo hH hL hS h1 hN
  | 17, _, e, hne, hQ =>
    obtain ⟨hg, h1⟩ := s_bif (show (bif s_go (pc, len, 17, kd, a, k, v, ins) t then y_q17 t L st else none) = some Xs from e)
    have hgo : s_pc t = pc + s_len ins := by rw [← hne (by decide), ← hlen]; exact s_go_eq hg
    have hd' : decode cc pc = .ok (ins, s_len ins) := by rw [← hne (by decide)]; exact hd
    have hi := of_decide_eq_true hQ
    subst hi
    exact y_q17_ok hcl hd' hgo hH hL hS h1 hN
  | 18, _, e, hne, hQ =>
    obtain ⟨hg, h1⟩ := s_bif (show (bif s_go (pc, len, 18, kd, a, k, v, ins) t then y_q18 t L st else none) = some Xs from e)
    have hgo : s_pc t = pc + s_len ins := by rw [← hne (by decide), ← hlen]; exact s_go_eq hg
    have hd' : decode cc pc = .ok (ins, s_len ins) := by rw [← hne (by decide)]; exact hd
    have hi := of_decide_eq_true hQ
    subst hi
    exact y_q18_ok hcl hd' hgo hH hL hS h1 hN
  | 19, _, e, hne, hQ =>
    obtain ⟨hg, h1⟩ := s_bif (show (bif s_go (pc, len, 19, kd, a, k, v, ins) t then y_q19 full t L st else none) = some Xs from e)
    have hgo : s_pc t = pc + s_len ins := by rw [← hne (by decide), ← hlen]; exact s_go_eq hg
    have hd' : decode cc pc = .ok (ins, s_len ins) := by rw [← hne (by decide)]; exact hd
    have hi := of_decide_eq_true hQ
    subst hi
    exact y_q19_ok hcl hd' hgo hIt hH hL hS h1 hN
  | 20, _, e, hne, hQ =>
    have h1 : y_jmp full a L st = some Xs := e
    have hQ' : ∃ off, ins = .goto off ∧ (pc : Int) + off = (a : Int) := by
      clear e h1 hd hne hlk hN hH hL hS hft hcl hIt
      revert hQ
      cases ins <;> intro hQ <;> first | exact ⟨_, rfl, of_decide_eq_true hQ⟩ | cases hQ
    obtain ⟨off, hi, hoff⟩ := hQ'
    have hn := hne (by decide)
    rw [hi] at hd hn
    rw [hn] at hd
    exact y_q20_ok hcl hd hoff hH hL hS h1 hN
  | 21, _, e, hne, hQ =>
    have h1 : y_q21 full (pc, len, 21, kd, a, k, v, ins) t L st a k = some Xs := e
    have hQ' : ∃ cd off, ins = .ifCond cd off ∧ (pc : Int) + off = (a : Int) ∧ s_cdn cd = k := by
      clear e h1 hd hne hlk hN hH hL hS hft hcl hIt
      revert hQ
      cases ins <;> intro hQ <;> first | exact ⟨_, _, rfl, of_decide_eq_true ((Bool.and_eq_true _ _).mp hQ).1, Nat.beq_eq.mp ((Bool.and_eq_true _ _).mp hQ).2⟩ | cases hQ
    obtain ⟨cd, off, hi, hoff, hcd⟩ := hQ'
    have hn := hne (by decide)
    rw [hi] at hd hn h1
    rw [hn] at hd hlen
    rw [← hcd] at h1
    exact y_q21_ok (r := (pc, len, 21, kd, a, s_cdn cd, v, .ifCond cd off)) hcl hd hlen hoff hH hL hS h1 hN
  | 22, _, e, hne, hQ =>
    have h1 : y_q22 full (pc, len, 22, kd, a, k, v, ins) t L st a k = some Xs := e
    have hQ' : ∃ cd off, ins = .if_icmp cd off ∧ (pc : Int) + off = (a : Int) ∧ s_cdn cd = k := by
      clear e h1 hd hne hlk hN hH hL hS hft hcl hIt
      revert hQ
      cases ins <;> intro hQ <;> first | exact ⟨_, _, rfl, of_decide_eq_true ((Bool.and_eq_true _ _).mp hQ).1, Nat.beq_eq.mp ((Bool.and_eq_true _ _).mp hQ).2⟩ | cases hQ
    obtain ⟨cd, off, hi, hoff, hcd⟩ := hQ'
    have hn := hne (by decide)
    rw [hi] at hd hn h1
    rw [hn] at hd hlen
    rw [← hcd] at h1
    exact y_q22_ok (r := (pc, len, 22, kd, a, s_cdn cd, v, .if_icmp cd off)) hcl hd hlen hoff hH hL hS h1 hN
  | 23, _, e, hne, hQ =>
    have h1 : y_q23 full (pc, len, 23, kd, a, k, v, ins) t L st a false = some Xs := e
    have hQ' : ∃ off, ins = .ifnull off ∧ (pc : Int) + off = (a : Int) := by
      clear e h1 hd hne hlk hN hH hL hS hft hcl hIt
      revert hQ
      cases ins <;> intro hQ <;> first | exact ⟨_, rfl, of_decide_eq_true hQ⟩ | cases hQ
    obtain ⟨off, hi, hoff⟩ := hQ'
    have hn := hne (by decide)
    rw [hi] at hd hn h1
    rw [hn] at hd hlen
    exact y_q23_ok (r := (pc, len, 23, kd, a, k, v, .ifnull off)) (nn := false) hcl hd hlen hoff hH hL hS h1 hN
  | 24, _, e, hne, hQ =>
    have h1 : y_q23 full (pc, len, 24, kd, a, k, v, ins) t L st a true = some Xs := e
    have hQ' : ∃ off, ins = .ifnonnull off ∧ (pc : Int) + off = (a : Int) := by
      clear e h1 hd hne hlk hN hH hL hS hft hcl hIt
      revert hQ
      cases ins <;> intro hQ <;> first | exact ⟨_, rfl, of_decide_eq_true hQ⟩ | cases hQ
    obtain ⟨off, hi, hoff⟩ := hQ'
    have hn := hne (by decide)
    rw [hi] at hd hn h1
    rw [hn] at hd hlen
    exact y_q23_ok (r := (pc, len, 24, kd, a, k, v, .ifnonnull off)) (nn := true) hcl hd hlen hoff hH hL hS h1 hN
  | 25, _, e, hne, hQ => exact y_q25_ok hcl hd hH hL hS (show y_q25 full pc L st ins = some Xs from e) hN
  | 26, _, e, hne, hQ =>
    obtain ⟨hg, h1⟩ := s_bif (show (bif s_go (pc, len, 26, kd, a, k, v, ins) t then y_q26 R t L st kd a k else none) = some Xs from e)
    have hgo : s_pc t = pc + s_len ins := by rw [← hne (by decide), ← hlen]; exact s_go_eq hg
    have hd' : decode cc pc = .ok (ins, s_len ins) := by rw [← hne (by decide)]; exact hd
    have hQ' : ∃ i, ins = .getfield i := by
      revert hQ
      cases ins <;> intro hQ <;> first | exact ⟨_, rfl⟩ | cases hQ
    obtain ⟨i, rfl⟩ := hQ'
    exact y_q26_ok hcl hRo hd' hgo (hlk i rfl) hH hL hS h1 hN
  | 27, _, e, hne, hQ =>
    obtain ⟨hg, h1⟩ := s_bif (show (bif s_go (pc, len, 27, kd, a, k, v, ins) t then y_q27 R ft t L st kd a k else none) = some Xs from e)
    have hgo : s_pc t = pc + s_len ins := by rw [← hne (by decide), ← hlen]; exact s_go_eq hg
    have hd' : decode cc pc = .ok (ins, s_len ins) := by rw [← hne (by decide)]; exact hd
    have hQ' : ∃ i, ins = .putfield i := by
      revert hQ
      cases ins <;> intro hQ <;> first | exact ⟨_, rfl⟩ | cases hQ
    obtain ⟨i, rfl⟩ := hQ'
    exact y_q27_ok hcl hRo hft hd' hgo (hlk i rfl) hH hL hS h1 hN
  | 28, _, e, hne, hQ =>
    obtain ⟨hg, h1⟩ := s_bif (show (bif s_go (pc, len, 28, kd, a, k, v, ins) t then y_q28 R t L st else none) = some Xs from e)
    have hgo : s_pc t = pc + s_len ins := by rw [← hne (by decide), ← hlen]; exact s_go_eq hg
    have hd' : decode cc pc = .ok (ins, s_len ins) := by rw [← hne (by decide)]; exact hd
    have hi := of_decide_eq_true hQ
    subst hi
    exact y_q28_ok hcl hd' hgo hH hL hS h1 hN
  | 29, _, e, hne, hQ =>
    obtain ⟨hg, h1⟩ := s_bif (show (bif s_go (pc, len, 29, kd, a, k, v, ins) t then (none : Option (List y_X)) else none) = some Xs from e)
    cases h1
  | 30, _, e, hne, hQ =>
    obtain ⟨hg, h1⟩ := s_bif (show (bif s_go (pc, len, 30, kd, a, k, v, ins) t then (none : Option (List y_X)) else none) = some Xs from e)
    cases h1
  | 31, _, e, hne, hQ =>
    obtain ⟨hg, h1⟩ := s_bif (show (bif s_go (pc, len, 31, kd, a, k, v, ins) t then (none : Option (List y_X)) else none) = some Xs from e)
    cases h1
  | 32, _, e, hne, hQ =>
    obtain ⟨hg, h1⟩ := s_bif (show (bif s_go (pc, len, 32, kd, a, k, v, ins) t then y_q32 R t L st a else none) = some Xs from e)
    have hgo : s_pc t = pc + s_len ins := by rw [← hne (by decide), ← hlen]; exact s_go_eq hg
    have hd' : decode cc pc = .ok (ins, s_len ins) := by rw [← hne (by decide)]; exact hd
    have hQ1 : (Nat.beq (s_aln ins) a && Nat.blt a 4) = true := hQ
    rw [Bool.and_eq_true, Nat.beq_eq, Nat.blt_eq] at hQ1
    have hl1 : s_len ins = 1 := by
      rcases s_al_i hQ1.1 hQ1.2 with ⟨-, rfl⟩ | ⟨-, rfl⟩ | ⟨-, rfl⟩ | ⟨-, rfl⟩ <;> rfl
    rw [hl1] at hd' hgo
    exact y_q32_ok hcl hQ1.1 hQ1.2 hd' hgo hH hL hS h1 hN
  | 33, _, e, hne, hQ =>
    obtain ⟨hg, h1⟩ := s_bif (show (bif s_go (pc, len, 33, kd, a, k, v, ins) t then y_q33 R t L st a else none) = some Xs from e)
    have hgo : s_pc t = pc + s_len ins := by rw [← hne (by decide), ← hlen]; exact s_go_eq hg
    have hd' : decode cc pc = .ok (ins, s_len ins) := by rw [← hne (by decide)]; exact hd
    have hQ1 : (Nat.beq (s_asn ins) a && Nat.blt a 4) = true := hQ
    rw [Bool.and_eq_true, Nat.beq_eq, Nat.blt_eq] at hQ1
    have hl1 : s_len ins = 1 := by
      rcases s_as_i hQ1.1 hQ1.2 with ⟨-, rfl⟩ | ⟨-, rfl⟩ | ⟨-, rfl⟩ | ⟨-, rfl⟩ <;> rfl
    rw [hl1] at hd' hgo
    exact y_q33_ok hcl hRo hQ1.1 hQ1.2 hd' hgo hH hL hS h1 hN
  | 34, _, e, hne, hQ =>
    obtain ⟨hg, h1⟩ := s_bif (show (bif s_go (pc, len, 34, kd, a, k, v, ins) t then (none : Option (List y_X)) else none) = some Xs from e)
    cases h1
  | 35, _, e, hne, hQ =>
    obtain ⟨hg, h1⟩ := s_bif (show (bif s_go (pc, len, 35, kd, a, k, v, ins) t then (none : Option (List y_X)) else none) = some Xs from e)
    cases h1
  | 36, _, e, hne, hQ =>
    obtain ⟨hg, h1⟩ := s_bif (show (bif s_go (pc, len, 36, kd, a, k, v, ins) t then (none : Option (List y_X)) else none) = some Xs from e)
    cases h1
  | 37, _, e, hne, hQ =>
    obtain ⟨hg, h1⟩ := s_bif (show (bif s_go (pc, len, 37, kd, a, k, v, ins) t then (none : Option (List y_X)) else none) = some Xs from e)
    cases h1
  | 38, _, e, hne, hQ =>
    obtain ⟨hg, h1⟩ := s_bif (show (bif s_go (pc, len, 38, kd, a, k, v, ins) t then (none : Option (List y_X)) else none) = some Xs from e)
    cases h1
  | 39, _, e, hne, hQ =>
    obtain ⟨hg, h1⟩ := s_bif (show (bif s_go (pc, len, 39, kd, a, k, v, ins) t then (none : Option (List y_X)) else none) = some Xs from e)
    cases h1
  | n + 40, hq, e, _, _ => exact absurd hq (by omega)
end Y4

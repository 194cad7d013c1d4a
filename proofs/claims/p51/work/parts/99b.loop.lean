-- the law's loop
set_option maxRecDepth 20000
def z_offs : List Int := [213, 274, 335, 372, 433, 470, 483, 523, 548, 561, 574, 599, 636, 673, 698, 735, 784, 833, 858, 895, 920, 945, 958, 995, 1032, 1057, 1082, 1131, 1156, 1169, 1182, 1243, 1280, 1329, 1378, 1403, 1428, 1441, 1494, 1547, 1572, 1585, 1598, 1611, 1672, 1685, 1710, 1735, 1772, 1797]
set_option maxRecDepth 100000 in
theorem z_dec : decode code 23 = .ok (.iload 4, 2) ∧ decode code 25 = .ok (.aload_n 0, 1) ∧ decode code 26 = .ok (.arraylength, 1) ∧ decode code 27 = .ok (.iconst 5, 1) ∧ decode code 28 = .ok (.isub, 1) ∧ decode code 29 = .ok (.if_icmp .gt 1868, 3) ∧ decode code 1897 = .ok (.iconst 1, 1) ∧ decode code 1898 = .ok (.ireturn, 1) ∧ decode code 39 = .ok (.tableswitch 1852 0 49 z_offs.toArray, 213) := by decide +kernel
def z_sw (Y : z_X) : Bool := match Y with
  | (r :: _, L, st, F) => Nat.beq r.1 39 && (decide (st = [(0, 0)]) && (decide (L = z_L0) && F.isEmpty))
  | _ => false
def z_32 : Bool := match s_jump z_tab 32 with
  | some c => (match z_run z_tab [39] 100 (c, z_L0, [], []) with
    | some ls => ls.all z_sw
    | none => false)
  | none => false
def z_df : Bool := match s_jump z_tab 1891 with
  | some c => (match z_run z_tab [23] 100 (c, z_L0, [], []) with
    | some ls => ls.all z_at23
    | none => false)
  | none => false
set_option maxRecDepth 100000 in
theorem z_32_ok : z_32 = true := by decide +kernel
set_option maxRecDepth 100000 in
theorem z_df_ok : z_df = true := by decide +kernel
section Z4
variable {N b : Nat} {xs : Nat → Int32} {P : g_S → Prop} {A : Nat → Nat} {INV : g_H → Prop}
theorem z_default (hP : z_cl N b xs P) {i : Int} (hE : z_ok N b xs (z_Ev i N b A xs (fun _ => 0))) {cells slots : Nat} (hn : z_next P INV i N b A xs cells slots) {Ls : g_L} (hL : z_gL (z_Ev i N b A xs (fun _ => 0)) z_L0 Ls) {h : g_H} (hI : INV h) : P (1891, Ls, [], cells, slots, h) := by
  have hb := z_df_ok
  unfold z_df at hb
  split at hb
  next c ec =>
    split at hb
    next ls el =>
      have hj := s_jump_mem ec
      obtain ⟨k1, k2⟩ := z_run_ok (w := (cells, slots, h)) hP hE z_tab_ok 100 (c, z_L0, [], []) ls el (fun q hq => z_tab_ok q (hj.2 q hq))
      have key := k2 (fun Y hY => z_at23_ok (List.all_eq_true.mp hb Y hY) hn hI) Ls [] hL trivial (fun q hq => by cases hq)
      rw [show s_pc c = 1891 from hj.1] at key
      exact key
    next => cases hb
  next => cases hb
/-- the loop, where each case comes to the loop's head again -/
theorem z_loop (hP : z_cl N b xs P) (hN : N ≤ 2560) (hend : ∀ (Ls : g_L) (cells slots : Nat) (h : g_H), cells ≤ 1105985 → slots ≤ 5778149 → P (1898, Ls, [.int 1], cells, slots, h))
    (hcase : ∀ (k : Nat) (off : Int), z_offs[k]? = some off → ∀ (i : Int), (∀ ν, z_ok N b xs (z_Ev i N b A xs ν)) → ∀ (cells slots : Nat), cells + 10 ≤ 1105985 → slots + 133 ≤ 5778149 → (∀ c' s', c' ≤ cells + 10 → s' ≤ slots + 133 → z_next P INV i N b A xs c' s') → ∀ (Ls : g_L), z_gL (z_Ev i N b A xs (fun _ => 0)) z_L0 Ls → ∀ h, INV h → P ((39 + off).toNat, Ls, [], cells, slots, h)) :
    ∀ (f t : Nat), N + 4 < 5 * t + 5 * f → 5 * t ≤ N + 4 → ∀ (cells slots : Nat), cells ≤ 107 + 10 * t → slots ≤ 9636 + 133 * t → z_next P INV (5 * (t : Int) - 5) N b A xs cells slots := by
  obtain ⟨d23, d25, d26, d27, d28, d29, d1870, d1871, d39⟩ := z_dec
  intro f
  induction f with
  | zero => intro t h1 h2; omega
  | succ f ih =>
    intro t h1 h2 cells slots hc hs Ls h hL hI
    have hi : 5 * (t : Int) - 5 + 5 = 5 * (t : Int) := by omega
    rw [hi] at hL
    obtain ⟨x4, m4, y4, e4, v4⟩ := hL (4, (1, 0)) (by decide)
    subst e4
    have v4 : y4.toInt = 5 * (t : Int) + 0 := v4
    obtain ⟨x0, m0, e0⟩ := hL (0, (4, 0)) (by decide)
    have e0 : x0 = .ref b := e0
    subst e0
    refine hP.1 _ ⟨_, _, d23, Or.inl (Or.inr (Or.inl ⟨4, _, _, rfl, m4, rfl, ?_⟩))⟩
    refine hP.1 _ ⟨_, _, d25, Or.inl (Or.inr (Or.inl ⟨0, _, _, rfl, m0, rfl, ?_⟩))⟩
    refine hP.2.1 26 Ls [.int y4] _ d26 ?_
    refine hP.1 _ ⟨_, _, d27, Or.inl (Or.inl ⟨_, rfl, ?_⟩)⟩
    refine hP.1 _ ⟨_, _, d28, Or.inr (Or.inl (Or.inl ⟨_, _, _, _, rfl, rfl, rfl, ?_⟩))⟩
    have hn5 : (Int32.ofNat N - Int32.ofInt 5).toInt = (N : Int) - 5 := by
      rw [Int32.toInt_sub, Int32.toInt_ofNat_of_lt (show N < 2 ^ 31 by omega), z_i32 (by omega) (by omega)]
      apply Int.bmod_eq_of_le <;> omega
    refine hP.1 _ ⟨_, _, d29, Or.inr (Or.inr (Or.inl (Or.inr (Or.inr (Or.inl ⟨_, _, 1897, _, _, _, rfl, rfl, rfl, rfl, ?_⟩)))))⟩
    rw [h_c2]
    by_cases hgt : (N : Int) - 5 < 5 * (t : Int)
    · rw [if_pos (by
        show h_ci y4.toInt (Int32.ofNat N - Int32.ofInt 5).toInt ClassFile.Cond.gt = true
        rw [hn5, v4]
        exact decide_eq_true (by omega))]
      refine hP.1 _ ⟨_, _, d1870, Or.inl (Or.inl ⟨_, rfl, ?_⟩)⟩
      exact hend Ls cells slots h (by omega) (by omega)
    · rw [if_neg (by
        show ¬ h_ci y4.toInt (Int32.ofNat N - Int32.ofInt 5).toInt ClassFile.Cond.gt = true
        rw [hn5, v4]
        intro hh
        have := of_decide_eq_true hh
        omega)]
      have hE : ∀ ν, z_ok N b xs (z_Ev (5 * (t : Int)) N b A xs ν) := fun ν => ⟨by show (0 : Int) ≤ 5 * (t : Int); omega, by show 5 * (t : Int) + 5 ≤ (N : Int); omega, by show (N : Int) ≤ 2560; omega, rfl, rfl, rfl⟩
      have hL' : z_gL (z_Ev (5 * (t : Int)) N b A xs (fun _ => 0)) z_L0 Ls := hL
      have hnx : ∀ c' s', c' ≤ cells + 10 → s' ≤ slots + 133 → z_next P INV (5 * (t : Int)) N b A xs c' s' := fun c' s' a1 a2 => by
        have := ih (t + 1) (by omega) (by omega) c' s' (by omega) (by omega)
        rw [show 5 * ((t + 1 : Nat) : Int) - 5 = 5 * (t : Int) by omega] at this
        exact this
      have hb := z_32_ok
      unfold z_32 at hb
      split at hb
      next c ec =>
        split at hb
        next ls el =>
          have hj := s_jump_mem ec
          obtain ⟨k1, k2⟩ := z_run_ok (w := (cells, slots, h)) hP (hE (fun _ => 0)) z_tab_ok 100 (c, z_L0, [], []) ls el (fun q hq => z_tab_ok q (hj.2 q hq))
          have key := k2 (fun Y hY => ?_) Ls [] hL' trivial (fun q hq => by cases hq)
          · rw [show s_pc c = 32 from hj.1] at key
            exact key
          · have hbY := List.all_eq_true.mp hb Y hY
            obtain ⟨c9, L, st, F⟩ := Y
            cases c9 with
            | nil => cases hbY
            | cons r t9 =>
              unfold z_sw at hbY
              simp only [Bool.and_eq_true, Nat.beq_eq, decide_eq_true_eq, List.isEmpty_iff] at hbY
              obtain ⟨g1, rfl, rfl, rfl⟩ := hbY
              intro Ls2 sts hL2 hS hF
              obtain ⟨x, ys, rfl, ⟨m, rfl⟩, hS2⟩ := z_gS_c hS
              cases ys with
              | cons _ _ => exact hS2.elim
              | nil =>
                show P (r.1, Ls2, [.int m], cells, slots, h)
                rw [g1]
                by_cases hr : 0 ≤ m.toInt ∧ m.toInt ≤ 49
                · obtain ⟨k, hk⟩ := Int.eq_ofNat_of_zero_le hr.1
                  have hlt : k < z_offs.length := by
                    show k < 50
                    omega
                  have ho : z_offs[k]? = some z_offs[k] := List.getElem?_eq_getElem hlt
                  have hpos : ∀ o ∈ z_offs, (0 : Int) ≤ o := by decide
                  have hp := hpos _ (List.getElem_mem hlt)
                  refine hP.1 _ ⟨_, _, d39, Or.inr (Or.inr (Or.inl (Or.inr (Or.inr (Or.inr (Or.inr (Or.inr ⟨1852, 0, 49, z_offs.toArray, m, [], z_offs[k], (39 + z_offs[k]).toNat, rfl, rfl, ?_, Or.inl ⟨by omega, by omega, ?_⟩, ?_⟩)))))))⟩
                  · show (39 : Int) + z_offs[k] = _
                    omega
                  · rw [List.getElem?_toArray, show (m.toInt - 0).toNat = k by omega]
                    exact ho
                  · exact hcase k _ ho _ hE cells slots (by omega) (by omega) hnx Ls2 hL2 h hI
                · refine hP.1 _ ⟨_, _, d39, Or.inr (Or.inr (Or.inl (Or.inr (Or.inr (Or.inr (Or.inr (Or.inr ⟨1852, 0, 49, z_offs.toArray, m, [], 1852, 1891, rfl, rfl, rfl, Or.inr ⟨by omega, rfl⟩, ?_⟩)))))))⟩
                  exact z_default hP (hE _) (hnx cells slots (by omega) (by omega)) hL2 hI
        next => cases hb
      next => cases hb
end Z4

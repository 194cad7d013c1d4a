def bk_n (v : Int) : Int := if v = -1 then 0 else v
-- the text and the book (made by wip/u/mkbook.py)
set_option maxRecDepth 20000
/-- digits from a place on: where they end, their number -/
def bk_nm (T : Int → Int) (e : Int) : Nat → Int → Int → Int × Int
  | 0, p, v => (p, v)
  | k + 1, p, v => if p < e ∧ 48 ≤ T p ∧ T p ≤ 57 then bk_nm T e k (p + 1) (v * 10 + T p - 48) else (p, v)
theorem bk_nm1 {T : Int → Int} {e p v : Int} {k : Nat} (h : p < e ∧ 48 ≤ T p ∧ T p ≤ 57) : bk_nm T e (k + 1) p v = bk_nm T e k (p + 1) (v * 10 + T p - 48) := by
  rw [bk_nm]
  exact if_pos h
theorem bk_nm0 {T : Int → Int} {e p v : Int} {k : Nat} (h : ¬ (p < e ∧ 48 ≤ T p ∧ T p ≤ 57)) : bk_nm T e (k + 1) p v = (p, v) := by
  rw [bk_nm]
  exact if_neg h
/-- a number read from a place: its value, whether it is well, where the reading stands then -/
def bk_N (T : Int → Int) (e p x g q : Int) : Prop := ∃ a, bk_nm T e 4 p 0 = (a, x) ∧ p ≤ a ∧ (a ≤ e ∨ a = p) ∧ ((1 ≤ x ∧ x ≤ 2000 ∧ g = 1 ∧ q = a) ∨ (¬ (1 ≤ x ∧ x ≤ 2000) ∧ g = 0 ∧ ((a = p ∧ q = p) ∨ (p < a ∧ q = a - 1))))
theorem bk_N_one {T : Int → Int} {e p x g q x' g' q' : Int} (h : bk_N T e p x g q) (h' : bk_N T e p x' g' q') : x = x' ∧ g = g' ∧ q = q' := by
  obtain ⟨a, h1, h2, h3, h4⟩ := h
  obtain ⟨a', i1, i2, i3, i4⟩ := h'
  rw [h1] at i1
  have e1 := congrArg Prod.fst i1
  have e2 := congrArg Prod.snd i1
  have e1 : a = a' := e1
  have e2 : x = x' := e2
  omega
/-- a line of the book: well or not, its numbers, its name, where the reading stands then -/
def bk_L (T : Int → Int) (e p ok u w n q : Int) : Prop := ∃ x1 g1 q1, bk_N T e p x1 g1 q1 ∧ ((g1 = 0 ∧ ok = 0 ∧ q = q1) ∨ (g1 = 1 ∧ ¬ (q1 < e ∧ T q1 = 58) ∧ ok = 0 ∧ q = q1) ∨ (g1 = 1 ∧ q1 < e ∧ T q1 = 58 ∧ ∃ x2 g2 q2, bk_N T e (q1 + 1) x2 g2 q2 ∧ ((g2 = 0 ∧ ok = 0 ∧ q = q2) ∨ (g2 = 1 ∧ ok = 1 ∧ u = x1 ∧ w = x2 ∧ ((q2 < e ∧ 97 ≤ T q2 ∧ T q2 ≤ 122 ∧ n = T q2 ∧ q = q2 + 1) ∨ (¬ (q2 < e ∧ 97 ≤ T q2 ∧ T q2 ≤ 122) ∧ n = 0 ∧ q = q2))))))
theorem bk_L_one {T : Int → Int} {e p ok u w n q ok' u' w' n' q' : Int} (h : bk_L T e p ok u w n q) (h' : bk_L T e p ok' u' w' n' q') : ok = ok' ∧ q = q' ∧ (ok = 1 → u = u' ∧ w = w' ∧ n = n') := by
  obtain ⟨x1, g1, q1, h1, h2⟩ := h
  obtain ⟨y1, f1, r1, i1, i2⟩ := h'
  obtain ⟨rfl, rfl, rfl⟩ := bk_N_one h1 i1
  rcases h2 with ⟨a1, a2, a3⟩ | ⟨a1, a2, a3, a4⟩ | ⟨a1, a2, a3, x2, g2, q2, a4, a5⟩
  · rcases i2 with ⟨b1, b2, b3⟩ | ⟨b1, b2, b3, b4⟩ | ⟨b1, b2, b3, y2, f2, r2, b4, b5⟩
    · exact ⟨by omega, by omega, fun h => by omega⟩
    · omega
    · omega
  · rcases i2 with ⟨b1, b2, b3⟩ | ⟨b1, b2, b3, b4⟩ | ⟨b1, b2, b3, y2, f2, r2, b4, b5⟩
    · omega
    · exact ⟨by omega, by omega, fun h => by omega⟩
    · exact absurd ⟨b2, b3⟩ a2
  · rcases i2 with ⟨b1, b2, b3⟩ | ⟨b1, b2, b3, b4⟩ | ⟨b1, b2, b3, y2, f2, r2, b4, b5⟩
    · omega
    · exact absurd ⟨a2, a3⟩ b2
    · obtain ⟨rfl, rfl, rfl⟩ := bk_N_one a4 b4
      rcases a5 with ⟨c1, c2, c3⟩ | ⟨c1, c2, c3, c4, c5⟩
      · rcases b5 with ⟨d1, d2, d3⟩ | ⟨d1, d2, d3, d4, d5⟩
        · exact ⟨by omega, by omega, fun h => by omega⟩
        · omega
      · rcases b5 with ⟨d1, d2, d3⟩ | ⟨d1, d2, d3, d4, d5⟩
        · omega
        · refine ⟨by omega, by omega, fun _ => ⟨by omega, by omega, by omega⟩⟩
/-- a book: the answer; the numbers and the names that were read -/
def bk_B (T : Int → Int) (e sz ans : Int) (U W N : Int → Int) : Nat → Int → Int → Prop
  | 0, _, _ => False
  | k + 1, line, p => ∃ ok u w n q, bk_L T e p ok u w n q ∧ ((ok = 0 ∧ ans = -1 - q ∧ ans < 0) ∨ (ok = 1 ∧ U line = u ∧ W line = w ∧ N line = n ∧ ((q < e ∧ T q = 59 ∧ line + 1 < 8 ∧ bk_B T e sz ans U W N k (line + 1) (q + 1)) ∨ (q < e ∧ ¬ (T q = 59 ∧ line + 1 < 8) ∧ ans = -1 - q ∧ ans < 0) ∨ (¬ q < e ∧ sz ≤ 60 ∧ ans = line + 1) ∨ (¬ q < e ∧ 60 < sz ∧ ans = -1 - q ∧ ans < 0))))
theorem bk_B_one {T : Int → Int} {e sz ans ans' : Int} {U W N U' W' N' : Int → Int} : ∀ (k : Nat) (line p : Int), 0 ≤ line → bk_B T e sz ans U W N k line p → bk_B T e sz ans' U' W' N' k line p → ans = ans' ∧ (0 ≤ ans → ∀ i, line ≤ i → i < ans → U i = U' i ∧ W i = W' i ∧ N i = N' i) := by
  intro k
  induction k with
  | zero => intro line p _ h; exact absurd h id
  | succ k ih =>
    intro line p l0 h h'
    obtain ⟨ok, u, w, n, q, h1, h2⟩ := h
    obtain ⟨ok', u', w', n', q', i1, i2⟩ := h'
    obtain ⟨rfl, rfl, e3⟩ := bk_L_one h1 i1
    rcases h2 with ⟨a1, a2, a3⟩ | ⟨a1, a2, a3, a4, a5⟩
    · rcases i2 with ⟨b1, b2, b3⟩ | ⟨b1, b2, b3, b4, b5⟩
      · exact ⟨by omega, fun h => by omega⟩
      · omega
    · rcases i2 with ⟨b1, b2, b3⟩ | ⟨b1, b2, b3, b4, b5⟩
      · omega
      · obtain ⟨f1, f2, f3⟩ := e3 a1
        have here : U line = U' line ∧ W line = W' line ∧ N line = N' line := ⟨by omega, by omega, by omega⟩
        rcases a5 with ⟨c1, c2, c3, c4⟩ | ⟨c1, c2, c3, c4⟩ | ⟨c1, c2, c3⟩ | ⟨c1, c2, c3, c4⟩
        · rcases b5 with ⟨d1, d2, d3, d4⟩ | ⟨d1, d2, d3, d4⟩ | ⟨d1, d2, d3⟩ | ⟨d1, d2, d3, d4⟩
          · obtain ⟨r1, r2⟩ := ih (line + 1) (q + 1) (by omega) c4 d4
            refine ⟨r1, fun z i j0 j1 => ?_⟩
            by_cases ei : i = line
            · rw [ei]
              exact here
            · exact r2 z i (by omega) j1
          · exact absurd ⟨c2, c3⟩ d2
          · omega
          · omega
        · rcases b5 with ⟨d1, d2, d3, d4⟩ | ⟨d1, d2, d3, d4⟩ | ⟨d1, d2, d3⟩ | ⟨d1, d2, d3, d4⟩
          · exact absurd ⟨d2, d3⟩ c2
          · exact ⟨by omega, fun h => by omega⟩
          · omega
          · omega
        · rcases b5 with ⟨d1, d2, d3, d4⟩ | ⟨d1, d2, d3, d4⟩ | ⟨d1, d2, d3⟩ | ⟨d1, d2, d3, d4⟩
          · omega
          · omega
          · refine ⟨by omega, fun z i j0 j1 => ?_⟩
            have ei : i = line := by omega
            rw [ei]
            exact here
          · omega
        · rcases b5 with ⟨d1, d2, d3, d4⟩ | ⟨d1, d2, d3, d4⟩ | ⟨d1, d2, d3⟩ | ⟨d1, d2, d3, d4⟩
          · omega
          · omega
          · omega
          · exact ⟨by omega, fun h => by omega⟩
/-- what reading a book gives -/
def bk_R (T : Int → Int) (sz ans : Int) (U W N : Int → Int) : Prop := (sz = 0 ∧ ans = 0) ∨ (0 < sz ∧ bk_B T (if sz ≤ 60 then sz else 60) sz ans U W N 8 0 0)
theorem bk_R_one {T : Int → Int} {sz ans ans' : Int} {U W N U' W' N' : Int → Int} (h : bk_R T sz ans U W N) (h' : bk_R T sz ans' U' W' N') : ans = ans' ∧ (0 ≤ ans → ∀ i, 0 ≤ i → i < ans → U i = U' i ∧ W i = W' i ∧ N i = N' i) := by
  rcases h with ⟨h1, h2⟩ | ⟨h1, h2⟩
  · rcases h' with ⟨i1, i2⟩ | ⟨i1, i2⟩
    · exact ⟨by omega, fun _ i i0 i1 => by omega⟩
    · omega
  · rcases h' with ⟨i1, i2⟩ | ⟨i1, i2⟩
    · omega
    · exact bk_B_one 8 0 0 (Int.le_refl _) h2 i2
theorem bk_N_b {T : Int → Int} {e p x g q : Int} (h : bk_N T e p x g q) : p ≤ q ∧ (q ≤ e ∨ q = p) ∧ (g = 0 ∨ g = 1) ∧ (g = 1 → 1 ≤ x ∧ x ≤ 2000) := by
  obtain ⟨a, h1, h2, h3, h4⟩ := h
  omega
theorem bk_L_b {T : Int → Int} {e p ok u w n q : Int} (h : bk_L T e p ok u w n q) (hp : p ≤ e) : p ≤ q ∧ q ≤ e ∧ (ok = 0 ∨ ok = 1) := by
  obtain ⟨x1, g1, q1, h1, h2⟩ := h
  have b1 := bk_N_b h1
  rcases h2 with ⟨a1, a2, a3⟩ | ⟨a1, a2, a3, a4⟩ | ⟨a1, a2, a3, x2, g2, q2, a4, a5⟩
  · omega
  · omega
  · have b2 := bk_N_b a4
    omega
theorem bk_B_step {T : Int → Int} {e sz line p ok q ans : Int} {Xa Xb Xc Ya Yb Yc U W N : Int → Int} (l0 : 0 ≤ line) (l1 : line < 8) (hA : ∀ (ans : Int) (U W N : Int → Int), (∀ i, 0 ≤ i → i < line → U i = Xa i ∧ W i = Xb i ∧ N i = Xc i) → bk_B T e sz ans U W N (8 - line).toNat line p → bk_B T e sz ans U W N 8 0 0) (hf : ∀ i, 0 ≤ i → i < line → Ya i = Xa i ∧ Yb i = Xb i ∧ Yc i = Xc i) (hL : bk_L T e p ok (Ya line) (Yb line) (Yc line) q) (hU : ∀ i, 0 ≤ i → i < line + 1 → U i = Ya i ∧ W i = Yb i ∧ N i = Yc i) (ht : (ok = 0 ∧ ans = -1 - q ∧ ans < 0) ∨ (ok = 1 ∧ ((q < e ∧ T q = 59 ∧ line + 1 < 8 ∧ bk_B T e sz ans U W N (7 - line).toNat (line + 1) (q + 1)) ∨ (q < e ∧ ¬ (T q = 59 ∧ line + 1 < 8) ∧ ans = -1 - q ∧ ans < 0) ∨ (¬ q < e ∧ sz ≤ 60 ∧ ans = line + 1) ∨ (¬ q < e ∧ 60 < sz ∧ ans = -1 - q ∧ ans < 0)))) : bk_B T e sz ans U W N 8 0 0 := by
  refine hA ans U W N (fun i i0 i1 => ?_) ?_
  · obtain ⟨a1, a2, a3⟩ := hU i i0 (by omega)
    obtain ⟨b1, b2, b3⟩ := hf i i0 i1
    exact ⟨a1.trans b1, a2.trans b2, a3.trans b3⟩
  · rw [show (8 - line).toNat = (7 - line).toNat + 1 by omega]
    obtain ⟨u1, u2, u3⟩ := hU line l0 (by omega)
    refine ⟨ok, _, _, _, q, hL, ?_⟩
    rcases ht with h | ⟨h1, h2⟩
    · exact Or.inl h
    · exact Or.inr ⟨h1, u1, u2, u3, h2⟩
/-- the same, the book's end -/
theorem bk_B_end {T : Int → Int} {e sz line p ok q ans : Int} {Xa Xb Xc Ya Yb Yc : Int → Int} (l0 : 0 ≤ line) (l1 : line < 8) (hA : ∀ (ans : Int) (U W N : Int → Int), (∀ i, 0 ≤ i → i < line → U i = Xa i ∧ W i = Xb i ∧ N i = Xc i) → bk_B T e sz ans U W N (8 - line).toNat line p → bk_B T e sz ans U W N 8 0 0) (hf : ∀ i, 0 ≤ i → i < line → Ya i = Xa i ∧ Yb i = Xb i ∧ Yc i = Xc i) (hL : bk_L T e p ok (Ya line) (Yb line) (Yc line) q) (ht : (ok = 0 ∧ ans = -1 - q ∧ ans < 0) ∨ (ok = 1 ∧ ((q < e ∧ ¬ (T q = 59 ∧ line + 1 < 8) ∧ ans = -1 - q ∧ ans < 0) ∨ (¬ q < e ∧ sz ≤ 60 ∧ ans = line + 1) ∨ (¬ q < e ∧ 60 < sz ∧ ans = -1 - q ∧ ans < 0)))) : bk_B T e sz ans Ya Yb Yc 8 0 0 := by
  refine bk_B_step l0 l1 hA hf hL (fun i _ _ => ⟨rfl, rfl, rfl⟩) ?_
  rcases ht with h | ⟨h1, h2⟩
  · exact Or.inl h
  · exact Or.inr ⟨h1, Or.inr h2⟩
/-- the same, on to the next line -/
theorem bk_B_next {T : Int → Int} {e sz line p q : Int} {Xa Xb Xc Ya Yb Yc : Int → Int} (l0 : 0 ≤ line) (l1 : line + 1 < 8) (hA : ∀ (ans : Int) (U W N : Int → Int), (∀ i, 0 ≤ i → i < line → U i = Xa i ∧ W i = Xb i ∧ N i = Xc i) → bk_B T e sz ans U W N (8 - line).toNat line p → bk_B T e sz ans U W N 8 0 0) (hf : ∀ i, 0 ≤ i → i < line → Ya i = Xa i ∧ Yb i = Xb i ∧ Yc i = Xc i) (hL : bk_L T e p 1 (Ya line) (Yb line) (Yc line) q) (h1 : q < e) (h2 : T q = 59) : ∀ (ans : Int) (U W N : Int → Int), (∀ i, 0 ≤ i → i < line + 1 → U i = Ya i ∧ W i = Yb i ∧ N i = Yc i) → bk_B T e sz ans U W N (8 - (line + 1)).toNat (line + 1) (q + 1) → bk_B T e sz ans U W N 8 0 0 := by
  intro ans U W N hU hB
  refine bk_B_step l0 (by omega) hA hf hL hU (Or.inr ⟨rfl, Or.inl ⟨h1, h2, l1, ?_⟩⟩)
  rw [show (7 - line).toNat = (8 - (line + 1)).toNat by omega]
  exact hB
theorem bk_i8 (x : Int) : xa_ib 3 x 255 = xa_i8 x % 256 := by
  have h : ∀ z : Int32, (z &&& 255).toInt = (z.toInt8.toInt32).toInt % 256 := by
    intro z
    have e1 : (z.toInt8.toInt32).toInt = z.toInt.bmod (2 ^ 8) := by
      rw [Int8.toInt_toInt32, Int32.toInt_toInt8]
    have e2 : (z &&& 255).toBitVec = z.toBitVec &&& 255#32 := by
      rw [Int32.toBitVec_and]
      rfl
    have h1 : (z.toBitVec &&& 255#32).toNat = z.toBitVec.toNat % 256 := by
      rw [BitVec.toNat_and]
      exact Nat.and_two_pow_sub_one_eq_mod z.toBitVec.toNat 8
    have e3 : (z &&& 255).toInt = ((z.toBitVec.toNat % 256 : Nat) : Int) := by
      show (z &&& 255).toBitVec.toInt = _
      rw [e2, BitVec.toInt_eq_toNat_of_lt (by rw [h1]; omega), h1]
    have e5 : z.toInt = Int.bmod ((z.toBitVec.toNat : Nat) : Int) (2 ^ 32) := BitVec.toInt_eq_toNat_bmod z.toBitVec
    have h5 := Int.bmod_emod (x := z.toInt) (m := 2 ^ 8)
    have h6 : ((2 ^ 8 : Nat) : Int) = 256 := rfl
    have h3 := Int.bmod_emod (x := ((z.toBitVec.toNat : Nat) : Int)) (m := 2 ^ 32)
    have h4 : ((2 ^ 32 : Nat) : Int) = 4294967296 := rfl
    rw [h6] at h5
    rw [h4, ← e5] at h3
    rw [e1, e3, h5]
    omega
  show (Int32.ofInt x &&& Int32.ofInt 255).toInt = _
  exact h (Int32.ofInt x)
/-- four signs come behind the others -/
def lt_W (M M1 : xa_M) (qa qs : Nat) (js s : Int) (f : Int → Int) : Prop := M1 qs js = s + 4 ∧ M1 qa s = f 24 ∧ M1 qa (s + 1) = f 16 ∧ M1 qa (s + 2) = f 8 ∧ M1 qa (s + 3) = f 0 ∧ (∀ i, ¬ (s ≤ i ∧ i < s + 4) → M1 qa i = M qa i) ∧ ∀ q j, ¬ q = qa → ¬ (q = qs ∧ j = js) → ¬ (q = 60 ∧ j = 21) → M1 q j = M q j
/-- what sign does -/
def lt_P (M : xa_M) (qa qs : Nat) (js s : Int) (f : Int → Int) (n : Int) (M1 : xa_M) : Prop := (80 < s + 4 ∧ n = -1 ∧ ∀ q j, ¬ (q = 60 ∧ j = 21) → M1 q j = M q j) ∨ (s + 4 ≤ 80 ∧ n = s + 4 ∧ lt_W M M1 qa qs js s f)
/-- what end does -/
def lt_E (M : xa_M) (qs : Nat) (js s a : Int) (n : Int) (M1 : xa_M) : Prop := ((0 ≤ a ∧ a ≤ s) ∧ n = 1 ∧ M1 qs js = a ∧ ∀ q j, ¬ (q = qs ∧ j = js) → ¬ (q = 60 ∧ j = 21) → M1 q j = M q j) ∨ (¬ (0 ≤ a ∧ a ≤ s) ∧ n = 0 ∧ ∀ q j, ¬ (q = 60 ∧ j = 21) → M1 q j = M q j)
/-- a word may be a number: how many signs, what is left of it -/
def wd_m (T : Int → Int) : Nat → Int → Prop
  | 0, r => r = 0
  | k + 1, r => ¬ r = 0 ∧ (T (k : Int) = 63 ∨ T (k : Int) - 48 = r % 10) ∧ wd_m T k (r / 10)
theorem wd_st {T : Int → Int} {i r : Int} {G : Prop} (i0 : 0 ≤ i) (hr : ¬ r = 0) (hs : T i = 63 ∨ T i - 48 = r % 10) (hb : wd_m T (i + 1).toNat r ↔ G) : wd_m T (i + (-1) + 1).toNat (r / 10) ↔ G := by
  rw [show (i + 1).toNat = i.toNat + 1 by omega] at hb
  rw [show (i + (-1) + 1).toNat = i.toNat by omega]
  have e : ((i.toNat : Nat) : Int) = i := Int.toNat_of_nonneg i0
  exact ⟨fun h => hb.mp ⟨hr, by rw [e]; exact hs, h⟩, fun h => (hb.mpr h).2.2⟩
theorem wd_no1 {T : Int → Int} {i r : Int} {G : Prop} (i0 : 0 ≤ i) (hr : r = 0) (hb : wd_m T (i + 1).toNat r ↔ G) : ¬ G := by
  rw [show (i + 1).toNat = i.toNat + 1 by omega] at hb
  exact fun h => (hb.mpr h).1 hr
theorem wd_no2 {T : Int → Int} {i r : Int} {G : Prop} (i0 : 0 ≤ i) (hs : ¬ (T i = 63 ∨ T i - 48 = r % 10)) (hb : wd_m T (i + 1).toNat r ↔ G) : ¬ G := by
  rw [show (i + 1).toNat = i.toNat + 1 by omega] at hb
  have e : ((i.toNat : Nat) : Int) = i := Int.toNat_of_nonneg i0
  exact fun h => hs (by have := (hb.mpr h).2.1; rw [e] at this; exact this)
theorem wd_end {T : Int → Int} {i r : Int} {G : Prop} (i0 : i < 0) (hb : wd_m T (i + 1).toNat r ↔ G) : r = 0 ↔ G := by
  rw [show (i + 1).toNat = 0 by omega] at hb
  exact hb
/-- those of the first n that are so (bits) -/
noncomputable def wd_b (P : Int → Prop) : Nat → Int
  | 0 => 0
  | p + 1 => @ite _ (P (p : Int)) (Classical.propDecidable _) (xa_ib 4 (wd_b P p) (xa_ib 6 1 (p : Int))) (wd_b P p)
theorem wd_b1 {P : Int → Prop} {p : Nat} (h : P (p : Int)) : wd_b P (p + 1) = xa_ib 4 (wd_b P p) (xa_ib 6 1 (p : Int)) := by
  rw [wd_b]
  exact if_pos h
theorem wd_b0 {P : Int → Prop} {p : Nat} (h : ¬ P (p : Int)) : wd_b P (p + 1) = wd_b P p := by
  rw [wd_b]
  exact if_neg h
theorem wd_b_e {P P' : Int → Prop} : ∀ n : Nat, (∀ p : Nat, p < n → (P (p : Int) ↔ P' (p : Int))) → wd_b P n = wd_b P' n := by
  intro n
  induction n with
  | zero => intro _; rfl
  | succ k ih =>
    intro h
    by_cases c : P (k : Int)
    · rw [wd_b1 c, wd_b1 ((h k (by omega)).mp c), ih (fun p hp => h p (by omega))]
    · rw [wd_b0 c, wd_b0 (fun c' => c ((h k (by omega)).mpr c')), ih (fun p hp => h p (by omega))]
theorem wd_b_r {P : Int → Prop} : ∀ n : Nat, -2147483648 ≤ wd_b P n ∧ wd_b P n ≤ 2147483647 := by
  intro n
  induction n with
  | zero => exact ⟨by show (-2147483648 : Int) ≤ 0; decide, by show (0 : Int) ≤ 2147483647; decide⟩
  | succ k ih =>
    by_cases h : P (k : Int)
    · rw [wd_b1 h]
      generalize wd_b P k = x
      generalize xa_ib 6 1 (k : Int) = y
      have h1 := Int32.le_toInt (s_fib 4 (Int32.ofInt x) (Int32.ofInt y))
      have h2 := Int32.toInt_lt (s_fib 4 (Int32.ofInt x) (Int32.ofInt y))
      unfold xa_ib
      exact ⟨h1, by omega⟩
    · rw [wd_b0 h]
      exact ih
theorem bk_or0 {a : Int} (h1 : -2147483648 ≤ a) (h2 : a ≤ 2147483647) : xa_ib 4 a 0 = a := by
  show (Int32.ofInt a ||| Int32.ofInt 0).toInt = a
  rw [show Int32.ofInt 0 = 0 from rfl, Int32.or_zero]
  exact Int32.toInt_ofInt_of_le (by omega) (by omega)
/-- a sign of a word -/
def wd_s (t : Int) : Prop := t = 63 ∨ (48 ≤ t ∧ t ≤ 57)
/-- what word answers -/
def wd_A (T : Int → Int) (sz : Int) (P : Int → Prop) (n : Nat) (r : Int) : Prop := (∃ k, 0 ≤ k ∧ k < sz ∧ k < 4 ∧ ¬ wd_s (T k) ∧ (∀ i, 0 ≤ i → i < k → wd_s (T i)) ∧ r = -100 - k) ∨ ((∀ i, 0 ≤ i → i < sz → i < 4 → wd_s (T i)) ∧ ((sz = 0 ∧ r = -100) ∨ (4 < sz ∧ r = -104) ∨ (1 ≤ sz ∧ sz ≤ 4 ∧ r = wd_b P n)))
theorem wd_A_one {T : Int → Int} {sz : Int} {P P' : Int → Prop} {n : Nat} {r r' : Int} (hP : ∀ p : Nat, p < n → (P (p : Int) ↔ P' (p : Int))) (h : wd_A T sz P n r) (h' : wd_A T sz P' n r') : r = r' := by
  have eb := wd_b_e n hP
  rcases h with ⟨k, k0, k1, k2, k3, k4, k5⟩ | ⟨g1, g2⟩
  · rcases h' with ⟨l, l0, l1, l2, l3, l4, l5⟩ | ⟨i1, i2⟩
    · have e : k = l := by
        rcases Int.lt_trichotomy k l with c | c | c
        · exact absurd (l4 k k0 c) k3
        · exact c
        · exact absurd (k4 l l0 c) l3
      omega
    · exact absurd (i1 k k0 k1 k2) k3
  · rcases h' with ⟨l, l0, l1, l2, l3, l4, l5⟩ | ⟨i1, i2⟩
    · exact absurd (g1 l l0 l1 l2) l3
    · omega
def wd_W (what : Int) (A : Prop) (r : Int) : Prop := ((what < 0 ∨ 1 < what) ∧ r = -1) ∨ ((0 ≤ what ∧ what ≤ 1) ∧ A)
/-- the numbers that are asked: 0 the lower, 1 the upper ones -/
def wd_P (T : Int → Int) (sz what : Int) (Lo Up : Int → Int) (p : Int) : Prop := wd_m T sz.toNat (if what = 0 then Lo p else Up p)
theorem wd_P0 {T : Int → Int} {sz what : Int} {Lo Up : Int → Int} {p : Int} (h : what = 0) : wd_P T sz what Lo Up p ↔ wd_m T sz.toNat (Lo p) := by
  unfold wd_P
  rw [if_pos h]
theorem wd_P1 {T : Int → Int} {sz what : Int} {Lo Up : Int → Int} {p : Int} (h : ¬ what = 0) : wd_P T sz what Lo Up p ↔ wd_m T sz.toNat (Up p) := by
  unfold wd_P
  rw [if_neg h]
theorem cx_23_31 {b : Bool} {A : Nat → Nat} {h0 : g_H} {d : Nat} {M : xa_M} {post : Option xa_V → xa_M → Prop} {l1 u1 : Int} {i : Int} (h1 : 0 ≤ i ∧ i < 80) (k1 : post (some (0, 0, (-2147483648), 2147483647, M 31 i)) M) : xa_C (xl_I b) A h0 (d + 1) 23 [(2, 31, 0, 0, 0), (0, 0, l1, u1, i)] M post := by
  refine xa_C_arg [(2, 31, 0, 0, 0), (0, 0, (-2147483648), 2147483647, i)] (xa_svR (xa_svI (fun _ _ _ _ => by omega) xa_sv0)) ?_
  refine xa_meth (Q0 := (2, 1, false, 0, 0, 11)) (by decide +kernel) ⟨rfl, rfl⟩ (full := s_c_23) rfl rfl ?_
  intro hM hv Q hgo
  refine hgo.1 15 [] 0 _ _ _ ?_
  refine And.intro ?_ ?_
  · intro (c1 : i < 0)
    show post (some (0, 0, 0, 0, 0)) M
    exact absurd h1 (by omega)
  · intro (c1 : 0 ≤ i)
    refine And.intro ?_ ?_
    · intro (c2 : 80 ≤ i)
      show post (some (0, 0, 0, 0, 0)) M
      exact absurd h1 (by omega)
    · intro (c2 : i < 80)
      refine And.intro (show 0 ≤ i ∧ i < 80 by omega) ?_
      show post (some (0, 0, (-2147483648), 2147483647, M 31 i)) M
      exact k1
theorem cx_119_30 {b : Bool} {A : Nat → Nat} {h0 : g_H} {d : Nat} {M : xa_M} {post : Option xa_V → xa_M → Prop} {l1 u1 : Int} {x1 : Int} (h1 : 0 ≤ (M 30 1) ∧ (M 30 1) ≤ 80) (k1 : (x1 < 0) → post (some (0, 0, (-1), (-1), (-1))) M) (k2 : (0 ≤ x1) → ((M 30 1) ≤ x1) → post (some (0, 0, (-1), (-1), (-1))) M) (k3 : (0 ≤ x1) → (x1 < (M 30 1)) → post (some (0, 0, (-2147483648), 2147483647, M 31 x1)) M) : xa_C (xl_I b) A h0 (d + 2) 119 [(2, 30, 0, 0, 0), (0, 0, l1, u1, x1)] M post := by
  refine xa_C_arg [(2, 30, 0, 0, 0), (0, 0, (-2147483648), 2147483647, x1)] (xa_svR (xa_svI (fun _ _ _ _ => by omega) (xa_sv0))) ?_
  refine xa_meth (Q0 := (2, 1, false, 0, 0, 8)) (by decide +kernel) ⟨rfl, rfl⟩ (full := s_c_119) rfl rfl ?_
  intro hM hv Q hgo
  refine hgo.1 16 [] 0 _ _ _ ?_
  refine And.intro ?_ ?_
  · intro (c1 : x1 < 0)
    show post (some (0, 0, (-1), (-1), (-1))) M
    exact k1 c1
  · intro (c1 : 0 ≤ x1)
    refine And.intro ?_ ?_
    · intro (c2 : (M 30 1) ≤ x1)
      show post (some (0, 0, (-1), (-1), (-1))) M
      exact k2 c1 c2
    · intro (c2 : x1 < (M 30 1))
      show xa_C (xl_I b) A h0 _ 23 [(2, 31, 0, 0, 0), (0, 0, (-2147483648), 2147483647, x1)] M _
      refine cx_23_31 (show 0 ≤ x1 ∧ x1 < 80 by omega) ?_
      show post (some (0, 0, (-2147483648), 2147483647, M 31 x1)) M
      exact k3 c1 c2
theorem cg_119 {b : Bool} {A : Nat → Nat} {h0 : g_H} {d : Nat} {M : xa_M} {post : Option xa_V → xa_M → Prop} {l1 u1 x1 : Int} (h1 : 0 ≤ (M 30 1) ∧ (M 30 1) ≤ 80) (k1 : 0 ≤ x1 ∧ x1 < M 30 1 → post (some (0, 0, (-2147483648), 2147483647, M 31 x1)) M) (k2 : ¬ (0 ≤ x1 ∧ x1 < M 30 1) → post (some (0, 0, (-1), (-1), (-1))) M) : xa_C (xl_I b) A h0 (d + 2) 119 [(2, 30, 0, 0, 0), (0, 0, l1, u1, x1)] M post := by
  refine cx_119_30 h1 ?_ ?_ ?_
  all_goals intros
  all_goals first
    | exact k1 (by omega)
    | exact k2 (by omega)
theorem cx_118_30 {b : Bool} {A : Nat → Nat} {h0 : g_H} {d : Nat} {M : xa_M} {post : Option xa_V → xa_M → Prop} {l1 u1 : Int} {x1 : Int} (h1 : 0 ≤ (M 30 1) ∧ (M 30 1) ≤ 80) (k1 : (0 ≤ x1 ∧ x1 < (M 30 1)) → ((M 31 x1) < 48) → post (some (0, 0, 0, 0, 0)) M) (k2 : (0 ≤ x1 ∧ x1 < (M 30 1)) → (48 ≤ (M 31 x1)) → (0 ≤ x1 ∧ x1 < (M 30 1)) → (57 < (M 31 x1)) → post (some (0, 0, 0, 0, 0)) M) (k3 : (0 ≤ x1 ∧ x1 < (M 30 1)) → (48 ≤ (M 31 x1)) → (0 ≤ x1 ∧ x1 < (M 30 1)) → ((M 31 x1) ≤ 57) → post (some (0, 0, 1, 1, 1)) M) (k4 : (¬ (0 ≤ x1 ∧ x1 < (M 30 1))) → post (some (0, 0, 0, 0, 0)) M) : xa_C (xl_I b) A h0 (d + 3) 118 [(2, 30, 0, 0, 0), (0, 0, l1, u1, x1)] M post := by
  refine xa_C_arg [(2, 30, 0, 0, 0), (0, 0, (-2147483648), 2147483647, x1)] (xa_svR (xa_svI (fun _ _ _ _ => by omega) (xa_sv0))) ?_
  refine xa_meth (Q0 := (2, 2, false, 0, 0, 8)) (by decide +kernel) ⟨rfl, rfl⟩ (full := s_c_118) rfl rfl ?_
  intro hM hv Q hgo
  refine hgo.1 17 [] 0 _ _ _ ?_
  show xa_C (xl_I b) A h0 _ 119 [(2, 30, 0, 0, 0), (0, 0, (-2147483648), 2147483647, x1)] M _
  refine cg_119 (show 0 ≤ (M 30 1) ∧ (M 30 1) ≤ 80 by omega) ?_ ?_
  · intro (i1 : 0 ≤ x1 ∧ x1 < (M 30 1))
    refine And.intro ?_ ?_
    · intro (c2 : (M 31 x1) < 48)
      show post (some (0, 0, 0, 0, 0)) M
      exact k1 i1 c2
    · intro (c2 : 48 ≤ (M 31 x1))
      show xa_C (xl_I b) A h0 _ 119 [(2, 30, 0, 0, 0), (0, 0, (-2147483648), 2147483647, x1)] M _
      refine cg_119 (show 0 ≤ (M 30 1) ∧ (M 30 1) ≤ 80 by omega) ?_ ?_
      · intro (i3 : 0 ≤ x1 ∧ x1 < (M 30 1))
        refine And.intro ?_ ?_
        · intro (c4 : 57 < (M 31 x1))
          show post (some (0, 0, 0, 0, 0)) M
          exact k2 i1 c2 i3 c4
        · intro (c4 : (M 31 x1) ≤ 57)
          show post (some (0, 0, 1, 1, 1)) M
          exact k3 i1 c2 i3 c4
      · intro (i5 : ¬ (0 ≤ x1 ∧ x1 < (M 30 1)))
        exfalso
        omega
  · intro (i6 : ¬ (0 ≤ x1 ∧ x1 < (M 30 1)))
    show post (some (0, 0, 0, 0, 0)) M
    exact k4 i6
theorem cg_118 {b : Bool} {A : Nat → Nat} {h0 : g_H} {d : Nat} {M : xa_M} {post : Option xa_V → xa_M → Prop} {l1 u1 x1 : Int} (h1 : 0 ≤ (M 30 1) ∧ (M 30 1) ≤ 80) (k1 : (0 ≤ x1 ∧ x1 < M 30 1) ∧ 48 ≤ M 31 x1 ∧ M 31 x1 ≤ 57 → post (some (0, 0, 1, 1, 1)) M) (k2 : ¬ ((0 ≤ x1 ∧ x1 < M 30 1) ∧ 48 ≤ M 31 x1 ∧ M 31 x1 ≤ 57) → post (some (0, 0, 0, 0, 0)) M) : xa_C (xl_I b) A h0 (d + 3) 118 [(2, 30, 0, 0, 0), (0, 0, l1, u1, x1)] M post := by
  refine cx_118_30 h1 ?_ ?_ ?_ ?_
  all_goals intros
  all_goals first
    | exact k1 (by omega)
    | exact k2 (by omega)
theorem cx_120_30 {b : Bool} {A : Nat → Nat} {h0 : g_H} {d : Nat} {M : xa_M} {post : Option xa_V → xa_M → Prop} {l1 u1 : Int} {x1 : Int} (h1 : 0 ≤ (M 30 1) ∧ (M 30 1) ≤ 80) (k1 : (0 ≤ x1 ∧ x1 < (M 30 1)) → ((M 31 x1) < 97) → post (some (0, 0, 0, 0, 0)) M) (k2 : (0 ≤ x1 ∧ x1 < (M 30 1)) → (97 ≤ (M 31 x1)) → (0 ≤ x1 ∧ x1 < (M 30 1)) → (122 < (M 31 x1)) → post (some (0, 0, 0, 0, 0)) M) (k3 : (0 ≤ x1 ∧ x1 < (M 30 1)) → (97 ≤ (M 31 x1)) → (0 ≤ x1 ∧ x1 < (M 30 1)) → ((M 31 x1) ≤ 122) → post (some (0, 0, 1, 1, 1)) M) (k4 : (¬ (0 ≤ x1 ∧ x1 < (M 30 1))) → post (some (0, 0, 0, 0, 0)) M) : xa_C (xl_I b) A h0 (d + 3) 120 [(2, 30, 0, 0, 0), (0, 0, l1, u1, x1)] M post := by
  refine xa_C_arg [(2, 30, 0, 0, 0), (0, 0, (-2147483648), 2147483647, x1)] (xa_svR (xa_svI (fun _ _ _ _ => by omega) (xa_sv0))) ?_
  refine xa_meth (Q0 := (2, 2, false, 0, 0, 8)) (by decide +kernel) ⟨rfl, rfl⟩ (full := s_c_120) rfl rfl ?_
  intro hM hv Q hgo
  refine hgo.1 17 [] 0 _ _ _ ?_
  show xa_C (xl_I b) A h0 _ 119 [(2, 30, 0, 0, 0), (0, 0, (-2147483648), 2147483647, x1)] M _
  refine cg_119 (show 0 ≤ (M 30 1) ∧ (M 30 1) ≤ 80 by omega) ?_ ?_
  · intro (i1 : 0 ≤ x1 ∧ x1 < (M 30 1))
    refine And.intro ?_ ?_
    · intro (c2 : (M 31 x1) < 97)
      show post (some (0, 0, 0, 0, 0)) M
      exact k1 i1 c2
    · intro (c2 : 97 ≤ (M 31 x1))
      show xa_C (xl_I b) A h0 _ 119 [(2, 30, 0, 0, 0), (0, 0, (-2147483648), 2147483647, x1)] M _
      refine cg_119 (show 0 ≤ (M 30 1) ∧ (M 30 1) ≤ 80 by omega) ?_ ?_
      · intro (i3 : 0 ≤ x1 ∧ x1 < (M 30 1))
        refine And.intro ?_ ?_
        · intro (c4 : 122 < (M 31 x1))
          show post (some (0, 0, 0, 0, 0)) M
          exact k2 i1 c2 i3 c4
        · intro (c4 : (M 31 x1) ≤ 122)
          show post (some (0, 0, 1, 1, 1)) M
          exact k3 i1 c2 i3 c4
      · intro (i5 : ¬ (0 ≤ x1 ∧ x1 < (M 30 1)))
        exfalso
        omega
  · intro (i6 : ¬ (0 ≤ x1 ∧ x1 < (M 30 1)))
    show post (some (0, 0, 0, 0, 0)) M
    exact k4 i6
theorem cg_120 {b : Bool} {A : Nat → Nat} {h0 : g_H} {d : Nat} {M : xa_M} {post : Option xa_V → xa_M → Prop} {l1 u1 x1 : Int} (h1 : 0 ≤ (M 30 1) ∧ (M 30 1) ≤ 80) (k1 : (0 ≤ x1 ∧ x1 < M 30 1) ∧ 97 ≤ M 31 x1 ∧ M 31 x1 ≤ 122 → post (some (0, 0, 1, 1, 1)) M) (k2 : ¬ ((0 ≤ x1 ∧ x1 < M 30 1) ∧ 97 ≤ M 31 x1 ∧ M 31 x1 ≤ 122) → post (some (0, 0, 0, 0, 0)) M) : xa_C (xl_I b) A h0 (d + 3) 120 [(2, 30, 0, 0, 0), (0, 0, l1, u1, x1)] M post := by
  refine cx_120_30 h1 ?_ ?_ ?_ ?_
  all_goals intros
  all_goals first
    | exact k1 (by omega)
    | exact k2 (by omega)
theorem cx_172_30 {b : Bool} {A : Nat → Nat} {h0 : g_H} {d : Nat} {M : xa_M} {post : Option xa_V → xa_M → Prop} {l1 u1 : Int} {x1 : Int} (h1 : 0 ≤ (M 30 1) ∧ (M 30 1) ≤ 80) (k1 : (0 ≤ x1 ∧ x1 < (M 30 1)) → (¬ (M 31 x1) = 63) → post (some (0, 0, 0, 0, 0)) M) (k2 : (0 ≤ x1 ∧ x1 < (M 30 1)) → ((M 31 x1) = 63) → post (some (0, 0, 1, 1, 1)) M) (k3 : (¬ (0 ≤ x1 ∧ x1 < (M 30 1))) → post (some (0, 0, 0, 0, 0)) M) : xa_C (xl_I b) A h0 (d + 3) 172 [(2, 30, 0, 0, 0), (0, 0, l1, u1, x1)] M post := by
  refine xa_C_arg [(2, 30, 0, 0, 0), (0, 0, (-2147483648), 2147483647, x1)] (xa_svR (xa_svI (fun _ _ _ _ => by omega) (xa_sv0))) ?_
  refine xa_meth (Q0 := (2, 2, false, 0, 0, 8)) (by decide +kernel) ⟨rfl, rfl⟩ (full := s_c_172) rfl rfl ?_
  intro hM hv Q hgo
  refine hgo.1 12 [] 0 _ _ _ ?_
  show xa_C (xl_I b) A h0 _ 119 [(2, 30, 0, 0, 0), (0, 0, (-2147483648), 2147483647, x1)] M _
  refine cg_119 (show 0 ≤ (M 30 1) ∧ (M 30 1) ≤ 80 by omega) ?_ ?_
  · intro (i1 : 0 ≤ x1 ∧ x1 < (M 30 1))
    refine And.intro ?_ ?_
    · intro (c2 : ¬ (M 31 x1) = 63)
      show post (some (0, 0, 0, 0, 0)) M
      exact k1 i1 c2
    · intro (c2 : (M 31 x1) = 63)
      show post (some (0, 0, 1, 1, 1)) M
      exact k2 i1 c2
  · intro (i3 : ¬ (0 ≤ x1 ∧ x1 < (M 30 1)))
    show post (some (0, 0, 0, 0, 0)) M
    exact k3 i3
theorem cg_172 {b : Bool} {A : Nat → Nat} {h0 : g_H} {d : Nat} {M : xa_M} {post : Option xa_V → xa_M → Prop} {l1 u1 x1 : Int} (h1 : 0 ≤ (M 30 1) ∧ (M 30 1) ≤ 80) (k1 : (0 ≤ x1 ∧ x1 < M 30 1) ∧ M 31 x1 = 63 → post (some (0, 0, 1, 1, 1)) M) (k2 : ¬ ((0 ≤ x1 ∧ x1 < M 30 1) ∧ M 31 x1 = 63) → post (some (0, 0, 0, 0, 0)) M) : xa_C (xl_I b) A h0 (d + 3) 172 [(2, 30, 0, 0, 0), (0, 0, l1, u1, x1)] M post := by
  refine cx_172_30 h1 ?_ ?_ ?_
  all_goals intros
  all_goals first
    | exact k1 (by omega)
    | exact k2 (by omega)
theorem cx_117_50 {b : Bool} {A : Nat → Nat} {h0 : g_H} {d : Nat} {M : xa_M} {post : Option xa_V → xa_M → Prop} {T : Int → Int} {l1 u1 e : Int} (hT : (∀ i, 0 ≤ i → i < 80 → M 31 i = T i)) (he : 0 ≤ e ∧ e ≤ 60 ∧ e ≤ M 30 1 ∧ M 30 1 ≤ 80) (hp : 0 ≤ M 50 5 ∧ M 50 5 ≤ e) (k : ∀ M1 : xa_M, (∀ q j, ¬ (q = 50 ∧ (j = 5 ∨ j = 6 ∨ j = 7)) → M1 q j = M q j) → bk_N T e (M 50 5) (M1 50 6) (M1 50 7) (M1 50 5) → post none M1) : xa_C (xl_I b) A h0 (d + 4) 117 [(2, 50, 0, 0, 0), (2, 30, 0, 0, 0), (0, 0, l1, u1, e)] M post := by
  refine xa_C_arg [(2, 50, 0, 0, 0), (2, 30, 0, 0, 0), (0, 0, 0, 60, e)] (xa_svR (xa_svR (xa_svI (fun _ _ _ _ => by omega) xa_sv0))) ?_
  refine xa_meth (Q0 := (5, 0, false, 0, 0, 0)) (by decide +kernel) ⟨rfl, rfl⟩ (full := s_c_117) rfl rfl ?_
  intro hM hv Q hgo
  have loop : ∀ (n : Nat) (i : Int) (M1 : xa_M), 0 ≤ i → i ≤ 4 → (∀ q j, ¬ (q = 50 ∧ j = 6) → M1 q j = M q j) → M 50 5 + i ≤ e → bk_nm T e (4 - i).toNat (M 50 5 + i) (M1 50 6) = bk_nm T e 4 (M 50 5) 0 → (0 ≤ M1 50 6 ∧ (i = 0 → M1 50 6 = 0) ∧ (i = 1 → M1 50 6 ≤ 9) ∧ (i = 2 → M1 50 6 ≤ 99) ∧ (i = 3 → M1 50 6 ≤ 999) ∧ (i = 4 → M1 50 6 ≤ 9999)) → 4 - i < (n : Int) → Q 10 [(3, (0, 0, 0, 4, i)), (4, (0, 0, 0, 4, i)), (2, (0, 0, 0, 60, e)), (0, (2, 50, 0, 0, 0)), (1, (2, 30, 0, 0, 0))] [] M1 := by
    intro n
    induction n with
    | zero => intro i M1 i0 i1 hk hp1 hb hv1 hms; omega
    | succ n ih =>
      intro i M1 i0 i1 hk hp1 hb hv1 hms
      have e5 : M1 50 5 = M 50 5 := hk 50 5 (by decide)
      have e30 : M1 30 1 = M 30 1 := hk 30 1 (by decide)
      have hT1 : (∀ i, 0 ≤ i → i < 80 → M1 31 i = T i) := fun i i0 i1 => (hk 31 i (by omega)).trans (hT i i0 i1)
      refine hgo.1 45 [10] 10 _ _ _ ?_
      refine And.intro ?_ ?_
      · intro (c1 : 4 ≤ i)
        refine And.intro ?_ ?_
        · intro (c2 : (M1 50 6) < 1)
          refine And.intro ?_ ?_
          · intro (c3 : i ≤ 0)
            show post none (xa_up M1 50 7 0)
            have e31 : M 50 5 + i < 80 → M1 31 (M1 50 5 + i) = T (M 50 5 + i) := fun h => by
              rw [e5]
              exact hT1 _ (by omega) h
            have hz : bk_nm T e 4 (M 50 5) 0 = (M 50 5 + i, M1 50 6) := by
              rw [← hb]
              by_cases c9 : i = 4
              · rw [c9]
                rfl
              · rw [show (4 - i).toNat = (3 - i).toNat + 1 by omega]
                exact bk_nm0 (fun hx => by
                  have := e31 (by omega)
                  omega)
            refine k _ (fun q j hq => ?_) ?_
            · exact (xa_up_ne (fun e9 => hq ⟨e9.1, by omega⟩)).trans (hk q j (fun e9 => hq ⟨e9.1, by omega⟩))
            · show bk_N T e (M 50 5) (M1 50 6) 0 (M1 50 5)
              exact ⟨_, hz, by omega, by omega, by omega⟩
          · intro (c3 : 0 < i)
            refine And.intro ?_ ?_
            · intro (c4 : 0 = 0)
              show post none (xa_up (xa_up M1 50 7 0) 50 5 (xa_w32 ((M1 50 5) + (i - 1))))
              have w1 : xa_w32 ((M1 50 5) + (i - 1)) = (M1 50 5) + (i - 1) := xa_w32_id (by omega) (by omega)
              have e31 : M 50 5 + i < 80 → M1 31 (M1 50 5 + i) = T (M 50 5 + i) := fun h => by
                rw [e5]
                exact hT1 _ (by omega) h
              have hz : bk_nm T e 4 (M 50 5) 0 = (M 50 5 + i, M1 50 6) := by
                rw [← hb]
                by_cases c9 : i = 4
                · rw [c9]
                  rfl
                · rw [show (4 - i).toNat = (3 - i).toNat + 1 by omega]
                  exact bk_nm0 (fun hx => by
                    have := e31 (by omega)
                    omega)
              refine k _ (fun q j hq => ?_) ?_
              · exact (xa_up_ne (fun e9 => hq ⟨e9.1, by omega⟩)).trans ((xa_up_ne (fun e9 => hq ⟨e9.1, by omega⟩)).trans (hk q j (fun e9 => hq ⟨e9.1, by omega⟩)))
              · show bk_N T e (M 50 5) (M1 50 6) 0 (xa_w32 ((M1 50 5) + (i - 1)))
                exact ⟨_, hz, by omega, by omega, by omega⟩
            · intro (c4 : ¬ 0 = 0)
              exfalso
              omega
        · intro (c2 : 1 ≤ (M1 50 6))
          refine And.intro ?_ ?_
          · intro (c5 : 2000 < (M1 50 6))
            refine And.intro ?_ ?_
            · intro (c6 : i ≤ 0)
              show post none (xa_up M1 50 7 0)
              have e31 : M 50 5 + i < 80 → M1 31 (M1 50 5 + i) = T (M 50 5 + i) := fun h => by
                rw [e5]
                exact hT1 _ (by omega) h
              have hz : bk_nm T e 4 (M 50 5) 0 = (M 50 5 + i, M1 50 6) := by
                rw [← hb]
                by_cases c9 : i = 4
                · rw [c9]
                  rfl
                · rw [show (4 - i).toNat = (3 - i).toNat + 1 by omega]
                  exact bk_nm0 (fun hx => by
                    have := e31 (by omega)
                    omega)
              refine k _ (fun q j hq => ?_) ?_
              · exact (xa_up_ne (fun e9 => hq ⟨e9.1, by omega⟩)).trans (hk q j (fun e9 => hq ⟨e9.1, by omega⟩))
              · show bk_N T e (M 50 5) (M1 50 6) 0 (M1 50 5)
                exact ⟨_, hz, by omega, by omega, by omega⟩
            · intro (c6 : 0 < i)
              refine And.intro ?_ ?_
              · intro (c7 : 0 = 0)
                show post none (xa_up (xa_up M1 50 7 0) 50 5 (xa_w32 ((M1 50 5) + (i - 1))))
                have w1 : xa_w32 ((M1 50 5) + (i - 1)) = (M1 50 5) + (i - 1) := xa_w32_id (by omega) (by omega)
                have e31 : M 50 5 + i < 80 → M1 31 (M1 50 5 + i) = T (M 50 5 + i) := fun h => by
                  rw [e5]
                  exact hT1 _ (by omega) h
                have hz : bk_nm T e 4 (M 50 5) 0 = (M 50 5 + i, M1 50 6) := by
                  rw [← hb]
                  by_cases c9 : i = 4
                  · rw [c9]
                    rfl
                  · rw [show (4 - i).toNat = (3 - i).toNat + 1 by omega]
                    exact bk_nm0 (fun hx => by
                      have := e31 (by omega)
                      omega)
                refine k _ (fun q j hq => ?_) ?_
                · exact (xa_up_ne (fun e9 => hq ⟨e9.1, by omega⟩)).trans ((xa_up_ne (fun e9 => hq ⟨e9.1, by omega⟩)).trans (hk q j (fun e9 => hq ⟨e9.1, by omega⟩)))
                · show bk_N T e (M 50 5) (M1 50 6) 0 (xa_w32 ((M1 50 5) + (i - 1)))
                  exact ⟨_, hz, by omega, by omega, by omega⟩
              · intro (c7 : ¬ 0 = 0)
                exfalso
                omega
          · intro (c5 : (M1 50 6) ≤ 2000)
            refine And.intro ?_ ?_
            · intro (c8 : i ≤ 0)
              show post none (xa_up M1 50 7 1)
              have e31 : M 50 5 + i < 80 → M1 31 (M1 50 5 + i) = T (M 50 5 + i) := fun h => by
                rw [e5]
                exact hT1 _ (by omega) h
              have hz : bk_nm T e 4 (M 50 5) 0 = (M 50 5 + i, M1 50 6) := by
                rw [← hb]
                by_cases c9 : i = 4
                · rw [c9]
                  rfl
                · rw [show (4 - i).toNat = (3 - i).toNat + 1 by omega]
                  exact bk_nm0 (fun hx => by
                    have := e31 (by omega)
                    omega)
              refine k _ (fun q j hq => ?_) ?_
              · exact (xa_up_ne (fun e9 => hq ⟨e9.1, by omega⟩)).trans (hk q j (fun e9 => hq ⟨e9.1, by omega⟩))
              · show bk_N T e (M 50 5) (M1 50 6) 1 (M1 50 5)
                exact ⟨_, hz, by omega, by omega, by omega⟩
            · intro (c8 : 0 < i)
              refine And.intro ?_ ?_
              · intro (c9 : 1 = 0)
                exfalso
                omega
              · intro (c9 : ¬ 1 = 0)
                show post none (xa_up (xa_up M1 50 7 1) 50 5 (xa_w32 ((M1 50 5) + i)))
                have w1 : xa_w32 ((M1 50 5) + i) = (M1 50 5) + i := xa_w32_id (by omega) (by omega)
                have e31 : M 50 5 + i < 80 → M1 31 (M1 50 5 + i) = T (M 50 5 + i) := fun h => by
                  rw [e5]
                  exact hT1 _ (by omega) h
                have hz : bk_nm T e 4 (M 50 5) 0 = (M 50 5 + i, M1 50 6) := by
                  rw [← hb]
                  by_cases c9 : i = 4
                  · rw [c9]
                    rfl
                  · rw [show (4 - i).toNat = (3 - i).toNat + 1 by omega]
                    exact bk_nm0 (fun hx => by
                      have := e31 (by omega)
                      omega)
                refine k _ (fun q j hq => ?_) ?_
                · exact (xa_up_ne (fun e9 => hq ⟨e9.1, by omega⟩)).trans ((xa_up_ne (fun e9 => hq ⟨e9.1, by omega⟩)).trans (hk q j (fun e9 => hq ⟨e9.1, by omega⟩)))
                · show bk_N T e (M 50 5) (M1 50 6) 1 (xa_w32 ((M1 50 5) + i))
                  exact ⟨_, hz, by omega, by omega, by omega⟩
      · intro (c1 : i < 4)
        refine And.intro ?_ ?_
        · intro (c10 : e ≤ (xa_w32 ((M1 50 5) + i)))
          refine And.intro ?_ ?_
          · intro (c11 : (M1 50 6) < 1)
            refine And.intro ?_ ?_
            · intro (c12 : i ≤ 0)
              show post none (xa_up M1 50 7 0)
              have w1 : xa_w32 ((M1 50 5) + i) = (M1 50 5) + i := xa_w32_id (by omega) (by omega)
              rw [w1] at c10
              have e31 : M 50 5 + i < 80 → M1 31 (M1 50 5 + i) = T (M 50 5 + i) := fun h => by
                rw [e5]
                exact hT1 _ (by omega) h
              have hz : bk_nm T e 4 (M 50 5) 0 = (M 50 5 + i, M1 50 6) := by
                rw [← hb]
                by_cases c9 : i = 4
                · rw [c9]
                  rfl
                · rw [show (4 - i).toNat = (3 - i).toNat + 1 by omega]
                  exact bk_nm0 (fun hx => by
                    have := e31 (by omega)
                    omega)
              refine k _ (fun q j hq => ?_) ?_
              · exact (xa_up_ne (fun e9 => hq ⟨e9.1, by omega⟩)).trans (hk q j (fun e9 => hq ⟨e9.1, by omega⟩))
              · show bk_N T e (M 50 5) (M1 50 6) 0 (M1 50 5)
                exact ⟨_, hz, by omega, by omega, by omega⟩
            · intro (c12 : 0 < i)
              refine And.intro ?_ ?_
              · intro (c13 : 0 = 0)
                show post none (xa_up (xa_up M1 50 7 0) 50 5 (xa_w32 ((M1 50 5) + (i - 1))))
                have w1 : xa_w32 ((M1 50 5) + i) = (M1 50 5) + i := xa_w32_id (by omega) (by omega)
                rw [w1] at c10
                have w2 : xa_w32 ((M1 50 5) + (i - 1)) = (M1 50 5) + (i - 1) := xa_w32_id (by omega) (by omega)
                have e31 : M 50 5 + i < 80 → M1 31 (M1 50 5 + i) = T (M 50 5 + i) := fun h => by
                  rw [e5]
                  exact hT1 _ (by omega) h
                have hz : bk_nm T e 4 (M 50 5) 0 = (M 50 5 + i, M1 50 6) := by
                  rw [← hb]
                  by_cases c9 : i = 4
                  · rw [c9]
                    rfl
                  · rw [show (4 - i).toNat = (3 - i).toNat + 1 by omega]
                    exact bk_nm0 (fun hx => by
                      have := e31 (by omega)
                      omega)
                refine k _ (fun q j hq => ?_) ?_
                · exact (xa_up_ne (fun e9 => hq ⟨e9.1, by omega⟩)).trans ((xa_up_ne (fun e9 => hq ⟨e9.1, by omega⟩)).trans (hk q j (fun e9 => hq ⟨e9.1, by omega⟩)))
                · show bk_N T e (M 50 5) (M1 50 6) 0 (xa_w32 ((M1 50 5) + (i - 1)))
                  exact ⟨_, hz, by omega, by omega, by omega⟩
              · intro (c13 : ¬ 0 = 0)
                exfalso
                omega
          · intro (c11 : 1 ≤ (M1 50 6))
            refine And.intro ?_ ?_
            · intro (c14 : 2000 < (M1 50 6))
              refine And.intro ?_ ?_
              · intro (c15 : i ≤ 0)
                show post none (xa_up M1 50 7 0)
                have w1 : xa_w32 ((M1 50 5) + i) = (M1 50 5) + i := xa_w32_id (by omega) (by omega)
                rw [w1] at c10
                have e31 : M 50 5 + i < 80 → M1 31 (M1 50 5 + i) = T (M 50 5 + i) := fun h => by
                  rw [e5]
                  exact hT1 _ (by omega) h
                have hz : bk_nm T e 4 (M 50 5) 0 = (M 50 5 + i, M1 50 6) := by
                  rw [← hb]
                  by_cases c9 : i = 4
                  · rw [c9]
                    rfl
                  · rw [show (4 - i).toNat = (3 - i).toNat + 1 by omega]
                    exact bk_nm0 (fun hx => by
                      have := e31 (by omega)
                      omega)
                refine k _ (fun q j hq => ?_) ?_
                · exact (xa_up_ne (fun e9 => hq ⟨e9.1, by omega⟩)).trans (hk q j (fun e9 => hq ⟨e9.1, by omega⟩))
                · show bk_N T e (M 50 5) (M1 50 6) 0 (M1 50 5)
                  exact ⟨_, hz, by omega, by omega, by omega⟩
              · intro (c15 : 0 < i)
                refine And.intro ?_ ?_
                · intro (c16 : 0 = 0)
                  show post none (xa_up (xa_up M1 50 7 0) 50 5 (xa_w32 ((M1 50 5) + (i - 1))))
                  have w1 : xa_w32 ((M1 50 5) + i) = (M1 50 5) + i := xa_w32_id (by omega) (by omega)
                  rw [w1] at c10
                  have w2 : xa_w32 ((M1 50 5) + (i - 1)) = (M1 50 5) + (i - 1) := xa_w32_id (by omega) (by omega)
                  have e31 : M 50 5 + i < 80 → M1 31 (M1 50 5 + i) = T (M 50 5 + i) := fun h => by
                    rw [e5]
                    exact hT1 _ (by omega) h
                  have hz : bk_nm T e 4 (M 50 5) 0 = (M 50 5 + i, M1 50 6) := by
                    rw [← hb]
                    by_cases c9 : i = 4
                    · rw [c9]
                      rfl
                    · rw [show (4 - i).toNat = (3 - i).toNat + 1 by omega]
                      exact bk_nm0 (fun hx => by
                        have := e31 (by omega)
                        omega)
                  refine k _ (fun q j hq => ?_) ?_
                  · exact (xa_up_ne (fun e9 => hq ⟨e9.1, by omega⟩)).trans ((xa_up_ne (fun e9 => hq ⟨e9.1, by omega⟩)).trans (hk q j (fun e9 => hq ⟨e9.1, by omega⟩)))
                  · show bk_N T e (M 50 5) (M1 50 6) 0 (xa_w32 ((M1 50 5) + (i - 1)))
                    exact ⟨_, hz, by omega, by omega, by omega⟩
                · intro (c16 : ¬ 0 = 0)
                  exfalso
                  omega
            · intro (c14 : (M1 50 6) ≤ 2000)
              refine And.intro ?_ ?_
              · intro (c17 : i ≤ 0)
                show post none (xa_up M1 50 7 1)
                have w1 : xa_w32 ((M1 50 5) + i) = (M1 50 5) + i := xa_w32_id (by omega) (by omega)
                rw [w1] at c10
                have e31 : M 50 5 + i < 80 → M1 31 (M1 50 5 + i) = T (M 50 5 + i) := fun h => by
                  rw [e5]
                  exact hT1 _ (by omega) h
                have hz : bk_nm T e 4 (M 50 5) 0 = (M 50 5 + i, M1 50 6) := by
                  rw [← hb]
                  by_cases c9 : i = 4
                  · rw [c9]
                    rfl
                  · rw [show (4 - i).toNat = (3 - i).toNat + 1 by omega]
                    exact bk_nm0 (fun hx => by
                      have := e31 (by omega)
                      omega)
                refine k _ (fun q j hq => ?_) ?_
                · exact (xa_up_ne (fun e9 => hq ⟨e9.1, by omega⟩)).trans (hk q j (fun e9 => hq ⟨e9.1, by omega⟩))
                · show bk_N T e (M 50 5) (M1 50 6) 1 (M1 50 5)
                  exact ⟨_, hz, by omega, by omega, by omega⟩
              · intro (c17 : 0 < i)
                refine And.intro ?_ ?_
                · intro (c18 : 1 = 0)
                  exfalso
                  omega
                · intro (c18 : ¬ 1 = 0)
                  show post none (xa_up (xa_up M1 50 7 1) 50 5 (xa_w32 ((M1 50 5) + i)))
                  have w1 : xa_w32 ((M1 50 5) + i) = (M1 50 5) + i := xa_w32_id (by omega) (by omega)
                  rw [w1] at c10
                  have e31 : M 50 5 + i < 80 → M1 31 (M1 50 5 + i) = T (M 50 5 + i) := fun h => by
                    rw [e5]
                    exact hT1 _ (by omega) h
                  have hz : bk_nm T e 4 (M 50 5) 0 = (M 50 5 + i, M1 50 6) := by
                    rw [← hb]
                    by_cases c9 : i = 4
                    · rw [c9]
                      rfl
                    · rw [show (4 - i).toNat = (3 - i).toNat + 1 by omega]
                      exact bk_nm0 (fun hx => by
                        have := e31 (by omega)
                        omega)
                  refine k _ (fun q j hq => ?_) ?_
                  · exact (xa_up_ne (fun e9 => hq ⟨e9.1, by omega⟩)).trans ((xa_up_ne (fun e9 => hq ⟨e9.1, by omega⟩)).trans (hk q j (fun e9 => hq ⟨e9.1, by omega⟩)))
                  · show bk_N T e (M 50 5) (M1 50 6) 1 (xa_w32 ((M1 50 5) + i))
                    exact ⟨_, hz, by omega, by omega, by omega⟩
        · intro (c10 : (xa_w32 ((M1 50 5) + i)) < e)
          show xa_C (xl_I b) A h0 _ 118 [(2, 30, 0, 0, 0), (0, 0, (-2147483648), 2147483647, xa_w32 ((M1 50 5) + i))] M1 _
          refine cg_118 (show 0 ≤ (M1 30 1) ∧ (M1 30 1) ≤ 80 by omega) ?_ ?_
          · intro (i19 : (0 ≤ (xa_w32 ((M1 50 5) + i)) ∧ (xa_w32 ((M1 50 5) + i)) < (M1 30 1)) ∧ 48 ≤ M1 31 (xa_w32 ((M1 50 5) + i)) ∧ M1 31 (xa_w32 ((M1 50 5) + i)) ≤ 57)
            show xa_C (xl_I b) A h0 _ 119 [(2, 30, 0, 0, 0), (0, 0, (-2147483648), 2147483647, xa_w32 ((M1 50 5) + i))] M1 _
            refine cg_119 (show 0 ≤ (M1 30 1) ∧ (M1 30 1) ≤ 80 by omega) ?_ ?_
            · intro (i20 : 0 ≤ (xa_w32 ((M1 50 5) + i)) ∧ (xa_w32 ((M1 50 5) + i)) < (M1 30 1))
              show Q 10 [(4, (0, 0, 1, 5, i + 1)), (3, (0, 0, 1, 5, i + 1)), (2, (0, 0, 0, 60, e)), (0, (2, 50, 0, 0, 0)), (1, (2, 30, 0, 0, 0))] [] (xa_up M1 50 6 (xa_w32 ((xa_w32 ((xa_w32 ((M1 50 6) * 10)) + (M1 31 (xa_w32 ((M1 50 5) + i))))) - 48)))
              have w1 : xa_w32 ((M1 50 5) + i) = (M1 50 5) + i := xa_w32_id (by omega) (by omega)
              rw [w1] at c10 i19 i20
              have w2 : xa_w32 ((M1 50 6) * 10) = (M1 50 6) * 10 := xa_w32_id (by omega) (by omega)
              have e31 := hT1 (M1 50 5 + i) (by omega) (by omega)
              have w3 : xa_w32 ((((M1 50 6) * 10)) + (M1 31 (((M1 50 5) + i)))) = (((M1 50 6) * 10)) + (M1 31 (((M1 50 5) + i))) := xa_w32_id (by omega) (by omega)
              have w4 : xa_w32 ((((((M1 50 6) * 10)) + (M1 31 (((M1 50 5) + i))))) - 48) = (((((M1 50 6) * 10)) + (M1 31 (((M1 50 5) + i))))) - 48 := xa_w32_id (by omega) (by omega)
              have ev : xa_w32 ((xa_w32 ((xa_w32 ((M1 50 6) * 10)) + (M1 31 (xa_w32 ((M1 50 5) + i))))) - 48) = M1 50 6 * 10 + T (M 50 5 + i) - 48 := by
                rw [w1, w2, w3, w4]
                omega
              rw [e5] at e31
              refine hgo.2.1 10 _ [(3, (0, 0, 0, 4, i + 1)), (4, (0, 0, 0, 4, i + 1)), (2, (0, 0, 0, 60, e)), (0, (2, 50, 0, 0, 0)), (1, (2, 30, 0, 0, 0))] _ _ (xa_subI rfl rfl (fun _ _ _ _ => by omega) (xa_subI rfl rfl (fun _ _ _ _ => by omega) (xa_subI rfl rfl (fun _ _ _ _ => by omega) (xa_subR rfl (xa_subR rfl (xa_sub0)))))) ?_
              exact ih (i + 1) _ (by omega) (by omega) (fun q j hq => (xa_up_ne hq).trans (hk q j hq)) (by omega) (by rw [xa_up_eq, ev, show M 50 5 + (i + 1) = M 50 5 + i + 1 by omega, ← bk_nm1 (by omega), show (4 - (i + 1)).toNat + 1 = (4 - i).toNat by omega]; exact hb) (by rw [xa_up_eq]; omega) (by omega)
            · intro (i21 : ¬ (0 ≤ (xa_w32 ((M1 50 5) + i)) ∧ (xa_w32 ((M1 50 5) + i)) < (M1 30 1)))
              exfalso
              omega
          · intro (i22 : ¬ ((0 ≤ (xa_w32 ((M1 50 5) + i)) ∧ (xa_w32 ((M1 50 5) + i)) < (M1 30 1)) ∧ 48 ≤ M1 31 (xa_w32 ((M1 50 5) + i)) ∧ M1 31 (xa_w32 ((M1 50 5) + i)) ≤ 57))
            refine And.intro ?_ ?_
            · intro (c23 : (M1 50 6) < 1)
              refine And.intro ?_ ?_
              · intro (c24 : i ≤ 0)
                show post none (xa_up M1 50 7 0)
                have w1 : xa_w32 ((M1 50 5) + i) = (M1 50 5) + i := xa_w32_id (by omega) (by omega)
                rw [w1] at c10 i22
                have e31 : M 50 5 + i < 80 → M1 31 (M1 50 5 + i) = T (M 50 5 + i) := fun h => by
                  rw [e5]
                  exact hT1 _ (by omega) h
                have hz : bk_nm T e 4 (M 50 5) 0 = (M 50 5 + i, M1 50 6) := by
                  rw [← hb]
                  by_cases c9 : i = 4
                  · rw [c9]
                    rfl
                  · rw [show (4 - i).toNat = (3 - i).toNat + 1 by omega]
                    exact bk_nm0 (fun hx => by
                      have := e31 (by omega)
                      omega)
                refine k _ (fun q j hq => ?_) ?_
                · exact (xa_up_ne (fun e9 => hq ⟨e9.1, by omega⟩)).trans (hk q j (fun e9 => hq ⟨e9.1, by omega⟩))
                · show bk_N T e (M 50 5) (M1 50 6) 0 (M1 50 5)
                  exact ⟨_, hz, by omega, by omega, by omega⟩
              · intro (c24 : 0 < i)
                refine And.intro ?_ ?_
                · intro (c25 : 0 = 0)
                  show post none (xa_up (xa_up M1 50 7 0) 50 5 (xa_w32 ((M1 50 5) + (i - 1))))
                  have w1 : xa_w32 ((M1 50 5) + i) = (M1 50 5) + i := xa_w32_id (by omega) (by omega)
                  rw [w1] at c10 i22
                  have w2 : xa_w32 ((M1 50 5) + (i - 1)) = (M1 50 5) + (i - 1) := xa_w32_id (by omega) (by omega)
                  have e31 : M 50 5 + i < 80 → M1 31 (M1 50 5 + i) = T (M 50 5 + i) := fun h => by
                    rw [e5]
                    exact hT1 _ (by omega) h
                  have hz : bk_nm T e 4 (M 50 5) 0 = (M 50 5 + i, M1 50 6) := by
                    rw [← hb]
                    by_cases c9 : i = 4
                    · rw [c9]
                      rfl
                    · rw [show (4 - i).toNat = (3 - i).toNat + 1 by omega]
                      exact bk_nm0 (fun hx => by
                        have := e31 (by omega)
                        omega)
                  refine k _ (fun q j hq => ?_) ?_
                  · exact (xa_up_ne (fun e9 => hq ⟨e9.1, by omega⟩)).trans ((xa_up_ne (fun e9 => hq ⟨e9.1, by omega⟩)).trans (hk q j (fun e9 => hq ⟨e9.1, by omega⟩)))
                  · show bk_N T e (M 50 5) (M1 50 6) 0 (xa_w32 ((M1 50 5) + (i - 1)))
                    exact ⟨_, hz, by omega, by omega, by omega⟩
                · intro (c25 : ¬ 0 = 0)
                  exfalso
                  omega
            · intro (c23 : 1 ≤ (M1 50 6))
              refine And.intro ?_ ?_
              · intro (c26 : 2000 < (M1 50 6))
                refine And.intro ?_ ?_
                · intro (c27 : i ≤ 0)
                  show post none (xa_up M1 50 7 0)
                  have w1 : xa_w32 ((M1 50 5) + i) = (M1 50 5) + i := xa_w32_id (by omega) (by omega)
                  rw [w1] at c10 i22
                  have e31 : M 50 5 + i < 80 → M1 31 (M1 50 5 + i) = T (M 50 5 + i) := fun h => by
                    rw [e5]
                    exact hT1 _ (by omega) h
                  have hz : bk_nm T e 4 (M 50 5) 0 = (M 50 5 + i, M1 50 6) := by
                    rw [← hb]
                    by_cases c9 : i = 4
                    · rw [c9]
                      rfl
                    · rw [show (4 - i).toNat = (3 - i).toNat + 1 by omega]
                      exact bk_nm0 (fun hx => by
                        have := e31 (by omega)
                        omega)
                  refine k _ (fun q j hq => ?_) ?_
                  · exact (xa_up_ne (fun e9 => hq ⟨e9.1, by omega⟩)).trans (hk q j (fun e9 => hq ⟨e9.1, by omega⟩))
                  · show bk_N T e (M 50 5) (M1 50 6) 0 (M1 50 5)
                    exact ⟨_, hz, by omega, by omega, by omega⟩
                · intro (c27 : 0 < i)
                  refine And.intro ?_ ?_
                  · intro (c28 : 0 = 0)
                    show post none (xa_up (xa_up M1 50 7 0) 50 5 (xa_w32 ((M1 50 5) + (i - 1))))
                    have w1 : xa_w32 ((M1 50 5) + i) = (M1 50 5) + i := xa_w32_id (by omega) (by omega)
                    rw [w1] at c10 i22
                    have w2 : xa_w32 ((M1 50 5) + (i - 1)) = (M1 50 5) + (i - 1) := xa_w32_id (by omega) (by omega)
                    have e31 : M 50 5 + i < 80 → M1 31 (M1 50 5 + i) = T (M 50 5 + i) := fun h => by
                      rw [e5]
                      exact hT1 _ (by omega) h
                    have hz : bk_nm T e 4 (M 50 5) 0 = (M 50 5 + i, M1 50 6) := by
                      rw [← hb]
                      by_cases c9 : i = 4
                      · rw [c9]
                        rfl
                      · rw [show (4 - i).toNat = (3 - i).toNat + 1 by omega]
                        exact bk_nm0 (fun hx => by
                          have := e31 (by omega)
                          omega)
                    refine k _ (fun q j hq => ?_) ?_
                    · exact (xa_up_ne (fun e9 => hq ⟨e9.1, by omega⟩)).trans ((xa_up_ne (fun e9 => hq ⟨e9.1, by omega⟩)).trans (hk q j (fun e9 => hq ⟨e9.1, by omega⟩)))
                    · show bk_N T e (M 50 5) (M1 50 6) 0 (xa_w32 ((M1 50 5) + (i - 1)))
                      exact ⟨_, hz, by omega, by omega, by omega⟩
                  · intro (c28 : ¬ 0 = 0)
                    exfalso
                    omega
              · intro (c26 : (M1 50 6) ≤ 2000)
                refine And.intro ?_ ?_
                · intro (c29 : i ≤ 0)
                  show post none (xa_up M1 50 7 1)
                  have w1 : xa_w32 ((M1 50 5) + i) = (M1 50 5) + i := xa_w32_id (by omega) (by omega)
                  rw [w1] at c10 i22
                  have e31 : M 50 5 + i < 80 → M1 31 (M1 50 5 + i) = T (M 50 5 + i) := fun h => by
                    rw [e5]
                    exact hT1 _ (by omega) h
                  have hz : bk_nm T e 4 (M 50 5) 0 = (M 50 5 + i, M1 50 6) := by
                    rw [← hb]
                    by_cases c9 : i = 4
                    · rw [c9]
                      rfl
                    · rw [show (4 - i).toNat = (3 - i).toNat + 1 by omega]
                      exact bk_nm0 (fun hx => by
                        have := e31 (by omega)
                        omega)
                  refine k _ (fun q j hq => ?_) ?_
                  · exact (xa_up_ne (fun e9 => hq ⟨e9.1, by omega⟩)).trans (hk q j (fun e9 => hq ⟨e9.1, by omega⟩))
                  · show bk_N T e (M 50 5) (M1 50 6) 1 (M1 50 5)
                    exact ⟨_, hz, by omega, by omega, by omega⟩
                · intro (c29 : 0 < i)
                  refine And.intro ?_ ?_
                  · intro (c30 : 1 = 0)
                    exfalso
                    omega
                  · intro (c30 : ¬ 1 = 0)
                    show post none (xa_up (xa_up M1 50 7 1) 50 5 (xa_w32 ((M1 50 5) + i)))
                    have w1 : xa_w32 ((M1 50 5) + i) = (M1 50 5) + i := xa_w32_id (by omega) (by omega)
                    rw [w1] at c10 i22
                    have e31 : M 50 5 + i < 80 → M1 31 (M1 50 5 + i) = T (M 50 5 + i) := fun h => by
                      rw [e5]
                      exact hT1 _ (by omega) h
                    have hz : bk_nm T e 4 (M 50 5) 0 = (M 50 5 + i, M1 50 6) := by
                      rw [← hb]
                      by_cases c9 : i = 4
                      · rw [c9]
                        rfl
                      · rw [show (4 - i).toNat = (3 - i).toNat + 1 by omega]
                        exact bk_nm0 (fun hx => by
                          have := e31 (by omega)
                          omega)
                    refine k _ (fun q j hq => ?_) ?_
                    · exact (xa_up_ne (fun e9 => hq ⟨e9.1, by omega⟩)).trans ((xa_up_ne (fun e9 => hq ⟨e9.1, by omega⟩)).trans (hk q j (fun e9 => hq ⟨e9.1, by omega⟩)))
                    · show bk_N T e (M 50 5) (M1 50 6) 1 (xa_w32 ((M1 50 5) + i))
                      exact ⟨_, hz, by omega, by omega, by omega⟩
  refine hgo.1 12 [10] 0 _ _ _ ?_
  show Q 10 [(4, (0, 0, 0, 0, 0)), (3, (0, 0, 0, 0, 0)), (0, (2, 50, 0, 0, 0)), (1, (2, 30, 0, 0, 0)), (2, (0, 0, 0, 60, e))] [] (xa_up M 50 6 0)
  refine hgo.2.1 10 _ [(3, (0, 0, 0, 4, 0)), (4, (0, 0, 0, 4, 0)), (2, (0, 0, 0, 60, e)), (0, (2, 50, 0, 0, 0)), (1, (2, 30, 0, 0, 0))] _ _ (xa_subI rfl rfl (fun _ _ _ _ => by omega) (xa_subI rfl rfl (fun _ _ _ _ => by omega) (xa_subI rfl rfl (fun _ _ _ _ => by omega) (xa_subR rfl (xa_subR rfl (xa_sub0)))))) ?_
  exact loop 5 0 _ (by omega) (by omega) (fun q j hq => xa_up_ne hq) (by omega) (by rw [xa_up_eq, show M 50 5 + 0 = M 50 5 by omega]; rfl) (by rw [xa_up_eq]; omega) (by omega)
theorem cx_117_55 {b : Bool} {A : Nat → Nat} {h0 : g_H} {d : Nat} {M : xa_M} {post : Option xa_V → xa_M → Prop} {T : Int → Int} {l1 u1 e : Int} (hT : (∀ i, 0 ≤ i → i < 80 → M 31 i = T i)) (he : 0 ≤ e ∧ e ≤ 60 ∧ e ≤ M 30 1 ∧ M 30 1 ≤ 80) (hp : 0 ≤ M 55 5 ∧ M 55 5 ≤ e) (k : ∀ M1 : xa_M, (∀ q j, ¬ (q = 55 ∧ (j = 5 ∨ j = 6 ∨ j = 7)) → M1 q j = M q j) → bk_N T e (M 55 5) (M1 55 6) (M1 55 7) (M1 55 5) → post none M1) : xa_C (xl_I b) A h0 (d + 4) 117 [(2, 55, 0, 0, 0), (2, 30, 0, 0, 0), (0, 0, l1, u1, e)] M post := by
  refine xa_C_arg [(2, 55, 0, 0, 0), (2, 30, 0, 0, 0), (0, 0, 0, 60, e)] (xa_svR (xa_svR (xa_svI (fun _ _ _ _ => by omega) xa_sv0))) ?_
  refine xa_meth (Q0 := (5, 0, false, 0, 0, 0)) (by decide +kernel) ⟨rfl, rfl⟩ (full := s_c_117) rfl rfl ?_
  intro hM hv Q hgo
  have loop : ∀ (n : Nat) (i : Int) (M1 : xa_M), 0 ≤ i → i ≤ 4 → (∀ q j, ¬ (q = 55 ∧ j = 6) → M1 q j = M q j) → M 55 5 + i ≤ e → bk_nm T e (4 - i).toNat (M 55 5 + i) (M1 55 6) = bk_nm T e 4 (M 55 5) 0 → (0 ≤ M1 55 6 ∧ (i = 0 → M1 55 6 = 0) ∧ (i = 1 → M1 55 6 ≤ 9) ∧ (i = 2 → M1 55 6 ≤ 99) ∧ (i = 3 → M1 55 6 ≤ 999) ∧ (i = 4 → M1 55 6 ≤ 9999)) → 4 - i < (n : Int) → Q 10 [(3, (0, 0, 0, 4, i)), (4, (0, 0, 0, 4, i)), (2, (0, 0, 0, 60, e)), (0, (2, 55, 0, 0, 0)), (1, (2, 30, 0, 0, 0))] [] M1 := by
    intro n
    induction n with
    | zero => intro i M1 i0 i1 hk hp1 hb hv1 hms; omega
    | succ n ih =>
      intro i M1 i0 i1 hk hp1 hb hv1 hms
      have e5 : M1 55 5 = M 55 5 := hk 55 5 (by decide)
      have e30 : M1 30 1 = M 30 1 := hk 30 1 (by decide)
      have hT1 : (∀ i, 0 ≤ i → i < 80 → M1 31 i = T i) := fun i i0 i1 => (hk 31 i (by omega)).trans (hT i i0 i1)
      refine hgo.1 45 [10] 10 _ _ _ ?_
      refine And.intro ?_ ?_
      · intro (c1 : 4 ≤ i)
        refine And.intro ?_ ?_
        · intro (c2 : (M1 55 6) < 1)
          refine And.intro ?_ ?_
          · intro (c3 : i ≤ 0)
            show post none (xa_up M1 55 7 0)
            have e31 : M 55 5 + i < 80 → M1 31 (M1 55 5 + i) = T (M 55 5 + i) := fun h => by
              rw [e5]
              exact hT1 _ (by omega) h
            have hz : bk_nm T e 4 (M 55 5) 0 = (M 55 5 + i, M1 55 6) := by
              rw [← hb]
              by_cases c9 : i = 4
              · rw [c9]
                rfl
              · rw [show (4 - i).toNat = (3 - i).toNat + 1 by omega]
                exact bk_nm0 (fun hx => by
                  have := e31 (by omega)
                  omega)
            refine k _ (fun q j hq => ?_) ?_
            · exact (xa_up_ne (fun e9 => hq ⟨e9.1, by omega⟩)).trans (hk q j (fun e9 => hq ⟨e9.1, by omega⟩))
            · show bk_N T e (M 55 5) (M1 55 6) 0 (M1 55 5)
              exact ⟨_, hz, by omega, by omega, by omega⟩
          · intro (c3 : 0 < i)
            refine And.intro ?_ ?_
            · intro (c4 : 0 = 0)
              show post none (xa_up (xa_up M1 55 7 0) 55 5 (xa_w32 ((M1 55 5) + (i - 1))))
              have w1 : xa_w32 ((M1 55 5) + (i - 1)) = (M1 55 5) + (i - 1) := xa_w32_id (by omega) (by omega)
              have e31 : M 55 5 + i < 80 → M1 31 (M1 55 5 + i) = T (M 55 5 + i) := fun h => by
                rw [e5]
                exact hT1 _ (by omega) h
              have hz : bk_nm T e 4 (M 55 5) 0 = (M 55 5 + i, M1 55 6) := by
                rw [← hb]
                by_cases c9 : i = 4
                · rw [c9]
                  rfl
                · rw [show (4 - i).toNat = (3 - i).toNat + 1 by omega]
                  exact bk_nm0 (fun hx => by
                    have := e31 (by omega)
                    omega)
              refine k _ (fun q j hq => ?_) ?_
              · exact (xa_up_ne (fun e9 => hq ⟨e9.1, by omega⟩)).trans ((xa_up_ne (fun e9 => hq ⟨e9.1, by omega⟩)).trans (hk q j (fun e9 => hq ⟨e9.1, by omega⟩)))
              · show bk_N T e (M 55 5) (M1 55 6) 0 (xa_w32 ((M1 55 5) + (i - 1)))
                exact ⟨_, hz, by omega, by omega, by omega⟩
            · intro (c4 : ¬ 0 = 0)
              exfalso
              omega
        · intro (c2 : 1 ≤ (M1 55 6))
          refine And.intro ?_ ?_
          · intro (c5 : 2000 < (M1 55 6))
            refine And.intro ?_ ?_
            · intro (c6 : i ≤ 0)
              show post none (xa_up M1 55 7 0)
              have e31 : M 55 5 + i < 80 → M1 31 (M1 55 5 + i) = T (M 55 5 + i) := fun h => by
                rw [e5]
                exact hT1 _ (by omega) h
              have hz : bk_nm T e 4 (M 55 5) 0 = (M 55 5 + i, M1 55 6) := by
                rw [← hb]
                by_cases c9 : i = 4
                · rw [c9]
                  rfl
                · rw [show (4 - i).toNat = (3 - i).toNat + 1 by omega]
                  exact bk_nm0 (fun hx => by
                    have := e31 (by omega)
                    omega)
              refine k _ (fun q j hq => ?_) ?_
              · exact (xa_up_ne (fun e9 => hq ⟨e9.1, by omega⟩)).trans (hk q j (fun e9 => hq ⟨e9.1, by omega⟩))
              · show bk_N T e (M 55 5) (M1 55 6) 0 (M1 55 5)
                exact ⟨_, hz, by omega, by omega, by omega⟩
            · intro (c6 : 0 < i)
              refine And.intro ?_ ?_
              · intro (c7 : 0 = 0)
                show post none (xa_up (xa_up M1 55 7 0) 55 5 (xa_w32 ((M1 55 5) + (i - 1))))
                have w1 : xa_w32 ((M1 55 5) + (i - 1)) = (M1 55 5) + (i - 1) := xa_w32_id (by omega) (by omega)
                have e31 : M 55 5 + i < 80 → M1 31 (M1 55 5 + i) = T (M 55 5 + i) := fun h => by
                  rw [e5]
                  exact hT1 _ (by omega) h
                have hz : bk_nm T e 4 (M 55 5) 0 = (M 55 5 + i, M1 55 6) := by
                  rw [← hb]
                  by_cases c9 : i = 4
                  · rw [c9]
                    rfl
                  · rw [show (4 - i).toNat = (3 - i).toNat + 1 by omega]
                    exact bk_nm0 (fun hx => by
                      have := e31 (by omega)
                      omega)
                refine k _ (fun q j hq => ?_) ?_
                · exact (xa_up_ne (fun e9 => hq ⟨e9.1, by omega⟩)).trans ((xa_up_ne (fun e9 => hq ⟨e9.1, by omega⟩)).trans (hk q j (fun e9 => hq ⟨e9.1, by omega⟩)))
                · show bk_N T e (M 55 5) (M1 55 6) 0 (xa_w32 ((M1 55 5) + (i - 1)))
                  exact ⟨_, hz, by omega, by omega, by omega⟩
              · intro (c7 : ¬ 0 = 0)
                exfalso
                omega
          · intro (c5 : (M1 55 6) ≤ 2000)
            refine And.intro ?_ ?_
            · intro (c8 : i ≤ 0)
              show post none (xa_up M1 55 7 1)
              have e31 : M 55 5 + i < 80 → M1 31 (M1 55 5 + i) = T (M 55 5 + i) := fun h => by
                rw [e5]
                exact hT1 _ (by omega) h
              have hz : bk_nm T e 4 (M 55 5) 0 = (M 55 5 + i, M1 55 6) := by
                rw [← hb]
                by_cases c9 : i = 4
                · rw [c9]
                  rfl
                · rw [show (4 - i).toNat = (3 - i).toNat + 1 by omega]
                  exact bk_nm0 (fun hx => by
                    have := e31 (by omega)
                    omega)
              refine k _ (fun q j hq => ?_) ?_
              · exact (xa_up_ne (fun e9 => hq ⟨e9.1, by omega⟩)).trans (hk q j (fun e9 => hq ⟨e9.1, by omega⟩))
              · show bk_N T e (M 55 5) (M1 55 6) 1 (M1 55 5)
                exact ⟨_, hz, by omega, by omega, by omega⟩
            · intro (c8 : 0 < i)
              refine And.intro ?_ ?_
              · intro (c9 : 1 = 0)
                exfalso
                omega
              · intro (c9 : ¬ 1 = 0)
                show post none (xa_up (xa_up M1 55 7 1) 55 5 (xa_w32 ((M1 55 5) + i)))
                have w1 : xa_w32 ((M1 55 5) + i) = (M1 55 5) + i := xa_w32_id (by omega) (by omega)
                have e31 : M 55 5 + i < 80 → M1 31 (M1 55 5 + i) = T (M 55 5 + i) := fun h => by
                  rw [e5]
                  exact hT1 _ (by omega) h
                have hz : bk_nm T e 4 (M 55 5) 0 = (M 55 5 + i, M1 55 6) := by
                  rw [← hb]
                  by_cases c9 : i = 4
                  · rw [c9]
                    rfl
                  · rw [show (4 - i).toNat = (3 - i).toNat + 1 by omega]
                    exact bk_nm0 (fun hx => by
                      have := e31 (by omega)
                      omega)
                refine k _ (fun q j hq => ?_) ?_
                · exact (xa_up_ne (fun e9 => hq ⟨e9.1, by omega⟩)).trans ((xa_up_ne (fun e9 => hq ⟨e9.1, by omega⟩)).trans (hk q j (fun e9 => hq ⟨e9.1, by omega⟩)))
                · show bk_N T e (M 55 5) (M1 55 6) 1 (xa_w32 ((M1 55 5) + i))
                  exact ⟨_, hz, by omega, by omega, by omega⟩
      · intro (c1 : i < 4)
        refine And.intro ?_ ?_
        · intro (c10 : e ≤ (xa_w32 ((M1 55 5) + i)))
          refine And.intro ?_ ?_
          · intro (c11 : (M1 55 6) < 1)
            refine And.intro ?_ ?_
            · intro (c12 : i ≤ 0)
              show post none (xa_up M1 55 7 0)
              have w1 : xa_w32 ((M1 55 5) + i) = (M1 55 5) + i := xa_w32_id (by omega) (by omega)
              rw [w1] at c10
              have e31 : M 55 5 + i < 80 → M1 31 (M1 55 5 + i) = T (M 55 5 + i) := fun h => by
                rw [e5]
                exact hT1 _ (by omega) h
              have hz : bk_nm T e 4 (M 55 5) 0 = (M 55 5 + i, M1 55 6) := by
                rw [← hb]
                by_cases c9 : i = 4
                · rw [c9]
                  rfl
                · rw [show (4 - i).toNat = (3 - i).toNat + 1 by omega]
                  exact bk_nm0 (fun hx => by
                    have := e31 (by omega)
                    omega)
              refine k _ (fun q j hq => ?_) ?_
              · exact (xa_up_ne (fun e9 => hq ⟨e9.1, by omega⟩)).trans (hk q j (fun e9 => hq ⟨e9.1, by omega⟩))
              · show bk_N T e (M 55 5) (M1 55 6) 0 (M1 55 5)
                exact ⟨_, hz, by omega, by omega, by omega⟩
            · intro (c12 : 0 < i)
              refine And.intro ?_ ?_
              · intro (c13 : 0 = 0)
                show post none (xa_up (xa_up M1 55 7 0) 55 5 (xa_w32 ((M1 55 5) + (i - 1))))
                have w1 : xa_w32 ((M1 55 5) + i) = (M1 55 5) + i := xa_w32_id (by omega) (by omega)
                rw [w1] at c10
                have w2 : xa_w32 ((M1 55 5) + (i - 1)) = (M1 55 5) + (i - 1) := xa_w32_id (by omega) (by omega)
                have e31 : M 55 5 + i < 80 → M1 31 (M1 55 5 + i) = T (M 55 5 + i) := fun h => by
                  rw [e5]
                  exact hT1 _ (by omega) h
                have hz : bk_nm T e 4 (M 55 5) 0 = (M 55 5 + i, M1 55 6) := by
                  rw [← hb]
                  by_cases c9 : i = 4
                  · rw [c9]
                    rfl
                  · rw [show (4 - i).toNat = (3 - i).toNat + 1 by omega]
                    exact bk_nm0 (fun hx => by
                      have := e31 (by omega)
                      omega)
                refine k _ (fun q j hq => ?_) ?_
                · exact (xa_up_ne (fun e9 => hq ⟨e9.1, by omega⟩)).trans ((xa_up_ne (fun e9 => hq ⟨e9.1, by omega⟩)).trans (hk q j (fun e9 => hq ⟨e9.1, by omega⟩)))
                · show bk_N T e (M 55 5) (M1 55 6) 0 (xa_w32 ((M1 55 5) + (i - 1)))
                  exact ⟨_, hz, by omega, by omega, by omega⟩
              · intro (c13 : ¬ 0 = 0)
                exfalso
                omega
          · intro (c11 : 1 ≤ (M1 55 6))
            refine And.intro ?_ ?_
            · intro (c14 : 2000 < (M1 55 6))
              refine And.intro ?_ ?_
              · intro (c15 : i ≤ 0)
                show post none (xa_up M1 55 7 0)
                have w1 : xa_w32 ((M1 55 5) + i) = (M1 55 5) + i := xa_w32_id (by omega) (by omega)
                rw [w1] at c10
                have e31 : M 55 5 + i < 80 → M1 31 (M1 55 5 + i) = T (M 55 5 + i) := fun h => by
                  rw [e5]
                  exact hT1 _ (by omega) h
                have hz : bk_nm T e 4 (M 55 5) 0 = (M 55 5 + i, M1 55 6) := by
                  rw [← hb]
                  by_cases c9 : i = 4
                  · rw [c9]
                    rfl
                  · rw [show (4 - i).toNat = (3 - i).toNat + 1 by omega]
                    exact bk_nm0 (fun hx => by
                      have := e31 (by omega)
                      omega)
                refine k _ (fun q j hq => ?_) ?_
                · exact (xa_up_ne (fun e9 => hq ⟨e9.1, by omega⟩)).trans (hk q j (fun e9 => hq ⟨e9.1, by omega⟩))
                · show bk_N T e (M 55 5) (M1 55 6) 0 (M1 55 5)
                  exact ⟨_, hz, by omega, by omega, by omega⟩
              · intro (c15 : 0 < i)
                refine And.intro ?_ ?_
                · intro (c16 : 0 = 0)
                  show post none (xa_up (xa_up M1 55 7 0) 55 5 (xa_w32 ((M1 55 5) + (i - 1))))
                  have w1 : xa_w32 ((M1 55 5) + i) = (M1 55 5) + i := xa_w32_id (by omega) (by omega)
                  rw [w1] at c10
                  have w2 : xa_w32 ((M1 55 5) + (i - 1)) = (M1 55 5) + (i - 1) := xa_w32_id (by omega) (by omega)
                  have e31 : M 55 5 + i < 80 → M1 31 (M1 55 5 + i) = T (M 55 5 + i) := fun h => by
                    rw [e5]
                    exact hT1 _ (by omega) h
                  have hz : bk_nm T e 4 (M 55 5) 0 = (M 55 5 + i, M1 55 6) := by
                    rw [← hb]
                    by_cases c9 : i = 4
                    · rw [c9]
                      rfl
                    · rw [show (4 - i).toNat = (3 - i).toNat + 1 by omega]
                      exact bk_nm0 (fun hx => by
                        have := e31 (by omega)
                        omega)
                  refine k _ (fun q j hq => ?_) ?_
                  · exact (xa_up_ne (fun e9 => hq ⟨e9.1, by omega⟩)).trans ((xa_up_ne (fun e9 => hq ⟨e9.1, by omega⟩)).trans (hk q j (fun e9 => hq ⟨e9.1, by omega⟩)))
                  · show bk_N T e (M 55 5) (M1 55 6) 0 (xa_w32 ((M1 55 5) + (i - 1)))
                    exact ⟨_, hz, by omega, by omega, by omega⟩
                · intro (c16 : ¬ 0 = 0)
                  exfalso
                  omega
            · intro (c14 : (M1 55 6) ≤ 2000)
              refine And.intro ?_ ?_
              · intro (c17 : i ≤ 0)
                show post none (xa_up M1 55 7 1)
                have w1 : xa_w32 ((M1 55 5) + i) = (M1 55 5) + i := xa_w32_id (by omega) (by omega)
                rw [w1] at c10
                have e31 : M 55 5 + i < 80 → M1 31 (M1 55 5 + i) = T (M 55 5 + i) := fun h => by
                  rw [e5]
                  exact hT1 _ (by omega) h
                have hz : bk_nm T e 4 (M 55 5) 0 = (M 55 5 + i, M1 55 6) := by
                  rw [← hb]
                  by_cases c9 : i = 4
                  · rw [c9]
                    rfl
                  · rw [show (4 - i).toNat = (3 - i).toNat + 1 by omega]
                    exact bk_nm0 (fun hx => by
                      have := e31 (by omega)
                      omega)
                refine k _ (fun q j hq => ?_) ?_
                · exact (xa_up_ne (fun e9 => hq ⟨e9.1, by omega⟩)).trans (hk q j (fun e9 => hq ⟨e9.1, by omega⟩))
                · show bk_N T e (M 55 5) (M1 55 6) 1 (M1 55 5)
                  exact ⟨_, hz, by omega, by omega, by omega⟩
              · intro (c17 : 0 < i)
                refine And.intro ?_ ?_
                · intro (c18 : 1 = 0)
                  exfalso
                  omega
                · intro (c18 : ¬ 1 = 0)
                  show post none (xa_up (xa_up M1 55 7 1) 55 5 (xa_w32 ((M1 55 5) + i)))
                  have w1 : xa_w32 ((M1 55 5) + i) = (M1 55 5) + i := xa_w32_id (by omega) (by omega)
                  rw [w1] at c10
                  have e31 : M 55 5 + i < 80 → M1 31 (M1 55 5 + i) = T (M 55 5 + i) := fun h => by
                    rw [e5]
                    exact hT1 _ (by omega) h
                  have hz : bk_nm T e 4 (M 55 5) 0 = (M 55 5 + i, M1 55 6) := by
                    rw [← hb]
                    by_cases c9 : i = 4
                    · rw [c9]
                      rfl
                    · rw [show (4 - i).toNat = (3 - i).toNat + 1 by omega]
                      exact bk_nm0 (fun hx => by
                        have := e31 (by omega)
                        omega)
                  refine k _ (fun q j hq => ?_) ?_
                  · exact (xa_up_ne (fun e9 => hq ⟨e9.1, by omega⟩)).trans ((xa_up_ne (fun e9 => hq ⟨e9.1, by omega⟩)).trans (hk q j (fun e9 => hq ⟨e9.1, by omega⟩)))
                  · show bk_N T e (M 55 5) (M1 55 6) 1 (xa_w32 ((M1 55 5) + i))
                    exact ⟨_, hz, by omega, by omega, by omega⟩
        · intro (c10 : (xa_w32 ((M1 55 5) + i)) < e)
          show xa_C (xl_I b) A h0 _ 118 [(2, 30, 0, 0, 0), (0, 0, (-2147483648), 2147483647, xa_w32 ((M1 55 5) + i))] M1 _
          refine cg_118 (show 0 ≤ (M1 30 1) ∧ (M1 30 1) ≤ 80 by omega) ?_ ?_
          · intro (i19 : (0 ≤ (xa_w32 ((M1 55 5) + i)) ∧ (xa_w32 ((M1 55 5) + i)) < (M1 30 1)) ∧ 48 ≤ M1 31 (xa_w32 ((M1 55 5) + i)) ∧ M1 31 (xa_w32 ((M1 55 5) + i)) ≤ 57)
            show xa_C (xl_I b) A h0 _ 119 [(2, 30, 0, 0, 0), (0, 0, (-2147483648), 2147483647, xa_w32 ((M1 55 5) + i))] M1 _
            refine cg_119 (show 0 ≤ (M1 30 1) ∧ (M1 30 1) ≤ 80 by omega) ?_ ?_
            · intro (i20 : 0 ≤ (xa_w32 ((M1 55 5) + i)) ∧ (xa_w32 ((M1 55 5) + i)) < (M1 30 1))
              show Q 10 [(4, (0, 0, 1, 5, i + 1)), (3, (0, 0, 1, 5, i + 1)), (2, (0, 0, 0, 60, e)), (0, (2, 55, 0, 0, 0)), (1, (2, 30, 0, 0, 0))] [] (xa_up M1 55 6 (xa_w32 ((xa_w32 ((xa_w32 ((M1 55 6) * 10)) + (M1 31 (xa_w32 ((M1 55 5) + i))))) - 48)))
              have w1 : xa_w32 ((M1 55 5) + i) = (M1 55 5) + i := xa_w32_id (by omega) (by omega)
              rw [w1] at c10 i19 i20
              have w2 : xa_w32 ((M1 55 6) * 10) = (M1 55 6) * 10 := xa_w32_id (by omega) (by omega)
              have e31 := hT1 (M1 55 5 + i) (by omega) (by omega)
              have w3 : xa_w32 ((((M1 55 6) * 10)) + (M1 31 (((M1 55 5) + i)))) = (((M1 55 6) * 10)) + (M1 31 (((M1 55 5) + i))) := xa_w32_id (by omega) (by omega)
              have w4 : xa_w32 ((((((M1 55 6) * 10)) + (M1 31 (((M1 55 5) + i))))) - 48) = (((((M1 55 6) * 10)) + (M1 31 (((M1 55 5) + i))))) - 48 := xa_w32_id (by omega) (by omega)
              have ev : xa_w32 ((xa_w32 ((xa_w32 ((M1 55 6) * 10)) + (M1 31 (xa_w32 ((M1 55 5) + i))))) - 48) = M1 55 6 * 10 + T (M 55 5 + i) - 48 := by
                rw [w1, w2, w3, w4]
                omega
              rw [e5] at e31
              refine hgo.2.1 10 _ [(3, (0, 0, 0, 4, i + 1)), (4, (0, 0, 0, 4, i + 1)), (2, (0, 0, 0, 60, e)), (0, (2, 55, 0, 0, 0)), (1, (2, 30, 0, 0, 0))] _ _ (xa_subI rfl rfl (fun _ _ _ _ => by omega) (xa_subI rfl rfl (fun _ _ _ _ => by omega) (xa_subI rfl rfl (fun _ _ _ _ => by omega) (xa_subR rfl (xa_subR rfl (xa_sub0)))))) ?_
              exact ih (i + 1) _ (by omega) (by omega) (fun q j hq => (xa_up_ne hq).trans (hk q j hq)) (by omega) (by rw [xa_up_eq, ev, show M 55 5 + (i + 1) = M 55 5 + i + 1 by omega, ← bk_nm1 (by omega), show (4 - (i + 1)).toNat + 1 = (4 - i).toNat by omega]; exact hb) (by rw [xa_up_eq]; omega) (by omega)
            · intro (i21 : ¬ (0 ≤ (xa_w32 ((M1 55 5) + i)) ∧ (xa_w32 ((M1 55 5) + i)) < (M1 30 1)))
              exfalso
              omega
          · intro (i22 : ¬ ((0 ≤ (xa_w32 ((M1 55 5) + i)) ∧ (xa_w32 ((M1 55 5) + i)) < (M1 30 1)) ∧ 48 ≤ M1 31 (xa_w32 ((M1 55 5) + i)) ∧ M1 31 (xa_w32 ((M1 55 5) + i)) ≤ 57))
            refine And.intro ?_ ?_
            · intro (c23 : (M1 55 6) < 1)
              refine And.intro ?_ ?_
              · intro (c24 : i ≤ 0)
                show post none (xa_up M1 55 7 0)
                have w1 : xa_w32 ((M1 55 5) + i) = (M1 55 5) + i := xa_w32_id (by omega) (by omega)
                rw [w1] at c10 i22
                have e31 : M 55 5 + i < 80 → M1 31 (M1 55 5 + i) = T (M 55 5 + i) := fun h => by
                  rw [e5]
                  exact hT1 _ (by omega) h
                have hz : bk_nm T e 4 (M 55 5) 0 = (M 55 5 + i, M1 55 6) := by
                  rw [← hb]
                  by_cases c9 : i = 4
                  · rw [c9]
                    rfl
                  · rw [show (4 - i).toNat = (3 - i).toNat + 1 by omega]
                    exact bk_nm0 (fun hx => by
                      have := e31 (by omega)
                      omega)
                refine k _ (fun q j hq => ?_) ?_
                · exact (xa_up_ne (fun e9 => hq ⟨e9.1, by omega⟩)).trans (hk q j (fun e9 => hq ⟨e9.1, by omega⟩))
                · show bk_N T e (M 55 5) (M1 55 6) 0 (M1 55 5)
                  exact ⟨_, hz, by omega, by omega, by omega⟩
              · intro (c24 : 0 < i)
                refine And.intro ?_ ?_
                · intro (c25 : 0 = 0)
                  show post none (xa_up (xa_up M1 55 7 0) 55 5 (xa_w32 ((M1 55 5) + (i - 1))))
                  have w1 : xa_w32 ((M1 55 5) + i) = (M1 55 5) + i := xa_w32_id (by omega) (by omega)
                  rw [w1] at c10 i22
                  have w2 : xa_w32 ((M1 55 5) + (i - 1)) = (M1 55 5) + (i - 1) := xa_w32_id (by omega) (by omega)
                  have e31 : M 55 5 + i < 80 → M1 31 (M1 55 5 + i) = T (M 55 5 + i) := fun h => by
                    rw [e5]
                    exact hT1 _ (by omega) h
                  have hz : bk_nm T e 4 (M 55 5) 0 = (M 55 5 + i, M1 55 6) := by
                    rw [← hb]
                    by_cases c9 : i = 4
                    · rw [c9]
                      rfl
                    · rw [show (4 - i).toNat = (3 - i).toNat + 1 by omega]
                      exact bk_nm0 (fun hx => by
                        have := e31 (by omega)
                        omega)
                  refine k _ (fun q j hq => ?_) ?_
                  · exact (xa_up_ne (fun e9 => hq ⟨e9.1, by omega⟩)).trans ((xa_up_ne (fun e9 => hq ⟨e9.1, by omega⟩)).trans (hk q j (fun e9 => hq ⟨e9.1, by omega⟩)))
                  · show bk_N T e (M 55 5) (M1 55 6) 0 (xa_w32 ((M1 55 5) + (i - 1)))
                    exact ⟨_, hz, by omega, by omega, by omega⟩
                · intro (c25 : ¬ 0 = 0)
                  exfalso
                  omega
            · intro (c23 : 1 ≤ (M1 55 6))
              refine And.intro ?_ ?_
              · intro (c26 : 2000 < (M1 55 6))
                refine And.intro ?_ ?_
                · intro (c27 : i ≤ 0)
                  show post none (xa_up M1 55 7 0)
                  have w1 : xa_w32 ((M1 55 5) + i) = (M1 55 5) + i := xa_w32_id (by omega) (by omega)
                  rw [w1] at c10 i22
                  have e31 : M 55 5 + i < 80 → M1 31 (M1 55 5 + i) = T (M 55 5 + i) := fun h => by
                    rw [e5]
                    exact hT1 _ (by omega) h
                  have hz : bk_nm T e 4 (M 55 5) 0 = (M 55 5 + i, M1 55 6) := by
                    rw [← hb]
                    by_cases c9 : i = 4
                    · rw [c9]
                      rfl
                    · rw [show (4 - i).toNat = (3 - i).toNat + 1 by omega]
                      exact bk_nm0 (fun hx => by
                        have := e31 (by omega)
                        omega)
                  refine k _ (fun q j hq => ?_) ?_
                  · exact (xa_up_ne (fun e9 => hq ⟨e9.1, by omega⟩)).trans (hk q j (fun e9 => hq ⟨e9.1, by omega⟩))
                  · show bk_N T e (M 55 5) (M1 55 6) 0 (M1 55 5)
                    exact ⟨_, hz, by omega, by omega, by omega⟩
                · intro (c27 : 0 < i)
                  refine And.intro ?_ ?_
                  · intro (c28 : 0 = 0)
                    show post none (xa_up (xa_up M1 55 7 0) 55 5 (xa_w32 ((M1 55 5) + (i - 1))))
                    have w1 : xa_w32 ((M1 55 5) + i) = (M1 55 5) + i := xa_w32_id (by omega) (by omega)
                    rw [w1] at c10 i22
                    have w2 : xa_w32 ((M1 55 5) + (i - 1)) = (M1 55 5) + (i - 1) := xa_w32_id (by omega) (by omega)
                    have e31 : M 55 5 + i < 80 → M1 31 (M1 55 5 + i) = T (M 55 5 + i) := fun h => by
                      rw [e5]
                      exact hT1 _ (by omega) h
                    have hz : bk_nm T e 4 (M 55 5) 0 = (M 55 5 + i, M1 55 6) := by
                      rw [← hb]
                      by_cases c9 : i = 4
                      · rw [c9]
                        rfl
                      · rw [show (4 - i).toNat = (3 - i).toNat + 1 by omega]
                        exact bk_nm0 (fun hx => by
                          have := e31 (by omega)
                          omega)
                    refine k _ (fun q j hq => ?_) ?_
                    · exact (xa_up_ne (fun e9 => hq ⟨e9.1, by omega⟩)).trans ((xa_up_ne (fun e9 => hq ⟨e9.1, by omega⟩)).trans (hk q j (fun e9 => hq ⟨e9.1, by omega⟩)))
                    · show bk_N T e (M 55 5) (M1 55 6) 0 (xa_w32 ((M1 55 5) + (i - 1)))
                      exact ⟨_, hz, by omega, by omega, by omega⟩
                  · intro (c28 : ¬ 0 = 0)
                    exfalso
                    omega
              · intro (c26 : (M1 55 6) ≤ 2000)
                refine And.intro ?_ ?_
                · intro (c29 : i ≤ 0)
                  show post none (xa_up M1 55 7 1)
                  have w1 : xa_w32 ((M1 55 5) + i) = (M1 55 5) + i := xa_w32_id (by omega) (by omega)
                  rw [w1] at c10 i22
                  have e31 : M 55 5 + i < 80 → M1 31 (M1 55 5 + i) = T (M 55 5 + i) := fun h => by
                    rw [e5]
                    exact hT1 _ (by omega) h
                  have hz : bk_nm T e 4 (M 55 5) 0 = (M 55 5 + i, M1 55 6) := by
                    rw [← hb]
                    by_cases c9 : i = 4
                    · rw [c9]
                      rfl
                    · rw [show (4 - i).toNat = (3 - i).toNat + 1 by omega]
                      exact bk_nm0 (fun hx => by
                        have := e31 (by omega)
                        omega)
                  refine k _ (fun q j hq => ?_) ?_
                  · exact (xa_up_ne (fun e9 => hq ⟨e9.1, by omega⟩)).trans (hk q j (fun e9 => hq ⟨e9.1, by omega⟩))
                  · show bk_N T e (M 55 5) (M1 55 6) 1 (M1 55 5)
                    exact ⟨_, hz, by omega, by omega, by omega⟩
                · intro (c29 : 0 < i)
                  refine And.intro ?_ ?_
                  · intro (c30 : 1 = 0)
                    exfalso
                    omega
                  · intro (c30 : ¬ 1 = 0)
                    show post none (xa_up (xa_up M1 55 7 1) 55 5 (xa_w32 ((M1 55 5) + i)))
                    have w1 : xa_w32 ((M1 55 5) + i) = (M1 55 5) + i := xa_w32_id (by omega) (by omega)
                    rw [w1] at c10 i22
                    have e31 : M 55 5 + i < 80 → M1 31 (M1 55 5 + i) = T (M 55 5 + i) := fun h => by
                      rw [e5]
                      exact hT1 _ (by omega) h
                    have hz : bk_nm T e 4 (M 55 5) 0 = (M 55 5 + i, M1 55 6) := by
                      rw [← hb]
                      by_cases c9 : i = 4
                      · rw [c9]
                        rfl
                      · rw [show (4 - i).toNat = (3 - i).toNat + 1 by omega]
                        exact bk_nm0 (fun hx => by
                          have := e31 (by omega)
                          omega)
                    refine k _ (fun q j hq => ?_) ?_
                    · exact (xa_up_ne (fun e9 => hq ⟨e9.1, by omega⟩)).trans ((xa_up_ne (fun e9 => hq ⟨e9.1, by omega⟩)).trans (hk q j (fun e9 => hq ⟨e9.1, by omega⟩)))
                    · show bk_N T e (M 55 5) (M1 55 6) 1 (xa_w32 ((M1 55 5) + i))
                      exact ⟨_, hz, by omega, by omega, by omega⟩
  refine hgo.1 12 [10] 0 _ _ _ ?_
  show Q 10 [(4, (0, 0, 0, 0, 0)), (3, (0, 0, 0, 0, 0)), (0, (2, 55, 0, 0, 0)), (1, (2, 30, 0, 0, 0)), (2, (0, 0, 0, 60, e))] [] (xa_up M 55 6 0)
  refine hgo.2.1 10 _ [(3, (0, 0, 0, 4, 0)), (4, (0, 0, 0, 4, 0)), (2, (0, 0, 0, 60, e)), (0, (2, 55, 0, 0, 0)), (1, (2, 30, 0, 0, 0))] _ _ (xa_subI rfl rfl (fun _ _ _ _ => by omega) (xa_subI rfl rfl (fun _ _ _ _ => by omega) (xa_subI rfl rfl (fun _ _ _ _ => by omega) (xa_subR rfl (xa_subR rfl (xa_sub0)))))) ?_
  exact loop 5 0 _ (by omega) (by omega) (fun q j hq => xa_up_ne hq) (by omega) (by rw [xa_up_eq, show M 55 5 + 0 = M 55 5 by omega]; rfl) (by rw [xa_up_eq]; omega) (by omega)
-- lines
set_option maxRecDepth 20000
theorem cx_18_51 {b : Bool} {A : Nat → Nat} {h0 : g_H} {d : Nat} {M : xa_M} {post : Option xa_V → xa_M → Prop} {l1 u1 l2 u2 : Int} {i v : Int} (h1 : 0 ≤ i ∧ i < 8) (k1 : post none (xa_up M 51 i v)) : xa_C (xl_I b) A h0 (d + 1) 18 [(2, 51, 0, 0, 0), (0, 0, l1, u1, i), (0, 0, l2, u2, v)] M post := by
  refine xa_C_arg [(2, 51, 0, 0, 0), (0, 0, (-2147483648), 2147483647, i), (0, 0, (-2147483648), 2147483647, v)] (xa_svR (xa_svI (fun _ _ _ _ => by omega) (xa_svI (fun _ _ _ _ => by omega) xa_sv0))) ?_
  refine xa_meth (Q0 := (3, 0, false, 0, 0, 11)) (by decide +kernel) ⟨rfl, rfl⟩ (full := s_c_18) rfl rfl ?_
  intro hM hv Q hgo
  refine hgo.1 15 [] 0 _ _ _ ?_
  refine And.intro ?_ ?_
  · intro (c1 : i < 0)
    show post none M
    exact absurd h1 (by omega)
  · intro (c1 : 0 ≤ i)
    refine And.intro ?_ ?_
    · intro (c2 : 8 ≤ i)
      show post none M
      exact absurd h1 (by omega)
    · intro (c2 : i < 8)
      refine And.intro (show 0 ≤ i ∧ i < 8 by omega) ?_
      show post none (xa_up M 51 i v)
      exact k1
theorem cx_18_53 {b : Bool} {A : Nat → Nat} {h0 : g_H} {d : Nat} {M : xa_M} {post : Option xa_V → xa_M → Prop} {l1 u1 l2 u2 : Int} {i v : Int} (h1 : 0 ≤ i ∧ i < 8) (k1 : post none (xa_up M 53 i v)) : xa_C (xl_I b) A h0 (d + 1) 18 [(2, 53, 0, 0, 0), (0, 0, l1, u1, i), (0, 0, l2, u2, v)] M post := by
  refine xa_C_arg [(2, 53, 0, 0, 0), (0, 0, (-2147483648), 2147483647, i), (0, 0, (-2147483648), 2147483647, v)] (xa_svR (xa_svI (fun _ _ _ _ => by omega) (xa_svI (fun _ _ _ _ => by omega) xa_sv0))) ?_
  refine xa_meth (Q0 := (3, 0, false, 0, 0, 11)) (by decide +kernel) ⟨rfl, rfl⟩ (full := s_c_18) rfl rfl ?_
  intro hM hv Q hgo
  refine hgo.1 15 [] 0 _ _ _ ?_
  refine And.intro ?_ ?_
  · intro (c1 : i < 0)
    show post none M
    exact absurd h1 (by omega)
  · intro (c1 : 0 ≤ i)
    refine And.intro ?_ ?_
    · intro (c2 : 8 ≤ i)
      show post none M
      exact absurd h1 (by omega)
    · intro (c2 : i < 8)
      refine And.intro (show 0 ≤ i ∧ i < 8 by omega) ?_
      show post none (xa_up M 53 i v)
      exact k1
theorem cx_18_52 {b : Bool} {A : Nat → Nat} {h0 : g_H} {d : Nat} {M : xa_M} {post : Option xa_V → xa_M → Prop} {l1 u1 l2 u2 : Int} {i v : Int} (h1 : 0 ≤ i ∧ i < 8) (k1 : post none (xa_up M 52 i v)) : xa_C (xl_I b) A h0 (d + 1) 18 [(2, 52, 0, 0, 0), (0, 0, l1, u1, i), (0, 0, l2, u2, v)] M post := by
  refine xa_C_arg [(2, 52, 0, 0, 0), (0, 0, (-2147483648), 2147483647, i), (0, 0, (-2147483648), 2147483647, v)] (xa_svR (xa_svI (fun _ _ _ _ => by omega) (xa_svI (fun _ _ _ _ => by omega) xa_sv0))) ?_
  refine xa_meth (Q0 := (3, 0, false, 0, 0, 11)) (by decide +kernel) ⟨rfl, rfl⟩ (full := s_c_18) rfl rfl ?_
  intro hM hv Q hgo
  refine hgo.1 15 [] 0 _ _ _ ?_
  refine And.intro ?_ ?_
  · intro (c1 : i < 0)
    show post none M
    exact absurd h1 (by omega)
  · intro (c1 : 0 ≤ i)
    refine And.intro ?_ ?_
    · intro (c2 : 8 ≤ i)
      show post none M
      exact absurd h1 (by omega)
    · intro (c2 : i < 8)
      refine And.intro (show 0 ≤ i ∧ i < 8 by omega) ?_
      show post none (xa_up M 52 i v)
      exact k1
theorem cx_116_50 {b : Bool} {A : Nat → Nat} {h0 : g_H} {d : Nat} {M : xa_M} {post : Option xa_V → xa_M → Prop} {T : Int → Int} {l1 u1 l2 u2 e x2 : Int} (hT : (∀ i, 0 ≤ i → i < 80 → M 31 i = T i)) (he : 0 ≤ e ∧ e ≤ 60 ∧ e ≤ M 30 1 ∧ M 30 1 ≤ 80) (hp : 0 ≤ M 50 5 ∧ M 50 5 ≤ e) (hx : 0 ≤ x2 ∧ x2 < 8) (k : ∀ M1 : xa_M, (∀ q j, ¬ (q = 50 ∧ 4 ≤ j ∧ j ≤ 7) → ¬ ((q = 51 ∨ q = 52 ∨ q = 53) ∧ j = x2) → M1 q j = M q j) → bk_L T e (M 50 5) (M1 50 7) (M1 51 x2) (M1 52 x2) (M1 53 x2) (M1 50 5) → M1 50 4 = x2 + 1 → post none M1) : xa_C (xl_I b) A h0 (d + 5) 116 [(2, 50, 0, 0, 0), (2, 30, 0, 0, 0), (0, 0, l1, u1, e), (0, 0, l2, u2, x2)] M post := by
  refine xa_C_arg [(2, 50, 0, 0, 0), (2, 30, 0, 0, 0), (0, 0, 0, 60, e), (0, 0, 0, 7, x2)] (xa_svR (xa_svR (xa_svI (fun _ _ _ _ => by omega) (xa_svI (fun _ _ _ _ => by omega) xa_sv0)))) ?_
  refine xa_meth (Q0 := (4, 0, false, 0, 0, 0)) (by decide +kernel) ⟨rfl, rfl⟩ (full := s_c_116) rfl rfl ?_
  intro hM hv Q hgo
  refine hgo.1 91 [] 0 _ _ _ ?_
  show xa_C (xl_I b) A h0 _ 117 [(2, 50, 0, 0, 0), (2, 30, 0, 0, 0), (0, 0, 0, 60, e)] M _
  refine cx_117_50 (fun i i0 i1 => (hT i i0 i1)) (show 0 ≤ e ∧ e ≤ 60 ∧ e ≤ (M 30 1) ∧ (M 30 1) ≤ 80 by omega) (show 0 ≤ (M 50 5) ∧ (M 50 5) ≤ e by omega) ?_
  intro M101 (i1 : ∀ q j, ¬ (q = 50 ∧ (j = 5 ∨ j = 6 ∨ j = 7)) → M101 q j = M q j) (i2 : bk_N T e (M 50 5) (M101 50 6) (M101 50 7) (M101 50 5))
  have hTM101 : ∀ i, 0 ≤ i → i < 80 → M101 31 i = T i := fun i i0 i1 => (i1 31 i (by omega)).trans (hT i i0 i1)
  have eM101 : M101 30 1 = M 30 1 := (i1 30 1 (by decide)).trans (rfl)
  have fM101 : ∀ q j, ¬ (q = 50 ∧ 4 ≤ j ∧ j ≤ 7) → ¬ ((q = 51 ∨ q = 52 ∨ q = 53) ∧ j = x2) → M101 q j = M q j := fun q j h1 h2 => (i1 q j (by omega)).trans (rfl)
  have nM101 := bk_N_b i2
  have wM101 : xa_w32 ((M101 50 5) + 1) = (M101 50 5) + 1 := xa_w32_id (by omega) (by omega)
  show xa_C (xl_I b) A h0 _ 18 [(2, 51, 0, 0, 0), (0, 0, 0, 7, x2), (0, 0, (-2147483648), 2147483647, M101 50 6)] M101 _
  refine cx_18_51 (show 0 ≤ x2 ∧ x2 < 8 by omega) ?_
  refine And.intro ?_ ?_
  · intro (c3 : (M101 50 7) = 0)
    refine And.intro ?_ ?_
    · intro (c4 : (M101 50 7) = 0)
      show xa_C (xl_I b) A h0 _ 18 [(2, 53, 0, 0, 0), (0, 0, 0, 7, x2), (0, 0, 0, 0, 0)] (xa_up M101 51 x2 (M101 50 6)) _
      refine cx_18_53 (show 0 ≤ x2 ∧ x2 < 8 by omega) ?_
      refine And.intro ?_ ?_
      · intro (c5 : (M101 50 7) = 0)
        show post none (xa_up (xa_up (xa_up M101 51 x2 (M101 50 6)) 53 x2 0) 50 4 (x2 + 1))
        have tM101 := hTM101 (M101 50 5)
        refine k _ (fun q j h1 h2 => ?_) ?_ ?_
        · exact (xa_up_ne (by omega)).trans ((xa_up_ne (by omega)).trans ((xa_up_ne (by omega)).trans (fM101 q j h1 h2)))
        · show bk_L T e (M 50 5) (M101 50 7) ((xa_up (xa_up (xa_up M101 51 x2 (M101 50 6)) 53 x2 0) 50 4 (x2 + 1)) 51 x2) ((xa_up (xa_up (xa_up M101 51 x2 (M101 50 6)) 53 x2 0) 50 4 (x2 + 1)) 52 x2) ((xa_up (xa_up (xa_up M101 51 x2 (M101 50 6)) 53 x2 0) 50 4 (x2 + 1)) 53 x2) (M101 50 5)
          exact ⟨_, _, _, i2, by omega⟩
        · show x2 + 1 = x2 + 1
          rfl
      · intro (c5 : ¬ (M101 50 7) = 0)
        exfalso
        omega
    · intro (c4 : ¬ (M101 50 7) = 0)
      exfalso
      omega
  · intro (c3 : ¬ (M101 50 7) = 0)
    refine And.intro ?_ ?_
    · intro (c6 : e ≤ (M101 50 5))
      refine And.intro ?_ ?_
      · intro (c7 : 0 = 0)
        refine And.intro ?_ ?_
        · intro (c8 : 0 = 0)
          show xa_C (xl_I b) A h0 _ 18 [(2, 53, 0, 0, 0), (0, 0, 0, 7, x2), (0, 0, 0, 0, 0)] (xa_up (xa_up (xa_up M101 51 x2 (M101 50 6)) 50 7 0) 50 5 ((M101 50 5) + 0)) _
          refine cx_18_53 (show 0 ≤ x2 ∧ x2 < 8 by omega) ?_
          refine And.intro ?_ ?_
          · intro (c9 : 0 = 0)
            show post none (xa_up (xa_up (xa_up (xa_up (xa_up M101 51 x2 (M101 50 6)) 50 7 0) 50 5 ((M101 50 5) + 0)) 53 x2 0) 50 4 (x2 + 1))
            have tM101 := hTM101 (M101 50 5)
            refine k _ (fun q j h1 h2 => ?_) ?_ ?_
            · exact (xa_up_ne (by omega)).trans ((xa_up_ne (by omega)).trans ((xa_up_ne (by omega)).trans ((xa_up_ne (by omega)).trans ((xa_up_ne (by omega)).trans (fM101 q j h1 h2)))))
            · show bk_L T e (M 50 5) 0 ((xa_up (xa_up (xa_up (xa_up (xa_up M101 51 x2 (M101 50 6)) 50 7 0) 50 5 ((M101 50 5) + 0)) 53 x2 0) 50 4 (x2 + 1)) 51 x2) ((xa_up (xa_up (xa_up (xa_up (xa_up M101 51 x2 (M101 50 6)) 50 7 0) 50 5 ((M101 50 5) + 0)) 53 x2 0) 50 4 (x2 + 1)) 52 x2) ((xa_up (xa_up (xa_up (xa_up (xa_up M101 51 x2 (M101 50 6)) 50 7 0) 50 5 ((M101 50 5) + 0)) 53 x2 0) 50 4 (x2 + 1)) 53 x2) ((M101 50 5) + 0)
              exact ⟨_, _, _, i2, by omega⟩
            · show x2 + 1 = x2 + 1
              rfl
          · intro (c9 : ¬ 0 = 0)
            exfalso
            omega
        · intro (c8 : ¬ 0 = 0)
          exfalso
          omega
      · intro (c7 : ¬ 0 = 0)
        exfalso
        omega
    · intro (c6 : (M101 50 5) < e)
      show xa_C (xl_I b) A h0 _ 119 [(2, 30, 0, 0, 0), (0, 0, (-2147483648), 2147483647, M101 50 5)] (xa_up M101 51 x2 (M101 50 6)) _
      refine cg_119 (show 0 ≤ (M101 30 1) ∧ (M101 30 1) ≤ 80 by omega) ?_ ?_
      · intro (i10 : 0 ≤ (M101 50 5) ∧ (M101 50 5) < (M101 30 1))
        refine And.intro ?_ ?_
        · intro (c11 : ¬ (M101 31 (M101 50 5)) = 58)
          refine And.intro ?_ ?_
          · intro (c12 : 0 = 0)
            refine And.intro ?_ ?_
            · intro (c13 : 0 = 0)
              show xa_C (xl_I b) A h0 _ 18 [(2, 53, 0, 0, 0), (0, 0, 0, 7, x2), (0, 0, 0, 0, 0)] (xa_up (xa_up (xa_up M101 51 x2 (M101 50 6)) 50 7 0) 50 5 ((M101 50 5) + 0)) _
              refine cx_18_53 (show 0 ≤ x2 ∧ x2 < 8 by omega) ?_
              refine And.intro ?_ ?_
              · intro (c14 : 0 = 0)
                show post none (xa_up (xa_up (xa_up (xa_up (xa_up M101 51 x2 (M101 50 6)) 50 7 0) 50 5 ((M101 50 5) + 0)) 53 x2 0) 50 4 (x2 + 1))
                have tM101 := hTM101 (M101 50 5)
                refine k _ (fun q j h1 h2 => ?_) ?_ ?_
                · exact (xa_up_ne (by omega)).trans ((xa_up_ne (by omega)).trans ((xa_up_ne (by omega)).trans ((xa_up_ne (by omega)).trans ((xa_up_ne (by omega)).trans (fM101 q j h1 h2)))))
                · show bk_L T e (M 50 5) 0 ((xa_up (xa_up (xa_up (xa_up (xa_up M101 51 x2 (M101 50 6)) 50 7 0) 50 5 ((M101 50 5) + 0)) 53 x2 0) 50 4 (x2 + 1)) 51 x2) ((xa_up (xa_up (xa_up (xa_up (xa_up M101 51 x2 (M101 50 6)) 50 7 0) 50 5 ((M101 50 5) + 0)) 53 x2 0) 50 4 (x2 + 1)) 52 x2) ((xa_up (xa_up (xa_up (xa_up (xa_up M101 51 x2 (M101 50 6)) 50 7 0) 50 5 ((M101 50 5) + 0)) 53 x2 0) 50 4 (x2 + 1)) 53 x2) ((M101 50 5) + 0)
                  exact ⟨_, _, _, i2, by omega⟩
                · show x2 + 1 = x2 + 1
                  rfl
              · intro (c14 : ¬ 0 = 0)
                exfalso
                omega
            · intro (c13 : ¬ 0 = 0)
              exfalso
              omega
          · intro (c12 : ¬ 0 = 0)
            exfalso
            omega
        · intro (c11 : (M101 31 (M101 50 5)) = 58)
          refine And.intro ?_ ?_
          · intro (c15 : 1 = 0)
            exfalso
            omega
          · intro (c15 : ¬ 1 = 0)
            refine And.intro ?_ ?_
            · intro (c16 : 1 = 0)
              exfalso
              omega
            · intro (c16 : ¬ 1 = 0)
              show xa_C (xl_I b) A h0 _ 117 [(2, 50, 0, 0, 0), (2, 30, 0, 0, 0), (0, 0, 0, 60, e)] (xa_up (xa_up (xa_up M101 51 x2 (M101 50 6)) 50 7 1) 50 5 (xa_w32 ((M101 50 5) + 1))) _
              refine cx_117_50 (fun i i0 i1 => (xa_up_ne (by omega)).trans ((xa_up_ne (by omega)).trans ((xa_up_ne (by omega)).trans ((hTM101 i i0 i1))))) (show 0 ≤ e ∧ e ≤ 60 ∧ e ≤ (M101 30 1) ∧ (M101 30 1) ≤ 80 by omega) (show 0 ≤ (xa_w32 ((M101 50 5) + 1)) ∧ (xa_w32 ((M101 50 5) + 1)) ≤ e by omega) ?_
              intro M102 (i17 : ∀ q j, ¬ (q = 50 ∧ (j = 5 ∨ j = 6 ∨ j = 7)) → M102 q j = (xa_up (xa_up (xa_up M101 51 x2 (M101 50 6)) 50 7 1) 50 5 (xa_w32 ((M101 50 5) + 1))) q j) (i18 : bk_N T e (xa_w32 ((M101 50 5) + 1)) (M102 50 6) (M102 50 7) (M102 50 5))
              have hTM102 : ∀ i, 0 ≤ i → i < 80 → M102 31 i = T i := fun i i0 i1 => (i17 31 i (by omega)).trans ((xa_up_ne (by omega)).trans ((xa_up_ne (by omega)).trans ((xa_up_ne (by omega)).trans (hTM101 i i0 i1))))
              have eM102 : M102 30 1 = M 30 1 := (i17 30 1 (by decide)).trans ((xa_up_ne (by omega)).trans ((xa_up_ne (by omega)).trans ((xa_up_ne (by omega)).trans (eM101))))
              have fM102 : ∀ q j, ¬ (q = 50 ∧ 4 ≤ j ∧ j ≤ 7) → ¬ ((q = 51 ∨ q = 52 ∨ q = 53) ∧ j = x2) → M102 q j = M q j := fun q j h1 h2 => (i17 q j (by omega)).trans ((xa_up_ne (by omega)).trans ((xa_up_ne (by omega)).trans ((xa_up_ne (by omega)).trans (fM101 q j h1 h2))))
              have nM102 := bk_N_b i18
              have wM102 : xa_w32 ((M102 50 5) + 1) = (M102 50 5) + 1 := xa_w32_id (by omega) (by omega)
              have v1_of_M102 : M102 51 x2 = M101 50 6 := (i17 51 x2 (by omega)).trans (by simp [xa_up])
              show xa_C (xl_I b) A h0 _ 18 [(2, 52, 0, 0, 0), (0, 0, 0, 7, x2), (0, 0, (-2147483648), 2147483647, M102 50 6)] M102 _
              refine cx_18_52 (show 0 ≤ x2 ∧ x2 < 8 by omega) ?_
              show xa_C (xl_I b) A h0 _ 18 [(2, 53, 0, 0, 0), (0, 0, 0, 7, x2), (0, 0, 0, 0, 0)] (xa_up M102 52 x2 (M102 50 6)) _
              refine cx_18_53 (show 0 ≤ x2 ∧ x2 < 8 by omega) ?_
              refine And.intro ?_ ?_
              · intro (c19 : (M102 50 7) = 0)
                show post none (xa_up (xa_up (xa_up M102 52 x2 (M102 50 6)) 53 x2 0) 50 4 (x2 + 1))
                have w1 : xa_w32 ((M101 50 5) + 1) = (M101 50 5) + 1 := xa_w32_id (by omega) (by omega)
                rw [w1] at i17 i18
                have tM101 := hTM101 (M101 50 5)
                have tM102 := hTM102 (M102 50 5)
                refine k _ (fun q j h1 h2 => ?_) ?_ ?_
                · exact (xa_up_ne (by omega)).trans ((xa_up_ne (by omega)).trans ((xa_up_ne (by omega)).trans (fM102 q j h1 h2)))
                · show bk_L T e (M 50 5) (M102 50 7) ((xa_up (xa_up (xa_up M102 52 x2 (M102 50 6)) 53 x2 0) 50 4 (x2 + 1)) 51 x2) ((xa_up (xa_up (xa_up M102 52 x2 (M102 50 6)) 53 x2 0) 50 4 (x2 + 1)) 52 x2) ((xa_up (xa_up (xa_up M102 52 x2 (M102 50 6)) 53 x2 0) 50 4 (x2 + 1)) 53 x2) (M102 50 5)
                  have v1 : (xa_up (xa_up (xa_up M102 52 x2 (M102 50 6)) 53 x2 0) 50 4 (x2 + 1)) 51 x2 = M101 50 6 := (xa_up_ne (by omega)).trans ((xa_up_ne (by omega)).trans ((xa_up_ne (by omega)).trans (v1_of_M102)))
                  have v2 : (xa_up (xa_up (xa_up M102 52 x2 (M102 50 6)) 53 x2 0) 50 4 (x2 + 1)) 52 x2 = M102 50 6 := (xa_up_ne (by omega)).trans ((xa_up_ne (by omega)).trans (xa_up_eq))
                  have v3 : (xa_up (xa_up (xa_up M102 52 x2 (M102 50 6)) 53 x2 0) 50 4 (x2 + 1)) 53 x2 = 0 := (xa_up_ne (by omega)).trans (xa_up_eq)
                  rw [v1, v2, v3]
                  exact ⟨_, _, _, i2, Or.inr (Or.inr ⟨by omega, by omega, by omega, _, _, _, i18, by omega⟩)⟩
                · show x2 + 1 = x2 + 1
                  rfl
              · intro (c19 : ¬ (M102 50 7) = 0)
                refine And.intro ?_ ?_
                · intro (c20 : e ≤ (M102 50 5))
                  show post none (xa_up (xa_up (xa_up M102 52 x2 (M102 50 6)) 53 x2 0) 50 4 (x2 + 1))
                  have w1 : xa_w32 ((M101 50 5) + 1) = (M101 50 5) + 1 := xa_w32_id (by omega) (by omega)
                  rw [w1] at i17 i18
                  have tM101 := hTM101 (M101 50 5)
                  have tM102 := hTM102 (M102 50 5)
                  refine k _ (fun q j h1 h2 => ?_) ?_ ?_
                  · exact (xa_up_ne (by omega)).trans ((xa_up_ne (by omega)).trans ((xa_up_ne (by omega)).trans (fM102 q j h1 h2)))
                  · show bk_L T e (M 50 5) (M102 50 7) ((xa_up (xa_up (xa_up M102 52 x2 (M102 50 6)) 53 x2 0) 50 4 (x2 + 1)) 51 x2) ((xa_up (xa_up (xa_up M102 52 x2 (M102 50 6)) 53 x2 0) 50 4 (x2 + 1)) 52 x2) ((xa_up (xa_up (xa_up M102 52 x2 (M102 50 6)) 53 x2 0) 50 4 (x2 + 1)) 53 x2) (M102 50 5)
                    have v1 : (xa_up (xa_up (xa_up M102 52 x2 (M102 50 6)) 53 x2 0) 50 4 (x2 + 1)) 51 x2 = M101 50 6 := (xa_up_ne (by omega)).trans ((xa_up_ne (by omega)).trans ((xa_up_ne (by omega)).trans (v1_of_M102)))
                    have v2 : (xa_up (xa_up (xa_up M102 52 x2 (M102 50 6)) 53 x2 0) 50 4 (x2 + 1)) 52 x2 = M102 50 6 := (xa_up_ne (by omega)).trans ((xa_up_ne (by omega)).trans (xa_up_eq))
                    have v3 : (xa_up (xa_up (xa_up M102 52 x2 (M102 50 6)) 53 x2 0) 50 4 (x2 + 1)) 53 x2 = 0 := (xa_up_ne (by omega)).trans (xa_up_eq)
                    rw [v1, v2, v3]
                    exact ⟨_, _, _, i2, Or.inr (Or.inr ⟨by omega, by omega, by omega, _, _, _, i18, by omega⟩)⟩
                  · show x2 + 1 = x2 + 1
                    rfl
                · intro (c20 : (M102 50 5) < e)
                  show xa_C (xl_I b) A h0 _ 120 [(2, 30, 0, 0, 0), (0, 0, (-2147483648), 2147483647, M102 50 5)] (xa_up (xa_up M102 52 x2 (M102 50 6)) 53 x2 0) _
                  refine cg_120 (show 0 ≤ (M102 30 1) ∧ (M102 30 1) ≤ 80 by omega) ?_ ?_
                  · intro (i21 : (0 ≤ (M102 50 5) ∧ (M102 50 5) < (M102 30 1)) ∧ 97 ≤ M102 31 (M102 50 5) ∧ M102 31 (M102 50 5) ≤ 122)
                    show xa_C (xl_I b) A h0 _ 119 [(2, 30, 0, 0, 0), (0, 0, (-2147483648), 2147483647, M102 50 5)] (xa_up (xa_up M102 52 x2 (M102 50 6)) 53 x2 0) _
                    refine cg_119 (show 0 ≤ (M102 30 1) ∧ (M102 30 1) ≤ 80 by omega) ?_ ?_
                    · intro (i22 : 0 ≤ (M102 50 5) ∧ (M102 50 5) < (M102 30 1))
                      show xa_C (xl_I b) A h0 _ 18 [(2, 53, 0, 0, 0), (0, 0, 0, 7, x2), (0, 0, (-2147483648), 2147483647, M102 31 (M102 50 5))] (xa_up (xa_up M102 52 x2 (M102 50 6)) 53 x2 0) _
                      refine cx_18_53 (show 0 ≤ x2 ∧ x2 < 8 by omega) ?_
                      show post none (xa_up (xa_up (xa_up (xa_up (xa_up M102 52 x2 (M102 50 6)) 53 x2 0) 53 x2 (M102 31 (M102 50 5))) 50 5 (xa_w32 ((M102 50 5) + 1))) 50 4 (x2 + 1))
                      have w1 : xa_w32 ((M101 50 5) + 1) = (M101 50 5) + 1 := xa_w32_id (by omega) (by omega)
                      rw [w1] at i17 i18
                      have w2 : xa_w32 ((M102 50 5) + 1) = (M102 50 5) + 1 := xa_w32_id (by omega) (by omega)
                      have tM101 := hTM101 (M101 50 5)
                      have tM102 := hTM102 (M102 50 5)
                      refine k _ (fun q j h1 h2 => ?_) ?_ ?_
                      · exact (xa_up_ne (by omega)).trans ((xa_up_ne (by omega)).trans ((xa_up_ne (by omega)).trans ((xa_up_ne (by omega)).trans ((xa_up_ne (by omega)).trans (fM102 q j h1 h2)))))
                      · show bk_L T e (M 50 5) (M102 50 7) ((xa_up (xa_up (xa_up (xa_up (xa_up M102 52 x2 (M102 50 6)) 53 x2 0) 53 x2 (M102 31 (M102 50 5))) 50 5 (xa_w32 ((M102 50 5) + 1))) 50 4 (x2 + 1)) 51 x2) ((xa_up (xa_up (xa_up (xa_up (xa_up M102 52 x2 (M102 50 6)) 53 x2 0) 53 x2 (M102 31 (M102 50 5))) 50 5 (xa_w32 ((M102 50 5) + 1))) 50 4 (x2 + 1)) 52 x2) ((xa_up (xa_up (xa_up (xa_up (xa_up M102 52 x2 (M102 50 6)) 53 x2 0) 53 x2 (M102 31 (M102 50 5))) 50 5 (xa_w32 ((M102 50 5) + 1))) 50 4 (x2 + 1)) 53 x2) (xa_w32 ((M102 50 5) + 1))
                        have v1 : (xa_up (xa_up (xa_up (xa_up (xa_up M102 52 x2 (M102 50 6)) 53 x2 0) 53 x2 (M102 31 (M102 50 5))) 50 5 (xa_w32 ((M102 50 5) + 1))) 50 4 (x2 + 1)) 51 x2 = M101 50 6 := (xa_up_ne (by omega)).trans ((xa_up_ne (by omega)).trans ((xa_up_ne (by omega)).trans ((xa_up_ne (by omega)).trans ((xa_up_ne (by omega)).trans (v1_of_M102)))))
                        have v2 : (xa_up (xa_up (xa_up (xa_up (xa_up M102 52 x2 (M102 50 6)) 53 x2 0) 53 x2 (M102 31 (M102 50 5))) 50 5 (xa_w32 ((M102 50 5) + 1))) 50 4 (x2 + 1)) 52 x2 = M102 50 6 := (xa_up_ne (by omega)).trans ((xa_up_ne (by omega)).trans ((xa_up_ne (by omega)).trans ((xa_up_ne (by omega)).trans (xa_up_eq))))
                        have v3 : (xa_up (xa_up (xa_up (xa_up (xa_up M102 52 x2 (M102 50 6)) 53 x2 0) 53 x2 (M102 31 (M102 50 5))) 50 5 (xa_w32 ((M102 50 5) + 1))) 50 4 (x2 + 1)) 53 x2 = M102 31 (M102 50 5) := (xa_up_ne (by omega)).trans ((xa_up_ne (by omega)).trans (xa_up_eq))
                        rw [v1, v2, v3]
                        exact ⟨_, _, _, i2, Or.inr (Or.inr ⟨by omega, by omega, by omega, _, _, _, i18, by omega⟩)⟩
                      · show x2 + 1 = x2 + 1
                        rfl
                    · intro (i23 : ¬ (0 ≤ (M102 50 5) ∧ (M102 50 5) < (M102 30 1)))
                      exfalso
                      omega
                  · intro (i24 : ¬ ((0 ≤ (M102 50 5) ∧ (M102 50 5) < (M102 30 1)) ∧ 97 ≤ M102 31 (M102 50 5) ∧ M102 31 (M102 50 5) ≤ 122))
                    show post none (xa_up (xa_up (xa_up M102 52 x2 (M102 50 6)) 53 x2 0) 50 4 (x2 + 1))
                    have w1 : xa_w32 ((M101 50 5) + 1) = (M101 50 5) + 1 := xa_w32_id (by omega) (by omega)
                    rw [w1] at i17 i18
                    have tM101 := hTM101 (M101 50 5)
                    have tM102 := hTM102 (M102 50 5)
                    refine k _ (fun q j h1 h2 => ?_) ?_ ?_
                    · exact (xa_up_ne (by omega)).trans ((xa_up_ne (by omega)).trans ((xa_up_ne (by omega)).trans (fM102 q j h1 h2)))
                    · show bk_L T e (M 50 5) (M102 50 7) ((xa_up (xa_up (xa_up M102 52 x2 (M102 50 6)) 53 x2 0) 50 4 (x2 + 1)) 51 x2) ((xa_up (xa_up (xa_up M102 52 x2 (M102 50 6)) 53 x2 0) 50 4 (x2 + 1)) 52 x2) ((xa_up (xa_up (xa_up M102 52 x2 (M102 50 6)) 53 x2 0) 50 4 (x2 + 1)) 53 x2) (M102 50 5)
                      have v1 : (xa_up (xa_up (xa_up M102 52 x2 (M102 50 6)) 53 x2 0) 50 4 (x2 + 1)) 51 x2 = M101 50 6 := (xa_up_ne (by omega)).trans ((xa_up_ne (by omega)).trans ((xa_up_ne (by omega)).trans (v1_of_M102)))
                      have v2 : (xa_up (xa_up (xa_up M102 52 x2 (M102 50 6)) 53 x2 0) 50 4 (x2 + 1)) 52 x2 = M102 50 6 := (xa_up_ne (by omega)).trans ((xa_up_ne (by omega)).trans (xa_up_eq))
                      have v3 : (xa_up (xa_up (xa_up M102 52 x2 (M102 50 6)) 53 x2 0) 50 4 (x2 + 1)) 53 x2 = 0 := (xa_up_ne (by omega)).trans (xa_up_eq)
                      rw [v1, v2, v3]
                      exact ⟨_, _, _, i2, Or.inr (Or.inr ⟨by omega, by omega, by omega, _, _, _, i18, by omega⟩)⟩
                    · show x2 + 1 = x2 + 1
                      rfl
      · intro (i25 : ¬ (0 ≤ (M101 50 5) ∧ (M101 50 5) < (M101 30 1)))
        refine And.intro ?_ ?_
        · intro (c26 : 0 = 0)
          refine And.intro ?_ ?_
          · intro (c27 : 0 = 0)
            show xa_C (xl_I b) A h0 _ 18 [(2, 53, 0, 0, 0), (0, 0, 0, 7, x2), (0, 0, 0, 0, 0)] (xa_up (xa_up (xa_up M101 51 x2 (M101 50 6)) 50 7 0) 50 5 ((M101 50 5) + 0)) _
            refine cx_18_53 (show 0 ≤ x2 ∧ x2 < 8 by omega) ?_
            refine And.intro ?_ ?_
            · intro (c28 : 0 = 0)
              show post none (xa_up (xa_up (xa_up (xa_up (xa_up M101 51 x2 (M101 50 6)) 50 7 0) 50 5 ((M101 50 5) + 0)) 53 x2 0) 50 4 (x2 + 1))
              have tM101 := hTM101 (M101 50 5)
              refine k _ (fun q j h1 h2 => ?_) ?_ ?_
              · exact (xa_up_ne (by omega)).trans ((xa_up_ne (by omega)).trans ((xa_up_ne (by omega)).trans ((xa_up_ne (by omega)).trans ((xa_up_ne (by omega)).trans (fM101 q j h1 h2)))))
              · show bk_L T e (M 50 5) 0 ((xa_up (xa_up (xa_up (xa_up (xa_up M101 51 x2 (M101 50 6)) 50 7 0) 50 5 ((M101 50 5) + 0)) 53 x2 0) 50 4 (x2 + 1)) 51 x2) ((xa_up (xa_up (xa_up (xa_up (xa_up M101 51 x2 (M101 50 6)) 50 7 0) 50 5 ((M101 50 5) + 0)) 53 x2 0) 50 4 (x2 + 1)) 52 x2) ((xa_up (xa_up (xa_up (xa_up (xa_up M101 51 x2 (M101 50 6)) 50 7 0) 50 5 ((M101 50 5) + 0)) 53 x2 0) 50 4 (x2 + 1)) 53 x2) ((M101 50 5) + 0)
                exact ⟨_, _, _, i2, by omega⟩
              · show x2 + 1 = x2 + 1
                rfl
            · intro (c28 : ¬ 0 = 0)
              exfalso
              omega
          · intro (c27 : ¬ 0 = 0)
            exfalso
            omega
        · intro (c26 : ¬ 0 = 0)
          exfalso
          omega
theorem cx_18_56 {b : Bool} {A : Nat → Nat} {h0 : g_H} {d : Nat} {M : xa_M} {post : Option xa_V → xa_M → Prop} {l1 u1 l2 u2 : Int} {i v : Int} (h1 : 0 ≤ i ∧ i < 8) (k1 : post none (xa_up M 56 i v)) : xa_C (xl_I b) A h0 (d + 1) 18 [(2, 56, 0, 0, 0), (0, 0, l1, u1, i), (0, 0, l2, u2, v)] M post := by
  refine xa_C_arg [(2, 56, 0, 0, 0), (0, 0, (-2147483648), 2147483647, i), (0, 0, (-2147483648), 2147483647, v)] (xa_svR (xa_svI (fun _ _ _ _ => by omega) (xa_svI (fun _ _ _ _ => by omega) xa_sv0))) ?_
  refine xa_meth (Q0 := (3, 0, false, 0, 0, 11)) (by decide +kernel) ⟨rfl, rfl⟩ (full := s_c_18) rfl rfl ?_
  intro hM hv Q hgo
  refine hgo.1 15 [] 0 _ _ _ ?_
  refine And.intro ?_ ?_
  · intro (c1 : i < 0)
    show post none M
    exact absurd h1 (by omega)
  · intro (c1 : 0 ≤ i)
    refine And.intro ?_ ?_
    · intro (c2 : 8 ≤ i)
      show post none M
      exact absurd h1 (by omega)
    · intro (c2 : i < 8)
      refine And.intro (show 0 ≤ i ∧ i < 8 by omega) ?_
      show post none (xa_up M 56 i v)
      exact k1
theorem cx_18_58 {b : Bool} {A : Nat → Nat} {h0 : g_H} {d : Nat} {M : xa_M} {post : Option xa_V → xa_M → Prop} {l1 u1 l2 u2 : Int} {i v : Int} (h1 : 0 ≤ i ∧ i < 8) (k1 : post none (xa_up M 58 i v)) : xa_C (xl_I b) A h0 (d + 1) 18 [(2, 58, 0, 0, 0), (0, 0, l1, u1, i), (0, 0, l2, u2, v)] M post := by
  refine xa_C_arg [(2, 58, 0, 0, 0), (0, 0, (-2147483648), 2147483647, i), (0, 0, (-2147483648), 2147483647, v)] (xa_svR (xa_svI (fun _ _ _ _ => by omega) (xa_svI (fun _ _ _ _ => by omega) xa_sv0))) ?_
  refine xa_meth (Q0 := (3, 0, false, 0, 0, 11)) (by decide +kernel) ⟨rfl, rfl⟩ (full := s_c_18) rfl rfl ?_
  intro hM hv Q hgo
  refine hgo.1 15 [] 0 _ _ _ ?_
  refine And.intro ?_ ?_
  · intro (c1 : i < 0)
    show post none M
    exact absurd h1 (by omega)
  · intro (c1 : 0 ≤ i)
    refine And.intro ?_ ?_
    · intro (c2 : 8 ≤ i)
      show post none M
      exact absurd h1 (by omega)
    · intro (c2 : i < 8)
      refine And.intro (show 0 ≤ i ∧ i < 8 by omega) ?_
      show post none (xa_up M 58 i v)
      exact k1
theorem cx_18_57 {b : Bool} {A : Nat → Nat} {h0 : g_H} {d : Nat} {M : xa_M} {post : Option xa_V → xa_M → Prop} {l1 u1 l2 u2 : Int} {i v : Int} (h1 : 0 ≤ i ∧ i < 8) (k1 : post none (xa_up M 57 i v)) : xa_C (xl_I b) A h0 (d + 1) 18 [(2, 57, 0, 0, 0), (0, 0, l1, u1, i), (0, 0, l2, u2, v)] M post := by
  refine xa_C_arg [(2, 57, 0, 0, 0), (0, 0, (-2147483648), 2147483647, i), (0, 0, (-2147483648), 2147483647, v)] (xa_svR (xa_svI (fun _ _ _ _ => by omega) (xa_svI (fun _ _ _ _ => by omega) xa_sv0))) ?_
  refine xa_meth (Q0 := (3, 0, false, 0, 0, 11)) (by decide +kernel) ⟨rfl, rfl⟩ (full := s_c_18) rfl rfl ?_
  intro hM hv Q hgo
  refine hgo.1 15 [] 0 _ _ _ ?_
  refine And.intro ?_ ?_
  · intro (c1 : i < 0)
    show post none M
    exact absurd h1 (by omega)
  · intro (c1 : 0 ≤ i)
    refine And.intro ?_ ?_
    · intro (c2 : 8 ≤ i)
      show post none M
      exact absurd h1 (by omega)
    · intro (c2 : i < 8)
      refine And.intro (show 0 ≤ i ∧ i < 8 by omega) ?_
      show post none (xa_up M 57 i v)
      exact k1
theorem cx_116_55 {b : Bool} {A : Nat → Nat} {h0 : g_H} {d : Nat} {M : xa_M} {post : Option xa_V → xa_M → Prop} {T : Int → Int} {l1 u1 l2 u2 e x2 : Int} (hT : (∀ i, 0 ≤ i → i < 80 → M 31 i = T i)) (he : 0 ≤ e ∧ e ≤ 60 ∧ e ≤ M 30 1 ∧ M 30 1 ≤ 80) (hp : 0 ≤ M 55 5 ∧ M 55 5 ≤ e) (hx : 0 ≤ x2 ∧ x2 < 8) (k : ∀ M1 : xa_M, (∀ q j, ¬ (q = 55 ∧ 4 ≤ j ∧ j ≤ 7) → ¬ ((q = 56 ∨ q = 57 ∨ q = 58) ∧ j = x2) → M1 q j = M q j) → bk_L T e (M 55 5) (M1 55 7) (M1 56 x2) (M1 57 x2) (M1 58 x2) (M1 55 5) → M1 55 4 = x2 + 1 → post none M1) : xa_C (xl_I b) A h0 (d + 5) 116 [(2, 55, 0, 0, 0), (2, 30, 0, 0, 0), (0, 0, l1, u1, e), (0, 0, l2, u2, x2)] M post := by
  refine xa_C_arg [(2, 55, 0, 0, 0), (2, 30, 0, 0, 0), (0, 0, 0, 60, e), (0, 0, 0, 7, x2)] (xa_svR (xa_svR (xa_svI (fun _ _ _ _ => by omega) (xa_svI (fun _ _ _ _ => by omega) xa_sv0)))) ?_
  refine xa_meth (Q0 := (4, 0, false, 0, 0, 0)) (by decide +kernel) ⟨rfl, rfl⟩ (full := s_c_116) rfl rfl ?_
  intro hM hv Q hgo
  refine hgo.1 91 [] 0 _ _ _ ?_
  show xa_C (xl_I b) A h0 _ 117 [(2, 55, 0, 0, 0), (2, 30, 0, 0, 0), (0, 0, 0, 60, e)] M _
  refine cx_117_55 (fun i i0 i1 => (hT i i0 i1)) (show 0 ≤ e ∧ e ≤ 60 ∧ e ≤ (M 30 1) ∧ (M 30 1) ≤ 80 by omega) (show 0 ≤ (M 55 5) ∧ (M 55 5) ≤ e by omega) ?_
  intro M103 (i1 : ∀ q j, ¬ (q = 55 ∧ (j = 5 ∨ j = 6 ∨ j = 7)) → M103 q j = M q j) (i2 : bk_N T e (M 55 5) (M103 55 6) (M103 55 7) (M103 55 5))
  have hTM103 : ∀ i, 0 ≤ i → i < 80 → M103 31 i = T i := fun i i0 i1 => (i1 31 i (by omega)).trans (hT i i0 i1)
  have eM103 : M103 30 1 = M 30 1 := (i1 30 1 (by decide)).trans (rfl)
  have fM103 : ∀ q j, ¬ (q = 55 ∧ 4 ≤ j ∧ j ≤ 7) → ¬ ((q = 56 ∨ q = 57 ∨ q = 58) ∧ j = x2) → M103 q j = M q j := fun q j h1 h2 => (i1 q j (by omega)).trans (rfl)
  have nM103 := bk_N_b i2
  have wM103 : xa_w32 ((M103 55 5) + 1) = (M103 55 5) + 1 := xa_w32_id (by omega) (by omega)
  show xa_C (xl_I b) A h0 _ 18 [(2, 56, 0, 0, 0), (0, 0, 0, 7, x2), (0, 0, (-2147483648), 2147483647, M103 55 6)] M103 _
  refine cx_18_56 (show 0 ≤ x2 ∧ x2 < 8 by omega) ?_
  refine And.intro ?_ ?_
  · intro (c3 : (M103 55 7) = 0)
    refine And.intro ?_ ?_
    · intro (c4 : (M103 55 7) = 0)
      show xa_C (xl_I b) A h0 _ 18 [(2, 58, 0, 0, 0), (0, 0, 0, 7, x2), (0, 0, 0, 0, 0)] (xa_up M103 56 x2 (M103 55 6)) _
      refine cx_18_58 (show 0 ≤ x2 ∧ x2 < 8 by omega) ?_
      refine And.intro ?_ ?_
      · intro (c5 : (M103 55 7) = 0)
        show post none (xa_up (xa_up (xa_up M103 56 x2 (M103 55 6)) 58 x2 0) 55 4 (x2 + 1))
        have tM103 := hTM103 (M103 55 5)
        refine k _ (fun q j h1 h2 => ?_) ?_ ?_
        · exact (xa_up_ne (by omega)).trans ((xa_up_ne (by omega)).trans ((xa_up_ne (by omega)).trans (fM103 q j h1 h2)))
        · show bk_L T e (M 55 5) (M103 55 7) ((xa_up (xa_up (xa_up M103 56 x2 (M103 55 6)) 58 x2 0) 55 4 (x2 + 1)) 56 x2) ((xa_up (xa_up (xa_up M103 56 x2 (M103 55 6)) 58 x2 0) 55 4 (x2 + 1)) 57 x2) ((xa_up (xa_up (xa_up M103 56 x2 (M103 55 6)) 58 x2 0) 55 4 (x2 + 1)) 58 x2) (M103 55 5)
          exact ⟨_, _, _, i2, by omega⟩
        · show x2 + 1 = x2 + 1
          rfl
      · intro (c5 : ¬ (M103 55 7) = 0)
        exfalso
        omega
    · intro (c4 : ¬ (M103 55 7) = 0)
      exfalso
      omega
  · intro (c3 : ¬ (M103 55 7) = 0)
    refine And.intro ?_ ?_
    · intro (c6 : e ≤ (M103 55 5))
      refine And.intro ?_ ?_
      · intro (c7 : 0 = 0)
        refine And.intro ?_ ?_
        · intro (c8 : 0 = 0)
          show xa_C (xl_I b) A h0 _ 18 [(2, 58, 0, 0, 0), (0, 0, 0, 7, x2), (0, 0, 0, 0, 0)] (xa_up (xa_up (xa_up M103 56 x2 (M103 55 6)) 55 7 0) 55 5 ((M103 55 5) + 0)) _
          refine cx_18_58 (show 0 ≤ x2 ∧ x2 < 8 by omega) ?_
          refine And.intro ?_ ?_
          · intro (c9 : 0 = 0)
            show post none (xa_up (xa_up (xa_up (xa_up (xa_up M103 56 x2 (M103 55 6)) 55 7 0) 55 5 ((M103 55 5) + 0)) 58 x2 0) 55 4 (x2 + 1))
            have tM103 := hTM103 (M103 55 5)
            refine k _ (fun q j h1 h2 => ?_) ?_ ?_
            · exact (xa_up_ne (by omega)).trans ((xa_up_ne (by omega)).trans ((xa_up_ne (by omega)).trans ((xa_up_ne (by omega)).trans ((xa_up_ne (by omega)).trans (fM103 q j h1 h2)))))
            · show bk_L T e (M 55 5) 0 ((xa_up (xa_up (xa_up (xa_up (xa_up M103 56 x2 (M103 55 6)) 55 7 0) 55 5 ((M103 55 5) + 0)) 58 x2 0) 55 4 (x2 + 1)) 56 x2) ((xa_up (xa_up (xa_up (xa_up (xa_up M103 56 x2 (M103 55 6)) 55 7 0) 55 5 ((M103 55 5) + 0)) 58 x2 0) 55 4 (x2 + 1)) 57 x2) ((xa_up (xa_up (xa_up (xa_up (xa_up M103 56 x2 (M103 55 6)) 55 7 0) 55 5 ((M103 55 5) + 0)) 58 x2 0) 55 4 (x2 + 1)) 58 x2) ((M103 55 5) + 0)
              exact ⟨_, _, _, i2, by omega⟩
            · show x2 + 1 = x2 + 1
              rfl
          · intro (c9 : ¬ 0 = 0)
            exfalso
            omega
        · intro (c8 : ¬ 0 = 0)
          exfalso
          omega
      · intro (c7 : ¬ 0 = 0)
        exfalso
        omega
    · intro (c6 : (M103 55 5) < e)
      show xa_C (xl_I b) A h0 _ 119 [(2, 30, 0, 0, 0), (0, 0, (-2147483648), 2147483647, M103 55 5)] (xa_up M103 56 x2 (M103 55 6)) _
      refine cg_119 (show 0 ≤ (M103 30 1) ∧ (M103 30 1) ≤ 80 by omega) ?_ ?_
      · intro (i10 : 0 ≤ (M103 55 5) ∧ (M103 55 5) < (M103 30 1))
        refine And.intro ?_ ?_
        · intro (c11 : ¬ (M103 31 (M103 55 5)) = 58)
          refine And.intro ?_ ?_
          · intro (c12 : 0 = 0)
            refine And.intro ?_ ?_
            · intro (c13 : 0 = 0)
              show xa_C (xl_I b) A h0 _ 18 [(2, 58, 0, 0, 0), (0, 0, 0, 7, x2), (0, 0, 0, 0, 0)] (xa_up (xa_up (xa_up M103 56 x2 (M103 55 6)) 55 7 0) 55 5 ((M103 55 5) + 0)) _
              refine cx_18_58 (show 0 ≤ x2 ∧ x2 < 8 by omega) ?_
              refine And.intro ?_ ?_
              · intro (c14 : 0 = 0)
                show post none (xa_up (xa_up (xa_up (xa_up (xa_up M103 56 x2 (M103 55 6)) 55 7 0) 55 5 ((M103 55 5) + 0)) 58 x2 0) 55 4 (x2 + 1))
                have tM103 := hTM103 (M103 55 5)
                refine k _ (fun q j h1 h2 => ?_) ?_ ?_
                · exact (xa_up_ne (by omega)).trans ((xa_up_ne (by omega)).trans ((xa_up_ne (by omega)).trans ((xa_up_ne (by omega)).trans ((xa_up_ne (by omega)).trans (fM103 q j h1 h2)))))
                · show bk_L T e (M 55 5) 0 ((xa_up (xa_up (xa_up (xa_up (xa_up M103 56 x2 (M103 55 6)) 55 7 0) 55 5 ((M103 55 5) + 0)) 58 x2 0) 55 4 (x2 + 1)) 56 x2) ((xa_up (xa_up (xa_up (xa_up (xa_up M103 56 x2 (M103 55 6)) 55 7 0) 55 5 ((M103 55 5) + 0)) 58 x2 0) 55 4 (x2 + 1)) 57 x2) ((xa_up (xa_up (xa_up (xa_up (xa_up M103 56 x2 (M103 55 6)) 55 7 0) 55 5 ((M103 55 5) + 0)) 58 x2 0) 55 4 (x2 + 1)) 58 x2) ((M103 55 5) + 0)
                  exact ⟨_, _, _, i2, by omega⟩
                · show x2 + 1 = x2 + 1
                  rfl
              · intro (c14 : ¬ 0 = 0)
                exfalso
                omega
            · intro (c13 : ¬ 0 = 0)
              exfalso
              omega
          · intro (c12 : ¬ 0 = 0)
            exfalso
            omega
        · intro (c11 : (M103 31 (M103 55 5)) = 58)
          refine And.intro ?_ ?_
          · intro (c15 : 1 = 0)
            exfalso
            omega
          · intro (c15 : ¬ 1 = 0)
            refine And.intro ?_ ?_
            · intro (c16 : 1 = 0)
              exfalso
              omega
            · intro (c16 : ¬ 1 = 0)
              show xa_C (xl_I b) A h0 _ 117 [(2, 55, 0, 0, 0), (2, 30, 0, 0, 0), (0, 0, 0, 60, e)] (xa_up (xa_up (xa_up M103 56 x2 (M103 55 6)) 55 7 1) 55 5 (xa_w32 ((M103 55 5) + 1))) _
              refine cx_117_55 (fun i i0 i1 => (xa_up_ne (by omega)).trans ((xa_up_ne (by omega)).trans ((xa_up_ne (by omega)).trans ((hTM103 i i0 i1))))) (show 0 ≤ e ∧ e ≤ 60 ∧ e ≤ (M103 30 1) ∧ (M103 30 1) ≤ 80 by omega) (show 0 ≤ (xa_w32 ((M103 55 5) + 1)) ∧ (xa_w32 ((M103 55 5) + 1)) ≤ e by omega) ?_
              intro M104 (i17 : ∀ q j, ¬ (q = 55 ∧ (j = 5 ∨ j = 6 ∨ j = 7)) → M104 q j = (xa_up (xa_up (xa_up M103 56 x2 (M103 55 6)) 55 7 1) 55 5 (xa_w32 ((M103 55 5) + 1))) q j) (i18 : bk_N T e (xa_w32 ((M103 55 5) + 1)) (M104 55 6) (M104 55 7) (M104 55 5))
              have hTM104 : ∀ i, 0 ≤ i → i < 80 → M104 31 i = T i := fun i i0 i1 => (i17 31 i (by omega)).trans ((xa_up_ne (by omega)).trans ((xa_up_ne (by omega)).trans ((xa_up_ne (by omega)).trans (hTM103 i i0 i1))))
              have eM104 : M104 30 1 = M 30 1 := (i17 30 1 (by decide)).trans ((xa_up_ne (by omega)).trans ((xa_up_ne (by omega)).trans ((xa_up_ne (by omega)).trans (eM103))))
              have fM104 : ∀ q j, ¬ (q = 55 ∧ 4 ≤ j ∧ j ≤ 7) → ¬ ((q = 56 ∨ q = 57 ∨ q = 58) ∧ j = x2) → M104 q j = M q j := fun q j h1 h2 => (i17 q j (by omega)).trans ((xa_up_ne (by omega)).trans ((xa_up_ne (by omega)).trans ((xa_up_ne (by omega)).trans (fM103 q j h1 h2))))
              have nM104 := bk_N_b i18
              have wM104 : xa_w32 ((M104 55 5) + 1) = (M104 55 5) + 1 := xa_w32_id (by omega) (by omega)
              have v1_of_M104 : M104 56 x2 = M103 55 6 := (i17 56 x2 (by omega)).trans (by simp [xa_up])
              show xa_C (xl_I b) A h0 _ 18 [(2, 57, 0, 0, 0), (0, 0, 0, 7, x2), (0, 0, (-2147483648), 2147483647, M104 55 6)] M104 _
              refine cx_18_57 (show 0 ≤ x2 ∧ x2 < 8 by omega) ?_
              show xa_C (xl_I b) A h0 _ 18 [(2, 58, 0, 0, 0), (0, 0, 0, 7, x2), (0, 0, 0, 0, 0)] (xa_up M104 57 x2 (M104 55 6)) _
              refine cx_18_58 (show 0 ≤ x2 ∧ x2 < 8 by omega) ?_
              refine And.intro ?_ ?_
              · intro (c19 : (M104 55 7) = 0)
                show post none (xa_up (xa_up (xa_up M104 57 x2 (M104 55 6)) 58 x2 0) 55 4 (x2 + 1))
                have w1 : xa_w32 ((M103 55 5) + 1) = (M103 55 5) + 1 := xa_w32_id (by omega) (by omega)
                rw [w1] at i17 i18
                have tM103 := hTM103 (M103 55 5)
                have tM104 := hTM104 (M104 55 5)
                refine k _ (fun q j h1 h2 => ?_) ?_ ?_
                · exact (xa_up_ne (by omega)).trans ((xa_up_ne (by omega)).trans ((xa_up_ne (by omega)).trans (fM104 q j h1 h2)))
                · show bk_L T e (M 55 5) (M104 55 7) ((xa_up (xa_up (xa_up M104 57 x2 (M104 55 6)) 58 x2 0) 55 4 (x2 + 1)) 56 x2) ((xa_up (xa_up (xa_up M104 57 x2 (M104 55 6)) 58 x2 0) 55 4 (x2 + 1)) 57 x2) ((xa_up (xa_up (xa_up M104 57 x2 (M104 55 6)) 58 x2 0) 55 4 (x2 + 1)) 58 x2) (M104 55 5)
                  have v1 : (xa_up (xa_up (xa_up M104 57 x2 (M104 55 6)) 58 x2 0) 55 4 (x2 + 1)) 56 x2 = M103 55 6 := (xa_up_ne (by omega)).trans ((xa_up_ne (by omega)).trans ((xa_up_ne (by omega)).trans (v1_of_M104)))
                  have v2 : (xa_up (xa_up (xa_up M104 57 x2 (M104 55 6)) 58 x2 0) 55 4 (x2 + 1)) 57 x2 = M104 55 6 := (xa_up_ne (by omega)).trans ((xa_up_ne (by omega)).trans (xa_up_eq))
                  have v3 : (xa_up (xa_up (xa_up M104 57 x2 (M104 55 6)) 58 x2 0) 55 4 (x2 + 1)) 58 x2 = 0 := (xa_up_ne (by omega)).trans (xa_up_eq)
                  rw [v1, v2, v3]
                  exact ⟨_, _, _, i2, Or.inr (Or.inr ⟨by omega, by omega, by omega, _, _, _, i18, by omega⟩)⟩
                · show x2 + 1 = x2 + 1
                  rfl
              · intro (c19 : ¬ (M104 55 7) = 0)
                refine And.intro ?_ ?_
                · intro (c20 : e ≤ (M104 55 5))
                  show post none (xa_up (xa_up (xa_up M104 57 x2 (M104 55 6)) 58 x2 0) 55 4 (x2 + 1))
                  have w1 : xa_w32 ((M103 55 5) + 1) = (M103 55 5) + 1 := xa_w32_id (by omega) (by omega)
                  rw [w1] at i17 i18
                  have tM103 := hTM103 (M103 55 5)
                  have tM104 := hTM104 (M104 55 5)
                  refine k _ (fun q j h1 h2 => ?_) ?_ ?_
                  · exact (xa_up_ne (by omega)).trans ((xa_up_ne (by omega)).trans ((xa_up_ne (by omega)).trans (fM104 q j h1 h2)))
                  · show bk_L T e (M 55 5) (M104 55 7) ((xa_up (xa_up (xa_up M104 57 x2 (M104 55 6)) 58 x2 0) 55 4 (x2 + 1)) 56 x2) ((xa_up (xa_up (xa_up M104 57 x2 (M104 55 6)) 58 x2 0) 55 4 (x2 + 1)) 57 x2) ((xa_up (xa_up (xa_up M104 57 x2 (M104 55 6)) 58 x2 0) 55 4 (x2 + 1)) 58 x2) (M104 55 5)
                    have v1 : (xa_up (xa_up (xa_up M104 57 x2 (M104 55 6)) 58 x2 0) 55 4 (x2 + 1)) 56 x2 = M103 55 6 := (xa_up_ne (by omega)).trans ((xa_up_ne (by omega)).trans ((xa_up_ne (by omega)).trans (v1_of_M104)))
                    have v2 : (xa_up (xa_up (xa_up M104 57 x2 (M104 55 6)) 58 x2 0) 55 4 (x2 + 1)) 57 x2 = M104 55 6 := (xa_up_ne (by omega)).trans ((xa_up_ne (by omega)).trans (xa_up_eq))
                    have v3 : (xa_up (xa_up (xa_up M104 57 x2 (M104 55 6)) 58 x2 0) 55 4 (x2 + 1)) 58 x2 = 0 := (xa_up_ne (by omega)).trans (xa_up_eq)
                    rw [v1, v2, v3]
                    exact ⟨_, _, _, i2, Or.inr (Or.inr ⟨by omega, by omega, by omega, _, _, _, i18, by omega⟩)⟩
                  · show x2 + 1 = x2 + 1
                    rfl
                · intro (c20 : (M104 55 5) < e)
                  show xa_C (xl_I b) A h0 _ 120 [(2, 30, 0, 0, 0), (0, 0, (-2147483648), 2147483647, M104 55 5)] (xa_up (xa_up M104 57 x2 (M104 55 6)) 58 x2 0) _
                  refine cg_120 (show 0 ≤ (M104 30 1) ∧ (M104 30 1) ≤ 80 by omega) ?_ ?_
                  · intro (i21 : (0 ≤ (M104 55 5) ∧ (M104 55 5) < (M104 30 1)) ∧ 97 ≤ M104 31 (M104 55 5) ∧ M104 31 (M104 55 5) ≤ 122)
                    show xa_C (xl_I b) A h0 _ 119 [(2, 30, 0, 0, 0), (0, 0, (-2147483648), 2147483647, M104 55 5)] (xa_up (xa_up M104 57 x2 (M104 55 6)) 58 x2 0) _
                    refine cg_119 (show 0 ≤ (M104 30 1) ∧ (M104 30 1) ≤ 80 by omega) ?_ ?_
                    · intro (i22 : 0 ≤ (M104 55 5) ∧ (M104 55 5) < (M104 30 1))
                      show xa_C (xl_I b) A h0 _ 18 [(2, 58, 0, 0, 0), (0, 0, 0, 7, x2), (0, 0, (-2147483648), 2147483647, M104 31 (M104 55 5))] (xa_up (xa_up M104 57 x2 (M104 55 6)) 58 x2 0) _
                      refine cx_18_58 (show 0 ≤ x2 ∧ x2 < 8 by omega) ?_
                      show post none (xa_up (xa_up (xa_up (xa_up (xa_up M104 57 x2 (M104 55 6)) 58 x2 0) 58 x2 (M104 31 (M104 55 5))) 55 5 (xa_w32 ((M104 55 5) + 1))) 55 4 (x2 + 1))
                      have w1 : xa_w32 ((M103 55 5) + 1) = (M103 55 5) + 1 := xa_w32_id (by omega) (by omega)
                      rw [w1] at i17 i18
                      have w2 : xa_w32 ((M104 55 5) + 1) = (M104 55 5) + 1 := xa_w32_id (by omega) (by omega)
                      have tM103 := hTM103 (M103 55 5)
                      have tM104 := hTM104 (M104 55 5)
                      refine k _ (fun q j h1 h2 => ?_) ?_ ?_
                      · exact (xa_up_ne (by omega)).trans ((xa_up_ne (by omega)).trans ((xa_up_ne (by omega)).trans ((xa_up_ne (by omega)).trans ((xa_up_ne (by omega)).trans (fM104 q j h1 h2)))))
                      · show bk_L T e (M 55 5) (M104 55 7) ((xa_up (xa_up (xa_up (xa_up (xa_up M104 57 x2 (M104 55 6)) 58 x2 0) 58 x2 (M104 31 (M104 55 5))) 55 5 (xa_w32 ((M104 55 5) + 1))) 55 4 (x2 + 1)) 56 x2) ((xa_up (xa_up (xa_up (xa_up (xa_up M104 57 x2 (M104 55 6)) 58 x2 0) 58 x2 (M104 31 (M104 55 5))) 55 5 (xa_w32 ((M104 55 5) + 1))) 55 4 (x2 + 1)) 57 x2) ((xa_up (xa_up (xa_up (xa_up (xa_up M104 57 x2 (M104 55 6)) 58 x2 0) 58 x2 (M104 31 (M104 55 5))) 55 5 (xa_w32 ((M104 55 5) + 1))) 55 4 (x2 + 1)) 58 x2) (xa_w32 ((M104 55 5) + 1))
                        have v1 : (xa_up (xa_up (xa_up (xa_up (xa_up M104 57 x2 (M104 55 6)) 58 x2 0) 58 x2 (M104 31 (M104 55 5))) 55 5 (xa_w32 ((M104 55 5) + 1))) 55 4 (x2 + 1)) 56 x2 = M103 55 6 := (xa_up_ne (by omega)).trans ((xa_up_ne (by omega)).trans ((xa_up_ne (by omega)).trans ((xa_up_ne (by omega)).trans ((xa_up_ne (by omega)).trans (v1_of_M104)))))
                        have v2 : (xa_up (xa_up (xa_up (xa_up (xa_up M104 57 x2 (M104 55 6)) 58 x2 0) 58 x2 (M104 31 (M104 55 5))) 55 5 (xa_w32 ((M104 55 5) + 1))) 55 4 (x2 + 1)) 57 x2 = M104 55 6 := (xa_up_ne (by omega)).trans ((xa_up_ne (by omega)).trans ((xa_up_ne (by omega)).trans ((xa_up_ne (by omega)).trans (xa_up_eq))))
                        have v3 : (xa_up (xa_up (xa_up (xa_up (xa_up M104 57 x2 (M104 55 6)) 58 x2 0) 58 x2 (M104 31 (M104 55 5))) 55 5 (xa_w32 ((M104 55 5) + 1))) 55 4 (x2 + 1)) 58 x2 = M104 31 (M104 55 5) := (xa_up_ne (by omega)).trans ((xa_up_ne (by omega)).trans (xa_up_eq))
                        rw [v1, v2, v3]
                        exact ⟨_, _, _, i2, Or.inr (Or.inr ⟨by omega, by omega, by omega, _, _, _, i18, by omega⟩)⟩
                      · show x2 + 1 = x2 + 1
                        rfl
                    · intro (i23 : ¬ (0 ≤ (M104 55 5) ∧ (M104 55 5) < (M104 30 1)))
                      exfalso
                      omega
                  · intro (i24 : ¬ ((0 ≤ (M104 55 5) ∧ (M104 55 5) < (M104 30 1)) ∧ 97 ≤ M104 31 (M104 55 5) ∧ M104 31 (M104 55 5) ≤ 122))
                    show post none (xa_up (xa_up (xa_up M104 57 x2 (M104 55 6)) 58 x2 0) 55 4 (x2 + 1))
                    have w1 : xa_w32 ((M103 55 5) + 1) = (M103 55 5) + 1 := xa_w32_id (by omega) (by omega)
                    rw [w1] at i17 i18
                    have tM103 := hTM103 (M103 55 5)
                    have tM104 := hTM104 (M104 55 5)
                    refine k _ (fun q j h1 h2 => ?_) ?_ ?_
                    · exact (xa_up_ne (by omega)).trans ((xa_up_ne (by omega)).trans ((xa_up_ne (by omega)).trans (fM104 q j h1 h2)))
                    · show bk_L T e (M 55 5) (M104 55 7) ((xa_up (xa_up (xa_up M104 57 x2 (M104 55 6)) 58 x2 0) 55 4 (x2 + 1)) 56 x2) ((xa_up (xa_up (xa_up M104 57 x2 (M104 55 6)) 58 x2 0) 55 4 (x2 + 1)) 57 x2) ((xa_up (xa_up (xa_up M104 57 x2 (M104 55 6)) 58 x2 0) 55 4 (x2 + 1)) 58 x2) (M104 55 5)
                      have v1 : (xa_up (xa_up (xa_up M104 57 x2 (M104 55 6)) 58 x2 0) 55 4 (x2 + 1)) 56 x2 = M103 55 6 := (xa_up_ne (by omega)).trans ((xa_up_ne (by omega)).trans ((xa_up_ne (by omega)).trans (v1_of_M104)))
                      have v2 : (xa_up (xa_up (xa_up M104 57 x2 (M104 55 6)) 58 x2 0) 55 4 (x2 + 1)) 57 x2 = M104 55 6 := (xa_up_ne (by omega)).trans ((xa_up_ne (by omega)).trans (xa_up_eq))
                      have v3 : (xa_up (xa_up (xa_up M104 57 x2 (M104 55 6)) 58 x2 0) 55 4 (x2 + 1)) 58 x2 = 0 := (xa_up_ne (by omega)).trans (xa_up_eq)
                      rw [v1, v2, v3]
                      exact ⟨_, _, _, i2, Or.inr (Or.inr ⟨by omega, by omega, by omega, _, _, _, i18, by omega⟩)⟩
                    · show x2 + 1 = x2 + 1
                      rfl
      · intro (i25 : ¬ (0 ≤ (M103 55 5) ∧ (M103 55 5) < (M103 30 1)))
        refine And.intro ?_ ?_
        · intro (c26 : 0 = 0)
          refine And.intro ?_ ?_
          · intro (c27 : 0 = 0)
            show xa_C (xl_I b) A h0 _ 18 [(2, 58, 0, 0, 0), (0, 0, 0, 7, x2), (0, 0, 0, 0, 0)] (xa_up (xa_up (xa_up M103 56 x2 (M103 55 6)) 55 7 0) 55 5 ((M103 55 5) + 0)) _
            refine cx_18_58 (show 0 ≤ x2 ∧ x2 < 8 by omega) ?_
            refine And.intro ?_ ?_
            · intro (c28 : 0 = 0)
              show post none (xa_up (xa_up (xa_up (xa_up (xa_up M103 56 x2 (M103 55 6)) 55 7 0) 55 5 ((M103 55 5) + 0)) 58 x2 0) 55 4 (x2 + 1))
              have tM103 := hTM103 (M103 55 5)
              refine k _ (fun q j h1 h2 => ?_) ?_ ?_
              · exact (xa_up_ne (by omega)).trans ((xa_up_ne (by omega)).trans ((xa_up_ne (by omega)).trans ((xa_up_ne (by omega)).trans ((xa_up_ne (by omega)).trans (fM103 q j h1 h2)))))
              · show bk_L T e (M 55 5) 0 ((xa_up (xa_up (xa_up (xa_up (xa_up M103 56 x2 (M103 55 6)) 55 7 0) 55 5 ((M103 55 5) + 0)) 58 x2 0) 55 4 (x2 + 1)) 56 x2) ((xa_up (xa_up (xa_up (xa_up (xa_up M103 56 x2 (M103 55 6)) 55 7 0) 55 5 ((M103 55 5) + 0)) 58 x2 0) 55 4 (x2 + 1)) 57 x2) ((xa_up (xa_up (xa_up (xa_up (xa_up M103 56 x2 (M103 55 6)) 55 7 0) 55 5 ((M103 55 5) + 0)) 58 x2 0) 55 4 (x2 + 1)) 58 x2) ((M103 55 5) + 0)
                exact ⟨_, _, _, i2, by omega⟩
              · show x2 + 1 = x2 + 1
                rfl
            · intro (c28 : ¬ 0 = 0)
              exfalso
              omega
          · intro (c27 : ¬ 0 = 0)
            exfalso
            omega
        · intro (c26 : ¬ 0 = 0)
          exfalso
          omega
-- reading
set_option maxRecDepth 20000
theorem cx_32 {b : Bool} {A : Nat → Nat} {h0 : g_H} {d : Nat} {M : xa_M} {post : Option xa_V → xa_M → Prop} {l0 u0 l1 u1 : Int} {x1 x2 : Int} (k1 : (x2 < x1) → post (some (0, 0, (-2147483648), 2147483647, x2)) M) (k2 : (x1 ≤ x2) → post (some (0, 0, (-2147483648), 2147483647, x1)) M) : xa_C (xl_I b) A h0 (d + 1) 32 [(0, 0, l0, u0, x1), (0, 0, l1, u1, x2)] M post := by
  refine xa_C_arg [(0, 0, (-2147483648), 2147483647, x1), (0, 0, (-2147483648), 2147483647, x2)] (xa_svI (fun _ _ _ _ => by omega) (xa_svI (fun _ _ _ _ => by omega) (xa_sv0))) ?_
  refine xa_meth (Q0 := (2, 1, false, 0, 0, 14)) (by decide +kernel) ⟨rfl, rfl⟩ (full := s_c_32) rfl rfl ?_
  intro hM hv Q hgo
  refine hgo.1 10 [] 0 _ _ _ ?_
  refine And.intro ?_ ?_
  · intro (c1 : x2 < x1)
    show post (some (0, 0, (-2147483648), 2147483647, x2)) M
    exact k1 c1
  · intro (c1 : x1 ≤ x2)
    show post (some (0, 0, (-2147483648), 2147483647, x1)) M
    exact k2 c1
theorem cx_115_50 {b : Bool} {A : Nat → Nat} {h0 : g_H} {d : Nat} {M : xa_M} {post : Option xa_V → xa_M → Prop} {T : Int → Int} (hT : (∀ i, 0 ≤ i → i < 80 → M 31 i = T i)) (hz : 0 ≤ M 30 1 ∧ M 30 1 ≤ 80) (k : ∀ (r : Int) (M1 : xa_M), (∀ q j, ¬ (q = 50 ∧ 4 ≤ j ∧ j ≤ 7) → ¬ (q = 51 ∨ q = 52 ∨ q = 53) → M1 q j = M q j) → bk_R T (M 30 1) r (M1 51) (M1 52) (M1 53) → (0 ≤ r → M1 50 4 = r) → post (some (0, 0, (-2147483648), 2147483647, r)) M1) : xa_C (xl_I b) A h0 (d + 6) 115 [(2, 50, 0, 0, 0), (2, 30, 0, 0, 0)] M post := by
  refine xa_C_wk ?_
  refine xa_meth (Q0 := (5, 1, false, 0, 0, 0)) (by decide +kernel) ⟨rfl, rfl⟩ (full := s_c_115) rfl rfl ?_
  intro hM hv Q hgo
  have loop : ∀ (e : Int), (1 ≤ e ∧ e ≤ 60 ∧ e ≤ M 30 1) → e = (if M 30 1 ≤ 60 then M 30 1 else 60) → ∀ (n : Nat) (x4 x3 : Int) (M1 : xa_M), 0 ≤ x4 → x4 ≤ 8 → 0 ≤ x3 ∧ x3 ≤ 1 → (∀ q j, ¬ (q = 50 ∧ 4 ≤ j ∧ j ≤ 7) → ¬ (q = 51 ∨ q = 52 ∨ q = 53) → M1 q j = M q j) → (x3 = 1 → x4 ≤ 7) → (x3 = 1 → 0 ≤ M1 50 5 ∧ M1 50 5 ≤ e) → (x3 = 1 → (∀ (ans : Int) (U W N : Int → Int), (∀ i, 0 ≤ i → i < x4 → U i = M1 51 i ∧ W i = M1 52 i ∧ N i = M1 53 i) → bk_B T e (M 30 1) ans U W N (8 - x4).toNat x4 (M1 50 5) → bk_B T e (M 30 1) ans U W N 8 0 0)) → (x3 = 0 → ∃ ans, bk_B T e (M 30 1) ans (M1 51) (M1 52) (M1 53) 8 0 0 ∧ (0 ≤ M1 50 5 ∧ M1 50 5 ≤ 100) ∧ ((M1 50 7 = 1 ∧ M 30 1 ≤ 60 ∧ ans = M1 50 4 ∧ 0 ≤ ans) ∨ (¬ (M1 50 7 = 1 ∧ M 30 1 ≤ 60) ∧ ans = -1 - M1 50 5 ∧ ans < 0))) → 8 - x4 < (n : Int) → Q 34 [(3, (0, 0, 0, 1, x3)), (4, (0, 0, 0, 8, x4)), (2, (0, 0, 1, 60, e)), (0, (2, 50, 0, 0, 0)), (1, (2, 30, 0, 0, 0))] [] M1 := by
    intro e he3 he4 n
    induction n with
    | zero => intro x4 x3 M1 i0 i1 i2 hk hA0 hA1 hA hB hms; omega
    | succ n ih =>
      intro x4 x3 M1 i0 i1 i2 hk hA0 hA1 hA hB hms
      have e30 : M1 30 1 = M 30 1 := hk 30 1 (by omega) (by omega)
      have hT1 : (∀ i, 0 ≤ i → i < 80 → M1 31 i = T i) := fun i i0 i1 => (hk 31 i (by omega) (by omega)).trans (hT i i0 i1)
      refine hgo.1 57 [34] 34 _ _ _ ?_
      refine And.intro ?_ ?_
      · intro (c1 : 8 ≤ x4)
        refine And.intro ?_ ?_
        · intro (c2 : (M1 50 7) = 0)
          show xa_wk post (some (0, 0, (-2147483648), 2147483647, (-1) - (M1 50 5))) M1
          obtain ⟨ans, hB1, hB2, hB3⟩ := hB (by omega)
          have w1 : xa_w32 ((-1) - (M1 50 5)) = (-1) - (M1 50 5) := xa_w32_id (by omega) (by omega)
          exact xa_wkI ans (by omega) (fun _ _ => by omega) (k ans _ hk (Or.inr ⟨by omega, by rw [← he4]; exact hB1⟩) (fun h => by omega))
        · intro (c2 : ¬ (M1 50 7) = 0)
          refine And.intro ?_ ?_
          · intro (c3 : 60 < (M1 30 1))
            show xa_wk post (some (0, 0, (-2147483648), 2147483647, (-1) - (M1 50 5))) M1
            obtain ⟨ans, hB1, hB2, hB3⟩ := hB (by omega)
            have w1 : xa_w32 ((-1) - (M1 50 5)) = (-1) - (M1 50 5) := xa_w32_id (by omega) (by omega)
            exact xa_wkI ans (by omega) (fun _ _ => by omega) (k ans _ hk (Or.inr ⟨by omega, by rw [← he4]; exact hB1⟩) (fun h => by omega))
          · intro (c3 : (M1 30 1) ≤ 60)
            show xa_wk post (some (0, 0, (-2147483648), 2147483647, M1 50 4)) M1
            obtain ⟨ans, hB1, hB2, hB3⟩ := hB (by omega)
            have w1 : xa_w32 ((-1) - (M1 50 5)) = (-1) - (M1 50 5) := xa_w32_id (by omega) (by omega)
            exact xa_wkI ans (by omega) (fun _ _ => by omega) (k ans _ hk (Or.inr ⟨by omega, by rw [← he4]; exact hB1⟩) (fun h => by omega))
      · intro (c1 : x4 < 8)
        refine And.intro ?_ ?_
        · intro (c4 : x3 = 0)
          refine And.intro ?_ ?_
          · intro (c5 : (M1 50 7) = 0)
            show xa_wk post (some (0, 0, (-2147483648), 2147483647, (-1) - (M1 50 5))) M1
            obtain ⟨ans, hB1, hB2, hB3⟩ := hB (by omega)
            have w1 : xa_w32 ((-1) - (M1 50 5)) = (-1) - (M1 50 5) := xa_w32_id (by omega) (by omega)
            exact xa_wkI ans (by omega) (fun _ _ => by omega) (k ans _ hk (Or.inr ⟨by omega, by rw [← he4]; exact hB1⟩) (fun h => by omega))
          · intro (c5 : ¬ (M1 50 7) = 0)
            refine And.intro ?_ ?_
            · intro (c6 : 60 < (M1 30 1))
              show xa_wk post (some (0, 0, (-2147483648), 2147483647, (-1) - (M1 50 5))) M1
              obtain ⟨ans, hB1, hB2, hB3⟩ := hB (by omega)
              have w1 : xa_w32 ((-1) - (M1 50 5)) = (-1) - (M1 50 5) := xa_w32_id (by omega) (by omega)
              exact xa_wkI ans (by omega) (fun _ _ => by omega) (k ans _ hk (Or.inr ⟨by omega, by rw [← he4]; exact hB1⟩) (fun h => by omega))
            · intro (c6 : (M1 30 1) ≤ 60)
              show xa_wk post (some (0, 0, (-2147483648), 2147483647, M1 50 4)) M1
              obtain ⟨ans, hB1, hB2, hB3⟩ := hB (by omega)
              have w1 : xa_w32 ((-1) - (M1 50 5)) = (-1) - (M1 50 5) := xa_w32_id (by omega) (by omega)
              exact xa_wkI ans (by omega) (fun _ _ => by omega) (k ans _ hk (Or.inr ⟨by omega, by rw [← he4]; exact hB1⟩) (fun h => by omega))
        · intro (c4 : ¬ x3 = 0)
          have hA2 := hA (by omega)
          have hA3 := hA1 (by omega)
          show xa_C (xl_I b) A h0 _ 116 [(2, 50, 0, 0, 0), (2, 30, 0, 0, 0), (0, 0, 1, 60, e), (0, 0, 0, 8, x4)] M1 _
          refine cx_116_50 hT1 (show 0 ≤ e ∧ e ≤ 60 ∧ e ≤ (M1 30 1) ∧ (M1 30 1) ≤ 80 by omega) (show 0 ≤ (M1 50 5) ∧ (M1 50 5) ≤ e by omega) (show 0 ≤ x4 ∧ x4 < 8 by omega) ?_
          intro M105 (i7 : ∀ q j, ¬ (q = 50 ∧ 4 ≤ j ∧ j ≤ 7) → ¬ ((q = 51 ∨ q = 52 ∨ q = 53) ∧ j = x4) → M105 q j = M1 q j) (i8 : bk_L T e (M1 50 5) (M105 50 7) (M105 51 x4) (M105 52 x4) (M105 53 x4) (M105 50 5)) (i9 : M105 50 4 = x4 + 1)
          have hTX : ∀ i, 0 ≤ i → i < 80 → M105 31 i = T i := fun i i0 i1 => (i7 31 i (by omega) (by omega)).trans (hT1 i i0 i1)
          have eX : M105 30 1 = M 30 1 := (i7 30 1 (by omega) (by omega)).trans e30
          have fX : ∀ q j, ¬ (q = 50 ∧ 4 ≤ j ∧ j ≤ 7) → ¬ (q = 51 ∨ q = 52 ∨ q = 53) → M105 q j = M q j := fun q j h1 h2 => (i7 q j h1 (by omega)).trans (hk q j h1 h2)
          have gX : ∀ i, 0 ≤ i → i < x4 → M105 51 i = M1 51 i ∧ M105 52 i = M1 52 i ∧ M105 53 i = M1 53 i := fun i i0 i1 => ⟨i7 51 i (by omega) (by omega), i7 52 i (by omega) (by omega), i7 53 i (by omega) (by omega)⟩
          have lX := bk_L_b i8 (by omega)
          have tX := hTX (M105 50 5)
          have wX : xa_w32 ((M105 50 5) + 1) = (M105 50 5) + 1 := xa_w32_id (by omega) (by omega)
          refine And.intro ?_ ?_
          · intro (c10 : (M105 50 7) = 0)
            show Q 34 [(4, (0, 0, 1, 9, x4 + 1)), (3, (0, 0, 0, 0, 0)), (2, (0, 0, 1, 60, e)), (0, (2, 50, 0, 0, 0)), (1, (2, 30, 0, 0, 0))] [] M105
            have hBB : ∃ ans, bk_B T e (M 30 1) ans (M105 51) (M105 52) (M105 53) 8 0 0 ∧ ((M105 50 7 = 1 ∧ ¬ M105 50 5 < e ∧ M 30 1 ≤ 60 ∧ ans = x4 + 1) ∨ (¬ (M105 50 7 = 1 ∧ ¬ M105 50 5 < e ∧ M 30 1 ≤ 60) ∧ ans = -1 - M105 50 5)) := by
              by_cases z9 : M105 50 7 = 1 ∧ ¬ M105 50 5 < e ∧ M 30 1 ≤ 60
              · exact ⟨x4 + 1, bk_B_end (by omega) (by omega) hA2 gX i8 (Or.inr ⟨z9.1, Or.inr (Or.inl ⟨z9.2.1, z9.2.2, rfl⟩)⟩), Or.inl ⟨z9.1, z9.2.1, z9.2.2, rfl⟩⟩
              · exact ⟨-1 - M105 50 5, bk_B_end (by omega) (by omega) hA2 gX i8 (by omega), Or.inr ⟨z9, rfl⟩⟩
            obtain ⟨ans, hB1, hB2⟩ := hBB
            refine hgo.2.1 34 _ [(3, (0, 0, 0, 1, 0)), (4, (0, 0, 0, 8, x4 + 1)), (2, (0, 0, 1, 60, e)), (0, (2, 50, 0, 0, 0)), (1, (2, 30, 0, 0, 0))] _ _ (xa_subI rfl rfl (fun _ _ _ _ => by omega) (xa_subI rfl rfl (fun _ _ _ _ => by omega) (xa_subI rfl rfl (fun _ _ _ _ => by omega) (xa_subR rfl (xa_subR rfl (xa_sub0)))))) ?_
            refine ih (x4 + 1) 0 _ (by omega) (by omega) (by omega) (fun q j h1 h2 => fX q j h1 h2) (fun h => by omega) (fun h => by omega) (fun h => absurd h (by omega)) (fun _ => ⟨ans, hB1, ?_⟩) (by omega)
            show (0 ≤ (M105 50 5) ∧ (M105 50 5) ≤ 100) ∧ (((M105 50 7) = 1 ∧ M 30 1 ≤ 60 ∧ ans = (M105 50 4) ∧ 0 ≤ ans) ∨ (¬ ((M105 50 7) = 1 ∧ M 30 1 ≤ 60) ∧ ans = -1 - (M105 50 5) ∧ ans < 0))
            omega
          · intro (c10 : ¬ (M105 50 7) = 0)
            refine And.intro ?_ ?_
            · intro (c11 : e ≤ (M105 50 5))
              show Q 34 [(4, (0, 0, 1, 9, x4 + 1)), (3, (0, 0, 0, 0, 0)), (2, (0, 0, 1, 60, e)), (0, (2, 50, 0, 0, 0)), (1, (2, 30, 0, 0, 0))] [] M105
              have hBB : ∃ ans, bk_B T e (M 30 1) ans (M105 51) (M105 52) (M105 53) 8 0 0 ∧ ((M105 50 7 = 1 ∧ ¬ M105 50 5 < e ∧ M 30 1 ≤ 60 ∧ ans = x4 + 1) ∨ (¬ (M105 50 7 = 1 ∧ ¬ M105 50 5 < e ∧ M 30 1 ≤ 60) ∧ ans = -1 - M105 50 5)) := by
                by_cases z9 : M105 50 7 = 1 ∧ ¬ M105 50 5 < e ∧ M 30 1 ≤ 60
                · exact ⟨x4 + 1, bk_B_end (by omega) (by omega) hA2 gX i8 (Or.inr ⟨z9.1, Or.inr (Or.inl ⟨z9.2.1, z9.2.2, rfl⟩)⟩), Or.inl ⟨z9.1, z9.2.1, z9.2.2, rfl⟩⟩
                · exact ⟨-1 - M105 50 5, bk_B_end (by omega) (by omega) hA2 gX i8 (by omega), Or.inr ⟨z9, rfl⟩⟩
              obtain ⟨ans, hB1, hB2⟩ := hBB
              refine hgo.2.1 34 _ [(3, (0, 0, 0, 1, 0)), (4, (0, 0, 0, 8, x4 + 1)), (2, (0, 0, 1, 60, e)), (0, (2, 50, 0, 0, 0)), (1, (2, 30, 0, 0, 0))] _ _ (xa_subI rfl rfl (fun _ _ _ _ => by omega) (xa_subI rfl rfl (fun _ _ _ _ => by omega) (xa_subI rfl rfl (fun _ _ _ _ => by omega) (xa_subR rfl (xa_subR rfl (xa_sub0)))))) ?_
              refine ih (x4 + 1) 0 _ (by omega) (by omega) (by omega) (fun q j h1 h2 => fX q j h1 h2) (fun h => by omega) (fun h => by omega) (fun h => absurd h (by omega)) (fun _ => ⟨ans, hB1, ?_⟩) (by omega)
              show (0 ≤ (M105 50 5) ∧ (M105 50 5) ≤ 100) ∧ (((M105 50 7) = 1 ∧ M 30 1 ≤ 60 ∧ ans = (M105 50 4) ∧ 0 ≤ ans) ∨ (¬ ((M105 50 7) = 1 ∧ M 30 1 ≤ 60) ∧ ans = -1 - (M105 50 5) ∧ ans < 0))
              omega
            · intro (c11 : (M105 50 5) < e)
              show xa_C (xl_I b) A h0 _ 119 [(2, 30, 0, 0, 0), (0, 0, (-2147483648), 2147483647, M105 50 5)] M105 _
              refine cg_119 (show 0 ≤ (M105 30 1) ∧ (M105 30 1) ≤ 80 by omega) ?_ ?_
              · intro (i12 : 0 ≤ (M105 50 5) ∧ (M105 50 5) < (M105 30 1))
                refine And.intro ?_ ?_
                · intro (c13 : ¬ (M105 31 (M105 50 5)) = 59)
                  refine And.intro ?_ ?_
                  · intro (c14 : 0 = 0)
                    show Q 34 [(4, (0, 0, 1, 9, x4 + 1)), (3, (0, 0, 0, 1, 0)), (2, (0, 0, 1, 60, e)), (0, (2, 50, 0, 0, 0)), (1, (2, 30, 0, 0, 0))] [] (xa_up (xa_up M105 50 7 0) 50 5 ((M105 50 5) + 0))
                    have hBB : ∃ ans, bk_B T e (M 30 1) ans (M105 51) (M105 52) (M105 53) 8 0 0 ∧ ((M105 50 7 = 1 ∧ ¬ M105 50 5 < e ∧ M 30 1 ≤ 60 ∧ ans = x4 + 1) ∨ (¬ (M105 50 7 = 1 ∧ ¬ M105 50 5 < e ∧ M 30 1 ≤ 60) ∧ ans = -1 - M105 50 5)) := by
                      by_cases z9 : M105 50 7 = 1 ∧ ¬ M105 50 5 < e ∧ M 30 1 ≤ 60
                      · exact ⟨x4 + 1, bk_B_end (by omega) (by omega) hA2 gX i8 (Or.inr ⟨z9.1, Or.inr (Or.inl ⟨z9.2.1, z9.2.2, rfl⟩)⟩), Or.inl ⟨z9.1, z9.2.1, z9.2.2, rfl⟩⟩
                      · exact ⟨-1 - M105 50 5, bk_B_end (by omega) (by omega) hA2 gX i8 (by omega), Or.inr ⟨z9, rfl⟩⟩
                    obtain ⟨ans, hB1, hB2⟩ := hBB
                    have a1 : (xa_up (xa_up M105 50 7 0) 50 5 ((M105 50 5) + 0)) 51 = M105 51 := funext (fun j => (xa_up_ne (by omega)).trans (xa_up_ne (by omega)))
                    have a2 : (xa_up (xa_up M105 50 7 0) 50 5 ((M105 50 5) + 0)) 52 = M105 52 := funext (fun j => (xa_up_ne (by omega)).trans (xa_up_ne (by omega)))
                    have a3 : (xa_up (xa_up M105 50 7 0) 50 5 ((M105 50 5) + 0)) 53 = M105 53 := funext (fun j => (xa_up_ne (by omega)).trans (xa_up_ne (by omega)))
                    refine hgo.2.1 34 _ [(3, (0, 0, 0, 1, 0)), (4, (0, 0, 0, 8, x4 + 1)), (2, (0, 0, 1, 60, e)), (0, (2, 50, 0, 0, 0)), (1, (2, 30, 0, 0, 0))] _ _ (xa_subI rfl rfl (fun _ _ _ _ => by omega) (xa_subI rfl rfl (fun _ _ _ _ => by omega) (xa_subI rfl rfl (fun _ _ _ _ => by omega) (xa_subR rfl (xa_subR rfl (xa_sub0)))))) ?_
                    refine ih (x4 + 1) 0 _ (by omega) (by omega) (by omega) (fun q j h1 h2 => (xa_up_ne (by omega)).trans ((xa_up_ne (by omega)).trans (fX q j h1 h2))) (fun h => by omega) (fun h => by omega) (fun h => absurd h (by omega)) (fun _ => ⟨ans, by rw [a1, a2, a3]; exact hB1, ?_⟩) (by omega)
                    show (0 ≤ ((M105 50 5) + 0) ∧ ((M105 50 5) + 0) ≤ 100) ∧ ((0 = 1 ∧ M 30 1 ≤ 60 ∧ ans = (M105 50 4) ∧ 0 ≤ ans) ∨ (¬ (0 = 1 ∧ M 30 1 ≤ 60) ∧ ans = -1 - ((M105 50 5) + 0) ∧ ans < 0))
                    omega
                  · intro (c14 : ¬ 0 = 0)
                    exfalso
                    omega
                · intro (c13 : (M105 31 (M105 50 5)) = 59)
                  refine And.intro ?_ ?_
                  · intro (c15 : 8 ≤ (x4 + 1))
                    refine And.intro ?_ ?_
                    · intro (c16 : 0 = 0)
                      show Q 34 [(4, (0, 0, 1, 9, x4 + 1)), (3, (0, 0, 0, 1, 0)), (2, (0, 0, 1, 60, e)), (0, (2, 50, 0, 0, 0)), (1, (2, 30, 0, 0, 0))] [] (xa_up (xa_up M105 50 7 0) 50 5 ((M105 50 5) + 0))
                      have hBB : ∃ ans, bk_B T e (M 30 1) ans (M105 51) (M105 52) (M105 53) 8 0 0 ∧ ((M105 50 7 = 1 ∧ ¬ M105 50 5 < e ∧ M 30 1 ≤ 60 ∧ ans = x4 + 1) ∨ (¬ (M105 50 7 = 1 ∧ ¬ M105 50 5 < e ∧ M 30 1 ≤ 60) ∧ ans = -1 - M105 50 5)) := by
                        by_cases z9 : M105 50 7 = 1 ∧ ¬ M105 50 5 < e ∧ M 30 1 ≤ 60
                        · exact ⟨x4 + 1, bk_B_end (by omega) (by omega) hA2 gX i8 (Or.inr ⟨z9.1, Or.inr (Or.inl ⟨z9.2.1, z9.2.2, rfl⟩)⟩), Or.inl ⟨z9.1, z9.2.1, z9.2.2, rfl⟩⟩
                        · exact ⟨-1 - M105 50 5, bk_B_end (by omega) (by omega) hA2 gX i8 (by omega), Or.inr ⟨z9, rfl⟩⟩
                      obtain ⟨ans, hB1, hB2⟩ := hBB
                      have a1 : (xa_up (xa_up M105 50 7 0) 50 5 ((M105 50 5) + 0)) 51 = M105 51 := funext (fun j => (xa_up_ne (by omega)).trans (xa_up_ne (by omega)))
                      have a2 : (xa_up (xa_up M105 50 7 0) 50 5 ((M105 50 5) + 0)) 52 = M105 52 := funext (fun j => (xa_up_ne (by omega)).trans (xa_up_ne (by omega)))
                      have a3 : (xa_up (xa_up M105 50 7 0) 50 5 ((M105 50 5) + 0)) 53 = M105 53 := funext (fun j => (xa_up_ne (by omega)).trans (xa_up_ne (by omega)))
                      refine hgo.2.1 34 _ [(3, (0, 0, 0, 1, 0)), (4, (0, 0, 0, 8, x4 + 1)), (2, (0, 0, 1, 60, e)), (0, (2, 50, 0, 0, 0)), (1, (2, 30, 0, 0, 0))] _ _ (xa_subI rfl rfl (fun _ _ _ _ => by omega) (xa_subI rfl rfl (fun _ _ _ _ => by omega) (xa_subI rfl rfl (fun _ _ _ _ => by omega) (xa_subR rfl (xa_subR rfl (xa_sub0)))))) ?_
                      refine ih (x4 + 1) 0 _ (by omega) (by omega) (by omega) (fun q j h1 h2 => (xa_up_ne (by omega)).trans ((xa_up_ne (by omega)).trans (fX q j h1 h2))) (fun h => by omega) (fun h => by omega) (fun h => absurd h (by omega)) (fun _ => ⟨ans, by rw [a1, a2, a3]; exact hB1, ?_⟩) (by omega)
                      show (0 ≤ ((M105 50 5) + 0) ∧ ((M105 50 5) + 0) ≤ 100) ∧ ((0 = 1 ∧ M 30 1 ≤ 60 ∧ ans = (M105 50 4) ∧ 0 ≤ ans) ∨ (¬ (0 = 1 ∧ M 30 1 ≤ 60) ∧ ans = -1 - ((M105 50 5) + 0) ∧ ans < 0))
                      omega
                    · intro (c16 : ¬ 0 = 0)
                      exfalso
                      omega
                  · intro (c15 : (x4 + 1) < 8)
                    refine And.intro ?_ ?_
                    · intro (c17 : 1 = 0)
                      exfalso
                      omega
                    · intro (c17 : ¬ 1 = 0)
                      show Q 34 [(4, (0, 0, 1, 9, x4 + 1)), (3, (0, 0, 0, 1, 1)), (2, (0, 0, 1, 60, e)), (0, (2, 50, 0, 0, 0)), (1, (2, 30, 0, 0, 0))] [] (xa_up (xa_up M105 50 7 1) 50 5 (xa_w32 ((M105 50 5) + 1)))
                      have ok1 : M105 50 7 = 1 := by omega
                      rw [ok1] at i8
                      have nx := bk_B_next (by omega) (by omega) hA2 gX i8 (by omega) (by omega)
                      have a1 : (xa_up (xa_up M105 50 7 1) 50 5 (xa_w32 ((M105 50 5) + 1))) 51 = M105 51 := funext (fun j => (xa_up_ne (by omega)).trans (xa_up_ne (by omega)))
                      have a2 : (xa_up (xa_up M105 50 7 1) 50 5 (xa_w32 ((M105 50 5) + 1))) 52 = M105 52 := funext (fun j => (xa_up_ne (by omega)).trans (xa_up_ne (by omega)))
                      have a3 : (xa_up (xa_up M105 50 7 1) 50 5 (xa_w32 ((M105 50 5) + 1))) 53 = M105 53 := funext (fun j => (xa_up_ne (by omega)).trans (xa_up_ne (by omega)))
                      have a5 : (xa_up (xa_up M105 50 7 1) 50 5 (xa_w32 ((M105 50 5) + 1))) 50 5 = M105 50 5 + 1 := wX
                      refine hgo.2.1 34 _ [(3, (0, 0, 0, 1, 1)), (4, (0, 0, 0, 8, x4 + 1)), (2, (0, 0, 1, 60, e)), (0, (2, 50, 0, 0, 0)), (1, (2, 30, 0, 0, 0))] _ _ (xa_subI rfl rfl (fun _ _ _ _ => by omega) (xa_subI rfl rfl (fun _ _ _ _ => by omega) (xa_subI rfl rfl (fun _ _ _ _ => by omega) (xa_subR rfl (xa_subR rfl (xa_sub0)))))) ?_
                      exact ih (x4 + 1) 1 _ (by omega) (by omega) (by omega) (fun q j h1 h2 => (xa_up_ne (by omega)).trans ((xa_up_ne (by omega)).trans (fX q j h1 h2))) (fun h => by omega) (fun _ => by rw [a5]; omega) (fun _ => by rw [a1, a2, a3, a5]; exact nx) (fun h => absurd h (by omega)) (by omega)
              · intro (i18 : ¬ (0 ≤ (M105 50 5) ∧ (M105 50 5) < (M105 30 1)))
                refine And.intro ?_ ?_
                · intro (c19 : 0 = 0)
                  show Q 34 [(4, (0, 0, 1, 9, x4 + 1)), (3, (0, 0, 0, 1, 0)), (2, (0, 0, 1, 60, e)), (0, (2, 50, 0, 0, 0)), (1, (2, 30, 0, 0, 0))] [] (xa_up (xa_up M105 50 7 0) 50 5 ((M105 50 5) + 0))
                  have hBB : ∃ ans, bk_B T e (M 30 1) ans (M105 51) (M105 52) (M105 53) 8 0 0 ∧ ((M105 50 7 = 1 ∧ ¬ M105 50 5 < e ∧ M 30 1 ≤ 60 ∧ ans = x4 + 1) ∨ (¬ (M105 50 7 = 1 ∧ ¬ M105 50 5 < e ∧ M 30 1 ≤ 60) ∧ ans = -1 - M105 50 5)) := by
                    by_cases z9 : M105 50 7 = 1 ∧ ¬ M105 50 5 < e ∧ M 30 1 ≤ 60
                    · exact ⟨x4 + 1, bk_B_end (by omega) (by omega) hA2 gX i8 (Or.inr ⟨z9.1, Or.inr (Or.inl ⟨z9.2.1, z9.2.2, rfl⟩)⟩), Or.inl ⟨z9.1, z9.2.1, z9.2.2, rfl⟩⟩
                    · exact ⟨-1 - M105 50 5, bk_B_end (by omega) (by omega) hA2 gX i8 (by omega), Or.inr ⟨z9, rfl⟩⟩
                  obtain ⟨ans, hB1, hB2⟩ := hBB
                  have a1 : (xa_up (xa_up M105 50 7 0) 50 5 ((M105 50 5) + 0)) 51 = M105 51 := funext (fun j => (xa_up_ne (by omega)).trans (xa_up_ne (by omega)))
                  have a2 : (xa_up (xa_up M105 50 7 0) 50 5 ((M105 50 5) + 0)) 52 = M105 52 := funext (fun j => (xa_up_ne (by omega)).trans (xa_up_ne (by omega)))
                  have a3 : (xa_up (xa_up M105 50 7 0) 50 5 ((M105 50 5) + 0)) 53 = M105 53 := funext (fun j => (xa_up_ne (by omega)).trans (xa_up_ne (by omega)))
                  refine hgo.2.1 34 _ [(3, (0, 0, 0, 1, 0)), (4, (0, 0, 0, 8, x4 + 1)), (2, (0, 0, 1, 60, e)), (0, (2, 50, 0, 0, 0)), (1, (2, 30, 0, 0, 0))] _ _ (xa_subI rfl rfl (fun _ _ _ _ => by omega) (xa_subI rfl rfl (fun _ _ _ _ => by omega) (xa_subI rfl rfl (fun _ _ _ _ => by omega) (xa_subR rfl (xa_subR rfl (xa_sub0)))))) ?_
                  refine ih (x4 + 1) 0 _ (by omega) (by omega) (by omega) (fun q j h1 h2 => (xa_up_ne (by omega)).trans ((xa_up_ne (by omega)).trans (fX q j h1 h2))) (fun h => by omega) (fun h => by omega) (fun h => absurd h (by omega)) (fun _ => ⟨ans, by rw [a1, a2, a3]; exact hB1, ?_⟩) (by omega)
                  show (0 ≤ ((M105 50 5) + 0) ∧ ((M105 50 5) + 0) ≤ 100) ∧ ((0 = 1 ∧ M 30 1 ≤ 60 ∧ ans = (M105 50 4) ∧ 0 ≤ ans) ∨ (¬ (0 = 1 ∧ M 30 1 ≤ 60) ∧ ans = -1 - ((M105 50 5) + 0) ∧ ans < 0))
                  omega
                · intro (c19 : ¬ 0 = 0)
                  exfalso
                  omega

  refine hgo.1 23 [34] 0 _ _ _ ?_
  refine And.intro ?_ ?_
  · intro (c1 : ¬ (M 30 1) = 0)
    show xa_C (xl_I b) A h0 _ 32 [(0, 0, (-2147483648), 2147483647, M 30 1), (0, 0, 60, 60, 60)] (xa_up (xa_up M 50 4 0) 50 5 0) _
    refine cx_32 ?_ ?_
    · intro (i2 : 60 < (M 30 1))
      show Q 34 [(4, (0, 0, 0, 0, 0)), (3, (0, 0, 1, 1, 1)), (2, (0, 0, (-2147483648), 2147483647, 60)), (0, (2, 50, 0, 0, 0)), (1, (2, 30, 0, 0, 0))] [] (xa_up (xa_up M 50 4 0) 50 5 0)
      refine hgo.2.1 34 _ [(3, (0, 0, 0, 1, 1)), (4, (0, 0, 0, 8, 0)), (2, (0, 0, 1, 60, 60)), (0, (2, 50, 0, 0, 0)), (1, (2, 30, 0, 0, 0))] _ _ (xa_subI rfl rfl (fun _ _ _ _ => by omega) (xa_subI rfl rfl (fun _ _ _ _ => by omega) (xa_subI rfl rfl (fun _ _ _ _ => by omega) (xa_subR rfl (xa_subR rfl (xa_sub0)))))) ?_
      exact loop 60 (by omega) (by split <;> omega) 9 0 1 _ (by omega) (by omega) (by omega) (fun q j h1 h2 => (xa_up_ne (by omega)).trans (xa_up_ne (by omega))) (fun _ => by omega) (fun _ => by show (0 : Int) ≤ 0 ∧ (0 : Int) ≤ 60; omega) (fun _ ans U W N _ hB => hB) (fun h => absurd h (by omega)) (by omega)
    · intro (i3 : (M 30 1) ≤ 60)
      show Q 34 [(4, (0, 0, 0, 0, 0)), (3, (0, 0, 1, 1, 1)), (2, (0, 0, (-2147483648), 2147483647, M 30 1)), (0, (2, 50, 0, 0, 0)), (1, (2, 30, 0, 0, 0))] [] (xa_up (xa_up M 50 4 0) 50 5 0)
      refine hgo.2.1 34 _ [(3, (0, 0, 0, 1, 1)), (4, (0, 0, 0, 8, 0)), (2, (0, 0, 1, 60, M 30 1)), (0, (2, 50, 0, 0, 0)), (1, (2, 30, 0, 0, 0))] _ _ (xa_subI rfl rfl (fun _ _ _ _ => by omega) (xa_subI rfl rfl (fun _ _ _ _ => by omega) (xa_subI rfl rfl (fun _ _ _ _ => by omega) (xa_subR rfl (xa_subR rfl (xa_sub0)))))) ?_
      exact loop (M 30 1) (by omega) (by split <;> omega) 9 0 1 _ (by omega) (by omega) (by omega) (fun q j h1 h2 => (xa_up_ne (by omega)).trans (xa_up_ne (by omega))) (fun _ => by omega) (fun _ => by show (0 : Int) ≤ 0 ∧ (0 : Int) ≤ (M 30 1); omega) (fun _ ans U W N _ hB => hB) (fun h => absurd h (by omega)) (by omega)
  · intro (c1 : (M 30 1) = 0)
    show xa_wk post (some (0, 0, 0, 0, 0)) (xa_up (xa_up M 50 4 0) 50 5 0)
    exact xa_wkI 0 rfl (fun _ _ => by omega) (k 0 _ (fun q j h1 h2 => (xa_up_ne (by omega)).trans (xa_up_ne (by omega))) (Or.inl ⟨by omega, rfl⟩) (fun _ => rfl))
theorem cx_115_55 {b : Bool} {A : Nat → Nat} {h0 : g_H} {d : Nat} {M : xa_M} {post : Option xa_V → xa_M → Prop} {T : Int → Int} (hT : (∀ i, 0 ≤ i → i < 80 → M 31 i = T i)) (hz : 0 ≤ M 30 1 ∧ M 30 1 ≤ 80) (k : ∀ (r : Int) (M1 : xa_M), (∀ q j, ¬ (q = 55 ∧ 4 ≤ j ∧ j ≤ 7) → ¬ (q = 56 ∨ q = 57 ∨ q = 58) → M1 q j = M q j) → bk_R T (M 30 1) r (M1 56) (M1 57) (M1 58) → (0 ≤ r → M1 55 4 = r) → post (some (0, 0, (-2147483648), 2147483647, r)) M1) : xa_C (xl_I b) A h0 (d + 6) 115 [(2, 55, 0, 0, 0), (2, 30, 0, 0, 0)] M post := by
  refine xa_C_wk ?_
  refine xa_meth (Q0 := (5, 1, false, 0, 0, 0)) (by decide +kernel) ⟨rfl, rfl⟩ (full := s_c_115) rfl rfl ?_
  intro hM hv Q hgo
  have loop : ∀ (e : Int), (1 ≤ e ∧ e ≤ 60 ∧ e ≤ M 30 1) → e = (if M 30 1 ≤ 60 then M 30 1 else 60) → ∀ (n : Nat) (x4 x3 : Int) (M1 : xa_M), 0 ≤ x4 → x4 ≤ 8 → 0 ≤ x3 ∧ x3 ≤ 1 → (∀ q j, ¬ (q = 55 ∧ 4 ≤ j ∧ j ≤ 7) → ¬ (q = 56 ∨ q = 57 ∨ q = 58) → M1 q j = M q j) → (x3 = 1 → x4 ≤ 7) → (x3 = 1 → 0 ≤ M1 55 5 ∧ M1 55 5 ≤ e) → (x3 = 1 → (∀ (ans : Int) (U W N : Int → Int), (∀ i, 0 ≤ i → i < x4 → U i = M1 56 i ∧ W i = M1 57 i ∧ N i = M1 58 i) → bk_B T e (M 30 1) ans U W N (8 - x4).toNat x4 (M1 55 5) → bk_B T e (M 30 1) ans U W N 8 0 0)) → (x3 = 0 → ∃ ans, bk_B T e (M 30 1) ans (M1 56) (M1 57) (M1 58) 8 0 0 ∧ (0 ≤ M1 55 5 ∧ M1 55 5 ≤ 100) ∧ ((M1 55 7 = 1 ∧ M 30 1 ≤ 60 ∧ ans = M1 55 4 ∧ 0 ≤ ans) ∨ (¬ (M1 55 7 = 1 ∧ M 30 1 ≤ 60) ∧ ans = -1 - M1 55 5 ∧ ans < 0))) → 8 - x4 < (n : Int) → Q 34 [(3, (0, 0, 0, 1, x3)), (4, (0, 0, 0, 8, x4)), (2, (0, 0, 1, 60, e)), (0, (2, 55, 0, 0, 0)), (1, (2, 30, 0, 0, 0))] [] M1 := by
    intro e he3 he4 n
    induction n with
    | zero => intro x4 x3 M1 i0 i1 i2 hk hA0 hA1 hA hB hms; omega
    | succ n ih =>
      intro x4 x3 M1 i0 i1 i2 hk hA0 hA1 hA hB hms
      have e30 : M1 30 1 = M 30 1 := hk 30 1 (by omega) (by omega)
      have hT1 : (∀ i, 0 ≤ i → i < 80 → M1 31 i = T i) := fun i i0 i1 => (hk 31 i (by omega) (by omega)).trans (hT i i0 i1)
      refine hgo.1 57 [34] 34 _ _ _ ?_
      refine And.intro ?_ ?_
      · intro (c1 : 8 ≤ x4)
        refine And.intro ?_ ?_
        · intro (c2 : (M1 55 7) = 0)
          show xa_wk post (some (0, 0, (-2147483648), 2147483647, (-1) - (M1 55 5))) M1
          obtain ⟨ans, hB1, hB2, hB3⟩ := hB (by omega)
          have w1 : xa_w32 ((-1) - (M1 55 5)) = (-1) - (M1 55 5) := xa_w32_id (by omega) (by omega)
          exact xa_wkI ans (by omega) (fun _ _ => by omega) (k ans _ hk (Or.inr ⟨by omega, by rw [← he4]; exact hB1⟩) (fun h => by omega))
        · intro (c2 : ¬ (M1 55 7) = 0)
          refine And.intro ?_ ?_
          · intro (c3 : 60 < (M1 30 1))
            show xa_wk post (some (0, 0, (-2147483648), 2147483647, (-1) - (M1 55 5))) M1
            obtain ⟨ans, hB1, hB2, hB3⟩ := hB (by omega)
            have w1 : xa_w32 ((-1) - (M1 55 5)) = (-1) - (M1 55 5) := xa_w32_id (by omega) (by omega)
            exact xa_wkI ans (by omega) (fun _ _ => by omega) (k ans _ hk (Or.inr ⟨by omega, by rw [← he4]; exact hB1⟩) (fun h => by omega))
          · intro (c3 : (M1 30 1) ≤ 60)
            show xa_wk post (some (0, 0, (-2147483648), 2147483647, M1 55 4)) M1
            obtain ⟨ans, hB1, hB2, hB3⟩ := hB (by omega)
            have w1 : xa_w32 ((-1) - (M1 55 5)) = (-1) - (M1 55 5) := xa_w32_id (by omega) (by omega)
            exact xa_wkI ans (by omega) (fun _ _ => by omega) (k ans _ hk (Or.inr ⟨by omega, by rw [← he4]; exact hB1⟩) (fun h => by omega))
      · intro (c1 : x4 < 8)
        refine And.intro ?_ ?_
        · intro (c4 : x3 = 0)
          refine And.intro ?_ ?_
          · intro (c5 : (M1 55 7) = 0)
            show xa_wk post (some (0, 0, (-2147483648), 2147483647, (-1) - (M1 55 5))) M1
            obtain ⟨ans, hB1, hB2, hB3⟩ := hB (by omega)
            have w1 : xa_w32 ((-1) - (M1 55 5)) = (-1) - (M1 55 5) := xa_w32_id (by omega) (by omega)
            exact xa_wkI ans (by omega) (fun _ _ => by omega) (k ans _ hk (Or.inr ⟨by omega, by rw [← he4]; exact hB1⟩) (fun h => by omega))
          · intro (c5 : ¬ (M1 55 7) = 0)
            refine And.intro ?_ ?_
            · intro (c6 : 60 < (M1 30 1))
              show xa_wk post (some (0, 0, (-2147483648), 2147483647, (-1) - (M1 55 5))) M1
              obtain ⟨ans, hB1, hB2, hB3⟩ := hB (by omega)
              have w1 : xa_w32 ((-1) - (M1 55 5)) = (-1) - (M1 55 5) := xa_w32_id (by omega) (by omega)
              exact xa_wkI ans (by omega) (fun _ _ => by omega) (k ans _ hk (Or.inr ⟨by omega, by rw [← he4]; exact hB1⟩) (fun h => by omega))
            · intro (c6 : (M1 30 1) ≤ 60)
              show xa_wk post (some (0, 0, (-2147483648), 2147483647, M1 55 4)) M1
              obtain ⟨ans, hB1, hB2, hB3⟩ := hB (by omega)
              have w1 : xa_w32 ((-1) - (M1 55 5)) = (-1) - (M1 55 5) := xa_w32_id (by omega) (by omega)
              exact xa_wkI ans (by omega) (fun _ _ => by omega) (k ans _ hk (Or.inr ⟨by omega, by rw [← he4]; exact hB1⟩) (fun h => by omega))
        · intro (c4 : ¬ x3 = 0)
          have hA2 := hA (by omega)
          have hA3 := hA1 (by omega)
          show xa_C (xl_I b) A h0 _ 116 [(2, 55, 0, 0, 0), (2, 30, 0, 0, 0), (0, 0, 1, 60, e), (0, 0, 0, 8, x4)] M1 _
          refine cx_116_55 hT1 (show 0 ≤ e ∧ e ≤ 60 ∧ e ≤ (M1 30 1) ∧ (M1 30 1) ≤ 80 by omega) (show 0 ≤ (M1 55 5) ∧ (M1 55 5) ≤ e by omega) (show 0 ≤ x4 ∧ x4 < 8 by omega) ?_
          intro M106 (i7 : ∀ q j, ¬ (q = 55 ∧ 4 ≤ j ∧ j ≤ 7) → ¬ ((q = 56 ∨ q = 57 ∨ q = 58) ∧ j = x4) → M106 q j = M1 q j) (i8 : bk_L T e (M1 55 5) (M106 55 7) (M106 56 x4) (M106 57 x4) (M106 58 x4) (M106 55 5)) (i9 : M106 55 4 = x4 + 1)
          have hTX : ∀ i, 0 ≤ i → i < 80 → M106 31 i = T i := fun i i0 i1 => (i7 31 i (by omega) (by omega)).trans (hT1 i i0 i1)
          have eX : M106 30 1 = M 30 1 := (i7 30 1 (by omega) (by omega)).trans e30
          have fX : ∀ q j, ¬ (q = 55 ∧ 4 ≤ j ∧ j ≤ 7) → ¬ (q = 56 ∨ q = 57 ∨ q = 58) → M106 q j = M q j := fun q j h1 h2 => (i7 q j h1 (by omega)).trans (hk q j h1 h2)
          have gX : ∀ i, 0 ≤ i → i < x4 → M106 56 i = M1 56 i ∧ M106 57 i = M1 57 i ∧ M106 58 i = M1 58 i := fun i i0 i1 => ⟨i7 56 i (by omega) (by omega), i7 57 i (by omega) (by omega), i7 58 i (by omega) (by omega)⟩
          have lX := bk_L_b i8 (by omega)
          have tX := hTX (M106 55 5)
          have wX : xa_w32 ((M106 55 5) + 1) = (M106 55 5) + 1 := xa_w32_id (by omega) (by omega)
          refine And.intro ?_ ?_
          · intro (c10 : (M106 55 7) = 0)
            show Q 34 [(4, (0, 0, 1, 9, x4 + 1)), (3, (0, 0, 0, 0, 0)), (2, (0, 0, 1, 60, e)), (0, (2, 55, 0, 0, 0)), (1, (2, 30, 0, 0, 0))] [] M106
            have hBB : ∃ ans, bk_B T e (M 30 1) ans (M106 56) (M106 57) (M106 58) 8 0 0 ∧ ((M106 55 7 = 1 ∧ ¬ M106 55 5 < e ∧ M 30 1 ≤ 60 ∧ ans = x4 + 1) ∨ (¬ (M106 55 7 = 1 ∧ ¬ M106 55 5 < e ∧ M 30 1 ≤ 60) ∧ ans = -1 - M106 55 5)) := by
              by_cases z9 : M106 55 7 = 1 ∧ ¬ M106 55 5 < e ∧ M 30 1 ≤ 60
              · exact ⟨x4 + 1, bk_B_end (by omega) (by omega) hA2 gX i8 (Or.inr ⟨z9.1, Or.inr (Or.inl ⟨z9.2.1, z9.2.2, rfl⟩)⟩), Or.inl ⟨z9.1, z9.2.1, z9.2.2, rfl⟩⟩
              · exact ⟨-1 - M106 55 5, bk_B_end (by omega) (by omega) hA2 gX i8 (by omega), Or.inr ⟨z9, rfl⟩⟩
            obtain ⟨ans, hB1, hB2⟩ := hBB
            refine hgo.2.1 34 _ [(3, (0, 0, 0, 1, 0)), (4, (0, 0, 0, 8, x4 + 1)), (2, (0, 0, 1, 60, e)), (0, (2, 55, 0, 0, 0)), (1, (2, 30, 0, 0, 0))] _ _ (xa_subI rfl rfl (fun _ _ _ _ => by omega) (xa_subI rfl rfl (fun _ _ _ _ => by omega) (xa_subI rfl rfl (fun _ _ _ _ => by omega) (xa_subR rfl (xa_subR rfl (xa_sub0)))))) ?_
            refine ih (x4 + 1) 0 _ (by omega) (by omega) (by omega) (fun q j h1 h2 => fX q j h1 h2) (fun h => by omega) (fun h => by omega) (fun h => absurd h (by omega)) (fun _ => ⟨ans, hB1, ?_⟩) (by omega)
            show (0 ≤ (M106 55 5) ∧ (M106 55 5) ≤ 100) ∧ (((M106 55 7) = 1 ∧ M 30 1 ≤ 60 ∧ ans = (M106 55 4) ∧ 0 ≤ ans) ∨ (¬ ((M106 55 7) = 1 ∧ M 30 1 ≤ 60) ∧ ans = -1 - (M106 55 5) ∧ ans < 0))
            omega
          · intro (c10 : ¬ (M106 55 7) = 0)
            refine And.intro ?_ ?_
            · intro (c11 : e ≤ (M106 55 5))
              show Q 34 [(4, (0, 0, 1, 9, x4 + 1)), (3, (0, 0, 0, 0, 0)), (2, (0, 0, 1, 60, e)), (0, (2, 55, 0, 0, 0)), (1, (2, 30, 0, 0, 0))] [] M106
              have hBB : ∃ ans, bk_B T e (M 30 1) ans (M106 56) (M106 57) (M106 58) 8 0 0 ∧ ((M106 55 7 = 1 ∧ ¬ M106 55 5 < e ∧ M 30 1 ≤ 60 ∧ ans = x4 + 1) ∨ (¬ (M106 55 7 = 1 ∧ ¬ M106 55 5 < e ∧ M 30 1 ≤ 60) ∧ ans = -1 - M106 55 5)) := by
                by_cases z9 : M106 55 7 = 1 ∧ ¬ M106 55 5 < e ∧ M 30 1 ≤ 60
                · exact ⟨x4 + 1, bk_B_end (by omega) (by omega) hA2 gX i8 (Or.inr ⟨z9.1, Or.inr (Or.inl ⟨z9.2.1, z9.2.2, rfl⟩)⟩), Or.inl ⟨z9.1, z9.2.1, z9.2.2, rfl⟩⟩
                · exact ⟨-1 - M106 55 5, bk_B_end (by omega) (by omega) hA2 gX i8 (by omega), Or.inr ⟨z9, rfl⟩⟩
              obtain ⟨ans, hB1, hB2⟩ := hBB
              refine hgo.2.1 34 _ [(3, (0, 0, 0, 1, 0)), (4, (0, 0, 0, 8, x4 + 1)), (2, (0, 0, 1, 60, e)), (0, (2, 55, 0, 0, 0)), (1, (2, 30, 0, 0, 0))] _ _ (xa_subI rfl rfl (fun _ _ _ _ => by omega) (xa_subI rfl rfl (fun _ _ _ _ => by omega) (xa_subI rfl rfl (fun _ _ _ _ => by omega) (xa_subR rfl (xa_subR rfl (xa_sub0)))))) ?_
              refine ih (x4 + 1) 0 _ (by omega) (by omega) (by omega) (fun q j h1 h2 => fX q j h1 h2) (fun h => by omega) (fun h => by omega) (fun h => absurd h (by omega)) (fun _ => ⟨ans, hB1, ?_⟩) (by omega)
              show (0 ≤ (M106 55 5) ∧ (M106 55 5) ≤ 100) ∧ (((M106 55 7) = 1 ∧ M 30 1 ≤ 60 ∧ ans = (M106 55 4) ∧ 0 ≤ ans) ∨ (¬ ((M106 55 7) = 1 ∧ M 30 1 ≤ 60) ∧ ans = -1 - (M106 55 5) ∧ ans < 0))
              omega
            · intro (c11 : (M106 55 5) < e)
              show xa_C (xl_I b) A h0 _ 119 [(2, 30, 0, 0, 0), (0, 0, (-2147483648), 2147483647, M106 55 5)] M106 _
              refine cg_119 (show 0 ≤ (M106 30 1) ∧ (M106 30 1) ≤ 80 by omega) ?_ ?_
              · intro (i12 : 0 ≤ (M106 55 5) ∧ (M106 55 5) < (M106 30 1))
                refine And.intro ?_ ?_
                · intro (c13 : ¬ (M106 31 (M106 55 5)) = 59)
                  refine And.intro ?_ ?_
                  · intro (c14 : 0 = 0)
                    show Q 34 [(4, (0, 0, 1, 9, x4 + 1)), (3, (0, 0, 0, 1, 0)), (2, (0, 0, 1, 60, e)), (0, (2, 55, 0, 0, 0)), (1, (2, 30, 0, 0, 0))] [] (xa_up (xa_up M106 55 7 0) 55 5 ((M106 55 5) + 0))
                    have hBB : ∃ ans, bk_B T e (M 30 1) ans (M106 56) (M106 57) (M106 58) 8 0 0 ∧ ((M106 55 7 = 1 ∧ ¬ M106 55 5 < e ∧ M 30 1 ≤ 60 ∧ ans = x4 + 1) ∨ (¬ (M106 55 7 = 1 ∧ ¬ M106 55 5 < e ∧ M 30 1 ≤ 60) ∧ ans = -1 - M106 55 5)) := by
                      by_cases z9 : M106 55 7 = 1 ∧ ¬ M106 55 5 < e ∧ M 30 1 ≤ 60
                      · exact ⟨x4 + 1, bk_B_end (by omega) (by omega) hA2 gX i8 (Or.inr ⟨z9.1, Or.inr (Or.inl ⟨z9.2.1, z9.2.2, rfl⟩)⟩), Or.inl ⟨z9.1, z9.2.1, z9.2.2, rfl⟩⟩
                      · exact ⟨-1 - M106 55 5, bk_B_end (by omega) (by omega) hA2 gX i8 (by omega), Or.inr ⟨z9, rfl⟩⟩
                    obtain ⟨ans, hB1, hB2⟩ := hBB
                    have a1 : (xa_up (xa_up M106 55 7 0) 55 5 ((M106 55 5) + 0)) 56 = M106 56 := funext (fun j => (xa_up_ne (by omega)).trans (xa_up_ne (by omega)))
                    have a2 : (xa_up (xa_up M106 55 7 0) 55 5 ((M106 55 5) + 0)) 57 = M106 57 := funext (fun j => (xa_up_ne (by omega)).trans (xa_up_ne (by omega)))
                    have a3 : (xa_up (xa_up M106 55 7 0) 55 5 ((M106 55 5) + 0)) 58 = M106 58 := funext (fun j => (xa_up_ne (by omega)).trans (xa_up_ne (by omega)))
                    refine hgo.2.1 34 _ [(3, (0, 0, 0, 1, 0)), (4, (0, 0, 0, 8, x4 + 1)), (2, (0, 0, 1, 60, e)), (0, (2, 55, 0, 0, 0)), (1, (2, 30, 0, 0, 0))] _ _ (xa_subI rfl rfl (fun _ _ _ _ => by omega) (xa_subI rfl rfl (fun _ _ _ _ => by omega) (xa_subI rfl rfl (fun _ _ _ _ => by omega) (xa_subR rfl (xa_subR rfl (xa_sub0)))))) ?_
                    refine ih (x4 + 1) 0 _ (by omega) (by omega) (by omega) (fun q j h1 h2 => (xa_up_ne (by omega)).trans ((xa_up_ne (by omega)).trans (fX q j h1 h2))) (fun h => by omega) (fun h => by omega) (fun h => absurd h (by omega)) (fun _ => ⟨ans, by rw [a1, a2, a3]; exact hB1, ?_⟩) (by omega)
                    show (0 ≤ ((M106 55 5) + 0) ∧ ((M106 55 5) + 0) ≤ 100) ∧ ((0 = 1 ∧ M 30 1 ≤ 60 ∧ ans = (M106 55 4) ∧ 0 ≤ ans) ∨ (¬ (0 = 1 ∧ M 30 1 ≤ 60) ∧ ans = -1 - ((M106 55 5) + 0) ∧ ans < 0))
                    omega
                  · intro (c14 : ¬ 0 = 0)
                    exfalso
                    omega
                · intro (c13 : (M106 31 (M106 55 5)) = 59)
                  refine And.intro ?_ ?_
                  · intro (c15 : 8 ≤ (x4 + 1))
                    refine And.intro ?_ ?_
                    · intro (c16 : 0 = 0)
                      show Q 34 [(4, (0, 0, 1, 9, x4 + 1)), (3, (0, 0, 0, 1, 0)), (2, (0, 0, 1, 60, e)), (0, (2, 55, 0, 0, 0)), (1, (2, 30, 0, 0, 0))] [] (xa_up (xa_up M106 55 7 0) 55 5 ((M106 55 5) + 0))
                      have hBB : ∃ ans, bk_B T e (M 30 1) ans (M106 56) (M106 57) (M106 58) 8 0 0 ∧ ((M106 55 7 = 1 ∧ ¬ M106 55 5 < e ∧ M 30 1 ≤ 60 ∧ ans = x4 + 1) ∨ (¬ (M106 55 7 = 1 ∧ ¬ M106 55 5 < e ∧ M 30 1 ≤ 60) ∧ ans = -1 - M106 55 5)) := by
                        by_cases z9 : M106 55 7 = 1 ∧ ¬ M106 55 5 < e ∧ M 30 1 ≤ 60
                        · exact ⟨x4 + 1, bk_B_end (by omega) (by omega) hA2 gX i8 (Or.inr ⟨z9.1, Or.inr (Or.inl ⟨z9.2.1, z9.2.2, rfl⟩)⟩), Or.inl ⟨z9.1, z9.2.1, z9.2.2, rfl⟩⟩
                        · exact ⟨-1 - M106 55 5, bk_B_end (by omega) (by omega) hA2 gX i8 (by omega), Or.inr ⟨z9, rfl⟩⟩
                      obtain ⟨ans, hB1, hB2⟩ := hBB
                      have a1 : (xa_up (xa_up M106 55 7 0) 55 5 ((M106 55 5) + 0)) 56 = M106 56 := funext (fun j => (xa_up_ne (by omega)).trans (xa_up_ne (by omega)))
                      have a2 : (xa_up (xa_up M106 55 7 0) 55 5 ((M106 55 5) + 0)) 57 = M106 57 := funext (fun j => (xa_up_ne (by omega)).trans (xa_up_ne (by omega)))
                      have a3 : (xa_up (xa_up M106 55 7 0) 55 5 ((M106 55 5) + 0)) 58 = M106 58 := funext (fun j => (xa_up_ne (by omega)).trans (xa_up_ne (by omega)))
                      refine hgo.2.1 34 _ [(3, (0, 0, 0, 1, 0)), (4, (0, 0, 0, 8, x4 + 1)), (2, (0, 0, 1, 60, e)), (0, (2, 55, 0, 0, 0)), (1, (2, 30, 0, 0, 0))] _ _ (xa_subI rfl rfl (fun _ _ _ _ => by omega) (xa_subI rfl rfl (fun _ _ _ _ => by omega) (xa_subI rfl rfl (fun _ _ _ _ => by omega) (xa_subR rfl (xa_subR rfl (xa_sub0)))))) ?_
                      refine ih (x4 + 1) 0 _ (by omega) (by omega) (by omega) (fun q j h1 h2 => (xa_up_ne (by omega)).trans ((xa_up_ne (by omega)).trans (fX q j h1 h2))) (fun h => by omega) (fun h => by omega) (fun h => absurd h (by omega)) (fun _ => ⟨ans, by rw [a1, a2, a3]; exact hB1, ?_⟩) (by omega)
                      show (0 ≤ ((M106 55 5) + 0) ∧ ((M106 55 5) + 0) ≤ 100) ∧ ((0 = 1 ∧ M 30 1 ≤ 60 ∧ ans = (M106 55 4) ∧ 0 ≤ ans) ∨ (¬ (0 = 1 ∧ M 30 1 ≤ 60) ∧ ans = -1 - ((M106 55 5) + 0) ∧ ans < 0))
                      omega
                    · intro (c16 : ¬ 0 = 0)
                      exfalso
                      omega
                  · intro (c15 : (x4 + 1) < 8)
                    refine And.intro ?_ ?_
                    · intro (c17 : 1 = 0)
                      exfalso
                      omega
                    · intro (c17 : ¬ 1 = 0)
                      show Q 34 [(4, (0, 0, 1, 9, x4 + 1)), (3, (0, 0, 0, 1, 1)), (2, (0, 0, 1, 60, e)), (0, (2, 55, 0, 0, 0)), (1, (2, 30, 0, 0, 0))] [] (xa_up (xa_up M106 55 7 1) 55 5 (xa_w32 ((M106 55 5) + 1)))
                      have ok1 : M106 55 7 = 1 := by omega
                      rw [ok1] at i8
                      have nx := bk_B_next (by omega) (by omega) hA2 gX i8 (by omega) (by omega)
                      have a1 : (xa_up (xa_up M106 55 7 1) 55 5 (xa_w32 ((M106 55 5) + 1))) 56 = M106 56 := funext (fun j => (xa_up_ne (by omega)).trans (xa_up_ne (by omega)))
                      have a2 : (xa_up (xa_up M106 55 7 1) 55 5 (xa_w32 ((M106 55 5) + 1))) 57 = M106 57 := funext (fun j => (xa_up_ne (by omega)).trans (xa_up_ne (by omega)))
                      have a3 : (xa_up (xa_up M106 55 7 1) 55 5 (xa_w32 ((M106 55 5) + 1))) 58 = M106 58 := funext (fun j => (xa_up_ne (by omega)).trans (xa_up_ne (by omega)))
                      have a5 : (xa_up (xa_up M106 55 7 1) 55 5 (xa_w32 ((M106 55 5) + 1))) 55 5 = M106 55 5 + 1 := wX
                      refine hgo.2.1 34 _ [(3, (0, 0, 0, 1, 1)), (4, (0, 0, 0, 8, x4 + 1)), (2, (0, 0, 1, 60, e)), (0, (2, 55, 0, 0, 0)), (1, (2, 30, 0, 0, 0))] _ _ (xa_subI rfl rfl (fun _ _ _ _ => by omega) (xa_subI rfl rfl (fun _ _ _ _ => by omega) (xa_subI rfl rfl (fun _ _ _ _ => by omega) (xa_subR rfl (xa_subR rfl (xa_sub0)))))) ?_
                      exact ih (x4 + 1) 1 _ (by omega) (by omega) (by omega) (fun q j h1 h2 => (xa_up_ne (by omega)).trans ((xa_up_ne (by omega)).trans (fX q j h1 h2))) (fun h => by omega) (fun _ => by rw [a5]; omega) (fun _ => by rw [a1, a2, a3, a5]; exact nx) (fun h => absurd h (by omega)) (by omega)
              · intro (i18 : ¬ (0 ≤ (M106 55 5) ∧ (M106 55 5) < (M106 30 1)))
                refine And.intro ?_ ?_
                · intro (c19 : 0 = 0)
                  show Q 34 [(4, (0, 0, 1, 9, x4 + 1)), (3, (0, 0, 0, 1, 0)), (2, (0, 0, 1, 60, e)), (0, (2, 55, 0, 0, 0)), (1, (2, 30, 0, 0, 0))] [] (xa_up (xa_up M106 55 7 0) 55 5 ((M106 55 5) + 0))
                  have hBB : ∃ ans, bk_B T e (M 30 1) ans (M106 56) (M106 57) (M106 58) 8 0 0 ∧ ((M106 55 7 = 1 ∧ ¬ M106 55 5 < e ∧ M 30 1 ≤ 60 ∧ ans = x4 + 1) ∨ (¬ (M106 55 7 = 1 ∧ ¬ M106 55 5 < e ∧ M 30 1 ≤ 60) ∧ ans = -1 - M106 55 5)) := by
                    by_cases z9 : M106 55 7 = 1 ∧ ¬ M106 55 5 < e ∧ M 30 1 ≤ 60
                    · exact ⟨x4 + 1, bk_B_end (by omega) (by omega) hA2 gX i8 (Or.inr ⟨z9.1, Or.inr (Or.inl ⟨z9.2.1, z9.2.2, rfl⟩)⟩), Or.inl ⟨z9.1, z9.2.1, z9.2.2, rfl⟩⟩
                    · exact ⟨-1 - M106 55 5, bk_B_end (by omega) (by omega) hA2 gX i8 (by omega), Or.inr ⟨z9, rfl⟩⟩
                  obtain ⟨ans, hB1, hB2⟩ := hBB
                  have a1 : (xa_up (xa_up M106 55 7 0) 55 5 ((M106 55 5) + 0)) 56 = M106 56 := funext (fun j => (xa_up_ne (by omega)).trans (xa_up_ne (by omega)))
                  have a2 : (xa_up (xa_up M106 55 7 0) 55 5 ((M106 55 5) + 0)) 57 = M106 57 := funext (fun j => (xa_up_ne (by omega)).trans (xa_up_ne (by omega)))
                  have a3 : (xa_up (xa_up M106 55 7 0) 55 5 ((M106 55 5) + 0)) 58 = M106 58 := funext (fun j => (xa_up_ne (by omega)).trans (xa_up_ne (by omega)))
                  refine hgo.2.1 34 _ [(3, (0, 0, 0, 1, 0)), (4, (0, 0, 0, 8, x4 + 1)), (2, (0, 0, 1, 60, e)), (0, (2, 55, 0, 0, 0)), (1, (2, 30, 0, 0, 0))] _ _ (xa_subI rfl rfl (fun _ _ _ _ => by omega) (xa_subI rfl rfl (fun _ _ _ _ => by omega) (xa_subI rfl rfl (fun _ _ _ _ => by omega) (xa_subR rfl (xa_subR rfl (xa_sub0)))))) ?_
                  refine ih (x4 + 1) 0 _ (by omega) (by omega) (by omega) (fun q j h1 h2 => (xa_up_ne (by omega)).trans ((xa_up_ne (by omega)).trans (fX q j h1 h2))) (fun h => by omega) (fun h => by omega) (fun h => absurd h (by omega)) (fun _ => ⟨ans, by rw [a1, a2, a3]; exact hB1, ?_⟩) (by omega)
                  show (0 ≤ ((M106 55 5) + 0) ∧ ((M106 55 5) + 0) ≤ 100) ∧ ((0 = 1 ∧ M 30 1 ≤ 60 ∧ ans = (M106 55 4) ∧ 0 ≤ ans) ∨ (¬ (0 = 1 ∧ M 30 1 ≤ 60) ∧ ans = -1 - ((M106 55 5) + 0) ∧ ans < 0))
                  omega
                · intro (c19 : ¬ 0 = 0)
                  exfalso
                  omega

  refine hgo.1 23 [34] 0 _ _ _ ?_
  refine And.intro ?_ ?_
  · intro (c1 : ¬ (M 30 1) = 0)
    show xa_C (xl_I b) A h0 _ 32 [(0, 0, (-2147483648), 2147483647, M 30 1), (0, 0, 60, 60, 60)] (xa_up (xa_up M 55 4 0) 55 5 0) _
    refine cx_32 ?_ ?_
    · intro (i2 : 60 < (M 30 1))
      show Q 34 [(4, (0, 0, 0, 0, 0)), (3, (0, 0, 1, 1, 1)), (2, (0, 0, (-2147483648), 2147483647, 60)), (0, (2, 55, 0, 0, 0)), (1, (2, 30, 0, 0, 0))] [] (xa_up (xa_up M 55 4 0) 55 5 0)
      refine hgo.2.1 34 _ [(3, (0, 0, 0, 1, 1)), (4, (0, 0, 0, 8, 0)), (2, (0, 0, 1, 60, 60)), (0, (2, 55, 0, 0, 0)), (1, (2, 30, 0, 0, 0))] _ _ (xa_subI rfl rfl (fun _ _ _ _ => by omega) (xa_subI rfl rfl (fun _ _ _ _ => by omega) (xa_subI rfl rfl (fun _ _ _ _ => by omega) (xa_subR rfl (xa_subR rfl (xa_sub0)))))) ?_
      exact loop 60 (by omega) (by split <;> omega) 9 0 1 _ (by omega) (by omega) (by omega) (fun q j h1 h2 => (xa_up_ne (by omega)).trans (xa_up_ne (by omega))) (fun _ => by omega) (fun _ => by show (0 : Int) ≤ 0 ∧ (0 : Int) ≤ 60; omega) (fun _ ans U W N _ hB => hB) (fun h => absurd h (by omega)) (by omega)
    · intro (i3 : (M 30 1) ≤ 60)
      show Q 34 [(4, (0, 0, 0, 0, 0)), (3, (0, 0, 1, 1, 1)), (2, (0, 0, (-2147483648), 2147483647, M 30 1)), (0, (2, 55, 0, 0, 0)), (1, (2, 30, 0, 0, 0))] [] (xa_up (xa_up M 55 4 0) 55 5 0)
      refine hgo.2.1 34 _ [(3, (0, 0, 0, 1, 1)), (4, (0, 0, 0, 8, 0)), (2, (0, 0, 1, 60, M 30 1)), (0, (2, 55, 0, 0, 0)), (1, (2, 30, 0, 0, 0))] _ _ (xa_subI rfl rfl (fun _ _ _ _ => by omega) (xa_subI rfl rfl (fun _ _ _ _ => by omega) (xa_subI rfl rfl (fun _ _ _ _ => by omega) (xa_subR rfl (xa_subR rfl (xa_sub0)))))) ?_
      exact loop (M 30 1) (by omega) (by split <;> omega) 9 0 1 _ (by omega) (by omega) (by omega) (fun q j h1 h2 => (xa_up_ne (by omega)).trans (xa_up_ne (by omega))) (fun _ => by omega) (fun _ => by show (0 : Int) ≤ 0 ∧ (0 : Int) ≤ (M 30 1); omega) (fun _ ans U W N _ hB => hB) (fun h => absurd h (by omega)) (by omega)
  · intro (c1 : (M 30 1) = 0)
    show xa_wk post (some (0, 0, 0, 0, 0)) (xa_up (xa_up M 55 4 0) 55 5 0)
    exact xa_wkI 0 rfl (fun _ _ => by omega) (k 0 _ (fun q j h1 h2 => (xa_up_ne (by omega)).trans (xa_up_ne (by omega))) (Or.inl ⟨by omega, rfl⟩) (fun _ => rfl))
-- sign, end
set_option maxRecDepth 20000
theorem cx_18_31 {b : Bool} {A : Nat → Nat} {h0 : g_H} {d : Nat} {M : xa_M} {post : Option xa_V → xa_M → Prop} {l1 u1 l2 u2 : Int} {i v : Int} (h1 : 0 ≤ i ∧ i < 80) (k1 : post none (xa_up M 31 i v)) : xa_C (xl_I b) A h0 (d + 1) 18 [(2, 31, 0, 0, 0), (0, 0, l1, u1, i), (0, 0, l2, u2, v)] M post := by
  refine xa_C_arg [(2, 31, 0, 0, 0), (0, 0, (-2147483648), 2147483647, i), (0, 0, (-2147483648), 2147483647, v)] (xa_svR (xa_svI (fun _ _ _ _ => by omega) (xa_svI (fun _ _ _ _ => by omega) xa_sv0))) ?_
  refine xa_meth (Q0 := (3, 0, false, 0, 0, 11)) (by decide +kernel) ⟨rfl, rfl⟩ (full := s_c_18) rfl rfl ?_
  intro hM hv Q hgo
  refine hgo.1 15 [] 0 _ _ _ ?_
  refine And.intro ?_ ?_
  · intro (c1 : i < 0)
    show post none M
    exact absurd h1 (by omega)
  · intro (c1 : 0 ≤ i)
    refine And.intro ?_ ?_
    · intro (c2 : 80 ≤ i)
      show post none M
      exact absurd h1 (by omega)
    · intro (c2 : i < 80)
      refine And.intro (show 0 ≤ i ∧ i < 80 by omega) ?_
      show post none (xa_up M 31 i v)
      exact k1
theorem cx_111f {b : Bool} {A : Nat → Nat} {h0 : g_H} {d : Nat} {M : xa_M} {post : Option xa_V → xa_M → Prop} {l1 u1 x1 : Int} (hz : 0 ≤ M 30 1 ∧ M 30 1 ≤ 80) (k : ∀ (n : Int) (M1 : xa_M), lt_P M 31 30 1 (M 30 1) (fun a => xa_ib 3 (xa_ib 7 x1 a) 255) n M1 → post (some (0, 0, (-2147483648), 2147483647, n)) M1) : xa_C (xl_I b) A h0 (d + 2) 111 [(2, 30, 0, 0, 0), (0, 0, l1, u1, x1)] M post := by
  refine xa_C_wk ?_
  refine xa_C_arg [(2, 30, 0, 0, 0), (0, 0, (-2147483648), 2147483647, x1)] (xa_svR (xa_svI (fun _ _ _ _ => by omega) xa_sv0)) ?_
  refine xa_meth (Q0 := (3, 1, false, 0, 0, 8)) (by decide +kernel) ⟨rfl, rfl⟩ (full := s_c_111) rfl rfl ?_
  intro hM hv Q hgo
  have w91 : xa_w32 ((M 30 1) + 4) = (M 30 1) + 4 := xa_w32_id (by omega) (by omega)
  refine hgo.1 97 [] 0 _ _ _ ?_
  refine And.intro ?_ ?_
  · intro (c1 : (xa_w32 ((M 30 1) + 4)) ≤ 80)
    have w91 : xa_w32 ((M 30 1) + 4) = (M 30 1) + 4 := xa_w32_id (by omega) (by omega)
    have w92 : xa_w32 ((M 30 1) + 1) = M 30 1 + 1 := by
      exact (xa_w32_id (by omega) (by omega)).trans (by omega)
    have w93 : xa_w32 ((xa_w32 ((M 30 1) + 1)) + 1) = M 30 1 + 2 := by
      rw [w92]
      exact (xa_w32_id (by omega) (by omega)).trans (by omega)
    have w94 : xa_w32 ((xa_w32 ((xa_w32 ((M 30 1) + 1)) + 1)) + 1) = M 30 1 + 3 := by
      rw [w93]
      exact (xa_w32_id (by omega) (by omega)).trans (by omega)
    have w95 : xa_w32 ((xa_w32 ((xa_w32 ((xa_w32 ((M 30 1) + 1)) + 1)) + 1)) + 1) = M 30 1 + 4 := by
      rw [w94]
      exact (xa_w32_id (by omega) (by omega)).trans (by omega)
    show xa_C (xl_I b) A h0 _ 18 [(2, 31, 0, 0, 0), (0, 0, (-2147483648), 2147483647, M 30 1), (0, 0, (-2147483648), 2147483647, xa_ib 3 (xa_ib 7 x1 24) 255)] M _
    refine cx_18_31 (show 0 ≤ (M 30 1) ∧ (M 30 1) < 80 by omega) ?_
    show xa_C (xl_I b) A h0 _ 18 [(2, 31, 0, 0, 0), (0, 0, (-2147483648), 2147483647, xa_w32 ((M 30 1) + 1)), (0, 0, (-2147483648), 2147483647, xa_ib 3 (xa_ib 7 x1 (24 + (-8))) 255)] (xa_up (xa_up M 31 (M 30 1) (xa_ib 3 (xa_ib 7 x1 24) 255)) 30 1 (xa_w32 ((M 30 1) + 1))) _
    refine cx_18_31 (show 0 ≤ (xa_w32 ((M 30 1) + 1)) ∧ (xa_w32 ((M 30 1) + 1)) < 80 by omega) ?_
    show xa_C (xl_I b) A h0 _ 18 [(2, 31, 0, 0, 0), (0, 0, (-2147483648), 2147483647, xa_w32 ((xa_w32 ((M 30 1) + 1)) + 1)), (0, 0, (-2147483648), 2147483647, xa_ib 3 (xa_ib 7 x1 ((24 + (-8)) + (-8))) 255)] (xa_up (xa_up (xa_up (xa_up M 31 (M 30 1) (xa_ib 3 (xa_ib 7 x1 24) 255)) 30 1 (xa_w32 ((M 30 1) + 1))) 31 (xa_w32 ((M 30 1) + 1)) (xa_ib 3 (xa_ib 7 x1 (24 + (-8))) 255)) 30 1 (xa_w32 ((xa_w32 ((M 30 1) + 1)) + 1))) _
    refine cx_18_31 (show 0 ≤ (xa_w32 ((xa_w32 ((M 30 1) + 1)) + 1)) ∧ (xa_w32 ((xa_w32 ((M 30 1) + 1)) + 1)) < 80 by omega) ?_
    show xa_C (xl_I b) A h0 _ 18 [(2, 31, 0, 0, 0), (0, 0, (-2147483648), 2147483647, xa_w32 ((xa_w32 ((xa_w32 ((M 30 1) + 1)) + 1)) + 1)), (0, 0, (-2147483648), 2147483647, xa_ib 3 (xa_ib 7 x1 (((24 + (-8)) + (-8)) + (-8))) 255)] (xa_up (xa_up (xa_up (xa_up (xa_up (xa_up M 31 (M 30 1) (xa_ib 3 (xa_ib 7 x1 24) 255)) 30 1 (xa_w32 ((M 30 1) + 1))) 31 (xa_w32 ((M 30 1) + 1)) (xa_ib 3 (xa_ib 7 x1 (24 + (-8))) 255)) 30 1 (xa_w32 ((xa_w32 ((M 30 1) + 1)) + 1))) 31 (xa_w32 ((xa_w32 ((M 30 1) + 1)) + 1)) (xa_ib 3 (xa_ib 7 x1 ((24 + (-8)) + (-8))) 255)) 30 1 (xa_w32 ((xa_w32 ((xa_w32 ((M 30 1) + 1)) + 1)) + 1))) _
    refine cx_18_31 (show 0 ≤ (xa_w32 ((xa_w32 ((xa_w32 ((M 30 1) + 1)) + 1)) + 1)) ∧ (xa_w32 ((xa_w32 ((xa_w32 ((M 30 1) + 1)) + 1)) + 1)) < 80 by omega) ?_
    show xa_wk post (some (0, 0, (-2147483648), 2147483647, xa_w32 ((xa_w32 ((xa_w32 ((xa_w32 ((M 30 1) + 1)) + 1)) + 1)) + 1))) (xa_up (xa_up (xa_up (xa_up (xa_up (xa_up (xa_up (xa_up M 31 (M 30 1) (xa_ib 3 (xa_ib 7 x1 24) 255)) 30 1 (xa_w32 ((M 30 1) + 1))) 31 (xa_w32 ((M 30 1) + 1)) (xa_ib 3 (xa_ib 7 x1 (24 + (-8))) 255)) 30 1 (xa_w32 ((xa_w32 ((M 30 1) + 1)) + 1))) 31 (xa_w32 ((xa_w32 ((M 30 1) + 1)) + 1)) (xa_ib 3 (xa_ib 7 x1 ((24 + (-8)) + (-8))) 255)) 30 1 (xa_w32 ((xa_w32 ((xa_w32 ((M 30 1) + 1)) + 1)) + 1))) 31 (xa_w32 ((xa_w32 ((xa_w32 ((M 30 1) + 1)) + 1)) + 1)) (xa_ib 3 (xa_ib 7 x1 (((24 + (-8)) + (-8)) + (-8))) 255)) 30 1 (xa_w32 ((xa_w32 ((xa_w32 ((xa_w32 ((M 30 1) + 1)) + 1)) + 1)) + 1)))
    have w1 : xa_w32 ((M 30 1) + 1) = (M 30 1) + 1 := xa_w32_id (by omega) (by omega)
    have w2 : xa_w32 ((((M 30 1) + 1)) + 1) = (((M 30 1) + 1)) + 1 := xa_w32_id (by omega) (by omega)
    have w3 : xa_w32 ((((((M 30 1) + 1)) + 1)) + 1) = (((((M 30 1) + 1)) + 1)) + 1 := xa_w32_id (by omega) (by omega)
    have w4 : xa_w32 ((((((((M 30 1) + 1)) + 1)) + 1)) + 1) = (((((((M 30 1) + 1)) + 1)) + 1)) + 1 := xa_w32_id (by omega) (by omega)
    simp only [w1, w2, w3, w4]
    refine xa_wkI (M 30 1 + 4) (by omega) (fun _ _ => by omega) (k (M 30 1 + 4) _ (Or.inr ⟨by omega, rfl, ?_, ?_, ?_, ?_, ?_, fun i hi => ?_, fun q j h1 h2 h3 => ?_⟩))
    · exact (xa_up_eq).trans (by omega)
    · exact (xa_up_ne (by omega)).trans ((xa_up_ne (by omega)).trans ((xa_up_ne (by omega)).trans ((xa_up_ne (by omega)).trans ((xa_up_ne (by omega)).trans ((xa_up_ne (by omega)).trans ((xa_up_ne (by omega)).trans (xa_up_eq)))))))
    · rw [show M 30 1 + 1 = ((M 30 1) + 1) by omega]
      exact (xa_up_ne (by omega)).trans ((xa_up_ne (by omega)).trans ((xa_up_ne (by omega)).trans ((xa_up_ne (by omega)).trans ((xa_up_ne (by omega)).trans (xa_up_eq)))))
    · rw [show M 30 1 + 2 = ((((M 30 1) + 1)) + 1) by omega]
      exact (xa_up_ne (by omega)).trans ((xa_up_ne (by omega)).trans ((xa_up_ne (by omega)).trans (xa_up_eq)))
    · rw [show M 30 1 + 3 = ((((((M 30 1) + 1)) + 1)) + 1) by omega]
      exact (xa_up_ne (by omega)).trans (xa_up_eq)
    · exact (xa_up_ne (by omega)).trans ((xa_up_ne (by omega)).trans ((xa_up_ne (by omega)).trans ((xa_up_ne (by omega)).trans ((xa_up_ne (by omega)).trans ((xa_up_ne (by omega)).trans ((xa_up_ne (by omega)).trans (xa_up_ne (by omega))))))))
    · exact (xa_up_ne (by omega)).trans ((xa_up_ne (by omega)).trans ((xa_up_ne (by omega)).trans ((xa_up_ne (by omega)).trans ((xa_up_ne (by omega)).trans ((xa_up_ne (by omega)).trans ((xa_up_ne (by omega)).trans (xa_up_ne (by omega))))))))
  · intro (c1 : 80 < (xa_w32 ((M 30 1) + 4)))
    show xa_wk post (some (0, 0, (-1), (-1), (-1))) M
    exact xa_wkI (-1) rfl (fun _ _ => by omega) (k (-1) _ (Or.inl ⟨by omega, rfl, fun q j h1 => rfl⟩))
theorem cw_110 {b : Bool} {A : Nat → Nat} {h0 : g_H} {d : Nat} {M : xa_M} {post : Option xa_V → xa_M → Prop} {l1 u1 x1 : Int} (hz : 0 ≤ M 30 1 ∧ M 30 1 ≤ 80) (k : ∀ (n : Int) (M1 : xa_M), lt_P M 31 30 1 (M 30 1) (fun a => xa_ib 3 (xa_ib 7 x1 a) 255) n M1 → post (some (0, 0, (-2147483648), 2147483647, n)) M1) : xa_C (xl_I b) A h0 (d + 3) 110 [(2, 0, 0, 0, 0), (0, 0, l1, u1, x1)] M post := by
  refine xa_C_arg [(2, 0, 0, 0, 0), (0, 0, (-2147483648), 2147483647, x1)] (xa_svR (xa_svI (fun _ _ _ _ => by omega) xa_sv0)) ?_
  refine xa_meth (Q0 := (2, 1, false, 0, 0, 11)) (by decide +kernel) ⟨rfl, rfl⟩ (full := s_c_110) rfl rfl ?_
  intro hM hv Q hgo
  refine hgo.1 9 [] 0 _ _ _ ?_
  show xa_C (xl_I b) A h0 _ 111 [(2, 30, 0, 0, 0), (0, 0, (-2147483648), 2147483647, x1)] M _
  refine cx_111f (by omega) ?_
  intro n107 M108 (i1 : lt_P M 31 30 1 (M 30 1) (fun a => xa_ib 3 (xa_ib 7 x1 a) 255) n107 M108)
  show post (some (0, 0, (-2147483648), 2147483647, n107)) M108
  exact k _ _ i1
theorem ms_signF {A : Nat → Nat} {h0 : g_H} {d : Nat} {M : xa_M} {post : Option xa_V → xa_M → Prop} {l1 u1 x1 : Int} (hI : xm_Inv M) (k : ∀ (n : Int) (M1 : xa_M), lt_P M 73 60 18 (M 60 18) (fun a => xa_i8 (xa_ib 7 x1 a)) n M1 → post (some (0, 0, (-1), 80, n)) M1) : xa_C xm_I A h0 (d + 1) 250 [(2, 60, 0, 0, 0), (0, 0, l1, u1, x1)] M post := by
  refine xa_C_wk ?_
  refine xa_C_arg [(2, 60, 0, 0, 0), (0, 0, (-2147483648), 2147483647, x1)] (xa_svR (xa_svI (fun _ _ _ _ => by omega) xa_sv0)) ?_
  refine xa_meth (Q0 := (3, 1, false, 0, 0, 12)) (by decide +kernel) ⟨rfl, rfl⟩ (full := s_c_250) rfl rfl ?_
  intro hM hv Q hgo
  have b18 := xm_f18 hM
  refine hgo.1 100 [] 0 _ _ _ ?_
  refine And.intro ?_ ?_
  · intro (c1 : ((M 60 18) + 4) ≤ 80)
    refine And.intro (show 0 ≤ ((M 60 18) + 1) ∧ ((M 60 18) + 1) ≤ 80 by omega) ?_
    refine And.intro (show 0 ≤ (M 60 18) ∧ (M 60 18) < 80 by omega) ?_
    refine And.intro (show 0 ≤ (((M 60 18) + 1) + 1) ∧ (((M 60 18) + 1) + 1) ≤ 80 by omega) ?_
    refine And.intro (show 0 ≤ ((M 60 18) + 1) ∧ ((M 60 18) + 1) < 80 by omega) ?_
    refine And.intro (show 0 ≤ ((((M 60 18) + 1) + 1) + 1) ∧ ((((M 60 18) + 1) + 1) + 1) ≤ 80 by omega) ?_
    refine And.intro (show 0 ≤ (((M 60 18) + 1) + 1) ∧ (((M 60 18) + 1) + 1) < 80 by omega) ?_
    refine And.intro (show 0 ≤ (((((M 60 18) + 1) + 1) + 1) + 1) ∧ (((((M 60 18) + 1) + 1) + 1) + 1) ≤ 80 by omega) ?_
    refine And.intro (show 0 ≤ ((((M 60 18) + 1) + 1) + 1) ∧ ((((M 60 18) + 1) + 1) + 1) < 80 by omega) ?_
    show xa_wk post (some (0, 0, 0, 80, ((((M 60 18) + 1) + 1) + 1) + 1)) (xa_up (xa_up (xa_up (xa_up (xa_up (xa_up (xa_up (xa_up (xa_up M 60 21 0) 60 18 ((M 60 18) + 1)) 73 (M 60 18) (xa_i8 (xa_ib 7 x1 (8 * 3)))) 60 18 (((M 60 18) + 1) + 1)) 73 ((M 60 18) + 1) (xa_i8 (xa_ib 7 x1 (8 * (3 + (-1)))))) 60 18 ((((M 60 18) + 1) + 1) + 1)) 73 (((M 60 18) + 1) + 1) (xa_i8 (xa_ib 7 x1 (8 * ((3 + (-1)) + (-1)))))) 60 18 (((((M 60 18) + 1) + 1) + 1) + 1)) 73 ((((M 60 18) + 1) + 1) + 1) (xa_i8 (xa_ib 7 x1 (8 * (((3 + (-1)) + (-1)) + (-1))))))
    refine xa_wkI (M 60 18 + 4) (by omega) (fun _ _ => by omega) (k (M 60 18 + 4) _ (Or.inr ⟨by omega, rfl, ?_, ?_, ?_, ?_, ?_, fun i hi => ?_, fun q j h1 h2 h3 => ?_⟩))
    · exact ((xa_up_ne (by omega)).trans (xa_up_eq)).trans (by omega)
    · exact (xa_up_ne (by omega)).trans ((xa_up_ne (by omega)).trans ((xa_up_ne (by omega)).trans ((xa_up_ne (by omega)).trans ((xa_up_ne (by omega)).trans ((xa_up_ne (by omega)).trans (xa_up_eq))))))
    · rw [show M 60 18 + 1 = (M 60 18) + 1 by omega]
      exact (xa_up_ne (by omega)).trans ((xa_up_ne (by omega)).trans ((xa_up_ne (by omega)).trans ((xa_up_ne (by omega)).trans (xa_up_eq))))
    · rw [show M 60 18 + 2 = ((M 60 18) + 1) + 1 by omega]
      exact (xa_up_ne (by omega)).trans ((xa_up_ne (by omega)).trans (xa_up_eq))
    · rw [show M 60 18 + 3 = (((M 60 18) + 1) + 1) + 1 by omega]
      exact xa_up_eq
    · exact (xa_up_ne (by omega)).trans ((xa_up_ne (by omega)).trans ((xa_up_ne (by omega)).trans ((xa_up_ne (by omega)).trans ((xa_up_ne (by omega)).trans ((xa_up_ne (by omega)).trans ((xa_up_ne (by omega)).trans ((xa_up_ne (by omega)).trans (xa_up_ne (by omega)))))))))
    · exact (xa_up_ne (by omega)).trans ((xa_up_ne (by omega)).trans ((xa_up_ne (by omega)).trans ((xa_up_ne (by omega)).trans ((xa_up_ne (by omega)).trans ((xa_up_ne (by omega)).trans ((xa_up_ne (by omega)).trans ((xa_up_ne (by omega)).trans (xa_up_ne (by omega)))))))))
  · intro (c1 : 80 < ((M 60 18) + 4))
    show xa_wk post (some (0, 0, (-1), (-1), (-1))) (xa_up M 60 21 0)
    exact xa_wkI (-1) rfl (fun _ _ => by omega) (k (-1) _ (Or.inl ⟨by omega, rfl, fun q j h1 => xa_up_ne (by omega)⟩))
theorem cx_113f {b : Bool} {A : Nat → Nat} {h0 : g_H} {d : Nat} {M : xa_M} {post : Option xa_V → xa_M → Prop} {l1 u1 x1 : Int} (k : ∀ (n : Int) (M1 : xa_M), lt_E M 30 1 (M 30 1) x1 n M1 → post (some (0, 0, 0, 1, n)) M1) : xa_C (xl_I b) A h0 (d + 1) 113 [(2, 30, 0, 0, 0), (0, 0, l1, u1, x1)] M post := by
  refine xa_C_wk ?_
  refine xa_C_arg [(2, 30, 0, 0, 0), (0, 0, (-2147483648), 2147483647, x1)] (xa_svR (xa_svI (fun _ _ _ _ => by omega) xa_sv0)) ?_
  refine xa_meth (Q0 := (2, 2, false, 0, 0, 8)) (by decide +kernel) ⟨rfl, rfl⟩ (full := s_c_113) rfl rfl ?_
  intro hM hv Q hgo
  refine hgo.1 15 [] 0 _ _ _ ?_
  refine And.intro ?_ ?_
  · intro (c1 : x1 < 0)
    show xa_wk post (some (0, 0, 0, 0, 0)) M
    exact xa_wkI 0 rfl (fun _ _ => by omega) (k 0 _ (Or.inr ⟨by omega, rfl, fun q j h1 => rfl⟩))
  · intro (c1 : 0 ≤ x1)
    refine And.intro ?_ ?_
    · intro (c2 : x1 ≤ (M 30 1))
      show xa_wk post (some (0, 0, 1, 1, 1)) (xa_up M 30 1 x1)
      exact xa_wkI 1 rfl (fun _ _ => by omega) (k 1 _ (Or.inl ⟨by omega, rfl, xa_up_eq, fun q j h1 h2 => xa_up_ne (by omega)⟩))
    · intro (c2 : (M 30 1) < x1)
      show xa_wk post (some (0, 0, 0, 0, 0)) M
      exact xa_wkI 0 rfl (fun _ _ => by omega) (k 0 _ (Or.inr ⟨by omega, rfl, fun q j h1 => rfl⟩))
theorem cw_112 {b : Bool} {A : Nat → Nat} {h0 : g_H} {d : Nat} {M : xa_M} {post : Option xa_V → xa_M → Prop} {l1 u1 x1 : Int} (k : ∀ (n : Int) (M1 : xa_M), lt_E M 30 1 (M 30 1) x1 n M1 → post (some (0, 0, 0, 1, n)) M1) : xa_C (xl_I b) A h0 (d + 2) 112 [(2, 0, 0, 0, 0), (0, 0, l1, u1, x1)] M post := by
  refine xa_C_arg [(2, 0, 0, 0, 0), (0, 0, (-2147483648), 2147483647, x1)] (xa_svR (xa_svI (fun _ _ _ _ => by omega) xa_sv0)) ?_
  refine xa_meth (Q0 := (2, 2, false, 0, 0, 11)) (by decide +kernel) ⟨rfl, rfl⟩ (full := s_c_112) rfl rfl ?_
  intro hM hv Q hgo
  refine hgo.1 9 [] 0 _ _ _ ?_
  show xa_C (xl_I b) A h0 _ 113 [(2, 30, 0, 0, 0), (0, 0, (-2147483648), 2147483647, x1)] M _
  refine cx_113f ?_
  intro n109 M110 (i1 : lt_E M 30 1 (M 30 1) x1 n109 M110)
  show post (some (0, 0, 0, 1, n109)) M110
  exact k _ _ i1
theorem ms_endF {A : Nat → Nat} {h0 : g_H} {d : Nat} {M : xa_M} {post : Option xa_V → xa_M → Prop} {l1 u1 x1 : Int} (hI : xm_Inv M) (k : ∀ (n : Int) (M1 : xa_M), lt_E M 60 18 (M 60 18) x1 n M1 → post (some (0, 0, 0, 1, n)) M1) : xa_C xm_I A h0 (d + 2) 251 [(2, 60, 0, 0, 0), (0, 0, l1, u1, x1)] M post := by
  refine xa_C_wk ?_
  refine xa_C_arg [(2, 60, 0, 0, 0), (0, 0, (-2147483648), 2147483647, x1)] (xa_svR (xa_svI (fun _ _ _ _ => by omega) xa_sv0)) ?_
  refine xa_meth (Q0 := (2, 2, false, 0, 0, 12)) (by decide +kernel) ⟨rfl, rfl⟩ (full := s_c_251) rfl rfl ?_
  intro hM hv Q hgo
  have b18 := xm_f18 hM
  refine hgo.1 18 [] 0 _ _ _ ?_
  show xa_C xm_I A h0 _ 214 [(0, 0, (-2147483648), 2147483647, x1), (0, 0, 0, 0, 0), (0, 0, 0, 80, M 60 18)] (xa_up M 60 21 0) _
  refine ct_in ?_ ?_
  · intro (i1 : 0 ≤ x1 ∧ x1 ≤ (M 60 18))
    refine And.intro (show 0 ≤ x1 ∧ x1 ≤ 80 by omega) ?_
    show xa_wk post (some (0, 0, 1, 1, 1)) (xa_up (xa_up M 60 21 0) 60 18 x1)
    exact xa_wkI 1 rfl (fun _ _ => by omega) (k 1 _ (Or.inl ⟨by omega, rfl, xa_up_eq, fun q j h1 h2 => (xa_up_ne (by omega)).trans (xa_up_ne (by omega))⟩))
  · intro (i2 : ¬ (0 ≤ x1 ∧ x1 ≤ (M 60 18)))
    show xa_wk post (some (0, 0, 0, 0, 0)) (xa_up M 60 21 0)
    exact xa_wkI 0 rfl (fun _ _ => by omega) (k 0 _ (Or.inr ⟨by omega, rfl, fun q j h1 => xa_up_ne (by omega)⟩))
-- the reference reads
set_option maxRecDepth 20000
theorem ct_numF {A : Nat → Nat} {h0 : g_H} {d : Nat} {M : xa_M} {post : Option xa_V → xa_M → Prop} {T : Int → Int} {e : Int} (hT : ∀ i, 0 ≤ i → i < 80 → T i = M 73 i % 256) (he : ((M 60 40 ≤ 60 ∧ e = M 60 40) ∨ (60 < M 60 40 ∧ e = 60))) (hp : 0 ≤ M 60 41 ∧ M 60 41 ≤ 61) (k : ∀ (r : Int) (M1 : xa_M), xm_f2 M M1 → (M 60 41 ≤ M1 60 41 ∧ (M1 60 41 = M 60 41 ∨ M1 60 41 ≤ 60)) → ((¬ M 60 42 = -1 ∧ r = 0 ∧ M1 60 41 = M 60 41 ∧ M1 60 42 = M 60 42) ∨ (M 60 42 = -1 ∧ ∃ x g q, bk_N T e M 60 41 x g q ∧ ((g = 1 ∧ r = x ∧ M1 60 41 = q ∧ M1 60 42 = -1) ∨ (g = 0 ∧ r = 0 ∧ M1 60 42 = q)))) → post (some (0, 0, 0, 2000, r)) M1) : xa_C xm_I A h0 (d + 2) 253 [(2, 60, 0, 0, 0)] M post := by
  refine xa_C_wk ?_
  refine xa_meth (Q0 := (3, 1, false, 0, 0, 12)) (by decide +kernel) ⟨rfl, rfl⟩ (full := s_c_253) rfl rfl ?_
  intro hM hv Q hgo
  have b41 := xm_f41 hM
  have b40 := xm_f40 hM
  have loop : M 60 42 = -1 → ∀ (n : Nat) (v : Int) (M1 : xa_M), (∀ q j, ¬ (q = 60 ∧ j = 41) → M1 q j = M q j) → (M 60 41 ≤ M1 60 41 ∧ M1 60 41 ≤ M 60 41 + 4 ∧ (M1 60 41 = M 60 41 ∨ M1 60 41 ≤ e)) → bk_nm T e (M 60 41 + 4 - M1 60 41).toNat (M1 60 41) v = bk_nm T e 4 (M 60 41) 0 → (0 ≤ v ∧ (M1 60 41 = M 60 41 → v = 0) ∧ (M1 60 41 = M 60 41 + 1 → v ≤ 9) ∧ (M1 60 41 = M 60 41 + 2 → v ≤ 99) ∧ (M1 60 41 = M 60 41 + 3 → v ≤ 999) ∧ (M1 60 41 = M 60 41 + 4 → v ≤ 9999)) → M 60 41 + 4 - M1 60 41 < (n : Int) → Q 17 [(1, (0, 0, 0, 100, M 60 41)), (2, (0, 0, 0, 9999, v)), (0, (2, 60, 0, 0, 0))] [] M1 := by
    intro hw n
    induction n with
    | zero => intro v M1 hk hp1 hb hv1 hms; omega
    | succ n ih =>
      intro v M1 hk hp1 hb hv1 hms
      have e40 : M1 60 40 = M 60 40 := hk 60 40 (by decide)
      refine hgo.2.2 _ _ _ _ (fun hM1 _ => ?_)
      have b41' := xm_f41 hM1
      refine hgo.1 38 [17] 17 _ _ _ ?_
      refine And.intro ?_ ?_
      · intro (c1 : ((M 60 41) + 4) ≤ (M1 60 41))
        refine And.intro ?_ ?_
        · intro (c2 : ¬ (M1 60 41) = (M 60 41))
          show xa_C xm_I A h0 _ 214 [(0, 0, 0, 9999, v), (0, 0, 1, 1, 1), (0, 0, 2000, 2000, 2000)] M1 _
          refine ct_in ?_ ?_
          · intro (i3 : 1 ≤ v ∧ v ≤ 2000)
            refine And.intro ?_ ?_
            · intro (c4 : ¬ (M1 60 42) = (-1))
              show xa_wk post (some (0, 0, 0, 0, 0)) M1
              have e42 : M1 60 42 = M 60 42 := hk 60 42 (by decide)
              have t41 := hT (M1 60 41)
              have e73 : M1 73 (M1 60 41) = M 73 (M1 60 41) := hk 73 _ (by omega)
              have r73 := xm_t73 hM (M1 60 41)
              have hz : bk_nm T e 4 (M 60 41) 0 = (M1 60 41, v) := by
                rw [← hb]
                by_cases c9 : M1 60 41 = M 60 41 + 4
                · rw [show (M 60 41 + 4 - M1 60 41).toNat = 0 by omega]
                  rfl
                · rw [show (M 60 41 + 4 - M1 60 41).toNat = (M 60 41 + 3 - M1 60 41).toNat + 1 by omega]
                  exact bk_nm0 (by omega)
              refine xa_wkI 0 rfl (fun _ _ => by omega) (k _ _ (fun q j hq => hk q j (by omega)) (show (M 60 41) ≤ (M1 60 41) ∧ ((M1 60 41) = (M 60 41) ∨ (M1 60 41) ≤ 60) by omega) ?_)
              show (¬ (M 60 42) = -1 ∧ 0 = 0 ∧ (M1 60 41) = (M 60 41) ∧ (M1 60 42) = (M 60 42)) ∨ ((M 60 42) = -1 ∧ ∃ x g q, bk_N T e (M 60 41) x g q ∧ ((g = 1 ∧ 0 = x ∧ (M1 60 41) = q ∧ (M1 60 42) = -1) ∨ (g = 0 ∧ 0 = 0 ∧ (M1 60 42) = q)))
              exact Or.inr ⟨hw, v, 1, M1 60 41, ⟨_, hz, by omega, by omega, by omega⟩, by omega⟩
            · intro (c4 : (M1 60 42) = (-1))
              show xa_wk post (some (0, 0, 0, 9999, v)) M1
              have e42 : M1 60 42 = M 60 42 := hk 60 42 (by decide)
              have t41 := hT (M1 60 41)
              have e73 : M1 73 (M1 60 41) = M 73 (M1 60 41) := hk 73 _ (by omega)
              have r73 := xm_t73 hM (M1 60 41)
              have hz : bk_nm T e 4 (M 60 41) 0 = (M1 60 41, v) := by
                rw [← hb]
                by_cases c9 : M1 60 41 = M 60 41 + 4
                · rw [show (M 60 41 + 4 - M1 60 41).toNat = 0 by omega]
                  rfl
                · rw [show (M 60 41 + 4 - M1 60 41).toNat = (M 60 41 + 3 - M1 60 41).toNat + 1 by omega]
                  exact bk_nm0 (by omega)
              refine xa_wkI v rfl (fun _ _ => by omega) (k _ _ (fun q j hq => hk q j (by omega)) (show (M 60 41) ≤ (M1 60 41) ∧ ((M1 60 41) = (M 60 41) ∨ (M1 60 41) ≤ 60) by omega) ?_)
              show (¬ (M 60 42) = -1 ∧ v = 0 ∧ (M1 60 41) = (M 60 41) ∧ (M1 60 42) = (M 60 42)) ∨ ((M 60 42) = -1 ∧ ∃ x g q, bk_N T e (M 60 41) x g q ∧ ((g = 1 ∧ v = x ∧ (M1 60 41) = q ∧ (M1 60 42) = -1) ∨ (g = 0 ∧ v = 0 ∧ (M1 60 42) = q)))
              exact Or.inr ⟨hw, v, 1, M1 60 41, ⟨_, hz, by omega, by omega, by omega⟩, by omega⟩
          · intro (i5 : ¬ (1 ≤ v ∧ v ≤ 2000))
            show xa_C xm_I A h0 _ 255 [(2, 60, 0, 0, 0), (0, 0, (-1), 99, (M1 60 41) - 1)] M1 _
            refine ct_fault trivial ?_ ?_
            · intro (i6 : (M1 60 42) = -1)
              refine And.intro ?_ ?_
              · intro (c7 : ¬ ((M1 60 41) - 1) = (-1))
                show xa_wk post (some (0, 0, 0, 0, 0)) (xa_up M1 60 42 ((M1 60 41) - 1))
                have e42 : M1 60 42 = M 60 42 := hk 60 42 (by decide)
                have t41 := hT (M1 60 41)
                have e73 : M1 73 (M1 60 41) = M 73 (M1 60 41) := hk 73 _ (by omega)
                have r73 := xm_t73 hM (M1 60 41)
                have hz : bk_nm T e 4 (M 60 41) 0 = (M1 60 41, v) := by
                  rw [← hb]
                  by_cases c9 : M1 60 41 = M 60 41 + 4
                  · rw [show (M 60 41 + 4 - M1 60 41).toNat = 0 by omega]
                    rfl
                  · rw [show (M 60 41 + 4 - M1 60 41).toNat = (M 60 41 + 3 - M1 60 41).toNat + 1 by omega]
                    exact bk_nm0 (by omega)
                refine xa_wkI 0 rfl (fun _ _ => by omega) (k _ _ (fun q j hq => (xa_up_ne (by omega)).trans (hk q j (by omega))) (show (M 60 41) ≤ (M1 60 41) ∧ ((M1 60 41) = (M 60 41) ∨ (M1 60 41) ≤ 60) by omega) ?_)
                show (¬ (M 60 42) = -1 ∧ 0 = 0 ∧ (M1 60 41) = (M 60 41) ∧ ((M1 60 41) - 1) = (M 60 42)) ∨ ((M 60 42) = -1 ∧ ∃ x g q, bk_N T e (M 60 41) x g q ∧ ((g = 1 ∧ 0 = x ∧ (M1 60 41) = q ∧ ((M1 60 41) - 1) = -1) ∨ (g = 0 ∧ 0 = 0 ∧ ((M1 60 41) - 1) = q)))
                exact Or.inr ⟨hw, v, 0, ((M1 60 41) - 1), ⟨_, hz, by omega, by omega, by omega⟩, by omega⟩
              · intro (c7 : ((M1 60 41) - 1) = (-1))
                show xa_wk post (some (0, 0, 0, 9999, v)) (xa_up M1 60 42 ((M1 60 41) - 1))
                have e42 : M1 60 42 = M 60 42 := hk 60 42 (by decide)
                have t41 := hT (M1 60 41)
                have e73 : M1 73 (M1 60 41) = M 73 (M1 60 41) := hk 73 _ (by omega)
                have r73 := xm_t73 hM (M1 60 41)
                have hz : bk_nm T e 4 (M 60 41) 0 = (M1 60 41, v) := by
                  rw [← hb]
                  by_cases c9 : M1 60 41 = M 60 41 + 4
                  · rw [show (M 60 41 + 4 - M1 60 41).toNat = 0 by omega]
                    rfl
                  · rw [show (M 60 41 + 4 - M1 60 41).toNat = (M 60 41 + 3 - M1 60 41).toNat + 1 by omega]
                    exact bk_nm0 (by omega)
                refine xa_wkI v rfl (fun _ _ => by omega) (k _ _ (fun q j hq => (xa_up_ne (by omega)).trans (hk q j (by omega))) (show (M 60 41) ≤ (M1 60 41) ∧ ((M1 60 41) = (M 60 41) ∨ (M1 60 41) ≤ 60) by omega) ?_)
                show (¬ (M 60 42) = -1 ∧ v = 0 ∧ (M1 60 41) = (M 60 41) ∧ ((M1 60 41) - 1) = (M 60 42)) ∨ ((M 60 42) = -1 ∧ ∃ x g q, bk_N T e (M 60 41) x g q ∧ ((g = 1 ∧ v = x ∧ (M1 60 41) = q ∧ ((M1 60 41) - 1) = -1) ∨ (g = 0 ∧ v = 0 ∧ ((M1 60 41) - 1) = q)))
                exact Or.inr ⟨hw, v, 0, ((M1 60 41) - 1), ⟨_, hz, by omega, by omega, by omega⟩, by omega⟩
            · intro (i8 : ¬ (M1 60 42) = -1)
              refine And.intro ?_ ?_
              · intro (c9 : ¬ (M1 60 42) = (-1))
                show xa_wk post (some (0, 0, 0, 0, 0)) M1
                have e42 : M1 60 42 = M 60 42 := hk 60 42 (by decide)
                have t41 := hT (M1 60 41)
                have e73 : M1 73 (M1 60 41) = M 73 (M1 60 41) := hk 73 _ (by omega)
                have r73 := xm_t73 hM (M1 60 41)
                have hz : bk_nm T e 4 (M 60 41) 0 = (M1 60 41, v) := by
                  rw [← hb]
                  by_cases c9 : M1 60 41 = M 60 41 + 4
                  · rw [show (M 60 41 + 4 - M1 60 41).toNat = 0 by omega]
                    rfl
                  · rw [show (M 60 41 + 4 - M1 60 41).toNat = (M 60 41 + 3 - M1 60 41).toNat + 1 by omega]
                    exact bk_nm0 (by omega)
                refine xa_wkI 0 rfl (fun _ _ => by omega) (k _ _ (fun q j hq => hk q j (by omega)) (show (M 60 41) ≤ (M1 60 41) ∧ ((M1 60 41) = (M 60 41) ∨ (M1 60 41) ≤ 60) by omega) ?_)
                show (¬ (M 60 42) = -1 ∧ 0 = 0 ∧ (M1 60 41) = (M 60 41) ∧ (M1 60 42) = (M 60 42)) ∨ ((M 60 42) = -1 ∧ ∃ x g q, bk_N T e (M 60 41) x g q ∧ ((g = 1 ∧ 0 = x ∧ (M1 60 41) = q ∧ (M1 60 42) = -1) ∨ (g = 0 ∧ 0 = 0 ∧ (M1 60 42) = q)))
                exact Or.inr ⟨hw, v, 0, (M1 60 42), ⟨_, hz, by omega, by omega, by omega⟩, by omega⟩
              · intro (c9 : (M1 60 42) = (-1))
                show xa_wk post (some (0, 0, 0, 9999, v)) M1
                have e42 : M1 60 42 = M 60 42 := hk 60 42 (by decide)
                have t41 := hT (M1 60 41)
                have e73 : M1 73 (M1 60 41) = M 73 (M1 60 41) := hk 73 _ (by omega)
                have r73 := xm_t73 hM (M1 60 41)
                have hz : bk_nm T e 4 (M 60 41) 0 = (M1 60 41, v) := by
                  rw [← hb]
                  by_cases c9 : M1 60 41 = M 60 41 + 4
                  · rw [show (M 60 41 + 4 - M1 60 41).toNat = 0 by omega]
                    rfl
                  · rw [show (M 60 41 + 4 - M1 60 41).toNat = (M 60 41 + 3 - M1 60 41).toNat + 1 by omega]
                    exact bk_nm0 (by omega)
                refine xa_wkI v rfl (fun _ _ => by omega) (k _ _ (fun q j hq => hk q j (by omega)) (show (M 60 41) ≤ (M1 60 41) ∧ ((M1 60 41) = (M 60 41) ∨ (M1 60 41) ≤ 60) by omega) ?_)
                show (¬ (M 60 42) = -1 ∧ v = 0 ∧ (M1 60 41) = (M 60 41) ∧ (M1 60 42) = (M 60 42)) ∨ ((M 60 42) = -1 ∧ ∃ x g q, bk_N T e (M 60 41) x g q ∧ ((g = 1 ∧ v = x ∧ (M1 60 41) = q ∧ (M1 60 42) = -1) ∨ (g = 0 ∧ v = 0 ∧ (M1 60 42) = q)))
                exact Or.inr ⟨hw, v, 0, (M1 60 42), ⟨_, hz, by omega, by omega, by omega⟩, by omega⟩
        · intro (c2 : (M1 60 41) = (M 60 41))
          show xa_C xm_I A h0 _ 255 [(2, 60, 0, 0, 0), (0, 0, 0, 100, M1 60 41)] M1 _
          refine ct_fault trivial ?_ ?_
          · intro (i10 : (M1 60 42) = -1)
            refine And.intro ?_ ?_
            · intro (c11 : ¬ (M1 60 41) = (-1))
              show xa_wk post (some (0, 0, 0, 0, 0)) (xa_up M1 60 42 (M1 60 41))
              have e42 : M1 60 42 = M 60 42 := hk 60 42 (by decide)
              have t41 := hT (M1 60 41)
              have e73 : M1 73 (M1 60 41) = M 73 (M1 60 41) := hk 73 _ (by omega)
              have r73 := xm_t73 hM (M1 60 41)
              have hz : bk_nm T e 4 (M 60 41) 0 = (M1 60 41, v) := by
                rw [← hb]
                by_cases c9 : M1 60 41 = M 60 41 + 4
                · rw [show (M 60 41 + 4 - M1 60 41).toNat = 0 by omega]
                  rfl
                · rw [show (M 60 41 + 4 - M1 60 41).toNat = (M 60 41 + 3 - M1 60 41).toNat + 1 by omega]
                  exact bk_nm0 (by omega)
              refine xa_wkI 0 rfl (fun _ _ => by omega) (k _ _ (fun q j hq => (xa_up_ne (by omega)).trans (hk q j (by omega))) (show (M 60 41) ≤ (M1 60 41) ∧ ((M1 60 41) = (M 60 41) ∨ (M1 60 41) ≤ 60) by omega) ?_)
              show (¬ (M 60 42) = -1 ∧ 0 = 0 ∧ (M1 60 41) = (M 60 41) ∧ (M1 60 41) = (M 60 42)) ∨ ((M 60 42) = -1 ∧ ∃ x g q, bk_N T e (M 60 41) x g q ∧ ((g = 1 ∧ 0 = x ∧ (M1 60 41) = q ∧ (M1 60 41) = -1) ∨ (g = 0 ∧ 0 = 0 ∧ (M1 60 41) = q)))
              exact Or.inr ⟨hw, v, 0, (M1 60 41), ⟨_, hz, by omega, by omega, by omega⟩, by omega⟩
            · intro (c11 : (M1 60 41) = (-1))
              show xa_wk post (some (0, 0, 0, 9999, v)) (xa_up M1 60 42 (M1 60 41))
              have e42 : M1 60 42 = M 60 42 := hk 60 42 (by decide)
              have t41 := hT (M1 60 41)
              have e73 : M1 73 (M1 60 41) = M 73 (M1 60 41) := hk 73 _ (by omega)
              have r73 := xm_t73 hM (M1 60 41)
              have hz : bk_nm T e 4 (M 60 41) 0 = (M1 60 41, v) := by
                rw [← hb]
                by_cases c9 : M1 60 41 = M 60 41 + 4
                · rw [show (M 60 41 + 4 - M1 60 41).toNat = 0 by omega]
                  rfl
                · rw [show (M 60 41 + 4 - M1 60 41).toNat = (M 60 41 + 3 - M1 60 41).toNat + 1 by omega]
                  exact bk_nm0 (by omega)
              refine xa_wkI v rfl (fun _ _ => by omega) (k _ _ (fun q j hq => (xa_up_ne (by omega)).trans (hk q j (by omega))) (show (M 60 41) ≤ (M1 60 41) ∧ ((M1 60 41) = (M 60 41) ∨ (M1 60 41) ≤ 60) by omega) ?_)
              show (¬ (M 60 42) = -1 ∧ v = 0 ∧ (M1 60 41) = (M 60 41) ∧ (M1 60 41) = (M 60 42)) ∨ ((M 60 42) = -1 ∧ ∃ x g q, bk_N T e (M 60 41) x g q ∧ ((g = 1 ∧ v = x ∧ (M1 60 41) = q ∧ (M1 60 41) = -1) ∨ (g = 0 ∧ v = 0 ∧ (M1 60 41) = q)))
              exact Or.inr ⟨hw, v, 0, (M1 60 41), ⟨_, hz, by omega, by omega, by omega⟩, by omega⟩
          · intro (i12 : ¬ (M1 60 42) = -1)
            refine And.intro ?_ ?_
            · intro (c13 : ¬ (M1 60 42) = (-1))
              show xa_wk post (some (0, 0, 0, 0, 0)) M1
              have e42 : M1 60 42 = M 60 42 := hk 60 42 (by decide)
              have t41 := hT (M1 60 41)
              have e73 : M1 73 (M1 60 41) = M 73 (M1 60 41) := hk 73 _ (by omega)
              have r73 := xm_t73 hM (M1 60 41)
              have hz : bk_nm T e 4 (M 60 41) 0 = (M1 60 41, v) := by
                rw [← hb]
                by_cases c9 : M1 60 41 = M 60 41 + 4
                · rw [show (M 60 41 + 4 - M1 60 41).toNat = 0 by omega]
                  rfl
                · rw [show (M 60 41 + 4 - M1 60 41).toNat = (M 60 41 + 3 - M1 60 41).toNat + 1 by omega]
                  exact bk_nm0 (by omega)
              refine xa_wkI 0 rfl (fun _ _ => by omega) (k _ _ (fun q j hq => hk q j (by omega)) (show (M 60 41) ≤ (M1 60 41) ∧ ((M1 60 41) = (M 60 41) ∨ (M1 60 41) ≤ 60) by omega) ?_)
              show (¬ (M 60 42) = -1 ∧ 0 = 0 ∧ (M1 60 41) = (M 60 41) ∧ (M1 60 42) = (M 60 42)) ∨ ((M 60 42) = -1 ∧ ∃ x g q, bk_N T e (M 60 41) x g q ∧ ((g = 1 ∧ 0 = x ∧ (M1 60 41) = q ∧ (M1 60 42) = -1) ∨ (g = 0 ∧ 0 = 0 ∧ (M1 60 42) = q)))
              exact Or.inr ⟨hw, v, 0, (M1 60 42), ⟨_, hz, by omega, by omega, by omega⟩, by omega⟩
            · intro (c13 : (M1 60 42) = (-1))
              show xa_wk post (some (0, 0, 0, 9999, v)) M1
              have e42 : M1 60 42 = M 60 42 := hk 60 42 (by decide)
              have t41 := hT (M1 60 41)
              have e73 : M1 73 (M1 60 41) = M 73 (M1 60 41) := hk 73 _ (by omega)
              have r73 := xm_t73 hM (M1 60 41)
              have hz : bk_nm T e 4 (M 60 41) 0 = (M1 60 41, v) := by
                rw [← hb]
                by_cases c9 : M1 60 41 = M 60 41 + 4
                · rw [show (M 60 41 + 4 - M1 60 41).toNat = 0 by omega]
                  rfl
                · rw [show (M 60 41 + 4 - M1 60 41).toNat = (M 60 41 + 3 - M1 60 41).toNat + 1 by omega]
                  exact bk_nm0 (by omega)
              refine xa_wkI v rfl (fun _ _ => by omega) (k _ _ (fun q j hq => hk q j (by omega)) (show (M 60 41) ≤ (M1 60 41) ∧ ((M1 60 41) = (M 60 41) ∨ (M1 60 41) ≤ 60) by omega) ?_)
              show (¬ (M 60 42) = -1 ∧ v = 0 ∧ (M1 60 41) = (M 60 41) ∧ (M1 60 42) = (M 60 42)) ∨ ((M 60 42) = -1 ∧ ∃ x g q, bk_N T e (M 60 41) x g q ∧ ((g = 1 ∧ v = x ∧ (M1 60 41) = q ∧ (M1 60 42) = -1) ∨ (g = 0 ∧ v = 0 ∧ (M1 60 42) = q)))
              exact Or.inr ⟨hw, v, 0, (M1 60 42), ⟨_, hz, by omega, by omega, by omega⟩, by omega⟩
      · intro (c1 : (M1 60 41) < ((M 60 41) + 4))
        show xa_C xm_I A h0 _ 254 [(2, 60, 0, 0, 0)] M1 _
        refine ct_here ?_
        intro r111 (i14 : ((M1 60 41) < (M1 60 40) ∧ (M1 60 41) < 60 ∧ r111 = M1 73 (M1 60 41)) ∨ (¬ ((M1 60 41) < (M1 60 40) ∧ (M1 60 41) < 60) ∧ r111 = -1))
        show xa_C xm_I A h0 _ 214 [(0, 0, (-128), 127, r111), (0, 0, 48, 48, 48), (0, 0, 57, 57, 57)] M1 _
        refine ct_in ?_ ?_
        · intro (i15 : 48 ≤ r111 ∧ r111 ≤ 57)
          show xa_C xm_I A h0 _ 254 [(2, 60, 0, 0, 0)] M1 _
          refine ct_here ?_
          intro r112 (i16 : ((M1 60 41) < (M1 60 40) ∧ (M1 60 41) < 60 ∧ r112 = M1 73 (M1 60 41)) ∨ (¬ ((M1 60 41) < (M1 60 40) ∧ (M1 60 41) < 60) ∧ r112 = -1))
          refine And.intro (show 0 ≤ ((M1 60 41) + 1) ∧ ((M1 60 41) + 1) ≤ 100 by omega) ?_
          show Q 17 [(2, (0, 0, (-176), 100069, ((10 * v) + r112) - 48)), (1, (0, 0, 0, 100, (M 60 41))), (0, (2, 60, 0, 0, 0))] [] (xa_up M1 60 41 ((M1 60 41) + 1))
          have t41 := hT (M1 60 41)
          have e73 : M1 73 (M1 60 41) = M 73 (M1 60 41) := hk 73 _ (by omega)
          have r73 := xm_t73 hM (M1 60 41)
          have ev : ((10 * v) + r112) - 48 = v * 10 + T (M1 60 41) - 48 := by omega
          refine hgo.2.1 17 _ [(1, (0, 0, 0, 100, (M 60 41))), (2, (0, 0, 0, 9999, ((10 * v) + r112) - 48)), (0, (2, 60, 0, 0, 0))] _ _ (xa_subI rfl rfl (fun _ _ _ _ => by omega) (xa_subI rfl rfl (fun _ _ _ _ => by omega) (xa_subR rfl (xa_sub0)))) ?_
          exact ih _ _ (fun q j hq => (xa_up_ne (by omega)).trans (hk q j hq)) (by rw [xa_up_eq]; omega) (by rw [xa_up_eq, ev, ← bk_nm1 (by omega), show (M 60 41 + 4 - (M1 60 41 + 1)).toNat + 1 = (M 60 41 + 4 - M1 60 41).toNat by omega]; exact hb) (by rw [xa_up_eq]; omega) (by rw [xa_up_eq]; omega)
        · intro (i17 : ¬ (48 ≤ r111 ∧ r111 ≤ 57))
          refine And.intro ?_ ?_
          · intro (c18 : ¬ (M1 60 41) = (M 60 41))
            show xa_C xm_I A h0 _ 214 [(0, 0, 0, 9999, v), (0, 0, 1, 1, 1), (0, 0, 2000, 2000, 2000)] M1 _
            refine ct_in ?_ ?_
            · intro (i19 : 1 ≤ v ∧ v ≤ 2000)
              refine And.intro ?_ ?_
              · intro (c20 : ¬ (M1 60 42) = (-1))
                show xa_wk post (some (0, 0, 0, 0, 0)) M1
                have e42 : M1 60 42 = M 60 42 := hk 60 42 (by decide)
                have t41 := hT (M1 60 41)
                have e73 : M1 73 (M1 60 41) = M 73 (M1 60 41) := hk 73 _ (by omega)
                have r73 := xm_t73 hM (M1 60 41)
                have hz : bk_nm T e 4 (M 60 41) 0 = (M1 60 41, v) := by
                  rw [← hb]
                  by_cases c9 : M1 60 41 = M 60 41 + 4
                  · rw [show (M 60 41 + 4 - M1 60 41).toNat = 0 by omega]
                    rfl
                  · rw [show (M 60 41 + 4 - M1 60 41).toNat = (M 60 41 + 3 - M1 60 41).toNat + 1 by omega]
                    exact bk_nm0 (by omega)
                refine xa_wkI 0 rfl (fun _ _ => by omega) (k _ _ (fun q j hq => hk q j (by omega)) (show (M 60 41) ≤ (M1 60 41) ∧ ((M1 60 41) = (M 60 41) ∨ (M1 60 41) ≤ 60) by omega) ?_)
                show (¬ (M 60 42) = -1 ∧ 0 = 0 ∧ (M1 60 41) = (M 60 41) ∧ (M1 60 42) = (M 60 42)) ∨ ((M 60 42) = -1 ∧ ∃ x g q, bk_N T e (M 60 41) x g q ∧ ((g = 1 ∧ 0 = x ∧ (M1 60 41) = q ∧ (M1 60 42) = -1) ∨ (g = 0 ∧ 0 = 0 ∧ (M1 60 42) = q)))
                exact Or.inr ⟨hw, v, 1, M1 60 41, ⟨_, hz, by omega, by omega, by omega⟩, by omega⟩
              · intro (c20 : (M1 60 42) = (-1))
                show xa_wk post (some (0, 0, 0, 9999, v)) M1
                have e42 : M1 60 42 = M 60 42 := hk 60 42 (by decide)
                have t41 := hT (M1 60 41)
                have e73 : M1 73 (M1 60 41) = M 73 (M1 60 41) := hk 73 _ (by omega)
                have r73 := xm_t73 hM (M1 60 41)
                have hz : bk_nm T e 4 (M 60 41) 0 = (M1 60 41, v) := by
                  rw [← hb]
                  by_cases c9 : M1 60 41 = M 60 41 + 4
                  · rw [show (M 60 41 + 4 - M1 60 41).toNat = 0 by omega]
                    rfl
                  · rw [show (M 60 41 + 4 - M1 60 41).toNat = (M 60 41 + 3 - M1 60 41).toNat + 1 by omega]
                    exact bk_nm0 (by omega)
                refine xa_wkI v rfl (fun _ _ => by omega) (k _ _ (fun q j hq => hk q j (by omega)) (show (M 60 41) ≤ (M1 60 41) ∧ ((M1 60 41) = (M 60 41) ∨ (M1 60 41) ≤ 60) by omega) ?_)
                show (¬ (M 60 42) = -1 ∧ v = 0 ∧ (M1 60 41) = (M 60 41) ∧ (M1 60 42) = (M 60 42)) ∨ ((M 60 42) = -1 ∧ ∃ x g q, bk_N T e (M 60 41) x g q ∧ ((g = 1 ∧ v = x ∧ (M1 60 41) = q ∧ (M1 60 42) = -1) ∨ (g = 0 ∧ v = 0 ∧ (M1 60 42) = q)))
                exact Or.inr ⟨hw, v, 1, M1 60 41, ⟨_, hz, by omega, by omega, by omega⟩, by omega⟩
            · intro (i21 : ¬ (1 ≤ v ∧ v ≤ 2000))
              show xa_C xm_I A h0 _ 255 [(2, 60, 0, 0, 0), (0, 0, (-1), 99, (M1 60 41) - 1)] M1 _
              refine ct_fault trivial ?_ ?_
              · intro (i22 : (M1 60 42) = -1)
                refine And.intro ?_ ?_
                · intro (c23 : ¬ ((M1 60 41) - 1) = (-1))
                  show xa_wk post (some (0, 0, 0, 0, 0)) (xa_up M1 60 42 ((M1 60 41) - 1))
                  have e42 : M1 60 42 = M 60 42 := hk 60 42 (by decide)
                  have t41 := hT (M1 60 41)
                  have e73 : M1 73 (M1 60 41) = M 73 (M1 60 41) := hk 73 _ (by omega)
                  have r73 := xm_t73 hM (M1 60 41)
                  have hz : bk_nm T e 4 (M 60 41) 0 = (M1 60 41, v) := by
                    rw [← hb]
                    by_cases c9 : M1 60 41 = M 60 41 + 4
                    · rw [show (M 60 41 + 4 - M1 60 41).toNat = 0 by omega]
                      rfl
                    · rw [show (M 60 41 + 4 - M1 60 41).toNat = (M 60 41 + 3 - M1 60 41).toNat + 1 by omega]
                      exact bk_nm0 (by omega)
                  refine xa_wkI 0 rfl (fun _ _ => by omega) (k _ _ (fun q j hq => (xa_up_ne (by omega)).trans (hk q j (by omega))) (show (M 60 41) ≤ (M1 60 41) ∧ ((M1 60 41) = (M 60 41) ∨ (M1 60 41) ≤ 60) by omega) ?_)
                  show (¬ (M 60 42) = -1 ∧ 0 = 0 ∧ (M1 60 41) = (M 60 41) ∧ ((M1 60 41) - 1) = (M 60 42)) ∨ ((M 60 42) = -1 ∧ ∃ x g q, bk_N T e (M 60 41) x g q ∧ ((g = 1 ∧ 0 = x ∧ (M1 60 41) = q ∧ ((M1 60 41) - 1) = -1) ∨ (g = 0 ∧ 0 = 0 ∧ ((M1 60 41) - 1) = q)))
                  exact Or.inr ⟨hw, v, 0, ((M1 60 41) - 1), ⟨_, hz, by omega, by omega, by omega⟩, by omega⟩
                · intro (c23 : ((M1 60 41) - 1) = (-1))
                  show xa_wk post (some (0, 0, 0, 9999, v)) (xa_up M1 60 42 ((M1 60 41) - 1))
                  have e42 : M1 60 42 = M 60 42 := hk 60 42 (by decide)
                  have t41 := hT (M1 60 41)
                  have e73 : M1 73 (M1 60 41) = M 73 (M1 60 41) := hk 73 _ (by omega)
                  have r73 := xm_t73 hM (M1 60 41)
                  have hz : bk_nm T e 4 (M 60 41) 0 = (M1 60 41, v) := by
                    rw [← hb]
                    by_cases c9 : M1 60 41 = M 60 41 + 4
                    · rw [show (M 60 41 + 4 - M1 60 41).toNat = 0 by omega]
                      rfl
                    · rw [show (M 60 41 + 4 - M1 60 41).toNat = (M 60 41 + 3 - M1 60 41).toNat + 1 by omega]
                      exact bk_nm0 (by omega)
                  refine xa_wkI v rfl (fun _ _ => by omega) (k _ _ (fun q j hq => (xa_up_ne (by omega)).trans (hk q j (by omega))) (show (M 60 41) ≤ (M1 60 41) ∧ ((M1 60 41) = (M 60 41) ∨ (M1 60 41) ≤ 60) by omega) ?_)
                  show (¬ (M 60 42) = -1 ∧ v = 0 ∧ (M1 60 41) = (M 60 41) ∧ ((M1 60 41) - 1) = (M 60 42)) ∨ ((M 60 42) = -1 ∧ ∃ x g q, bk_N T e (M 60 41) x g q ∧ ((g = 1 ∧ v = x ∧ (M1 60 41) = q ∧ ((M1 60 41) - 1) = -1) ∨ (g = 0 ∧ v = 0 ∧ ((M1 60 41) - 1) = q)))
                  exact Or.inr ⟨hw, v, 0, ((M1 60 41) - 1), ⟨_, hz, by omega, by omega, by omega⟩, by omega⟩
              · intro (i24 : ¬ (M1 60 42) = -1)
                refine And.intro ?_ ?_
                · intro (c25 : ¬ (M1 60 42) = (-1))
                  show xa_wk post (some (0, 0, 0, 0, 0)) M1
                  have e42 : M1 60 42 = M 60 42 := hk 60 42 (by decide)
                  have t41 := hT (M1 60 41)
                  have e73 : M1 73 (M1 60 41) = M 73 (M1 60 41) := hk 73 _ (by omega)
                  have r73 := xm_t73 hM (M1 60 41)
                  have hz : bk_nm T e 4 (M 60 41) 0 = (M1 60 41, v) := by
                    rw [← hb]
                    by_cases c9 : M1 60 41 = M 60 41 + 4
                    · rw [show (M 60 41 + 4 - M1 60 41).toNat = 0 by omega]
                      rfl
                    · rw [show (M 60 41 + 4 - M1 60 41).toNat = (M 60 41 + 3 - M1 60 41).toNat + 1 by omega]
                      exact bk_nm0 (by omega)
                  refine xa_wkI 0 rfl (fun _ _ => by omega) (k _ _ (fun q j hq => hk q j (by omega)) (show (M 60 41) ≤ (M1 60 41) ∧ ((M1 60 41) = (M 60 41) ∨ (M1 60 41) ≤ 60) by omega) ?_)
                  show (¬ (M 60 42) = -1 ∧ 0 = 0 ∧ (M1 60 41) = (M 60 41) ∧ (M1 60 42) = (M 60 42)) ∨ ((M 60 42) = -1 ∧ ∃ x g q, bk_N T e (M 60 41) x g q ∧ ((g = 1 ∧ 0 = x ∧ (M1 60 41) = q ∧ (M1 60 42) = -1) ∨ (g = 0 ∧ 0 = 0 ∧ (M1 60 42) = q)))
                  exact Or.inr ⟨hw, v, 0, (M1 60 42), ⟨_, hz, by omega, by omega, by omega⟩, by omega⟩
                · intro (c25 : (M1 60 42) = (-1))
                  show xa_wk post (some (0, 0, 0, 9999, v)) M1
                  have e42 : M1 60 42 = M 60 42 := hk 60 42 (by decide)
                  have t41 := hT (M1 60 41)
                  have e73 : M1 73 (M1 60 41) = M 73 (M1 60 41) := hk 73 _ (by omega)
                  have r73 := xm_t73 hM (M1 60 41)
                  have hz : bk_nm T e 4 (M 60 41) 0 = (M1 60 41, v) := by
                    rw [← hb]
                    by_cases c9 : M1 60 41 = M 60 41 + 4
                    · rw [show (M 60 41 + 4 - M1 60 41).toNat = 0 by omega]
                      rfl
                    · rw [show (M 60 41 + 4 - M1 60 41).toNat = (M 60 41 + 3 - M1 60 41).toNat + 1 by omega]
                      exact bk_nm0 (by omega)
                  refine xa_wkI v rfl (fun _ _ => by omega) (k _ _ (fun q j hq => hk q j (by omega)) (show (M 60 41) ≤ (M1 60 41) ∧ ((M1 60 41) = (M 60 41) ∨ (M1 60 41) ≤ 60) by omega) ?_)
                  show (¬ (M 60 42) = -1 ∧ v = 0 ∧ (M1 60 41) = (M 60 41) ∧ (M1 60 42) = (M 60 42)) ∨ ((M 60 42) = -1 ∧ ∃ x g q, bk_N T e (M 60 41) x g q ∧ ((g = 1 ∧ v = x ∧ (M1 60 41) = q ∧ (M1 60 42) = -1) ∨ (g = 0 ∧ v = 0 ∧ (M1 60 42) = q)))
                  exact Or.inr ⟨hw, v, 0, (M1 60 42), ⟨_, hz, by omega, by omega, by omega⟩, by omega⟩
          · intro (c18 : (M1 60 41) = (M 60 41))
            show xa_C xm_I A h0 _ 255 [(2, 60, 0, 0, 0), (0, 0, 0, 100, M1 60 41)] M1 _
            refine ct_fault trivial ?_ ?_
            · intro (i26 : (M1 60 42) = -1)
              refine And.intro ?_ ?_
              · intro (c27 : ¬ (M1 60 41) = (-1))
                show xa_wk post (some (0, 0, 0, 0, 0)) (xa_up M1 60 42 (M1 60 41))
                have e42 : M1 60 42 = M 60 42 := hk 60 42 (by decide)
                have t41 := hT (M1 60 41)
                have e73 : M1 73 (M1 60 41) = M 73 (M1 60 41) := hk 73 _ (by omega)
                have r73 := xm_t73 hM (M1 60 41)
                have hz : bk_nm T e 4 (M 60 41) 0 = (M1 60 41, v) := by
                  rw [← hb]
                  by_cases c9 : M1 60 41 = M 60 41 + 4
                  · rw [show (M 60 41 + 4 - M1 60 41).toNat = 0 by omega]
                    rfl
                  · rw [show (M 60 41 + 4 - M1 60 41).toNat = (M 60 41 + 3 - M1 60 41).toNat + 1 by omega]
                    exact bk_nm0 (by omega)
                refine xa_wkI 0 rfl (fun _ _ => by omega) (k _ _ (fun q j hq => (xa_up_ne (by omega)).trans (hk q j (by omega))) (show (M 60 41) ≤ (M1 60 41) ∧ ((M1 60 41) = (M 60 41) ∨ (M1 60 41) ≤ 60) by omega) ?_)
                show (¬ (M 60 42) = -1 ∧ 0 = 0 ∧ (M1 60 41) = (M 60 41) ∧ (M1 60 41) = (M 60 42)) ∨ ((M 60 42) = -1 ∧ ∃ x g q, bk_N T e (M 60 41) x g q ∧ ((g = 1 ∧ 0 = x ∧ (M1 60 41) = q ∧ (M1 60 41) = -1) ∨ (g = 0 ∧ 0 = 0 ∧ (M1 60 41) = q)))
                exact Or.inr ⟨hw, v, 0, (M1 60 41), ⟨_, hz, by omega, by omega, by omega⟩, by omega⟩
              · intro (c27 : (M1 60 41) = (-1))
                show xa_wk post (some (0, 0, 0, 9999, v)) (xa_up M1 60 42 (M1 60 41))
                have e42 : M1 60 42 = M 60 42 := hk 60 42 (by decide)
                have t41 := hT (M1 60 41)
                have e73 : M1 73 (M1 60 41) = M 73 (M1 60 41) := hk 73 _ (by omega)
                have r73 := xm_t73 hM (M1 60 41)
                have hz : bk_nm T e 4 (M 60 41) 0 = (M1 60 41, v) := by
                  rw [← hb]
                  by_cases c9 : M1 60 41 = M 60 41 + 4
                  · rw [show (M 60 41 + 4 - M1 60 41).toNat = 0 by omega]
                    rfl
                  · rw [show (M 60 41 + 4 - M1 60 41).toNat = (M 60 41 + 3 - M1 60 41).toNat + 1 by omega]
                    exact bk_nm0 (by omega)
                refine xa_wkI v rfl (fun _ _ => by omega) (k _ _ (fun q j hq => (xa_up_ne (by omega)).trans (hk q j (by omega))) (show (M 60 41) ≤ (M1 60 41) ∧ ((M1 60 41) = (M 60 41) ∨ (M1 60 41) ≤ 60) by omega) ?_)
                show (¬ (M 60 42) = -1 ∧ v = 0 ∧ (M1 60 41) = (M 60 41) ∧ (M1 60 41) = (M 60 42)) ∨ ((M 60 42) = -1 ∧ ∃ x g q, bk_N T e (M 60 41) x g q ∧ ((g = 1 ∧ v = x ∧ (M1 60 41) = q ∧ (M1 60 41) = -1) ∨ (g = 0 ∧ v = 0 ∧ (M1 60 41) = q)))
                exact Or.inr ⟨hw, v, 0, (M1 60 41), ⟨_, hz, by omega, by omega, by omega⟩, by omega⟩
            · intro (i28 : ¬ (M1 60 42) = -1)
              refine And.intro ?_ ?_
              · intro (c29 : ¬ (M1 60 42) = (-1))
                show xa_wk post (some (0, 0, 0, 0, 0)) M1
                have e42 : M1 60 42 = M 60 42 := hk 60 42 (by decide)
                have t41 := hT (M1 60 41)
                have e73 : M1 73 (M1 60 41) = M 73 (M1 60 41) := hk 73 _ (by omega)
                have r73 := xm_t73 hM (M1 60 41)
                have hz : bk_nm T e 4 (M 60 41) 0 = (M1 60 41, v) := by
                  rw [← hb]
                  by_cases c9 : M1 60 41 = M 60 41 + 4
                  · rw [show (M 60 41 + 4 - M1 60 41).toNat = 0 by omega]
                    rfl
                  · rw [show (M 60 41 + 4 - M1 60 41).toNat = (M 60 41 + 3 - M1 60 41).toNat + 1 by omega]
                    exact bk_nm0 (by omega)
                refine xa_wkI 0 rfl (fun _ _ => by omega) (k _ _ (fun q j hq => hk q j (by omega)) (show (M 60 41) ≤ (M1 60 41) ∧ ((M1 60 41) = (M 60 41) ∨ (M1 60 41) ≤ 60) by omega) ?_)
                show (¬ (M 60 42) = -1 ∧ 0 = 0 ∧ (M1 60 41) = (M 60 41) ∧ (M1 60 42) = (M 60 42)) ∨ ((M 60 42) = -1 ∧ ∃ x g q, bk_N T e (M 60 41) x g q ∧ ((g = 1 ∧ 0 = x ∧ (M1 60 41) = q ∧ (M1 60 42) = -1) ∨ (g = 0 ∧ 0 = 0 ∧ (M1 60 42) = q)))
                exact Or.inr ⟨hw, v, 0, (M1 60 42), ⟨_, hz, by omega, by omega, by omega⟩, by omega⟩
              · intro (c29 : (M1 60 42) = (-1))
                show xa_wk post (some (0, 0, 0, 9999, v)) M1
                have e42 : M1 60 42 = M 60 42 := hk 60 42 (by decide)
                have t41 := hT (M1 60 41)
                have e73 : M1 73 (M1 60 41) = M 73 (M1 60 41) := hk 73 _ (by omega)
                have r73 := xm_t73 hM (M1 60 41)
                have hz : bk_nm T e 4 (M 60 41) 0 = (M1 60 41, v) := by
                  rw [← hb]
                  by_cases c9 : M1 60 41 = M 60 41 + 4
                  · rw [show (M 60 41 + 4 - M1 60 41).toNat = 0 by omega]
                    rfl
                  · rw [show (M 60 41 + 4 - M1 60 41).toNat = (M 60 41 + 3 - M1 60 41).toNat + 1 by omega]
                    exact bk_nm0 (by omega)
                refine xa_wkI v rfl (fun _ _ => by omega) (k _ _ (fun q j hq => hk q j (by omega)) (show (M 60 41) ≤ (M1 60 41) ∧ ((M1 60 41) = (M 60 41) ∨ (M1 60 41) ≤ 60) by omega) ?_)
                show (¬ (M 60 42) = -1 ∧ v = 0 ∧ (M1 60 41) = (M 60 41) ∧ (M1 60 42) = (M 60 42)) ∨ ((M 60 42) = -1 ∧ ∃ x g q, bk_N T e (M 60 41) x g q ∧ ((g = 1 ∧ v = x ∧ (M1 60 41) = q ∧ (M1 60 42) = -1) ∨ (g = 0 ∧ v = 0 ∧ (M1 60 42) = q)))
                exact Or.inr ⟨hw, v, 0, (M1 60 42), ⟨_, hz, by omega, by omega, by omega⟩, by omega⟩
  refine hgo.1 14 [17] 0 _ _ _ ?_
  refine And.intro ?_ ?_
  · intro (c1 : (M 60 42) = (-1))
    have loop := loop c1
    show Q 17 [(2, (0, 0, 0, 0, 0)), (1, (0, 0, 0, 100, M 60 41)), (0, (2, 60, 0, 0, 0))] [] M
    refine hgo.2.1 17 _ [(1, (0, 0, 0, 100, M 60 41)), (2, (0, 0, 0, 9999, 0)), (0, (2, 60, 0, 0, 0))] _ _ (xa_subI rfl rfl (fun _ _ _ _ => by omega) (xa_subI rfl rfl (fun _ _ _ _ => by omega) (xa_subR rfl (xa_sub0)))) ?_
    exact loop 5 0 M (fun _ _ _ => rfl) (by omega) (by rw [show M 60 41 + 4 - M 60 41 = 4 by omega]; rfl) (by omega) (by omega)
  · intro (c1 : ¬ (M 60 42) = (-1))
    show xa_wk post (some (0, 0, 0, 0, 0)) M
    exact xa_wkI 0 rfl (fun _ _ => by omega) (k _ _ (fun _ _ _ => rfl) (by omega) (Or.inl ⟨by omega, rfl, rfl, rfl⟩))
theorem ms_bookF {A : Nat → Nat} {h0 : g_H} {d : Nat} {M : xa_M} {post : Option xa_V → xa_M → Prop} {T : Int → Int} (hT : ∀ i, 0 ≤ i → i < 80 → T i = M 73 i % 256) (hI : xm_Inv M) (k : ∀ (ans : Int) (M1 : xa_M), bk_R T (M 60 18) ans (M1 88) (M1 89) (fun i => bk_n (M1 90 i)) → M1 60 18 = 0 → ((0 ≤ ans ∧ M1 60 11 = ans ∧ ∀ i, 0 ≤ i → i < ans → M1 70 i = M1 88 i ∧ M1 71 i = M1 89 i ∧ M1 72 i = M1 90 i) ∨ (ans < 0 ∧ M1 60 11 = M 60 11 ∧ ∀ i, M1 70 i = M 70 i ∧ M1 71 i = M 71 i ∧ M1 72 i = M 72 i)) → xm_Inv M1 → (∀ q j, ¬ xm_scr q j → ¬ (q = 60 ∧ (j = 18 ∨ j = 11)) → ¬ (70 ≤ q ∧ q ≤ 72) → M1 q j = M q j) → post (some (0, 0, (-2147483648), 2147483647, ans)) M1) : xa_C xm_I A h0 (d + 3) 252 [(2, 60, 0, 0, 0)] M post := by
  refine xa_C_wk ?_
  refine xa_meth (Q0 := (4, 1, false, 0, 0, 12)) (by decide +kernel) ⟨rfl, rfl⟩ (full := s_c_252) rfl rfl ?_
  intro hM hv Q hgo
  have b18 := xm_f18 hM
  have copy : ∀ (u : Int), 0 ≤ u → u ≤ 8 → ∀ (M0 : xa_M), bk_R T (M 60 18) u (M0 88) (M0 89) (fun i => bk_n (M0 90 i)) → M0 60 18 = 0 → ∀ (MC : xa_M), xm_bkc M MC u 0 → (∀ q j, ¬ (70 ≤ q ∧ q ≤ 72) → ¬ (q = 60 ∧ j = 11) → MC q j = M0 q j) → (∀ i, 0 ≤ i → i < (0 : Int) → MC 70 i = M0 88 i ∧ MC 71 i = M0 89 i ∧ MC 72 i = M0 90 i) → Q 216 [(3, (0, 0, 0, 8, 0)), (1, (0, 0, 0, 8, u)), (0, (2, 60, 0, 0, 0))] [] MC := by
    intro u h0 h8 M0 hB1 he18
    have loopC : ∀ (n : Nat) (p : Int) (M1 : xa_M), 0 ≤ p → p ≤ u → xm_bkc M M1 u p → (∀ q j, ¬ (70 ≤ q ∧ q ≤ 72) → ¬ (q = 60 ∧ j = 11) → M1 q j = M0 q j) → (∀ i, 0 ≤ i → i < p → M1 70 i = M0 88 i ∧ M1 71 i = M0 89 i ∧ M1 72 i = M0 90 i) → u - p < (n : Int) → Q 216 [(3, (0, 0, 0, 8, p)), (1, (0, 0, 0, 8, u)), (0, (2, 60, 0, 0, 0))] [] M1 := by
      intro n
      induction n with
      | zero => intro p M1 h1 h2 hk ho hc hms; omega
      | succ n ih =>
        intro p M1 h1 h2 hk ho hc hms
        refine hgo.1 34 [43, 216] 216 _ _ _ ?_
        refine And.intro ?_ ?_
        · intro (c1 : u ≤ p)
          show xa_wk post (some (0, 0, 0, 8, u)) M1
          have q88 : M1 88 = M0 88 := funext (fun j => ho 88 j (by omega) (by omega))
          have q89 : M1 89 = M0 89 := funext (fun j => ho 89 j (by omega) (by omega))
          have q90 : M1 90 = M0 90 := funext (fun j => ho 90 j (by omega) (by omega))
          have hk9 : xm_bkc M M1 u u := ⟨hk.1, hk.2.1, hk.2.2.1, fun x x0 x1 => hk.2.2.2 x x0 (by omega)⟩
          refine xa_wkI u rfl (fun _ _ => by omega) (k u M1 (by rw [q88, q89, q90]; exact hB1) ((ho 60 18 (by omega) (by omega)).trans he18) (Or.inl ⟨h0, hk.2.1, fun i i0 i1 => ?_⟩) (xm_bkc_I hI hk9) (fun q j g1 g2 g3 => hk.1 q j g1 g2 g3))
          obtain ⟨f1, f2, f3⟩ := hc i i0 (by omega)
          exact ⟨f1.trans (by rw [q88]), f2.trans (by rw [q89]), f3.trans (by rw [q90])⟩
        · intro (c1 : p < u)
          refine And.intro (show 0 ≤ p ∧ p < 8 by omega) ?_
          refine And.intro (show 0 ≤ p ∧ p < 8 by omega) ?_
          refine And.intro (show 0 ≤ p ∧ p < 8 by omega) ?_
          refine And.intro (show 0 ≤ p ∧ p < 8 by omega) ?_
          refine And.intro (show 0 ≤ p ∧ p < 8 by omega) ?_
          refine And.intro (show 0 ≤ p ∧ p < 8 by omega) ?_
          show Q 216 [(3, (0, 0, 1, 9, p + 1)), (1, (0, 0, 0, 8, u)), (0, (2, 60, 0, 0, 0))] [] (xa_up (xa_up (xa_up M1 70 p (M1 88 p)) 71 p (M1 89 p)) 72 p (M1 90 p))
          refine hgo.2.1 216 _ [(3, (0, 0, 0, 8, p + 1)), (1, (0, 0, 0, 8, u)), (0, (2, 60, 0, 0, 0))] _ _ (xa_subI rfl rfl (fun _ _ _ _ => by omega) (xa_subI rfl rfl (fun _ _ _ _ => by omega) (xa_subR rfl (xa_sub0)))) ?_
          exact ih (p + 1) _ (by omega) (by omega) ⟨fun q j hn h4 h5 => by
              rw [xa_up_ne (by omega), xa_up_ne (by omega), xa_up_ne (by omega)]
              exact hk.1 q j hn h4 h5, by
              rw [xa_up_ne (by omega), xa_up_ne (by omega), xa_up_ne (by omega)]
              exact hk.2.1, fun x x0 x1 => by
              rw [xa_up_ne (by omega), xa_up_ne (by omega), xa_up_ne (by omega), xa_up_ne (by omega), xa_up_ne (by omega), xa_up_ne (by omega)]
              exact hk.2.2.1 x x0 x1, fun x x0 x1 => by
              by_cases e : x = p
              · rw [e]
                have f := hk.2.2.1 p h1 (by omega)
                exact ⟨by
                  rw [xa_up_ne (by omega), xa_up_ne (by omega), xa_up_hit (by omega)]
                  exact f.1, by
                  rw [xa_up_ne (by omega), xa_up_hit (by omega)]
                  exact f.2⟩
              · have f := hk.2.2.2 x x0 (by omega)
                exact ⟨by
                  rw [xa_up_ne (by omega), xa_up_ne (by omega), xa_up_ne (by omega)]
                  exact f.1, by
                  rw [xa_up_ne (by omega), xa_up_ne (by omega), xa_up_ne (by omega)]
                  exact f.2⟩⟩ (fun q j g1 g2 => by
              rw [xa_up_ne (by omega), xa_up_ne (by omega), xa_up_ne (by omega)]
              exact ho q j g1 g2) (fun i i0 i1 => by
              by_cases e : i = p
              · rw [e]
                have q88 := ho 88 p (by omega) (by omega)
                have q89 := ho 89 p (by omega) (by omega)
                have q90 := ho 90 p (by omega) (by omega)
                exact ⟨by
                  rw [xa_up_ne (by omega), xa_up_ne (by omega), xa_up_hit (by omega)]
                  exact q88, by
                  rw [xa_up_ne (by omega), xa_up_hit (by omega)]
                  exact q89, by
                  rw [xa_up_hit (by omega)]
                  exact q90⟩
              · have f := hc i i0 (by omega)
                exact ⟨by
                  rw [xa_up_ne (by omega), xa_up_ne (by omega), xa_up_ne (by omega)]
                  exact f.1, by
                  rw [xa_up_ne (by omega), xa_up_ne (by omega), xa_up_ne (by omega)]
                  exact f.2.1, by
                  rw [xa_up_ne (by omega), xa_up_ne (by omega), xa_up_ne (by omega)]
                  exact f.2.2⟩) (by omega)
    intro MC hk ho hc
    exact loopC 9 0 MC (by omega) h0 hk ho hc (by omega)
  have loop : ∀ (e : Int), ((M 60 18 ≤ 60 ∧ e = M 60 18) ∨ (60 < M 60 18 ∧ e = 60)) ∧ e = (if M 60 18 ≤ 60 then M 60 18 else 60) → ∀ (n : Nat) (u z : Int) (M1 : xa_M), 0 ≤ u → u ≤ 8 → 0 ≤ z ∧ z ≤ 1 → (z = 1 → u ≤ 7) → xm_c18 M M1 → M1 60 40 = M 60 18 → M1 60 18 = 0 → M1 60 42 = -1 → (∀ i, 0 ≤ i → i < 80 → M1 73 i = M 73 i) → (∀ x, 0 ≤ x → x < u → 1 ≤ M1 88 x ∧ 1 ≤ M1 89 x) → (z = 1 → 0 ≤ M1 60 41 ∧ M1 60 41 ≤ e ∧ 1 ≤ M 60 18) → (z = 1 → (∀ (ans : Int) (U W N : Int → Int), (∀ i, 0 ≤ i → i < u → U i = M1 88 i ∧ W i = M1 89 i ∧ N i = bk_n (M1 90 i)) → bk_B T e (M 60 18) ans U W N (8 - u).toNat u (M1 60 41) → bk_B T e (M 60 18) ans U W N 8 0 0)) → (z = 0 → ∃ ans, bk_R T (M 60 18) ans (M1 88) (M1 89) (fun i => bk_n (M1 90 i)) ∧ ((M1 60 41 < M 60 18 ∧ ans = -1 - M1 60 41 ∧ ans < 0) ∨ (¬ M1 60 41 < M 60 18 ∧ ans = u ∧ 0 ≤ ans))) → 8 - u < (n : Int) → Q 43 [(1, (0, 0, 0, 8, u)), (2, (0, 0, 0, 1, z)), (0, (2, 60, 0, 0, 0))] [] M1 := by
    intro e ⟨he3, he⟩ n
    induction n with
    | zero => intro u z M1 h1 h2 z0 hz hs e40M1 e18M1 hw e73M1 hn hA1 hA hB hms; omega
    | succ n ih =>
      intro u z M1 h1 h2 z0 hz hs e40M1 e18M1 hw e73M1 hn hA1 hA hB hms
      refine hgo.2.2 _ _ _ _ (fun hM1 _ => ?_)
      have b41 := xm_f41 hM1
      refine hgo.1 76 [43, 216] 43 _ _ _ ?_
      refine And.intro ?_ ?_
      · intro (c1 : z = 0)
        refine And.intro ?_ ?_
        · intro (c2 : (M1 60 40) ≤ (M1 60 41))
          show Q 216 [(3, (0, 0, 0, 0, 0)), (1, (0, 0, 0, 8, u)), (2, (0, 0, 0, 1, z)), (0, (2, 60, 0, 0, 0))] [] (xa_up M1 60 11 u)
          obtain ⟨ans, hB1, hB2⟩ := hB (by omega)
          have ea : ans = u := by omega
          rw [ea] at hB1
          refine hgo.2.1 216 _ [(3, (0, 0, 0, 8, 0)), (1, (0, 0, 0, 8, u)), (0, (2, 60, 0, 0, 0))] _ _ (xa_subI rfl rfl (fun _ _ _ _ => by omega) (xa_subI rfl rfl (fun _ _ _ _ => by omega) (xa_subR rfl (xa_sub0)))) ?_
          exact copy u h1 h2 M1 hB1 e18M1 _ ⟨fun q j g1 g2 g3 => (xa_up_ne (by omega)).trans (hs q j g1 (by omega)), xa_up_eq, fun x x0 x1 => by rw [xa_up_ne (by omega), xa_up_ne (by omega)]; exact hn x x0 x1, fun x x0 x1 => by omega⟩ (fun q j g1 g2 => xa_up_ne (by omega)) (fun i i0 i1 => by omega)
        · intro (c2 : (M1 60 41) < (M1 60 40))
          show xa_wk post (some (0, 0, (-101), (-1), (-1) - (M1 60 41))) M1
          obtain ⟨ans, hB1, hB2⟩ := hB (by omega)
          refine xa_wkI ans (by omega) (fun _ _ => by omega) (k ans _ hB1 e18M1 ?_ (xm_c18_I hI hs) (fun q j h1 h2 h3 => hs q j h1 (by omega)))
          exact Or.inr ⟨by omega, hs 60 11 (by omega) (by omega), fun i => ⟨hs 70 i (by omega) (by omega), hs 71 i (by omega) (by omega), hs 72 i (by omega) (by omega)⟩⟩
      · intro (c1 : ¬ z = 0)
        have hA2 := hA (by omega)
        have hA3 := hA1 (by omega)
        have hz7 := hz (by omega)
        show xa_C xm_I A h0 _ 253 [(2, 60, 0, 0, 0)] M1 _
        refine ct_numF (fun i i0 i1 => by rw [e73M1 i i0 i1]; exact hT i i0 i1) (show (((M1 60 40) ≤ 60 ∧ e = (M1 60 40)) ∨ (60 < (M1 60 40) ∧ e = 60)) by omega) (show 0 ≤ (M1 60 41) ∧ (M1 60 41) ≤ 61 by omega) ?_
        intro r113 M114 (i3 : xm_f2 M1 M114) (i4 : (M1 60 41) ≤ M114 60 41 ∧ (M114 60 41 = (M1 60 41) ∨ M114 60 41 ≤ 60)) (i5 : (¬ (M1 60 42) = -1 ∧ r113 = 0 ∧ M114 60 41 = (M1 60 41) ∧ M114 60 42 = (M1 60 42)) ∨ ((M1 60 42) = -1 ∧ ∃ x g q, bk_N T e (M1 60 41) x g q ∧ ((g = 1 ∧ r113 = x ∧ M114 60 41 = q ∧ M114 60 42 = -1) ∨ (g = 0 ∧ r113 = 0 ∧ M114 60 42 = q))))
        have csM114 : xm_c18 M M114 := xm_c18_f (hs) i3
        have e40M114 : M114 60 40 = M 60 18 := (i3 60 40 (by omega)).trans (e40M1)
        have e18M114 : M114 60 18 = 0 := (i3 60 18 (by omega)).trans (e18M1)
        have e73M114 : ∀ i, 0 ≤ i → i < 80 → M114 73 i = M 73 i := fun i i0 i1 => (i3 73 i (by omega)).trans (e73M1 i i0 i1)
        have aXM114 : ∀ i, 0 ≤ i → i < u → M114 88 i = M1 88 i ∧ M114 89 i = M1 89 i ∧ M114 90 i = M1 90 i := fun i i0 i1 => ⟨(i3 88 i (by omega)).trans (rfl), (i3 89 i (by omega)).trans (rfl), (i3 90 i (by omega)).trans (rfl)⟩
        have xM114 := xm_t73 hM (M114 60 41)
        have yM114 := e73M114 (M114 60 41)
        have tM114 := hT (M114 60 41)
        have xxM114 := xm_t73 hM (M114 60 41 + 1)
        have yyM114 := e73M114 (M114 60 41 + 1)
        have ttM114 := hT (M114 60 41 + 1)
        obtain ⟨-, x1, g1, q1, n1, n2⟩ := i5.resolve_left (fun h => h.1 hw)
        have b1 := bk_N_b n1
        refine And.intro (show 0 ≤ u ∧ u < 8 by omega) ?_
        show xa_C xm_I A h0 _ 254 [(2, 60, 0, 0, 0)] (xa_up M114 88 u r113) _
        refine ct_here ?_
        intro r115 (i6 : ((M114 60 41) < (M114 60 40) ∧ (M114 60 41) < 60 ∧ r115 = M114 73 (M114 60 41)) ∨ (¬ ((M114 60 41) < (M114 60 40) ∧ (M114 60 41) < 60) ∧ r115 = -1))
        refine And.intro ?_ ?_
        · intro (c7 : r115 = 58)
          refine And.intro (show 0 ≤ ((M114 60 41) + 1) ∧ ((M114 60 41) + 1) ≤ 100 by omega) ?_
          show xa_C xm_I A h0 _ 253 [(2, 60, 0, 0, 0)] (xa_up (xa_up M114 88 u r113) 60 41 ((M114 60 41) + 1)) _
          refine ct_numF (fun i i0 i1 => by rw [xa_up_ne (by omega), xa_up_ne (by omega), e73M114 i i0 i1]; exact hT i i0 i1) (show (((M114 60 40) ≤ 60 ∧ e = (M114 60 40)) ∨ (60 < (M114 60 40) ∧ e = 60)) by omega) (show 0 ≤ ((M114 60 41) + 1) ∧ ((M114 60 41) + 1) ≤ 61 by omega) ?_
          intro r116 M117 (i8 : xm_f2 (xa_up (xa_up M114 88 u r113) 60 41 ((M114 60 41) + 1)) M117) (i9 : ((M114 60 41) + 1) ≤ M117 60 41 ∧ (M117 60 41 = ((M114 60 41) + 1) ∨ M117 60 41 ≤ 60)) (i10 : (¬ (M114 60 42) = -1 ∧ r116 = 0 ∧ M117 60 41 = ((M114 60 41) + 1) ∧ M117 60 42 = (M114 60 42)) ∨ ((M114 60 42) = -1 ∧ ∃ x g q, bk_N T e ((M114 60 41) + 1) x g q ∧ ((g = 1 ∧ r116 = x ∧ M117 60 41 = q ∧ M117 60 42 = -1) ∨ (g = 0 ∧ r116 = 0 ∧ M117 60 42 = q))))
          have csM117 : xm_c18 M M117 := xm_c18_f (xm_c18_u (by omega) (xm_c18_u (by omega) (csM114))) i8
          have e40M117 : M117 60 40 = M 60 18 := (i8 60 40 (by omega)).trans ((xa_up_ne (by omega)).trans ((xa_up_ne (by omega)).trans (e40M114)))
          have e18M117 : M117 60 18 = 0 := (i8 60 18 (by omega)).trans ((xa_up_ne (by omega)).trans ((xa_up_ne (by omega)).trans (e18M114)))
          have e73M117 : ∀ i, 0 ≤ i → i < 80 → M117 73 i = M 73 i := fun i i0 i1 => (i8 73 i (by omega)).trans ((xa_up_ne (by omega)).trans ((xa_up_ne (by omega)).trans (e73M114 i i0 i1)))
          have aXM117 : ∀ i, 0 ≤ i → i < u → M117 88 i = M1 88 i ∧ M117 89 i = M1 89 i ∧ M117 90 i = M1 90 i := fun i i0 i1 => ⟨(i8 88 i (by omega)).trans ((xa_up_ne (by omega)).trans ((xa_up_ne (by omega)).trans ((aXM114 i i0 i1).1))), (i8 89 i (by omega)).trans ((xa_up_ne (by omega)).trans ((xa_up_ne (by omega)).trans ((aXM114 i i0 i1).2.1))), (i8 90 i (by omega)).trans ((xa_up_ne (by omega)).trans ((xa_up_ne (by omega)).trans ((aXM114 i i0 i1).2.2)))⟩
          have v88M117 : M117 88 u = r113 := (i8 88 u (by omega)).trans (by simp [xa_up])
          have xM117 := xm_t73 hM (M117 60 41)
          have yM117 := e73M117 (M117 60 41)
          have tM117 := hT (M117 60 41)
          have xxM117 := xm_t73 hM (M117 60 41 + 1)
          have yyM117 := e73M117 (M117 60 41 + 1)
          have ttM117 := hT (M117 60 41 + 1)
          refine And.intro (show 0 ≤ u ∧ u < 8 by omega) ?_
          refine And.intro (show 0 ≤ u ∧ u < 8 by omega) ?_
          refine And.intro ?_ ?_
          · intro (c11 : (M117 60 42) = (-1))
            show xa_C xm_I A h0 _ 254 [(2, 60, 0, 0, 0)] (xa_up (xa_up M117 89 u r116) 90 u (-1)) _
            refine ct_here ?_
            intro r118 (i12 : ((M117 60 41) < (M117 60 40) ∧ (M117 60 41) < 60 ∧ r118 = M117 73 (M117 60 41)) ∨ (¬ ((M117 60 41) < (M117 60 40) ∧ (M117 60 41) < 60) ∧ r118 = -1))
            show xa_C xm_I A h0 _ 214 [(0, 0, (-128), 127, r118), (0, 0, 97, 97, 97), (0, 0, 122, 122, 122)] (xa_up (xa_up M117 89 u r116) 90 u (-1)) _
            refine ct_in ?_ ?_
            · intro (i13 : 97 ≤ r118 ∧ r118 ≤ 122)
              show xa_C xm_I A h0 _ 254 [(2, 60, 0, 0, 0)] (xa_up (xa_up M117 89 u r116) 90 u (-1)) _
              refine ct_here ?_
              intro r119 (i14 : ((M117 60 41) < (M117 60 40) ∧ (M117 60 41) < 60 ∧ r119 = M117 73 (M117 60 41)) ∨ (¬ ((M117 60 41) < (M117 60 40) ∧ (M117 60 41) < 60) ∧ r119 = -1))
              refine And.intro (show 0 ≤ u ∧ u < 8 by omega) ?_
              refine And.intro (show 0 ≤ ((M117 60 41) + 1) ∧ ((M117 60 41) + 1) ≤ 100 by omega) ?_
              show xa_C xm_I A h0 _ 254 [(2, 60, 0, 0, 0)] (xa_up (xa_up (xa_up (xa_up M117 89 u r116) 90 u (-1)) 90 u r119) 60 41 ((M117 60 41) + 1)) _
              refine ct_here ?_
              intro r120 (i15 : (((M117 60 41) + 1) < (M117 60 40) ∧ ((M117 60 41) + 1) < 60 ∧ r120 = M117 73 ((M117 60 41) + 1)) ∨ (¬ (((M117 60 41) + 1) < (M117 60 40) ∧ ((M117 60 41) + 1) < 60) ∧ r120 = -1))
              refine And.intro ?_ ?_
              · intro (c16 : ¬ r120 = 59)
                show Q 43 [(2, (0, 0, 0, 0, 0)), (1, (0, 0, 1, 9, u + 1)), (0, (2, 60, 0, 0, 0))] [] (xa_up (xa_up (xa_up (xa_up M117 89 u r116) 90 u (-1)) 90 u r119) 60 41 ((M117 60 41) + 1))
                have v1 : (xa_up (xa_up (xa_up (xa_up M117 89 u r116) 90 u (-1)) 90 u r119) 60 41 ((M117 60 41) + 1)) 88 u = r113 := (xa_up_ne (by omega)).trans ((xa_up_ne (by omega)).trans ((xa_up_ne (by omega)).trans ((xa_up_ne (by omega)).trans (v88M117))))
                have v2 : (xa_up (xa_up (xa_up (xa_up M117 89 u r116) 90 u (-1)) 90 u r119) 60 41 ((M117 60 41) + 1)) 89 u = r116 := (xa_up_ne (by omega)).trans ((xa_up_ne (by omega)).trans ((xa_up_ne (by omega)).trans (xa_up_eq)))
                have v3 : (xa_up (xa_up (xa_up (xa_up M117 89 u r116) 90 u (-1)) 90 u r119) 60 41 ((M117 60 41) + 1)) 90 u = r119 := (xa_up_ne (by omega)).trans (xa_up_eq)
                have gX : ∀ i, 0 ≤ i → i < u → (xa_up (xa_up (xa_up (xa_up M117 89 u r116) 90 u (-1)) 90 u r119) 60 41 ((M117 60 41) + 1)) 88 i = M1 88 i ∧ (xa_up (xa_up (xa_up (xa_up M117 89 u r116) 90 u (-1)) 90 u r119) 60 41 ((M117 60 41) + 1)) 89 i = M1 89 i ∧ bk_n ((xa_up (xa_up (xa_up (xa_up M117 89 u r116) 90 u (-1)) 90 u r119) 60 41 ((M117 60 41) + 1)) 90 i) = bk_n (M1 90 i) := fun i i0 i1 => ⟨(xa_up_ne (by omega)).trans ((xa_up_ne (by omega)).trans ((xa_up_ne (by omega)).trans ((xa_up_ne (by omega)).trans ((aXM117 i i0 i1).1)))), (xa_up_ne (by omega)).trans ((xa_up_ne (by omega)).trans ((xa_up_ne (by omega)).trans ((xa_up_ne (by omega)).trans ((aXM117 i i0 i1).2.1)))), congrArg bk_n ((xa_up_ne (by omega)).trans ((xa_up_ne (by omega)).trans ((xa_up_ne (by omega)).trans ((xa_up_ne (by omega)).trans ((aXM117 i i0 i1).2.2)))))⟩
                obtain ⟨-, x2, g2, q2, m1, m2⟩ := i10.resolve_left (fun h => h.1 (by omega))
                have b2 := bk_N_b m1
                have k1 : g1 = 1 := by omega
                have k2 : g2 = 1 := by omega
                have eq1 : M114 60 41 = q1 := by omega
                rw [eq1] at m1
                have hL : bk_L T e (M1 60 41) 1 ((xa_up (xa_up (xa_up (xa_up M117 89 u r116) 90 u (-1)) 90 u r119) 60 41 ((M117 60 41) + 1)) 88 u) ((xa_up (xa_up (xa_up (xa_up M117 89 u r116) 90 u (-1)) 90 u r119) 60 41 ((M117 60 41) + 1)) 89 u) (bk_n ((xa_up (xa_up (xa_up (xa_up M117 89 u r116) 90 u (-1)) 90 u r119) 60 41 ((M117 60 41) + 1)) 90 u)) ((M117 60 41) + 1) := by
                  rw [v1, v2, v3]
                  exact ⟨_, _, _, n1, Or.inr (Or.inr ⟨by omega, by omega, by omega, _, _, _, m1, Or.inr ⟨by omega, rfl, by omega, by omega, Or.inl ⟨by omega, by omega, by omega, by unfold bk_n; split <;> omega, by omega⟩⟩⟩)⟩
                have nn : ∀ i, 0 ≤ i → i < u + 1 → 1 ≤ (xa_up (xa_up (xa_up (xa_up M117 89 u r116) 90 u (-1)) 90 u r119) 60 41 ((M117 60 41) + 1)) 88 i ∧ 1 ≤ (xa_up (xa_up (xa_up (xa_up M117 89 u r116) 90 u (-1)) 90 u r119) 60 41 ((M117 60 41) + 1)) 89 i := fun i i0 i1 => by
                  by_cases ei : i = u
                  · rw [ei, v1, v2]
                    omega
                  · have g9 := gX i i0 (by omega)
                    rw [g9.1, g9.2.1]
                    exact hn i i0 (by omega)
                have hBB : ∃ ans, bk_B T e (M 60 18) ans ((xa_up (xa_up (xa_up (xa_up M117 89 u r116) 90 u (-1)) 90 u r119) 60 41 ((M117 60 41) + 1)) 88) ((xa_up (xa_up (xa_up (xa_up M117 89 u r116) 90 u (-1)) 90 u r119) 60 41 ((M117 60 41) + 1)) 89) (fun i => bk_n ((xa_up (xa_up (xa_up (xa_up M117 89 u r116) 90 u (-1)) 90 u r119) 60 41 ((M117 60 41) + 1)) 90 i)) 8 0 0 ∧ ((((M117 60 41) + 1) < M 60 18 ∧ ans = -1 - ((M117 60 41) + 1) ∧ ans < 0) ∨ (¬ ((M117 60 41) + 1) < M 60 18 ∧ ans = u + 1)) := by
                  by_cases z9 : ((M117 60 41) + 1) < M 60 18
                  · exact ⟨_, bk_B_end h1 (by omega) hA2 gX hL (Or.inr ⟨rfl, by omega⟩), Or.inl ⟨z9, rfl, by omega⟩⟩
                  · exact ⟨u + 1, bk_B_end h1 (by omega) hA2 gX hL (Or.inr ⟨rfl, by omega⟩), Or.inr ⟨z9, rfl⟩⟩
                obtain ⟨ans, hB1, hB2⟩ := hBB
                have b41x : 0 ≤ ((M117 60 41) + 1) ∧ ((M117 60 41) + 1) ≤ 61 := by omega
                refine hgo.2.1 43 _ [(1, (0, 0, 0, 8, u + 1)), (2, (0, 0, 0, 1, 0)), (0, (2, 60, 0, 0, 0))] _ _ (xa_subI rfl rfl (fun _ _ _ _ => by omega) (xa_subI rfl rfl (fun _ _ _ _ => by omega) (xa_subR rfl (xa_sub0)))) ?_
                refine ih (u + 1) 0 _ (by omega) (by omega) (by omega) (fun h => by omega) (xm_c18_u (by omega) (xm_c18_u (by omega) (xm_c18_u (by omega) (xm_c18_u (by omega) (csM117))))) ((xa_up_ne (by omega)).trans ((xa_up_ne (by omega)).trans ((xa_up_ne (by omega)).trans ((xa_up_ne (by omega)).trans (e40M117))))) ((xa_up_ne (by omega)).trans ((xa_up_ne (by omega)).trans ((xa_up_ne (by omega)).trans ((xa_up_ne (by omega)).trans (e18M117))))) (by rw [xa_up_ne (by omega), xa_up_ne (by omega), xa_up_ne (by omega), xa_up_ne (by omega)]; omega) (fun i i0 i1 => (xa_up_ne (by omega)).trans ((xa_up_ne (by omega)).trans ((xa_up_ne (by omega)).trans ((xa_up_ne (by omega)).trans (e73M117 i i0 i1))))) nn (fun h => by omega) (fun h => absurd h (by omega)) (fun _ => ⟨ans, Or.inr ⟨by omega, by rw [← he]; exact hB1⟩, ?_⟩) (by omega)
                show (((M117 60 41) + 1) < M 60 18 ∧ ans = -1 - ((M117 60 41) + 1) ∧ ans < 0) ∨ (¬ ((M117 60 41) + 1) < M 60 18 ∧ ans = u + 1 ∧ 0 ≤ ans)
                omega
              · intro (c16 : r120 = 59)
                refine And.intro ?_ ?_
                · intro (c17 : 8 ≤ (u + 1))
                  show Q 43 [(2, (0, 0, 0, 0, 0)), (1, (0, 0, 1, 9, u + 1)), (0, (2, 60, 0, 0, 0))] [] (xa_up (xa_up (xa_up (xa_up M117 89 u r116) 90 u (-1)) 90 u r119) 60 41 ((M117 60 41) + 1))
                  have v1 : (xa_up (xa_up (xa_up (xa_up M117 89 u r116) 90 u (-1)) 90 u r119) 60 41 ((M117 60 41) + 1)) 88 u = r113 := (xa_up_ne (by omega)).trans ((xa_up_ne (by omega)).trans ((xa_up_ne (by omega)).trans ((xa_up_ne (by omega)).trans (v88M117))))
                  have v2 : (xa_up (xa_up (xa_up (xa_up M117 89 u r116) 90 u (-1)) 90 u r119) 60 41 ((M117 60 41) + 1)) 89 u = r116 := (xa_up_ne (by omega)).trans ((xa_up_ne (by omega)).trans ((xa_up_ne (by omega)).trans (xa_up_eq)))
                  have v3 : (xa_up (xa_up (xa_up (xa_up M117 89 u r116) 90 u (-1)) 90 u r119) 60 41 ((M117 60 41) + 1)) 90 u = r119 := (xa_up_ne (by omega)).trans (xa_up_eq)
                  have gX : ∀ i, 0 ≤ i → i < u → (xa_up (xa_up (xa_up (xa_up M117 89 u r116) 90 u (-1)) 90 u r119) 60 41 ((M117 60 41) + 1)) 88 i = M1 88 i ∧ (xa_up (xa_up (xa_up (xa_up M117 89 u r116) 90 u (-1)) 90 u r119) 60 41 ((M117 60 41) + 1)) 89 i = M1 89 i ∧ bk_n ((xa_up (xa_up (xa_up (xa_up M117 89 u r116) 90 u (-1)) 90 u r119) 60 41 ((M117 60 41) + 1)) 90 i) = bk_n (M1 90 i) := fun i i0 i1 => ⟨(xa_up_ne (by omega)).trans ((xa_up_ne (by omega)).trans ((xa_up_ne (by omega)).trans ((xa_up_ne (by omega)).trans ((aXM117 i i0 i1).1)))), (xa_up_ne (by omega)).trans ((xa_up_ne (by omega)).trans ((xa_up_ne (by omega)).trans ((xa_up_ne (by omega)).trans ((aXM117 i i0 i1).2.1)))), congrArg bk_n ((xa_up_ne (by omega)).trans ((xa_up_ne (by omega)).trans ((xa_up_ne (by omega)).trans ((xa_up_ne (by omega)).trans ((aXM117 i i0 i1).2.2)))))⟩
                  obtain ⟨-, x2, g2, q2, m1, m2⟩ := i10.resolve_left (fun h => h.1 (by omega))
                  have b2 := bk_N_b m1
                  have k1 : g1 = 1 := by omega
                  have k2 : g2 = 1 := by omega
                  have eq1 : M114 60 41 = q1 := by omega
                  rw [eq1] at m1
                  have hL : bk_L T e (M1 60 41) 1 ((xa_up (xa_up (xa_up (xa_up M117 89 u r116) 90 u (-1)) 90 u r119) 60 41 ((M117 60 41) + 1)) 88 u) ((xa_up (xa_up (xa_up (xa_up M117 89 u r116) 90 u (-1)) 90 u r119) 60 41 ((M117 60 41) + 1)) 89 u) (bk_n ((xa_up (xa_up (xa_up (xa_up M117 89 u r116) 90 u (-1)) 90 u r119) 60 41 ((M117 60 41) + 1)) 90 u)) ((M117 60 41) + 1) := by
                    rw [v1, v2, v3]
                    exact ⟨_, _, _, n1, Or.inr (Or.inr ⟨by omega, by omega, by omega, _, _, _, m1, Or.inr ⟨by omega, rfl, by omega, by omega, Or.inl ⟨by omega, by omega, by omega, by unfold bk_n; split <;> omega, by omega⟩⟩⟩)⟩
                  have nn : ∀ i, 0 ≤ i → i < u + 1 → 1 ≤ (xa_up (xa_up (xa_up (xa_up M117 89 u r116) 90 u (-1)) 90 u r119) 60 41 ((M117 60 41) + 1)) 88 i ∧ 1 ≤ (xa_up (xa_up (xa_up (xa_up M117 89 u r116) 90 u (-1)) 90 u r119) 60 41 ((M117 60 41) + 1)) 89 i := fun i i0 i1 => by
                    by_cases ei : i = u
                    · rw [ei, v1, v2]
                      omega
                    · have g9 := gX i i0 (by omega)
                      rw [g9.1, g9.2.1]
                      exact hn i i0 (by omega)
                  have hBB : ∃ ans, bk_B T e (M 60 18) ans ((xa_up (xa_up (xa_up (xa_up M117 89 u r116) 90 u (-1)) 90 u r119) 60 41 ((M117 60 41) + 1)) 88) ((xa_up (xa_up (xa_up (xa_up M117 89 u r116) 90 u (-1)) 90 u r119) 60 41 ((M117 60 41) + 1)) 89) (fun i => bk_n ((xa_up (xa_up (xa_up (xa_up M117 89 u r116) 90 u (-1)) 90 u r119) 60 41 ((M117 60 41) + 1)) 90 i)) 8 0 0 ∧ ((((M117 60 41) + 1) < M 60 18 ∧ ans = -1 - ((M117 60 41) + 1) ∧ ans < 0) ∨ (¬ ((M117 60 41) + 1) < M 60 18 ∧ ans = u + 1)) := by
                    by_cases z9 : ((M117 60 41) + 1) < M 60 18
                    · exact ⟨_, bk_B_end h1 (by omega) hA2 gX hL (Or.inr ⟨rfl, by omega⟩), Or.inl ⟨z9, rfl, by omega⟩⟩
                    · exact ⟨u + 1, bk_B_end h1 (by omega) hA2 gX hL (Or.inr ⟨rfl, by omega⟩), Or.inr ⟨z9, rfl⟩⟩
                  obtain ⟨ans, hB1, hB2⟩ := hBB
                  have b41x : 0 ≤ ((M117 60 41) + 1) ∧ ((M117 60 41) + 1) ≤ 61 := by omega
                  refine hgo.2.1 43 _ [(1, (0, 0, 0, 8, u + 1)), (2, (0, 0, 0, 1, 0)), (0, (2, 60, 0, 0, 0))] _ _ (xa_subI rfl rfl (fun _ _ _ _ => by omega) (xa_subI rfl rfl (fun _ _ _ _ => by omega) (xa_subR rfl (xa_sub0)))) ?_
                  refine ih (u + 1) 0 _ (by omega) (by omega) (by omega) (fun h => by omega) (xm_c18_u (by omega) (xm_c18_u (by omega) (xm_c18_u (by omega) (xm_c18_u (by omega) (csM117))))) ((xa_up_ne (by omega)).trans ((xa_up_ne (by omega)).trans ((xa_up_ne (by omega)).trans ((xa_up_ne (by omega)).trans (e40M117))))) ((xa_up_ne (by omega)).trans ((xa_up_ne (by omega)).trans ((xa_up_ne (by omega)).trans ((xa_up_ne (by omega)).trans (e18M117))))) (by rw [xa_up_ne (by omega), xa_up_ne (by omega), xa_up_ne (by omega), xa_up_ne (by omega)]; omega) (fun i i0 i1 => (xa_up_ne (by omega)).trans ((xa_up_ne (by omega)).trans ((xa_up_ne (by omega)).trans ((xa_up_ne (by omega)).trans (e73M117 i i0 i1))))) nn (fun h => by omega) (fun h => absurd h (by omega)) (fun _ => ⟨ans, Or.inr ⟨by omega, by rw [← he]; exact hB1⟩, ?_⟩) (by omega)
                  show (((M117 60 41) + 1) < M 60 18 ∧ ans = -1 - ((M117 60 41) + 1) ∧ ans < 0) ∨ (¬ ((M117 60 41) + 1) < M 60 18 ∧ ans = u + 1 ∧ 0 ≤ ans)
                  omega
                · intro (c17 : (u + 1) < 8)
                  refine And.intro (show 0 ≤ (((M117 60 41) + 1) + 1) ∧ (((M117 60 41) + 1) + 1) ≤ 100 by omega) ?_
                  show Q 43 [(2, (0, 0, 1, 1, 1)), (1, (0, 0, 1, 9, u + 1)), (0, (2, 60, 0, 0, 0))] [] (xa_up (xa_up (xa_up (xa_up (xa_up M117 89 u r116) 90 u (-1)) 90 u r119) 60 41 ((M117 60 41) + 1)) 60 41 (((M117 60 41) + 1) + 1))
                  have v1 : (xa_up (xa_up (xa_up (xa_up (xa_up M117 89 u r116) 90 u (-1)) 90 u r119) 60 41 ((M117 60 41) + 1)) 60 41 (((M117 60 41) + 1) + 1)) 88 u = r113 := (xa_up_ne (by omega)).trans ((xa_up_ne (by omega)).trans ((xa_up_ne (by omega)).trans ((xa_up_ne (by omega)).trans ((xa_up_ne (by omega)).trans (v88M117)))))
                  have v2 : (xa_up (xa_up (xa_up (xa_up (xa_up M117 89 u r116) 90 u (-1)) 90 u r119) 60 41 ((M117 60 41) + 1)) 60 41 (((M117 60 41) + 1) + 1)) 89 u = r116 := (xa_up_ne (by omega)).trans ((xa_up_ne (by omega)).trans ((xa_up_ne (by omega)).trans ((xa_up_ne (by omega)).trans (xa_up_eq))))
                  have v3 : (xa_up (xa_up (xa_up (xa_up (xa_up M117 89 u r116) 90 u (-1)) 90 u r119) 60 41 ((M117 60 41) + 1)) 60 41 (((M117 60 41) + 1) + 1)) 90 u = r119 := (xa_up_ne (by omega)).trans ((xa_up_ne (by omega)).trans (xa_up_eq))
                  have gX : ∀ i, 0 ≤ i → i < u → (xa_up (xa_up (xa_up (xa_up (xa_up M117 89 u r116) 90 u (-1)) 90 u r119) 60 41 ((M117 60 41) + 1)) 60 41 (((M117 60 41) + 1) + 1)) 88 i = M1 88 i ∧ (xa_up (xa_up (xa_up (xa_up (xa_up M117 89 u r116) 90 u (-1)) 90 u r119) 60 41 ((M117 60 41) + 1)) 60 41 (((M117 60 41) + 1) + 1)) 89 i = M1 89 i ∧ bk_n ((xa_up (xa_up (xa_up (xa_up (xa_up M117 89 u r116) 90 u (-1)) 90 u r119) 60 41 ((M117 60 41) + 1)) 60 41 (((M117 60 41) + 1) + 1)) 90 i) = bk_n (M1 90 i) := fun i i0 i1 => ⟨(xa_up_ne (by omega)).trans ((xa_up_ne (by omega)).trans ((xa_up_ne (by omega)).trans ((xa_up_ne (by omega)).trans ((xa_up_ne (by omega)).trans ((aXM117 i i0 i1).1))))), (xa_up_ne (by omega)).trans ((xa_up_ne (by omega)).trans ((xa_up_ne (by omega)).trans ((xa_up_ne (by omega)).trans ((xa_up_ne (by omega)).trans ((aXM117 i i0 i1).2.1))))), congrArg bk_n ((xa_up_ne (by omega)).trans ((xa_up_ne (by omega)).trans ((xa_up_ne (by omega)).trans ((xa_up_ne (by omega)).trans ((xa_up_ne (by omega)).trans ((aXM117 i i0 i1).2.2))))))⟩
                  obtain ⟨-, x2, g2, q2, m1, m2⟩ := i10.resolve_left (fun h => h.1 (by omega))
                  have b2 := bk_N_b m1
                  have k1 : g1 = 1 := by omega
                  have k2 : g2 = 1 := by omega
                  have eq1 : M114 60 41 = q1 := by omega
                  rw [eq1] at m1
                  have hL : bk_L T e (M1 60 41) 1 ((xa_up (xa_up (xa_up (xa_up (xa_up M117 89 u r116) 90 u (-1)) 90 u r119) 60 41 ((M117 60 41) + 1)) 60 41 (((M117 60 41) + 1) + 1)) 88 u) ((xa_up (xa_up (xa_up (xa_up (xa_up M117 89 u r116) 90 u (-1)) 90 u r119) 60 41 ((M117 60 41) + 1)) 60 41 (((M117 60 41) + 1) + 1)) 89 u) (bk_n ((xa_up (xa_up (xa_up (xa_up (xa_up M117 89 u r116) 90 u (-1)) 90 u r119) 60 41 ((M117 60 41) + 1)) 60 41 (((M117 60 41) + 1) + 1)) 90 u)) ((M117 60 41) + 1) := by
                    rw [v1, v2, v3]
                    exact ⟨_, _, _, n1, Or.inr (Or.inr ⟨by omega, by omega, by omega, _, _, _, m1, Or.inr ⟨by omega, rfl, by omega, by omega, Or.inl ⟨by omega, by omega, by omega, by unfold bk_n; split <;> omega, by omega⟩⟩⟩)⟩
                  have nn : ∀ i, 0 ≤ i → i < u + 1 → 1 ≤ (xa_up (xa_up (xa_up (xa_up (xa_up M117 89 u r116) 90 u (-1)) 90 u r119) 60 41 ((M117 60 41) + 1)) 60 41 (((M117 60 41) + 1) + 1)) 88 i ∧ 1 ≤ (xa_up (xa_up (xa_up (xa_up (xa_up M117 89 u r116) 90 u (-1)) 90 u r119) 60 41 ((M117 60 41) + 1)) 60 41 (((M117 60 41) + 1) + 1)) 89 i := fun i i0 i1 => by
                    by_cases ei : i = u
                    · rw [ei, v1, v2]
                      omega
                    · have g9 := gX i i0 (by omega)
                      rw [g9.1, g9.2.1]
                      exact hn i i0 (by omega)
                  have nx := bk_B_next h1 (by omega) hA2 gX hL (by omega) (by omega)
                  have a5 : (xa_up (xa_up (xa_up (xa_up (xa_up M117 89 u r116) 90 u (-1)) 90 u r119) 60 41 ((M117 60 41) + 1)) 60 41 (((M117 60 41) + 1) + 1)) 60 41 = ((M117 60 41) + 1) + 1 := xa_up_eq
                  refine hgo.2.1 43 _ [(1, (0, 0, 0, 8, u + 1)), (2, (0, 0, 0, 1, 1)), (0, (2, 60, 0, 0, 0))] _ _ (xa_subI rfl rfl (fun _ _ _ _ => by omega) (xa_subI rfl rfl (fun _ _ _ _ => by omega) (xa_subR rfl (xa_sub0)))) ?_
                  exact ih (u + 1) 1 _ (by omega) (by omega) (by omega) (fun h => by omega) (xm_c18_u (by omega) (xm_c18_u (by omega) (xm_c18_u (by omega) (xm_c18_u (by omega) (xm_c18_u (by omega) (csM117)))))) ((xa_up_ne (by omega)).trans ((xa_up_ne (by omega)).trans ((xa_up_ne (by omega)).trans ((xa_up_ne (by omega)).trans ((xa_up_ne (by omega)).trans (e40M117)))))) ((xa_up_ne (by omega)).trans ((xa_up_ne (by omega)).trans ((xa_up_ne (by omega)).trans ((xa_up_ne (by omega)).trans ((xa_up_ne (by omega)).trans (e18M117)))))) (by rw [xa_up_ne (by omega), xa_up_ne (by omega), xa_up_ne (by omega), xa_up_ne (by omega), xa_up_ne (by omega)]; omega) (fun i i0 i1 => (xa_up_ne (by omega)).trans ((xa_up_ne (by omega)).trans ((xa_up_ne (by omega)).trans ((xa_up_ne (by omega)).trans ((xa_up_ne (by omega)).trans (e73M117 i i0 i1)))))) nn (fun _ => by rw [a5]; omega) (fun _ => by rw [a5]; exact nx) (fun h => absurd h (by omega)) (by omega)
            · intro (i18 : ¬ (97 ≤ r118 ∧ r118 ≤ 122))
              show xa_C xm_I A h0 _ 254 [(2, 60, 0, 0, 0)] (xa_up (xa_up M117 89 u r116) 90 u (-1)) _
              refine ct_here ?_
              intro r121 (i19 : ((M117 60 41) < (M117 60 40) ∧ (M117 60 41) < 60 ∧ r121 = M117 73 (M117 60 41)) ∨ (¬ ((M117 60 41) < (M117 60 40) ∧ (M117 60 41) < 60) ∧ r121 = -1))
              refine And.intro ?_ ?_
              · intro (c20 : ¬ r121 = 59)
                show Q 43 [(2, (0, 0, 0, 0, 0)), (1, (0, 0, 1, 9, u + 1)), (0, (2, 60, 0, 0, 0))] [] (xa_up (xa_up M117 89 u r116) 90 u (-1))
                have v1 : (xa_up (xa_up M117 89 u r116) 90 u (-1)) 88 u = r113 := (xa_up_ne (by omega)).trans ((xa_up_ne (by omega)).trans (v88M117))
                have v2 : (xa_up (xa_up M117 89 u r116) 90 u (-1)) 89 u = r116 := (xa_up_ne (by omega)).trans (xa_up_eq)
                have v3 : (xa_up (xa_up M117 89 u r116) 90 u (-1)) 90 u = (-1) := xa_up_eq
                have gX : ∀ i, 0 ≤ i → i < u → (xa_up (xa_up M117 89 u r116) 90 u (-1)) 88 i = M1 88 i ∧ (xa_up (xa_up M117 89 u r116) 90 u (-1)) 89 i = M1 89 i ∧ bk_n ((xa_up (xa_up M117 89 u r116) 90 u (-1)) 90 i) = bk_n (M1 90 i) := fun i i0 i1 => ⟨(xa_up_ne (by omega)).trans ((xa_up_ne (by omega)).trans ((aXM117 i i0 i1).1)), (xa_up_ne (by omega)).trans ((xa_up_ne (by omega)).trans ((aXM117 i i0 i1).2.1)), congrArg bk_n ((xa_up_ne (by omega)).trans ((xa_up_ne (by omega)).trans ((aXM117 i i0 i1).2.2)))⟩
                obtain ⟨-, x2, g2, q2, m1, m2⟩ := i10.resolve_left (fun h => h.1 (by omega))
                have b2 := bk_N_b m1
                have k1 : g1 = 1 := by omega
                have k2 : g2 = 1 := by omega
                have eq1 : M114 60 41 = q1 := by omega
                rw [eq1] at m1
                have hL : bk_L T e (M1 60 41) 1 ((xa_up (xa_up M117 89 u r116) 90 u (-1)) 88 u) ((xa_up (xa_up M117 89 u r116) 90 u (-1)) 89 u) (bk_n ((xa_up (xa_up M117 89 u r116) 90 u (-1)) 90 u)) (M117 60 41) := by
                  rw [v1, v2, v3]
                  exact ⟨_, _, _, n1, Or.inr (Or.inr ⟨by omega, by omega, by omega, _, _, _, m1, Or.inr ⟨by omega, rfl, by omega, by omega, Or.inr ⟨by omega, rfl, by omega⟩⟩⟩)⟩
                have nn : ∀ i, 0 ≤ i → i < u + 1 → 1 ≤ (xa_up (xa_up M117 89 u r116) 90 u (-1)) 88 i ∧ 1 ≤ (xa_up (xa_up M117 89 u r116) 90 u (-1)) 89 i := fun i i0 i1 => by
                  by_cases ei : i = u
                  · rw [ei, v1, v2]
                    omega
                  · have g9 := gX i i0 (by omega)
                    rw [g9.1, g9.2.1]
                    exact hn i i0 (by omega)
                have hBB : ∃ ans, bk_B T e (M 60 18) ans ((xa_up (xa_up M117 89 u r116) 90 u (-1)) 88) ((xa_up (xa_up M117 89 u r116) 90 u (-1)) 89) (fun i => bk_n ((xa_up (xa_up M117 89 u r116) 90 u (-1)) 90 i)) 8 0 0 ∧ (((M117 60 41) < M 60 18 ∧ ans = -1 - (M117 60 41) ∧ ans < 0) ∨ (¬ (M117 60 41) < M 60 18 ∧ ans = u + 1)) := by
                  by_cases z9 : (M117 60 41) < M 60 18
                  · exact ⟨_, bk_B_end h1 (by omega) hA2 gX hL (Or.inr ⟨rfl, by omega⟩), Or.inl ⟨z9, rfl, by omega⟩⟩
                  · exact ⟨u + 1, bk_B_end h1 (by omega) hA2 gX hL (Or.inr ⟨rfl, by omega⟩), Or.inr ⟨z9, rfl⟩⟩
                obtain ⟨ans, hB1, hB2⟩ := hBB
                have b41x : 0 ≤ (M117 60 41) ∧ (M117 60 41) ≤ 61 := by omega
                refine hgo.2.1 43 _ [(1, (0, 0, 0, 8, u + 1)), (2, (0, 0, 0, 1, 0)), (0, (2, 60, 0, 0, 0))] _ _ (xa_subI rfl rfl (fun _ _ _ _ => by omega) (xa_subI rfl rfl (fun _ _ _ _ => by omega) (xa_subR rfl (xa_sub0)))) ?_
                refine ih (u + 1) 0 _ (by omega) (by omega) (by omega) (fun h => by omega) (xm_c18_u (by omega) (xm_c18_u (by omega) (csM117))) ((xa_up_ne (by omega)).trans ((xa_up_ne (by omega)).trans (e40M117))) ((xa_up_ne (by omega)).trans ((xa_up_ne (by omega)).trans (e18M117))) (by rw [xa_up_ne (by omega), xa_up_ne (by omega)]; omega) (fun i i0 i1 => (xa_up_ne (by omega)).trans ((xa_up_ne (by omega)).trans (e73M117 i i0 i1))) nn (fun h => by omega) (fun h => absurd h (by omega)) (fun _ => ⟨ans, Or.inr ⟨by omega, by rw [← he]; exact hB1⟩, ?_⟩) (by omega)
                show ((M117 60 41) < M 60 18 ∧ ans = -1 - (M117 60 41) ∧ ans < 0) ∨ (¬ (M117 60 41) < M 60 18 ∧ ans = u + 1 ∧ 0 ≤ ans)
                omega
              · intro (c20 : r121 = 59)
                refine And.intro ?_ ?_
                · intro (c21 : 8 ≤ (u + 1))
                  show Q 43 [(2, (0, 0, 0, 0, 0)), (1, (0, 0, 1, 9, u + 1)), (0, (2, 60, 0, 0, 0))] [] (xa_up (xa_up M117 89 u r116) 90 u (-1))
                  have v1 : (xa_up (xa_up M117 89 u r116) 90 u (-1)) 88 u = r113 := (xa_up_ne (by omega)).trans ((xa_up_ne (by omega)).trans (v88M117))
                  have v2 : (xa_up (xa_up M117 89 u r116) 90 u (-1)) 89 u = r116 := (xa_up_ne (by omega)).trans (xa_up_eq)
                  have v3 : (xa_up (xa_up M117 89 u r116) 90 u (-1)) 90 u = (-1) := xa_up_eq
                  have gX : ∀ i, 0 ≤ i → i < u → (xa_up (xa_up M117 89 u r116) 90 u (-1)) 88 i = M1 88 i ∧ (xa_up (xa_up M117 89 u r116) 90 u (-1)) 89 i = M1 89 i ∧ bk_n ((xa_up (xa_up M117 89 u r116) 90 u (-1)) 90 i) = bk_n (M1 90 i) := fun i i0 i1 => ⟨(xa_up_ne (by omega)).trans ((xa_up_ne (by omega)).trans ((aXM117 i i0 i1).1)), (xa_up_ne (by omega)).trans ((xa_up_ne (by omega)).trans ((aXM117 i i0 i1).2.1)), congrArg bk_n ((xa_up_ne (by omega)).trans ((xa_up_ne (by omega)).trans ((aXM117 i i0 i1).2.2)))⟩
                  obtain ⟨-, x2, g2, q2, m1, m2⟩ := i10.resolve_left (fun h => h.1 (by omega))
                  have b2 := bk_N_b m1
                  have k1 : g1 = 1 := by omega
                  have k2 : g2 = 1 := by omega
                  have eq1 : M114 60 41 = q1 := by omega
                  rw [eq1] at m1
                  have hL : bk_L T e (M1 60 41) 1 ((xa_up (xa_up M117 89 u r116) 90 u (-1)) 88 u) ((xa_up (xa_up M117 89 u r116) 90 u (-1)) 89 u) (bk_n ((xa_up (xa_up M117 89 u r116) 90 u (-1)) 90 u)) (M117 60 41) := by
                    rw [v1, v2, v3]
                    exact ⟨_, _, _, n1, Or.inr (Or.inr ⟨by omega, by omega, by omega, _, _, _, m1, Or.inr ⟨by omega, rfl, by omega, by omega, Or.inr ⟨by omega, rfl, by omega⟩⟩⟩)⟩
                  have nn : ∀ i, 0 ≤ i → i < u + 1 → 1 ≤ (xa_up (xa_up M117 89 u r116) 90 u (-1)) 88 i ∧ 1 ≤ (xa_up (xa_up M117 89 u r116) 90 u (-1)) 89 i := fun i i0 i1 => by
                    by_cases ei : i = u
                    · rw [ei, v1, v2]
                      omega
                    · have g9 := gX i i0 (by omega)
                      rw [g9.1, g9.2.1]
                      exact hn i i0 (by omega)
                  have hBB : ∃ ans, bk_B T e (M 60 18) ans ((xa_up (xa_up M117 89 u r116) 90 u (-1)) 88) ((xa_up (xa_up M117 89 u r116) 90 u (-1)) 89) (fun i => bk_n ((xa_up (xa_up M117 89 u r116) 90 u (-1)) 90 i)) 8 0 0 ∧ (((M117 60 41) < M 60 18 ∧ ans = -1 - (M117 60 41) ∧ ans < 0) ∨ (¬ (M117 60 41) < M 60 18 ∧ ans = u + 1)) := by
                    by_cases z9 : (M117 60 41) < M 60 18
                    · exact ⟨_, bk_B_end h1 (by omega) hA2 gX hL (Or.inr ⟨rfl, by omega⟩), Or.inl ⟨z9, rfl, by omega⟩⟩
                    · exact ⟨u + 1, bk_B_end h1 (by omega) hA2 gX hL (Or.inr ⟨rfl, by omega⟩), Or.inr ⟨z9, rfl⟩⟩
                  obtain ⟨ans, hB1, hB2⟩ := hBB
                  have b41x : 0 ≤ (M117 60 41) ∧ (M117 60 41) ≤ 61 := by omega
                  refine hgo.2.1 43 _ [(1, (0, 0, 0, 8, u + 1)), (2, (0, 0, 0, 1, 0)), (0, (2, 60, 0, 0, 0))] _ _ (xa_subI rfl rfl (fun _ _ _ _ => by omega) (xa_subI rfl rfl (fun _ _ _ _ => by omega) (xa_subR rfl (xa_sub0)))) ?_
                  refine ih (u + 1) 0 _ (by omega) (by omega) (by omega) (fun h => by omega) (xm_c18_u (by omega) (xm_c18_u (by omega) (csM117))) ((xa_up_ne (by omega)).trans ((xa_up_ne (by omega)).trans (e40M117))) ((xa_up_ne (by omega)).trans ((xa_up_ne (by omega)).trans (e18M117))) (by rw [xa_up_ne (by omega), xa_up_ne (by omega)]; omega) (fun i i0 i1 => (xa_up_ne (by omega)).trans ((xa_up_ne (by omega)).trans (e73M117 i i0 i1))) nn (fun h => by omega) (fun h => absurd h (by omega)) (fun _ => ⟨ans, Or.inr ⟨by omega, by rw [← he]; exact hB1⟩, ?_⟩) (by omega)
                  show ((M117 60 41) < M 60 18 ∧ ans = -1 - (M117 60 41) ∧ ans < 0) ∨ (¬ (M117 60 41) < M 60 18 ∧ ans = u + 1 ∧ 0 ≤ ans)
                  omega
                · intro (c21 : (u + 1) < 8)
                  refine And.intro (show 0 ≤ ((M117 60 41) + 1) ∧ ((M117 60 41) + 1) ≤ 100 by omega) ?_
                  show Q 43 [(2, (0, 0, 1, 1, 1)), (1, (0, 0, 1, 9, u + 1)), (0, (2, 60, 0, 0, 0))] [] (xa_up (xa_up (xa_up M117 89 u r116) 90 u (-1)) 60 41 ((M117 60 41) + 1))
                  have v1 : (xa_up (xa_up (xa_up M117 89 u r116) 90 u (-1)) 60 41 ((M117 60 41) + 1)) 88 u = r113 := (xa_up_ne (by omega)).trans ((xa_up_ne (by omega)).trans ((xa_up_ne (by omega)).trans (v88M117)))
                  have v2 : (xa_up (xa_up (xa_up M117 89 u r116) 90 u (-1)) 60 41 ((M117 60 41) + 1)) 89 u = r116 := (xa_up_ne (by omega)).trans ((xa_up_ne (by omega)).trans (xa_up_eq))
                  have v3 : (xa_up (xa_up (xa_up M117 89 u r116) 90 u (-1)) 60 41 ((M117 60 41) + 1)) 90 u = (-1) := (xa_up_ne (by omega)).trans (xa_up_eq)
                  have gX : ∀ i, 0 ≤ i → i < u → (xa_up (xa_up (xa_up M117 89 u r116) 90 u (-1)) 60 41 ((M117 60 41) + 1)) 88 i = M1 88 i ∧ (xa_up (xa_up (xa_up M117 89 u r116) 90 u (-1)) 60 41 ((M117 60 41) + 1)) 89 i = M1 89 i ∧ bk_n ((xa_up (xa_up (xa_up M117 89 u r116) 90 u (-1)) 60 41 ((M117 60 41) + 1)) 90 i) = bk_n (M1 90 i) := fun i i0 i1 => ⟨(xa_up_ne (by omega)).trans ((xa_up_ne (by omega)).trans ((xa_up_ne (by omega)).trans ((aXM117 i i0 i1).1))), (xa_up_ne (by omega)).trans ((xa_up_ne (by omega)).trans ((xa_up_ne (by omega)).trans ((aXM117 i i0 i1).2.1))), congrArg bk_n ((xa_up_ne (by omega)).trans ((xa_up_ne (by omega)).trans ((xa_up_ne (by omega)).trans ((aXM117 i i0 i1).2.2))))⟩
                  obtain ⟨-, x2, g2, q2, m1, m2⟩ := i10.resolve_left (fun h => h.1 (by omega))
                  have b2 := bk_N_b m1
                  have k1 : g1 = 1 := by omega
                  have k2 : g2 = 1 := by omega
                  have eq1 : M114 60 41 = q1 := by omega
                  rw [eq1] at m1
                  have hL : bk_L T e (M1 60 41) 1 ((xa_up (xa_up (xa_up M117 89 u r116) 90 u (-1)) 60 41 ((M117 60 41) + 1)) 88 u) ((xa_up (xa_up (xa_up M117 89 u r116) 90 u (-1)) 60 41 ((M117 60 41) + 1)) 89 u) (bk_n ((xa_up (xa_up (xa_up M117 89 u r116) 90 u (-1)) 60 41 ((M117 60 41) + 1)) 90 u)) (M117 60 41) := by
                    rw [v1, v2, v3]
                    exact ⟨_, _, _, n1, Or.inr (Or.inr ⟨by omega, by omega, by omega, _, _, _, m1, Or.inr ⟨by omega, rfl, by omega, by omega, Or.inr ⟨by omega, rfl, by omega⟩⟩⟩)⟩
                  have nn : ∀ i, 0 ≤ i → i < u + 1 → 1 ≤ (xa_up (xa_up (xa_up M117 89 u r116) 90 u (-1)) 60 41 ((M117 60 41) + 1)) 88 i ∧ 1 ≤ (xa_up (xa_up (xa_up M117 89 u r116) 90 u (-1)) 60 41 ((M117 60 41) + 1)) 89 i := fun i i0 i1 => by
                    by_cases ei : i = u
                    · rw [ei, v1, v2]
                      omega
                    · have g9 := gX i i0 (by omega)
                      rw [g9.1, g9.2.1]
                      exact hn i i0 (by omega)
                  have nx := bk_B_next h1 (by omega) hA2 gX hL (by omega) (by omega)
                  have a5 : (xa_up (xa_up (xa_up M117 89 u r116) 90 u (-1)) 60 41 ((M117 60 41) + 1)) 60 41 = (M117 60 41) + 1 := xa_up_eq
                  refine hgo.2.1 43 _ [(1, (0, 0, 0, 8, u + 1)), (2, (0, 0, 0, 1, 1)), (0, (2, 60, 0, 0, 0))] _ _ (xa_subI rfl rfl (fun _ _ _ _ => by omega) (xa_subI rfl rfl (fun _ _ _ _ => by omega) (xa_subR rfl (xa_sub0)))) ?_
                  exact ih (u + 1) 1 _ (by omega) (by omega) (by omega) (fun h => by omega) (xm_c18_u (by omega) (xm_c18_u (by omega) (xm_c18_u (by omega) (csM117)))) ((xa_up_ne (by omega)).trans ((xa_up_ne (by omega)).trans ((xa_up_ne (by omega)).trans (e40M117)))) ((xa_up_ne (by omega)).trans ((xa_up_ne (by omega)).trans ((xa_up_ne (by omega)).trans (e18M117)))) (by rw [xa_up_ne (by omega), xa_up_ne (by omega), xa_up_ne (by omega)]; omega) (fun i i0 i1 => (xa_up_ne (by omega)).trans ((xa_up_ne (by omega)).trans ((xa_up_ne (by omega)).trans (e73M117 i i0 i1)))) nn (fun _ => by rw [a5]; omega) (fun _ => by rw [a5]; exact nx) (fun h => absurd h (by omega)) (by omega)
          · intro (c11 : ¬ (M117 60 42) = (-1))
            show xa_wk post (some (0, 0, (-2147483648), 2147483647, (-1) - (M117 60 42))) (xa_up (xa_up M117 89 u r116) 90 u (-1))
            have v1 : (xa_up (xa_up M117 89 u r116) 90 u (-1)) 88 u = r113 := (xa_up_ne (by omega)).trans ((xa_up_ne (by omega)).trans (v88M117))
            have v2 : (xa_up (xa_up M117 89 u r116) 90 u (-1)) 89 u = r116 := (xa_up_ne (by omega)).trans (xa_up_eq)
            have v3 : (xa_up (xa_up M117 89 u r116) 90 u (-1)) 90 u = (-1) := xa_up_eq
            have gX : ∀ i, 0 ≤ i → i < u → (xa_up (xa_up M117 89 u r116) 90 u (-1)) 88 i = M1 88 i ∧ (xa_up (xa_up M117 89 u r116) 90 u (-1)) 89 i = M1 89 i ∧ bk_n ((xa_up (xa_up M117 89 u r116) 90 u (-1)) 90 i) = bk_n (M1 90 i) := fun i i0 i1 => ⟨(xa_up_ne (by omega)).trans ((xa_up_ne (by omega)).trans ((aXM117 i i0 i1).1)), (xa_up_ne (by omega)).trans ((xa_up_ne (by omega)).trans ((aXM117 i i0 i1).2.1)), congrArg bk_n ((xa_up_ne (by omega)).trans ((xa_up_ne (by omega)).trans ((aXM117 i i0 i1).2.2)))⟩
            have hL : bk_L T e (M1 60 41) 0 ((xa_up (xa_up M117 89 u r116) 90 u (-1)) 88 u) ((xa_up (xa_up M117 89 u r116) 90 u (-1)) 89 u) (bk_n ((xa_up (xa_up M117 89 u r116) 90 u (-1)) 90 u)) (M117 60 42) := by
              rcases Int.lt_or_le g1 1 with z1 | z1
              · exact ⟨_, _, _, n1, by omega⟩
              · obtain ⟨-, x2, g2, q2, m1, m2⟩ := i10.resolve_left (fun h => h.1 (by omega))
                have b2 := bk_N_b m1
                have eq1 : M114 60 41 = q1 := by omega
                rw [eq1] at m1
                exact ⟨_, _, _, n1, Or.inr (Or.inr ⟨by omega, by omega, by omega, _, _, _, m1, by omega⟩)⟩
            have hB9 := bk_B_end (ans := -1 - (M117 60 42)) h1 (by omega) hA2 gX hL (Or.inl ⟨rfl, rfl, by omega⟩)
            refine xa_wkI (-1 - (M117 60 42)) (by omega) (fun _ _ => by omega) (k (-1 - (M117 60 42)) _ (Or.inr ⟨by omega, by rw [← he]; exact hB9⟩) ((xa_up_ne (by omega)).trans ((xa_up_ne (by omega)).trans (e18M117))) ?_ (xm_c18_I hI (xm_c18_u (by omega) (xm_c18_u (by omega) (csM117)))) (fun q j h1 h2 h3 => (xm_c18_u (by omega) (xm_c18_u (by omega) (csM117))) q j h1 (by omega)))
            exact Or.inr ⟨by omega, (xm_c18_u (by omega) (xm_c18_u (by omega) (csM117))) 60 11 (by omega) (by omega), fun i => ⟨(xm_c18_u (by omega) (xm_c18_u (by omega) (csM117))) 70 i (by omega) (by omega), (xm_c18_u (by omega) (xm_c18_u (by omega) (csM117))) 71 i (by omega) (by omega), (xm_c18_u (by omega) (xm_c18_u (by omega) (csM117))) 72 i (by omega) (by omega)⟩⟩
        · intro (c7 : ¬ r115 = 58)
          show xa_C xm_I A h0 _ 255 [(2, 60, 0, 0, 0), (0, 0, 0, 100, M114 60 41)] (xa_up M114 88 u r113) _
          refine ct_fault trivial ?_ ?_
          · intro (i22 : (M114 60 42) = -1)
            refine And.intro (show 0 ≤ ((M114 60 41) + 1) ∧ ((M114 60 41) + 1) ≤ 100 by omega) ?_
            show xa_C xm_I A h0 _ 253 [(2, 60, 0, 0, 0)] (xa_up (xa_up (xa_up M114 88 u r113) 60 42 (M114 60 41)) 60 41 ((M114 60 41) + 1)) _
            refine ct_numF (fun i i0 i1 => by rw [xa_up_ne (by omega), xa_up_ne (by omega), xa_up_ne (by omega), e73M114 i i0 i1]; exact hT i i0 i1) (show (((M114 60 40) ≤ 60 ∧ e = (M114 60 40)) ∨ (60 < (M114 60 40) ∧ e = 60)) by omega) (show 0 ≤ ((M114 60 41) + 1) ∧ ((M114 60 41) + 1) ≤ 61 by omega) ?_
            intro r122 M123 (i23 : xm_f2 (xa_up (xa_up (xa_up M114 88 u r113) 60 42 (M114 60 41)) 60 41 ((M114 60 41) + 1)) M123) (i24 : ((M114 60 41) + 1) ≤ M123 60 41 ∧ (M123 60 41 = ((M114 60 41) + 1) ∨ M123 60 41 ≤ 60)) (i25 : (¬ (M114 60 41) = -1 ∧ r122 = 0 ∧ M123 60 41 = ((M114 60 41) + 1) ∧ M123 60 42 = (M114 60 41)) ∨ ((M114 60 41) = -1 ∧ ∃ x g q, bk_N T e ((M114 60 41) + 1) x g q ∧ ((g = 1 ∧ r122 = x ∧ M123 60 41 = q ∧ M123 60 42 = -1) ∨ (g = 0 ∧ r122 = 0 ∧ M123 60 42 = q))))
            have csM123 : xm_c18 M M123 := xm_c18_f (xm_c18_u (by omega) (xm_c18_u (by omega) (xm_c18_u (by omega) (csM114)))) i23
            have e40M123 : M123 60 40 = M 60 18 := (i23 60 40 (by omega)).trans ((xa_up_ne (by omega)).trans ((xa_up_ne (by omega)).trans ((xa_up_ne (by omega)).trans (e40M114))))
            have e18M123 : M123 60 18 = 0 := (i23 60 18 (by omega)).trans ((xa_up_ne (by omega)).trans ((xa_up_ne (by omega)).trans ((xa_up_ne (by omega)).trans (e18M114))))
            have e73M123 : ∀ i, 0 ≤ i → i < 80 → M123 73 i = M 73 i := fun i i0 i1 => (i23 73 i (by omega)).trans ((xa_up_ne (by omega)).trans ((xa_up_ne (by omega)).trans ((xa_up_ne (by omega)).trans (e73M114 i i0 i1))))
            have aXM123 : ∀ i, 0 ≤ i → i < u → M123 88 i = M1 88 i ∧ M123 89 i = M1 89 i ∧ M123 90 i = M1 90 i := fun i i0 i1 => ⟨(i23 88 i (by omega)).trans ((xa_up_ne (by omega)).trans ((xa_up_ne (by omega)).trans ((xa_up_ne (by omega)).trans ((aXM114 i i0 i1).1)))), (i23 89 i (by omega)).trans ((xa_up_ne (by omega)).trans ((xa_up_ne (by omega)).trans ((xa_up_ne (by omega)).trans ((aXM114 i i0 i1).2.1)))), (i23 90 i (by omega)).trans ((xa_up_ne (by omega)).trans ((xa_up_ne (by omega)).trans ((xa_up_ne (by omega)).trans ((aXM114 i i0 i1).2.2))))⟩
            have v88M123 : M123 88 u = r113 := (i23 88 u (by omega)).trans (by simp [xa_up])
            have xM123 := xm_t73 hM (M123 60 41)
            have yM123 := e73M123 (M123 60 41)
            have tM123 := hT (M123 60 41)
            have xxM123 := xm_t73 hM (M123 60 41 + 1)
            have yyM123 := e73M123 (M123 60 41 + 1)
            have ttM123 := hT (M123 60 41 + 1)
            refine And.intro (show 0 ≤ u ∧ u < 8 by omega) ?_
            refine And.intro (show 0 ≤ u ∧ u < 8 by omega) ?_
            refine And.intro ?_ ?_
            · intro (c26 : (M123 60 42) = (-1))
              exfalso
              omega
            · intro (c26 : ¬ (M123 60 42) = (-1))
              show xa_wk post (some (0, 0, (-2147483648), 2147483647, (-1) - (M123 60 42))) (xa_up (xa_up M123 89 u r122) 90 u (-1))
              have v1 : (xa_up (xa_up M123 89 u r122) 90 u (-1)) 88 u = r113 := (xa_up_ne (by omega)).trans ((xa_up_ne (by omega)).trans (v88M123))
              have v2 : (xa_up (xa_up M123 89 u r122) 90 u (-1)) 89 u = r122 := (xa_up_ne (by omega)).trans (xa_up_eq)
              have v3 : (xa_up (xa_up M123 89 u r122) 90 u (-1)) 90 u = (-1) := xa_up_eq
              have gX : ∀ i, 0 ≤ i → i < u → (xa_up (xa_up M123 89 u r122) 90 u (-1)) 88 i = M1 88 i ∧ (xa_up (xa_up M123 89 u r122) 90 u (-1)) 89 i = M1 89 i ∧ bk_n ((xa_up (xa_up M123 89 u r122) 90 u (-1)) 90 i) = bk_n (M1 90 i) := fun i i0 i1 => ⟨(xa_up_ne (by omega)).trans ((xa_up_ne (by omega)).trans ((aXM123 i i0 i1).1)), (xa_up_ne (by omega)).trans ((xa_up_ne (by omega)).trans ((aXM123 i i0 i1).2.1)), congrArg bk_n ((xa_up_ne (by omega)).trans ((xa_up_ne (by omega)).trans ((aXM123 i i0 i1).2.2)))⟩
              have hL : bk_L T e (M1 60 41) 0 ((xa_up (xa_up M123 89 u r122) 90 u (-1)) 88 u) ((xa_up (xa_up M123 89 u r122) 90 u (-1)) 89 u) (bk_n ((xa_up (xa_up M123 89 u r122) 90 u (-1)) 90 u)) (M123 60 42) := by
                exact ⟨_, _, _, n1, by omega⟩
              have hB9 := bk_B_end (ans := -1 - (M123 60 42)) h1 (by omega) hA2 gX hL (Or.inl ⟨rfl, rfl, by omega⟩)
              refine xa_wkI (-1 - (M123 60 42)) (by omega) (fun _ _ => by omega) (k (-1 - (M123 60 42)) _ (Or.inr ⟨by omega, by rw [← he]; exact hB9⟩) ((xa_up_ne (by omega)).trans ((xa_up_ne (by omega)).trans (e18M123))) ?_ (xm_c18_I hI (xm_c18_u (by omega) (xm_c18_u (by omega) (csM123)))) (fun q j h1 h2 h3 => (xm_c18_u (by omega) (xm_c18_u (by omega) (csM123))) q j h1 (by omega)))
              exact Or.inr ⟨by omega, (xm_c18_u (by omega) (xm_c18_u (by omega) (csM123))) 60 11 (by omega) (by omega), fun i => ⟨(xm_c18_u (by omega) (xm_c18_u (by omega) (csM123))) 70 i (by omega) (by omega), (xm_c18_u (by omega) (xm_c18_u (by omega) (csM123))) 71 i (by omega) (by omega), (xm_c18_u (by omega) (xm_c18_u (by omega) (csM123))) 72 i (by omega) (by omega)⟩⟩
          · intro (i27 : ¬ (M114 60 42) = -1)
            refine And.intro (show 0 ≤ ((M114 60 41) + 1) ∧ ((M114 60 41) + 1) ≤ 100 by omega) ?_
            show xa_C xm_I A h0 _ 253 [(2, 60, 0, 0, 0)] (xa_up (xa_up M114 88 u r113) 60 41 ((M114 60 41) + 1)) _
            refine ct_numF (fun i i0 i1 => by rw [xa_up_ne (by omega), xa_up_ne (by omega), e73M114 i i0 i1]; exact hT i i0 i1) (show (((M114 60 40) ≤ 60 ∧ e = (M114 60 40)) ∨ (60 < (M114 60 40) ∧ e = 60)) by omega) (show 0 ≤ ((M114 60 41) + 1) ∧ ((M114 60 41) + 1) ≤ 61 by omega) ?_
            intro r124 M125 (i28 : xm_f2 (xa_up (xa_up M114 88 u r113) 60 41 ((M114 60 41) + 1)) M125) (i29 : ((M114 60 41) + 1) ≤ M125 60 41 ∧ (M125 60 41 = ((M114 60 41) + 1) ∨ M125 60 41 ≤ 60)) (i30 : (¬ (M114 60 42) = -1 ∧ r124 = 0 ∧ M125 60 41 = ((M114 60 41) + 1) ∧ M125 60 42 = (M114 60 42)) ∨ ((M114 60 42) = -1 ∧ ∃ x g q, bk_N T e ((M114 60 41) + 1) x g q ∧ ((g = 1 ∧ r124 = x ∧ M125 60 41 = q ∧ M125 60 42 = -1) ∨ (g = 0 ∧ r124 = 0 ∧ M125 60 42 = q))))
            have csM125 : xm_c18 M M125 := xm_c18_f (xm_c18_u (by omega) (xm_c18_u (by omega) (csM114))) i28
            have e40M125 : M125 60 40 = M 60 18 := (i28 60 40 (by omega)).trans ((xa_up_ne (by omega)).trans ((xa_up_ne (by omega)).trans (e40M114)))
            have e18M125 : M125 60 18 = 0 := (i28 60 18 (by omega)).trans ((xa_up_ne (by omega)).trans ((xa_up_ne (by omega)).trans (e18M114)))
            have e73M125 : ∀ i, 0 ≤ i → i < 80 → M125 73 i = M 73 i := fun i i0 i1 => (i28 73 i (by omega)).trans ((xa_up_ne (by omega)).trans ((xa_up_ne (by omega)).trans (e73M114 i i0 i1)))
            have aXM125 : ∀ i, 0 ≤ i → i < u → M125 88 i = M1 88 i ∧ M125 89 i = M1 89 i ∧ M125 90 i = M1 90 i := fun i i0 i1 => ⟨(i28 88 i (by omega)).trans ((xa_up_ne (by omega)).trans ((xa_up_ne (by omega)).trans ((aXM114 i i0 i1).1))), (i28 89 i (by omega)).trans ((xa_up_ne (by omega)).trans ((xa_up_ne (by omega)).trans ((aXM114 i i0 i1).2.1))), (i28 90 i (by omega)).trans ((xa_up_ne (by omega)).trans ((xa_up_ne (by omega)).trans ((aXM114 i i0 i1).2.2)))⟩
            have v88M125 : M125 88 u = r113 := (i28 88 u (by omega)).trans (by simp [xa_up])
            have xM125 := xm_t73 hM (M125 60 41)
            have yM125 := e73M125 (M125 60 41)
            have tM125 := hT (M125 60 41)
            have xxM125 := xm_t73 hM (M125 60 41 + 1)
            have yyM125 := e73M125 (M125 60 41 + 1)
            have ttM125 := hT (M125 60 41 + 1)
            refine And.intro (show 0 ≤ u ∧ u < 8 by omega) ?_
            refine And.intro (show 0 ≤ u ∧ u < 8 by omega) ?_
            refine And.intro ?_ ?_
            · intro (c31 : (M125 60 42) = (-1))
              exfalso
              omega
            · intro (c31 : ¬ (M125 60 42) = (-1))
              show xa_wk post (some (0, 0, (-2147483648), 2147483647, (-1) - (M125 60 42))) (xa_up (xa_up M125 89 u r124) 90 u (-1))
              have v1 : (xa_up (xa_up M125 89 u r124) 90 u (-1)) 88 u = r113 := (xa_up_ne (by omega)).trans ((xa_up_ne (by omega)).trans (v88M125))
              have v2 : (xa_up (xa_up M125 89 u r124) 90 u (-1)) 89 u = r124 := (xa_up_ne (by omega)).trans (xa_up_eq)
              have v3 : (xa_up (xa_up M125 89 u r124) 90 u (-1)) 90 u = (-1) := xa_up_eq
              have gX : ∀ i, 0 ≤ i → i < u → (xa_up (xa_up M125 89 u r124) 90 u (-1)) 88 i = M1 88 i ∧ (xa_up (xa_up M125 89 u r124) 90 u (-1)) 89 i = M1 89 i ∧ bk_n ((xa_up (xa_up M125 89 u r124) 90 u (-1)) 90 i) = bk_n (M1 90 i) := fun i i0 i1 => ⟨(xa_up_ne (by omega)).trans ((xa_up_ne (by omega)).trans ((aXM125 i i0 i1).1)), (xa_up_ne (by omega)).trans ((xa_up_ne (by omega)).trans ((aXM125 i i0 i1).2.1)), congrArg bk_n ((xa_up_ne (by omega)).trans ((xa_up_ne (by omega)).trans ((aXM125 i i0 i1).2.2)))⟩
              have hL : bk_L T e (M1 60 41) 0 ((xa_up (xa_up M125 89 u r124) 90 u (-1)) 88 u) ((xa_up (xa_up M125 89 u r124) 90 u (-1)) 89 u) (bk_n ((xa_up (xa_up M125 89 u r124) 90 u (-1)) 90 u)) (M125 60 42) := by
                exact ⟨_, _, _, n1, by omega⟩
              have hB9 := bk_B_end (ans := -1 - (M125 60 42)) h1 (by omega) hA2 gX hL (Or.inl ⟨rfl, rfl, by omega⟩)
              refine xa_wkI (-1 - (M125 60 42)) (by omega) (fun _ _ => by omega) (k (-1 - (M125 60 42)) _ (Or.inr ⟨by omega, by rw [← he]; exact hB9⟩) ((xa_up_ne (by omega)).trans ((xa_up_ne (by omega)).trans (e18M125))) ?_ (xm_c18_I hI (xm_c18_u (by omega) (xm_c18_u (by omega) (csM125)))) (fun q j h1 h2 h3 => (xm_c18_u (by omega) (xm_c18_u (by omega) (csM125))) q j h1 (by omega)))
              exact Or.inr ⟨by omega, (xm_c18_u (by omega) (xm_c18_u (by omega) (csM125))) 60 11 (by omega) (by omega), fun i => ⟨(xm_c18_u (by omega) (xm_c18_u (by omega) (csM125))) 70 i (by omega) (by omega), (xm_c18_u (by omega) (xm_c18_u (by omega) (csM125))) 71 i (by omega) (by omega), (xm_c18_u (by omega) (xm_c18_u (by omega) (csM125))) 72 i (by omega) (by omega)⟩⟩
  have hE : ((M 60 18 ≤ 60 ∧ (if M 60 18 ≤ 60 then M 60 18 else 60) = M 60 18) ∨ (60 < M 60 18 ∧ (if M 60 18 ≤ 60 then M 60 18 else 60) = 60)) ∧ (if M 60 18 ≤ 60 then M 60 18 else 60) = (if M 60 18 ≤ 60 then M 60 18 else 60) := ⟨by split <;> omega, rfl⟩
  refine hgo.1 29 [43, 216] 0 _ _ _ ?_
  refine And.intro ?_ ?_
  · intro (c1 : (M 60 18) ≤ 0)
    show Q 43 [(2, (0, 0, 0, 0, 0)), (1, (0, 0, 0, 0, 0)), (0, (2, 60, 0, 0, 0))] [] (xa_up (xa_up (xa_up (xa_up (xa_up M 60 21 0) 60 40 (M 60 18)) 60 18 0) 60 41 0) 60 42 (-1))
    refine hgo.2.1 43 _ [(1, (0, 0, 0, 8, 0)), (2, (0, 0, 0, 1, 0)), (0, (2, 60, 0, 0, 0))] _ _ (xa_subI rfl rfl (fun _ _ _ _ => by omega) (xa_subI rfl rfl (fun _ _ _ _ => by omega) (xa_subR rfl (xa_sub0)))) ?_
    exact loop _ hE 9 0 0 _ (by omega) (by omega) (by omega) (fun h => by omega) (fun q j h1 h2 => (xa_up_ne (by omega)).trans ((xa_up_ne (by omega)).trans ((xa_up_ne (by omega)).trans ((xa_up_ne (by omega)).trans (xa_up_ne (by omega)))))) ((xa_up_ne (by omega)).trans ((xa_up_ne (by omega)).trans ((xa_up_ne (by omega)).trans (xa_up_eq)))) ((xa_up_ne (by omega)).trans ((xa_up_ne (by omega)).trans (xa_up_eq))) (xa_up_eq) (fun i i0 i1 => (xa_up_ne (by omega)).trans ((xa_up_ne (by omega)).trans ((xa_up_ne (by omega)).trans ((xa_up_ne (by omega)).trans (xa_up_ne (by omega)))))) (fun i i0 i1 => by omega) (fun h => absurd h (by omega)) (fun h => absurd h (by omega)) (fun _ => ⟨0, Or.inl ⟨by omega, rfl⟩, Or.inr ⟨by rw [show (xa_up (xa_up (xa_up (xa_up (xa_up M 60 21 0) 60 40 (M 60 18)) 60 18 0) 60 41 0) 60 42 (-1)) 60 41 = 0 from (xa_up_ne (by omega)).trans (xa_up_eq)]; omega, rfl, by omega⟩⟩) (by omega)
  · intro (c1 : 0 < (M 60 18))
    show Q 43 [(2, (0, 0, 1, 1, 1)), (1, (0, 0, 0, 0, 0)), (0, (2, 60, 0, 0, 0))] [] (xa_up (xa_up (xa_up (xa_up (xa_up M 60 21 0) 60 40 (M 60 18)) 60 18 0) 60 41 0) 60 42 (-1))
    refine hgo.2.1 43 _ [(1, (0, 0, 0, 8, 0)), (2, (0, 0, 0, 1, 1)), (0, (2, 60, 0, 0, 0))] _ _ (xa_subI rfl rfl (fun _ _ _ _ => by omega) (xa_subI rfl rfl (fun _ _ _ _ => by omega) (xa_subR rfl (xa_sub0)))) ?_
    exact loop _ hE 9 0 1 _ (by omega) (by omega) (by omega) (fun h => by omega) (fun q j h1 h2 => (xa_up_ne (by omega)).trans ((xa_up_ne (by omega)).trans ((xa_up_ne (by omega)).trans ((xa_up_ne (by omega)).trans (xa_up_ne (by omega)))))) ((xa_up_ne (by omega)).trans ((xa_up_ne (by omega)).trans ((xa_up_ne (by omega)).trans (xa_up_eq)))) ((xa_up_ne (by omega)).trans ((xa_up_ne (by omega)).trans (xa_up_eq))) (xa_up_eq) (fun i i0 i1 => (xa_up_ne (by omega)).trans ((xa_up_ne (by omega)).trans ((xa_up_ne (by omega)).trans ((xa_up_ne (by omega)).trans (xa_up_ne (by omega)))))) (fun i i0 i1 => by omega) (fun _ => by rw [show (xa_up (xa_up (xa_up (xa_up (xa_up M 60 21 0) 60 40 (M 60 18)) 60 18 0) 60 41 0) 60 42 (-1)) 60 41 = 0 from (xa_up_ne (by omega)).trans (xa_up_eq)]; omega) (fun _ ans U W N _ hB => by rw [show (xa_up (xa_up (xa_up (xa_up (xa_up M 60 21 0) 60 40 (M 60 18)) 60 18 0) 60 41 0) 60 42 (-1)) 60 41 = 0 from (xa_up_ne (by omega)).trans (xa_up_eq)] at hB; exact hB) (fun h => absurd h (by omega)) (by omega)
-- words
set_option maxRecDepth 20000
theorem le_cut {M M1 : xa_M} {n : Int} (h : 0 ≤ M 30 1) (hE : lt_E M 30 1 (M 30 1) 0 n M1) : M1 30 1 = 0 ∧ ∀ q j, ¬ (q = 30 ∧ j = 1) → ¬ (q = 60 ∧ j = 21) → M1 q j = M q j := by
  rcases hE with ⟨-, -, e3, e4⟩ | ⟨e1, -⟩
  · exact ⟨e3, e4⟩
  · exact absurd ⟨Int.le_refl 0, h⟩ e1
theorem cx_173f {b : Bool} {A : Nat → Nat} {h0 : g_H} {d : Nat} {M : xa_M} {post : Option xa_V → xa_M → Prop} {T : Int → Int} {l1 u1 n : Int} (hT : (∀ i, 0 ≤ i → i < 80 → M 31 i = T i)) (hB : ∀ i, 0 ≤ T i ∧ T i ≤ 255) (hz : 0 ≤ M 30 1 ∧ M 30 1 ≤ 80) (hn : 0 ≤ n ∧ n ≤ 2000) (k1 : wd_m T (M 30 1).toNat n → post (some (0, 0, 1, 1, 1)) M) (k2 : ¬ wd_m T (M 30 1).toNat n → post (some (0, 0, 0, 0, 0)) M) : xa_C (xl_I b) A h0 (d + 4) 173 [(2, 30, 0, 0, 0), (0, 0, l1, u1, n)] M post := by
  refine xa_C_arg [(2, 30, 0, 0, 0), (0, 0, 0, 2000, n)] (xa_svR (xa_svI (fun _ _ _ _ => by omega) xa_sv0)) ?_
  refine xa_meth (Q0 := (4, 2, false, 0, 0, 0)) (by decide +kernel) ⟨rfl, rfl⟩ (full := s_c_173) rfl rfl ?_
  intro hM hv Q hgo
  have loop : ∀ (f : Nat) (i r : Int), -1 ≤ i ∧ i < M 30 1 → 0 ≤ r ∧ r ≤ 2000 → (wd_m T (i + 1).toNat r ↔ wd_m T (M 30 1).toNat n) → i + 1 < (f : Int) → Q 9 [(3, (0, 0, (-1), 79, i)), (2, (0, 0, 0, 2000, r)), (1, (0, 0, 0, 2000, n)), (0, (2, 30, 0, 0, 0))] [] M := by
    intro f
    induction f with
    | zero => intro i r i1 r1 hb hms; omega
    | succ f ih =>
      intro i r i1 r1 hb hms
      have w9 : 0 ≤ i → xa_w32 ((M 31 i) - 48) = (M 31 i) - 48 := fun h => by
        have t9 := hT i h (by omega)
        have h9 := hB i
        exact xa_w32_id (by omega) (by omega)
      refine hgo.1 28 [9] 9 _ _ _ ?_
      refine And.intro ?_ ?_
      · intro (c1 : i < 0)
        refine And.intro ?_ ?_
        · intro (c2 : ¬ r = 0)
          show post (some (0, 0, 0, 0, 0)) M
          exact k2 (fun h => absurd ((wd_end (by omega) hb).mpr h) (by omega))
        · intro (c2 : r = 0)
          show post (some (0, 0, 1, 1, 1)) M
          exact k1 ((wd_end (by omega) hb).mp (by omega))
      · intro (c1 : 0 ≤ i)
        have i0 := c1
        have w8 := w9 i0
        refine And.intro ?_ ?_
        · intro (c3 : r = 0)
          show post (some (0, 0, 0, 0, 0)) M
          exact k2 (wd_no1 (by omega) (by omega) hb)
        · intro (c3 : ¬ r = 0)
          show xa_C (xl_I b) A h0 _ 172 [(2, 30, 0, 0, 0), (0, 0, (-1), 79, i)] M _
          refine cg_172 (show 0 ≤ (M 30 1) ∧ (M 30 1) ≤ 80 by omega) ?_ ?_
          · intro (i4 : (0 ≤ i ∧ i < (M 30 1)) ∧ M 31 i = 63)
            show Q 9 [(3, (0, 0, (-2), 78, i + (-1))), (2, (0, 0, 0, 2000, r / 10)), (1, (0, 0, 0, 2000, n)), (0, (2, 30, 0, 0, 0))] [] M
            have t9 := hT i i0 (by omega)
            have h9 := hB i
            have q9 : T i = 63 ∨ T i - 48 = r % 10 := by omega
            refine hgo.2.1 9 _ [(3, (0, 0, (-1), 79, i + (-1))), (2, (0, 0, 0, 2000, r / 10)), (1, (0, 0, 0, 2000, n)), (0, (2, 30, 0, 0, 0))] _ _ (xa_subI rfl rfl (fun _ _ _ _ => by omega) (xa_subI rfl rfl (fun _ _ _ _ => by omega) (xa_subI rfl rfl (fun _ _ _ _ => by omega) (xa_subR rfl (xa_sub0))))) ?_
            exact ih (i + (-1)) (r / 10) (by omega) (by omega) (wd_st i0 (by omega) q9 hb) (by omega)
          · intro (i5 : ¬ ((0 ≤ i ∧ i < (M 30 1)) ∧ M 31 i = 63))
            show xa_C (xl_I b) A h0 _ 119 [(2, 30, 0, 0, 0), (0, 0, (-1), 79, i)] M _
            refine cg_119 (show 0 ≤ (M 30 1) ∧ (M 30 1) ≤ 80 by omega) ?_ ?_
            · intro (i6 : 0 ≤ i ∧ i < (M 30 1))
              refine And.intro ?_ ?_
              · intro (c7 : (xa_w32 ((M 31 i) - 48)) = (r % 10))
                show Q 9 [(3, (0, 0, (-2), 78, i + (-1))), (2, (0, 0, 0, 2000, r / 10)), (1, (0, 0, 0, 2000, n)), (0, (2, 30, 0, 0, 0))] [] M
                have t9 := hT i i0 (by omega)
                have h9 := hB i
                have q9 : T i = 63 ∨ T i - 48 = r % 10 := by omega
                refine hgo.2.1 9 _ [(3, (0, 0, (-1), 79, i + (-1))), (2, (0, 0, 0, 2000, r / 10)), (1, (0, 0, 0, 2000, n)), (0, (2, 30, 0, 0, 0))] _ _ (xa_subI rfl rfl (fun _ _ _ _ => by omega) (xa_subI rfl rfl (fun _ _ _ _ => by omega) (xa_subI rfl rfl (fun _ _ _ _ => by omega) (xa_subR rfl (xa_sub0))))) ?_
                exact ih (i + (-1)) (r / 10) (by omega) (by omega) (wd_st i0 (by omega) q9 hb) (by omega)
              · intro (c7 : ¬ (xa_w32 ((M 31 i) - 48)) = (r % 10))
                show post (some (0, 0, 0, 0, 0)) M
                have t9 := hT i (by omega) (by omega)
                have h9 := hB i
                exact k2 (wd_no2 (by omega) (by omega) hb)
            · intro (i8 : ¬ (0 ≤ i ∧ i < (M 30 1)))
              show post (some (0, 0, 0, 0, 0)) M
              have t9 := hT i (by omega) (by omega)
              have h9 := hB i
              exact k2 (wd_no2 (by omega) (by omega) hb)
  refine hgo.1 12 [9] 0 _ _ _ ?_
  show Q 9 [(3, (0, 0, (-2147483648), 2147483647, xa_w32 ((M 30 1) - 1))), (2, (0, 0, 0, 2000, n)), (0, (2, 30, 0, 0, 0)), (1, (0, 0, 0, 2000, n))] [] M
  have w1 : xa_w32 ((M 30 1) - 1) = (M 30 1) - 1 := xa_w32_id (by omega) (by omega)
  rw [w1]
  refine hgo.2.1 9 _ [(3, (0, 0, (-1), 79, (M 30 1) - 1)), (2, (0, 0, 0, 2000, n)), (1, (0, 0, 0, 2000, n)), (0, (2, 30, 0, 0, 0))] _ _ (xa_subI rfl rfl (fun _ _ _ _ => by omega) (xa_subI rfl rfl (fun _ _ _ _ => by omega) (xa_subI rfl rfl (fun _ _ _ _ => by omega) (xa_subR rfl (xa_sub0))))) ?_
  exact loop 81 ((M 30 1) - 1) n (by omega) (by omega) (by rw [show (M 30 1) - 1 + 1 = M 30 1 by omega]) (by omega)
theorem cx_23_51 {b : Bool} {A : Nat → Nat} {h0 : g_H} {d : Nat} {M : xa_M} {post : Option xa_V → xa_M → Prop} {l1 u1 : Int} {i : Int} (h1 : 0 ≤ i ∧ i < 8) (k1 : post (some (0, 0, (-2147483648), 2147483647, M 51 i)) M) : xa_C (xl_I b) A h0 (d + 1) 23 [(2, 51, 0, 0, 0), (0, 0, l1, u1, i)] M post := by
  refine xa_C_arg [(2, 51, 0, 0, 0), (0, 0, (-2147483648), 2147483647, i)] (xa_svR (xa_svI (fun _ _ _ _ => by omega) xa_sv0)) ?_
  refine xa_meth (Q0 := (2, 1, false, 0, 0, 11)) (by decide +kernel) ⟨rfl, rfl⟩ (full := s_c_23) rfl rfl ?_
  intro hM hv Q hgo
  refine hgo.1 15 [] 0 _ _ _ ?_
  refine And.intro ?_ ?_
  · intro (c1 : i < 0)
    show post (some (0, 0, 0, 0, 0)) M
    exact absurd h1 (by omega)
  · intro (c1 : 0 ≤ i)
    refine And.intro ?_ ?_
    · intro (c2 : 8 ≤ i)
      show post (some (0, 0, 0, 0, 0)) M
      exact absurd h1 (by omega)
    · intro (c2 : i < 8)
      refine And.intro (show 0 ≤ i ∧ i < 8 by omega) ?_
      show post (some (0, 0, (-2147483648), 2147483647, M 51 i)) M
      exact k1
theorem cx_23_52 {b : Bool} {A : Nat → Nat} {h0 : g_H} {d : Nat} {M : xa_M} {post : Option xa_V → xa_M → Prop} {l1 u1 : Int} {i : Int} (h1 : 0 ≤ i ∧ i < 8) (k1 : post (some (0, 0, (-2147483648), 2147483647, M 52 i)) M) : xa_C (xl_I b) A h0 (d + 1) 23 [(2, 52, 0, 0, 0), (0, 0, l1, u1, i)] M post := by
  refine xa_C_arg [(2, 52, 0, 0, 0), (0, 0, (-2147483648), 2147483647, i)] (xa_svR (xa_svI (fun _ _ _ _ => by omega) xa_sv0)) ?_
  refine xa_meth (Q0 := (2, 1, false, 0, 0, 11)) (by decide +kernel) ⟨rfl, rfl⟩ (full := s_c_23) rfl rfl ?_
  intro hM hv Q hgo
  refine hgo.1 15 [] 0 _ _ _ ?_
  refine And.intro ?_ ?_
  · intro (c1 : i < 0)
    show post (some (0, 0, 0, 0, 0)) M
    exact absurd h1 (by omega)
  · intro (c1 : 0 ≤ i)
    refine And.intro ?_ ?_
    · intro (c2 : 8 ≤ i)
      show post (some (0, 0, 0, 0, 0)) M
      exact absurd h1 (by omega)
    · intro (c2 : i < 8)
      refine And.intro (show 0 ≤ i ∧ i < 8 by omega) ?_
      show post (some (0, 0, (-2147483648), 2147483647, M 52 i)) M
      exact k1
theorem cx_59_48 {b : Bool} {A : Nat → Nat} {h0 : g_H} {d : Nat} {M : xa_M} {post : Option xa_V → xa_M → Prop} (k1 : post none (xa_up M 48 1 0)) : xa_C (xl_I b) A h0 (d + 1) 59 [(2, 48, 0, 0, 0)] M post := by
  refine xa_C_arg [(2, 48, 0, 0, 0)] (xa_svR (xa_sv0)) ?_
  refine xa_meth (Q0 := (1, 0, false, 0, 0, 6)) (by decide +kernel) ⟨rfl, rfl⟩ (full := s_c_59) rfl rfl ?_
  intro hM hv Q hgo
  refine hgo.1 8 [] 0 _ _ _ ?_
  show post none (xa_up M 48 1 0)
  exact k1
theorem cx_48_49 {b : Bool} {A : Nat → Nat} {h0 : g_H} {d : Nat} {M : xa_M} {post : Option xa_V → xa_M → Prop} {l1 u1 l2 u2 : Int} {i v : Int} (h1 : 0 ≤ i ∧ i < 16) (k1 : post none (xa_up M 49 i v)) : xa_C (xl_I b) A h0 (d + 1) 48 [(2, 49, 0, 0, 0), (0, 0, l1, u1, i), (1, 0, l2, u2, v)] M post := by
  refine xa_C_arg [(2, 49, 0, 0, 0), (0, 0, (-2147483648), 2147483647, i), (1, 0, (-9223372036854775808), 9223372036854775807, v)] (xa_svR (xa_svI (fun _ _ _ _ => by omega) (xa_svL (fun _ _ _ _ => by omega) xa_sv0))) ?_
  refine xa_meth (Q0 := (4, 0, false, 0, 0, 11)) (by decide +kernel) ⟨rfl, rfl⟩ (full := s_c_48) rfl rfl ?_
  intro hM hv Q hgo
  refine hgo.1 15 [] 0 _ _ _ ?_
  refine And.intro ?_ ?_
  · intro (c1 : i < 0)
    show post none M
    exact absurd h1 (by omega)
  · intro (c1 : 0 ≤ i)
    refine And.intro ?_ ?_
    · intro (c2 : 16 ≤ i)
      show post none M
      exact absurd h1 (by omega)
    · intro (c2 : i < 16)
      refine And.intro (show 0 ≤ i ∧ i < 16 by omega) ?_
      show post none (xa_up M 49 i v)
      exact k1
theorem cx_60_48 {b : Bool} {A : Nat → Nat} {h0 : g_H} {d : Nat} {M : xa_M} {post : Option xa_V → xa_M → Prop} {l1 u1 : Int} {x1 : Int} (h1 : 0 ≤ (M 48 1)) (k1 : (16 ≤ (M 48 1)) → post none M) (k2 : ((M 48 1) < 16) → post none (xa_up (xa_up M 49 (M 48 1) x1) 48 1 (xa_w32 ((M 48 1) + 1)))) : xa_C (xl_I b) A h0 (d + 2) 60 [(2, 48, 0, 0, 0), (1, 0, l1, u1, x1)] M post := by
  refine xa_C_arg [(2, 48, 0, 0, 0), (1, 0, (-9223372036854775808), 9223372036854775807, x1)] (xa_svR (xa_svL (fun _ _ _ _ => by omega) (xa_sv0))) ?_
  refine xa_meth (Q0 := (3, 0, false, 0, 0, 6)) (by decide +kernel) ⟨rfl, rfl⟩ (full := s_c_60) rfl rfl ?_
  intro hM hv Q hgo
  refine hgo.1 21 [] 0 _ _ _ ?_
  refine And.intro ?_ ?_
  · intro (c1 : 16 ≤ (M 48 1))
    show post none M
    exact k1 c1
  · intro (c1 : (M 48 1) < 16)
    show xa_C (xl_I b) A h0 _ 48 [(2, 49, 0, 0, 0), (0, 0, (-2147483648), 2147483647, M 48 1), (1, 0, (-9223372036854775808), 9223372036854775807, x1)] M _
    refine cx_48_49 (show 0 ≤ (M 48 1) ∧ (M 48 1) < 16 by omega) ?_
    show post none (xa_up (xa_up M 49 (M 48 1) x1) 48 1 (xa_w32 ((M 48 1) + 1)))
    exact k2 c1
theorem cx_171_50 {b : Bool} {A : Nat → Nat} {h0 : g_H} {d : Nat} {M : xa_M} {post : Option xa_V → xa_M → Prop} {T : Int → Int} {l1 u1 x2 : Int} (hT : (∀ i, 0 ≤ i → i < 80 → M 31 i = T i)) (hB : ∀ i, 0 ≤ T i ∧ T i ≤ 255) (hz : 0 ≤ M 30 1 ∧ M 30 1 ≤ 80) (hp : 0 ≤ M 50 4 ∧ M 50 4 ≤ 8) (hU : ∀ i, 0 ≤ i → i < M 50 4 → (0 ≤ M 51 i ∧ M 51 i ≤ 2000) ∧ (0 ≤ M 52 i ∧ M 52 i ≤ 2000)) (hx : 0 ≤ x2 ∧ x2 ≤ 1) (k : ∀ (r : Int) (M1 : xa_M), wd_A T (M 30 1) (wd_P T (M 30 1) x2 (M 52) (M 51)) (M 50 4).toNat r → (∀ q j, ¬ q = 48 → ¬ q = 49 → M1 q j = M q j) → post (some (0, 0, (-2147483648), 2147483647, r)) M1) : xa_C (xl_I b) A h0 (d + 5) 171 [(2, 50, 0, 0, 0), (2, 30, 0, 0, 0), (0, 0, l1, u1, x2), (2, 48, 0, 0, 0)] M post := by
  refine xa_C_wk ?_
  refine xa_C_arg [(2, 50, 0, 0, 0), (2, 30, 0, 0, 0), (0, 0, 0, 1, x2), (2, 48, 0, 0, 0)] (xa_svR (xa_svR (xa_svI (fun _ _ _ _ => by omega) (xa_svR xa_sv0)))) ?_
  refine xa_meth (Q0 := (7, 1, false, 0, 0, 0)) (by decide +kernel) ⟨rfl, rfl⟩ (full := s_c_171) rfl rfl ?_
  intro hM hv Q hgo
  have loop3 : (∀ i, 0 ≤ i → i < M 30 1 → i < 4 → wd_s (T i)) → (1 ≤ M 30 1 ∧ M 30 1 ≤ 4) → ∀ (f : Nat) (bb al n : Int), 1 ≤ n ∧ n ≤ 2001 → 0 ≤ al ∧ al < n → bb = wd_b (wd_P T (M 30 1) x2 (M 52) (M 51)) (M 50 4).toNat → 2001 - n < (f : Int) → Q 142 [(4, (0, 0, (-2147483648), 2147483647, bb)), (5, (0, 0, 0, 2000, al)), (6, (0, 0, 1, 2001, n)), (2, (0, 0, 0, 1, x2)), (0, (2, 50, 0, 0, 0)), (1, (2, 30, 0, 0, 0)), (3, (2, 48, 0, 0, 0))] [] M := by
    intro hg hs f
    induction f with
    | zero => intro bb al n n1 a1 hb hms; omega
    | succ f ih =>
      intro bb al n n1 a1 hb hms
      refine hgo.1 19 [3, 76, 142] 142 _ _ _ ?_
      refine And.intro ?_ ?_
      · intro (c1 : 2000 < n)
        show xa_C (xl_I b) A h0 _ 59 [(2, 48, 0, 0, 0)] M _
        refine cx_59_48 ?_
        show xa_C (xl_I b) A h0 _ 60 [(2, 48, 0, 0, 0), (1, 0, 0, 2000, al)] (xa_up M 48 1 0) _
        refine cx_60_48 (show 0 ≤ 0 by omega) ?_
        intro (i2 : 0 < 16)
        show xa_wk post (some (0, 0, (-2147483648), 2147483647, bb)) (xa_up (xa_up (xa_up M 48 1 0) 49 0 al) 48 1 (xa_w32 (0 + 1)))
        exact xa_wkI bb rfl (fun _ _ => by omega) (k _ _ (Or.inr ⟨hg, Or.inr (Or.inr ⟨hs.1, hs.2, hb⟩)⟩) (fun q j h1 h2 => by
          first
            | exact (xa_up_ne (by omega)).trans ((xa_up_ne (by omega)).trans (xa_up_ne (by omega)))
            | simp [xa_up, h1, h2]))
      · intro (c1 : n ≤ 2000)
        show xa_C (xl_I b) A h0 _ 173 [(2, 30, 0, 0, 0), (0, 0, 1, 2001, n)] M _
        refine cx_173f (by first | exact hT | exact hT1) hB (by omega) (by first | omega | exact hn8 _ (by omega) (by omega)) ?_ ?_
        · intro (i3 : wd_m T (M 30 1).toNat n)
          show Q 142 [(6, (0, 0, 2, 2002, n + 1)), (5, (0, 0, 1, 2001, al + 1)), (4, (0, 0, (-2147483648), 2147483647, bb)), (2, (0, 0, 0, 1, x2)), (0, (2, 50, 0, 0, 0)), (1, (2, 30, 0, 0, 0)), (3, (2, 48, 0, 0, 0))] [] M
          refine hgo.2.1 142 _ [(4, (0, 0, (-2147483648), 2147483647, bb)), (5, (0, 0, 0, 2000, al + 1)), (6, (0, 0, 1, 2001, n + 1)), (2, (0, 0, 0, 1, x2)), (0, (2, 50, 0, 0, 0)), (1, (2, 30, 0, 0, 0)), (3, (2, 48, 0, 0, 0))] _ _ (xa_subI rfl rfl (fun _ _ _ _ => by omega) (xa_subI rfl rfl (fun _ _ _ _ => by omega) (xa_subI rfl rfl (fun _ _ _ _ => by omega) (xa_subI rfl rfl (fun _ _ _ _ => by omega) (xa_subR rfl (xa_subR rfl (xa_subR rfl (xa_sub0)))))))) ?_
          exact ih bb (al + 1) (n + 1) (by omega) (by omega) hb (by omega)
        · intro (i4 : ¬ wd_m T (M 30 1).toNat n)
          show Q 142 [(6, (0, 0, 2, 2002, n + 1)), (5, (0, 0, 0, 2000, al + 0)), (4, (0, 0, (-2147483648), 2147483647, bb)), (2, (0, 0, 0, 1, x2)), (0, (2, 50, 0, 0, 0)), (1, (2, 30, 0, 0, 0)), (3, (2, 48, 0, 0, 0))] [] M
          refine hgo.2.1 142 _ [(4, (0, 0, (-2147483648), 2147483647, bb)), (5, (0, 0, 0, 2000, al + 0)), (6, (0, 0, 1, 2001, n + 1)), (2, (0, 0, 0, 1, x2)), (0, (2, 50, 0, 0, 0)), (1, (2, 30, 0, 0, 0)), (3, (2, 48, 0, 0, 0))] _ _ (xa_subI rfl rfl (fun _ _ _ _ => by omega) (xa_subI rfl rfl (fun _ _ _ _ => by omega) (xa_subI rfl rfl (fun _ _ _ _ => by omega) (xa_subI rfl rfl (fun _ _ _ _ => by omega) (xa_subR rfl (xa_subR rfl (xa_subR rfl (xa_sub0)))))))) ?_
          exact ih bb (al + 0) (n + 1) (by omega) (by omega) hb (by omega)
  have loop2 : (∀ i, 0 ≤ i → i < M 30 1 → i < 4 → wd_s (T i)) → (1 ≤ M 30 1 ∧ M 30 1 ≤ 4) → ∀ (f : Nat) (bb p : Int), 0 ≤ p ∧ p ≤ M 50 4 → p ≤ 8 → bb = wd_b (wd_P T (M 30 1) x2 (M 52) (M 51)) p.toNat → 8 - p < (f : Int) → Q 76 [(4, (0, 0, (-2147483648), 2147483647, bb)), (5, (0, 0, 0, 8, p)), (2, (0, 0, 0, 1, x2)), (0, (2, 50, 0, 0, 0)), (1, (2, 30, 0, 0, 0)), (3, (2, 48, 0, 0, 0))] [] M := by
    intro hg hs f
    induction f with
    | zero => intro bb p p1 p2 hb hms; omega
    | succ f ih =>
      intro bb p p1 p2 hb hms
      have hn8 := hU p
      have hr := wd_b_r (P := (wd_P T (M 30 1) x2 (M 52) (M 51))) p.toNat
      rw [← hb] at hr
      refine hgo.1 28 [3, 76, 142] 76 _ _ _ ?_
      refine And.intro ?_ ?_
      · intro (c1 : (M 50 4) ≤ p)
        show Q 142 [(6, (0, 0, 1, 1, 1)), (5, (0, 0, 0, 0, 0)), (4, (0, 0, (-2147483648), 2147483647, bb)), (2, (0, 0, 0, 1, x2)), (0, (2, 50, 0, 0, 0)), (1, (2, 30, 0, 0, 0)), (3, (2, 48, 0, 0, 0))] [] M
        refine hgo.2.1 142 _ [(4, (0, 0, (-2147483648), 2147483647, bb)), (5, (0, 0, 0, 2000, 0)), (6, (0, 0, 1, 2001, 1)), (2, (0, 0, 0, 1, x2)), (0, (2, 50, 0, 0, 0)), (1, (2, 30, 0, 0, 0)), (3, (2, 48, 0, 0, 0))] _ _ (xa_subI rfl rfl (fun _ _ _ _ => by omega) (xa_subI rfl rfl (fun _ _ _ _ => by omega) (xa_subI rfl rfl (fun _ _ _ _ => by omega) (xa_subI rfl rfl (fun _ _ _ _ => by omega) (xa_subR rfl (xa_subR rfl (xa_subR rfl (xa_sub0)))))))) ?_
        exact loop3 hg hs 2001 bb 0 1 (by omega) (by omega) (by rw [hb, show p = M 50 4 by omega]) (by omega)
      · intro (c1 : p < (M 50 4))
        refine And.intro ?_ ?_
        · intro (c2 : ¬ x2 = 0)
          show xa_C (xl_I b) A h0 _ 23 [(2, 51, 0, 0, 0), (0, 0, 0, 8, p)] M _
          refine cx_23_51 (show 0 ≤ p ∧ p < 8 by omega) ?_
          show xa_C (xl_I b) A h0 _ 173 [(2, 30, 0, 0, 0), (0, 0, (-2147483648), 2147483647, M 51 p)] M _
          refine cx_173f (by first | exact hT | exact hT1) hB (by omega) (by first | omega | exact hn8 _ (by omega) (by omega)) ?_ ?_
          · intro (i3 : wd_m T (M 30 1).toNat (M 51 p))
            show Q 76 [(5, (0, 0, 1, 9, p + 1)), (4, (0, 0, (-2147483648), 2147483647, xa_ib 4 bb (xa_ib 6 1 p))), (2, (0, 0, 0, 1, x2)), (0, (2, 50, 0, 0, 0)), (1, (2, 30, 0, 0, 0)), (3, (2, 48, 0, 0, 0))] [] M
            have ei : ((p.toNat : Nat) : Int) = p := Int.toNat_of_nonneg (by omega)
            have f9 : (wd_P T (M 30 1) x2 (M 52) (M 51)) ((p.toNat : Nat) : Int) := by
              rw [ei]
              exact (wd_P1 (by omega)).mpr i3
            have eb : xa_ib 4 bb (xa_ib 6 1 p) = wd_b (wd_P T (M 30 1) x2 (M 52) (M 51)) (p + 1).toNat := by
              rw [show (p + 1).toNat = p.toNat + 1 by omega, wd_b1 f9, ← hb, ei]
            refine hgo.2.1 76 _ [(4, (0, 0, (-2147483648), 2147483647, xa_ib 4 bb (xa_ib 6 1 p))), (5, (0, 0, 0, 8, p + 1)), (2, (0, 0, 0, 1, x2)), (0, (2, 50, 0, 0, 0)), (1, (2, 30, 0, 0, 0)), (3, (2, 48, 0, 0, 0))] _ _ (xa_subI rfl rfl (fun _ _ _ _ => by omega) (xa_subI rfl rfl (fun _ _ _ _ => by omega) (xa_subI rfl rfl (fun _ _ _ _ => by omega) (xa_subR rfl (xa_subR rfl (xa_subR rfl (xa_sub0))))))) ?_
            exact ih (p + 1) _ (by omega) (by omega) eb (by omega)
          · intro (i4 : ¬ wd_m T (M 30 1).toNat (M 51 p))
            show Q 76 [(5, (0, 0, 1, 9, p + 1)), (4, (0, 0, (-2147483648), 2147483647, xa_ib 4 bb 0)), (2, (0, 0, 0, 1, x2)), (0, (2, 50, 0, 0, 0)), (1, (2, 30, 0, 0, 0)), (3, (2, 48, 0, 0, 0))] [] M
            have ei : ((p.toNat : Nat) : Int) = p := Int.toNat_of_nonneg (by omega)
            have f9 : ¬ (wd_P T (M 30 1) x2 (M 52) (M 51)) ((p.toNat : Nat) : Int) := by
              rw [ei]
              exact fun h => i4 ((wd_P1 (by omega)).mp h)
            have eb : xa_ib 4 bb 0 = wd_b (wd_P T (M 30 1) x2 (M 52) (M 51)) (p + 1).toNat := by
              rw [show (p + 1).toNat = p.toNat + 1 by omega, wd_b0 f9, ← hb, bk_or0 hr.1 hr.2]
            refine hgo.2.1 76 _ [(4, (0, 0, (-2147483648), 2147483647, xa_ib 4 bb 0)), (5, (0, 0, 0, 8, p + 1)), (2, (0, 0, 0, 1, x2)), (0, (2, 50, 0, 0, 0)), (1, (2, 30, 0, 0, 0)), (3, (2, 48, 0, 0, 0))] _ _ (xa_subI rfl rfl (fun _ _ _ _ => by omega) (xa_subI rfl rfl (fun _ _ _ _ => by omega) (xa_subI rfl rfl (fun _ _ _ _ => by omega) (xa_subR rfl (xa_subR rfl (xa_subR rfl (xa_sub0))))))) ?_
            exact ih (p + 1) _ (by omega) (by omega) eb (by omega)
        · intro (c2 : x2 = 0)
          show xa_C (xl_I b) A h0 _ 23 [(2, 52, 0, 0, 0), (0, 0, 0, 8, p)] M _
          refine cx_23_52 (show 0 ≤ p ∧ p < 8 by omega) ?_
          show xa_C (xl_I b) A h0 _ 173 [(2, 30, 0, 0, 0), (0, 0, (-2147483648), 2147483647, M 52 p)] M _
          refine cx_173f (by first | exact hT | exact hT1) hB (by omega) (by first | omega | exact hn8 _ (by omega) (by omega)) ?_ ?_
          · intro (i5 : wd_m T (M 30 1).toNat (M 52 p))
            show Q 76 [(5, (0, 0, 1, 9, p + 1)), (4, (0, 0, (-2147483648), 2147483647, xa_ib 4 bb (xa_ib 6 1 p))), (2, (0, 0, 0, 1, x2)), (0, (2, 50, 0, 0, 0)), (1, (2, 30, 0, 0, 0)), (3, (2, 48, 0, 0, 0))] [] M
            have ei : ((p.toNat : Nat) : Int) = p := Int.toNat_of_nonneg (by omega)
            have f9 : (wd_P T (M 30 1) x2 (M 52) (M 51)) ((p.toNat : Nat) : Int) := by
              rw [ei]
              exact (wd_P0 (by omega)).mpr i5
            have eb : xa_ib 4 bb (xa_ib 6 1 p) = wd_b (wd_P T (M 30 1) x2 (M 52) (M 51)) (p + 1).toNat := by
              rw [show (p + 1).toNat = p.toNat + 1 by omega, wd_b1 f9, ← hb, ei]
            refine hgo.2.1 76 _ [(4, (0, 0, (-2147483648), 2147483647, xa_ib 4 bb (xa_ib 6 1 p))), (5, (0, 0, 0, 8, p + 1)), (2, (0, 0, 0, 1, x2)), (0, (2, 50, 0, 0, 0)), (1, (2, 30, 0, 0, 0)), (3, (2, 48, 0, 0, 0))] _ _ (xa_subI rfl rfl (fun _ _ _ _ => by omega) (xa_subI rfl rfl (fun _ _ _ _ => by omega) (xa_subI rfl rfl (fun _ _ _ _ => by omega) (xa_subR rfl (xa_subR rfl (xa_subR rfl (xa_sub0))))))) ?_
            exact ih (p + 1) _ (by omega) (by omega) eb (by omega)
          · intro (i6 : ¬ wd_m T (M 30 1).toNat (M 52 p))
            show Q 76 [(5, (0, 0, 1, 9, p + 1)), (4, (0, 0, (-2147483648), 2147483647, xa_ib 4 bb 0)), (2, (0, 0, 0, 1, x2)), (0, (2, 50, 0, 0, 0)), (1, (2, 30, 0, 0, 0)), (3, (2, 48, 0, 0, 0))] [] M
            have ei : ((p.toNat : Nat) : Int) = p := Int.toNat_of_nonneg (by omega)
            have f9 : ¬ (wd_P T (M 30 1) x2 (M 52) (M 51)) ((p.toNat : Nat) : Int) := by
              rw [ei]
              exact fun h => i6 ((wd_P0 (by omega)).mp h)
            have eb : xa_ib 4 bb 0 = wd_b (wd_P T (M 30 1) x2 (M 52) (M 51)) (p + 1).toNat := by
              rw [show (p + 1).toNat = p.toNat + 1 by omega, wd_b0 f9, ← hb, bk_or0 hr.1 hr.2]
            refine hgo.2.1 76 _ [(4, (0, 0, (-2147483648), 2147483647, xa_ib 4 bb 0)), (5, (0, 0, 0, 8, p + 1)), (2, (0, 0, 0, 1, x2)), (0, (2, 50, 0, 0, 0)), (1, (2, 30, 0, 0, 0)), (3, (2, 48, 0, 0, 0))] _ _ (xa_subI rfl rfl (fun _ _ _ _ => by omega) (xa_subI rfl rfl (fun _ _ _ _ => by omega) (xa_subI rfl rfl (fun _ _ _ _ => by omega) (xa_subR rfl (xa_subR rfl (xa_subR rfl (xa_sub0))))))) ?_
            exact ih (p + 1) _ (by omega) (by omega) eb (by omega)
  have loop1 : ∀ (f : Nat) (p : Int), 0 ≤ p ∧ p ≤ 4 → p ≤ M 30 1 → (∀ i, 0 ≤ i → i < p → wd_s (T i)) → 4 - p < (f : Int) → Q 3 [(4, (0, 0, 0, 4, p)), (2, (0, 0, 0, 1, x2)), (0, (2, 50, 0, 0, 0)), (1, (2, 30, 0, 0, 0)), (3, (2, 48, 0, 0, 0))] [] M := by
    intro f
    induction f with
    | zero => intro p p1 p2 hg hms; omega
    | succ f ih =>
      intro p p1 p2 hg hms
      refine hgo.1 27 [3, 76, 142] 3 _ _ _ ?_
      refine And.intro ?_ ?_
      · intro (c1 : (M 30 1) ≤ p)
        refine And.intro ?_ ?_
        · intro (c2 : ¬ (M 30 1) = 0)
          show Q 76 [(5, (0, 0, 0, 0, 0)), (4, (0, 0, 0, 0, 0)), (2, (0, 0, 0, 1, x2)), (0, (2, 50, 0, 0, 0)), (1, (2, 30, 0, 0, 0)), (3, (2, 48, 0, 0, 0))] [] M
          refine hgo.2.1 76 _ [(4, (0, 0, (-2147483648), 2147483647, 0)), (5, (0, 0, 0, 8, 0)), (2, (0, 0, 0, 1, x2)), (0, (2, 50, 0, 0, 0)), (1, (2, 30, 0, 0, 0)), (3, (2, 48, 0, 0, 0))] _ _ (xa_subI rfl rfl (fun _ _ _ _ => by omega) (xa_subI rfl rfl (fun _ _ _ _ => by omega) (xa_subI rfl rfl (fun _ _ _ _ => by omega) (xa_subR rfl (xa_subR rfl (xa_subR rfl (xa_sub0))))))) ?_
          exact loop2 (fun i g0 g1 g2 => hg i g0 (by omega)) (by omega) 9 0 0 (by omega) (by omega) rfl (by omega)
        · intro (c2 : (M 30 1) = 0)
          show xa_wk post (some (0, 0, (-100), (-100), (-100))) M
          exact xa_wkI (-100) rfl (fun _ _ => by omega) (k _ _ (Or.inr ⟨fun i g0 g1 g2 => hg i g0 (by omega), Or.inl ⟨by omega, rfl⟩⟩) (fun _ _ _ _ => rfl))
      · intro (c1 : p < (M 30 1))
        refine And.intro ?_ ?_
        · intro (c3 : 4 ≤ p)
          show xa_wk post (some (0, 0, (-104), (-100), (-100) - p)) M
          exact xa_wkI _ rfl (fun _ _ => by omega) (k _ _ (Or.inr ⟨fun i g0 g1 g2 => hg i g0 (by omega), Or.inr (Or.inl ⟨by omega, by omega⟩)⟩) (fun _ _ _ _ => rfl))
        · intro (c3 : p < 4)
          show xa_C (xl_I b) A h0 _ 118 [(2, 30, 0, 0, 0), (0, 0, 0, 4, p)] M _
          refine cg_118 (show 0 ≤ (M 30 1) ∧ (M 30 1) ≤ 80 by omega) ?_ ?_
          · intro (i4 : (0 ≤ p ∧ p < (M 30 1)) ∧ 48 ≤ M 31 p ∧ M 31 p ≤ 57)
            show Q 3 [(4, (0, 0, 1, 5, p + 1)), (5, (0, 0, 1, 1, 1)), (2, (0, 0, 0, 1, x2)), (0, (2, 50, 0, 0, 0)), (1, (2, 30, 0, 0, 0)), (3, (2, 48, 0, 0, 0))] [] M
            refine hgo.2.1 3 _ [(4, (0, 0, 0, 4, p + 1)), (2, (0, 0, 0, 1, x2)), (0, (2, 50, 0, 0, 0)), (1, (2, 30, 0, 0, 0)), (3, (2, 48, 0, 0, 0))] _ _ (xa_subI rfl rfl (fun _ _ _ _ => by omega) (xa_subI rfl rfl (fun _ _ _ _ => by omega) (xa_subR rfl (xa_subR rfl (xa_subR rfl (xa_sub0)))))) ?_
            exact ih (p + 1) (by omega) (by omega) (fun i g0 g1 => by
              by_cases e : i = p
              · rw [e]
                have t9 := hT p (by omega) (by omega)
                unfold wd_s
                omega
              · exact hg i g0 (by omega)) (by omega)
          · intro (i5 : ¬ ((0 ≤ p ∧ p < (M 30 1)) ∧ 48 ≤ M 31 p ∧ M 31 p ≤ 57))
            show xa_C (xl_I b) A h0 _ 172 [(2, 30, 0, 0, 0), (0, 0, 0, 4, p)] M _
            refine cg_172 (show 0 ≤ (M 30 1) ∧ (M 30 1) ≤ 80 by omega) ?_ ?_
            · intro (i6 : (0 ≤ p ∧ p < (M 30 1)) ∧ M 31 p = 63)
              show Q 3 [(4, (0, 0, 1, 5, p + 1)), (5, (0, 0, 1, 1, 1)), (2, (0, 0, 0, 1, x2)), (0, (2, 50, 0, 0, 0)), (1, (2, 30, 0, 0, 0)), (3, (2, 48, 0, 0, 0))] [] M
              refine hgo.2.1 3 _ [(4, (0, 0, 0, 4, p + 1)), (2, (0, 0, 0, 1, x2)), (0, (2, 50, 0, 0, 0)), (1, (2, 30, 0, 0, 0)), (3, (2, 48, 0, 0, 0))] _ _ (xa_subI rfl rfl (fun _ _ _ _ => by omega) (xa_subI rfl rfl (fun _ _ _ _ => by omega) (xa_subR rfl (xa_subR rfl (xa_subR rfl (xa_sub0)))))) ?_
              exact ih (p + 1) (by omega) (by omega) (fun i g0 g1 => by
                by_cases e : i = p
                · rw [e]
                  have t9 := hT p (by omega) (by omega)
                  unfold wd_s
                  omega
                · exact hg i g0 (by omega)) (by omega)
            · intro (i7 : ¬ ((0 ≤ p ∧ p < (M 30 1)) ∧ M 31 p = 63))
              show xa_wk post (some (0, 0, (-104), (-100), (-100) - p)) M
              have t9 := hT p (by omega) (by omega)
              exact xa_wkI _ rfl (fun _ _ => by omega) (k _ _ (Or.inl ⟨p, by omega, by omega, by omega, by unfold wd_s; omega, hg, by omega⟩) (fun _ _ _ _ => rfl))
  refine hgo.1 7 [3] 0 _ _ _ ?_
  show Q 3 [(4, (0, 0, 0, 0, 0)), (0, (2, 50, 0, 0, 0)), (1, (2, 30, 0, 0, 0)), (2, (0, 0, 0, 1, x2)), (3, (2, 48, 0, 0, 0))] [] M
  refine hgo.2.1 3 _ [(4, (0, 0, 0, 4, 0)), (2, (0, 0, 0, 1, x2)), (0, (2, 50, 0, 0, 0)), (1, (2, 30, 0, 0, 0)), (3, (2, 48, 0, 0, 0))] _ _ (xa_subI rfl rfl (fun _ _ _ _ => by omega) (xa_subI rfl rfl (fun _ _ _ _ => by omega) (xa_subR rfl (xa_subR rfl (xa_subR rfl (xa_sub0)))))) ?_
  exact loop1 5 0 (by omega) (by omega) (fun i g0 g1 => by omega) (by omega)
theorem cx_23_56 {b : Bool} {A : Nat → Nat} {h0 : g_H} {d : Nat} {M : xa_M} {post : Option xa_V → xa_M → Prop} {l1 u1 : Int} {i : Int} (h1 : 0 ≤ i ∧ i < 8) (k1 : post (some (0, 0, (-2147483648), 2147483647, M 56 i)) M) : xa_C (xl_I b) A h0 (d + 1) 23 [(2, 56, 0, 0, 0), (0, 0, l1, u1, i)] M post := by
  refine xa_C_arg [(2, 56, 0, 0, 0), (0, 0, (-2147483648), 2147483647, i)] (xa_svR (xa_svI (fun _ _ _ _ => by omega) xa_sv0)) ?_
  refine xa_meth (Q0 := (2, 1, false, 0, 0, 11)) (by decide +kernel) ⟨rfl, rfl⟩ (full := s_c_23) rfl rfl ?_
  intro hM hv Q hgo
  refine hgo.1 15 [] 0 _ _ _ ?_
  refine And.intro ?_ ?_
  · intro (c1 : i < 0)
    show post (some (0, 0, 0, 0, 0)) M
    exact absurd h1 (by omega)
  · intro (c1 : 0 ≤ i)
    refine And.intro ?_ ?_
    · intro (c2 : 8 ≤ i)
      show post (some (0, 0, 0, 0, 0)) M
      exact absurd h1 (by omega)
    · intro (c2 : i < 8)
      refine And.intro (show 0 ≤ i ∧ i < 8 by omega) ?_
      show post (some (0, 0, (-2147483648), 2147483647, M 56 i)) M
      exact k1
theorem cx_23_57 {b : Bool} {A : Nat → Nat} {h0 : g_H} {d : Nat} {M : xa_M} {post : Option xa_V → xa_M → Prop} {l1 u1 : Int} {i : Int} (h1 : 0 ≤ i ∧ i < 8) (k1 : post (some (0, 0, (-2147483648), 2147483647, M 57 i)) M) : xa_C (xl_I b) A h0 (d + 1) 23 [(2, 57, 0, 0, 0), (0, 0, l1, u1, i)] M post := by
  refine xa_C_arg [(2, 57, 0, 0, 0), (0, 0, (-2147483648), 2147483647, i)] (xa_svR (xa_svI (fun _ _ _ _ => by omega) xa_sv0)) ?_
  refine xa_meth (Q0 := (2, 1, false, 0, 0, 11)) (by decide +kernel) ⟨rfl, rfl⟩ (full := s_c_23) rfl rfl ?_
  intro hM hv Q hgo
  refine hgo.1 15 [] 0 _ _ _ ?_
  refine And.intro ?_ ?_
  · intro (c1 : i < 0)
    show post (some (0, 0, 0, 0, 0)) M
    exact absurd h1 (by omega)
  · intro (c1 : 0 ≤ i)
    refine And.intro ?_ ?_
    · intro (c2 : 8 ≤ i)
      show post (some (0, 0, 0, 0, 0)) M
      exact absurd h1 (by omega)
    · intro (c2 : i < 8)
      refine And.intro (show 0 ≤ i ∧ i < 8 by omega) ?_
      show post (some (0, 0, (-2147483648), 2147483647, M 57 i)) M
      exact k1
theorem cx_171_55 {b : Bool} {A : Nat → Nat} {h0 : g_H} {d : Nat} {M : xa_M} {post : Option xa_V → xa_M → Prop} {T : Int → Int} {l1 u1 x2 : Int} (hT : (∀ i, 0 ≤ i → i < 80 → M 31 i = T i)) (hB : ∀ i, 0 ≤ T i ∧ T i ≤ 255) (hz : 0 ≤ M 30 1 ∧ M 30 1 ≤ 80) (hp : 0 ≤ M 55 4 ∧ M 55 4 ≤ 8) (hU : ∀ i, 0 ≤ i → i < M 55 4 → (0 ≤ M 56 i ∧ M 56 i ≤ 2000) ∧ (0 ≤ M 57 i ∧ M 57 i ≤ 2000)) (hx : 0 ≤ x2 ∧ x2 ≤ 1) (k : ∀ (r : Int) (M1 : xa_M), wd_A T (M 30 1) (wd_P T (M 30 1) x2 (M 57) (M 56)) (M 55 4).toNat r → (∀ q j, ¬ q = 48 → ¬ q = 49 → M1 q j = M q j) → post (some (0, 0, (-2147483648), 2147483647, r)) M1) : xa_C (xl_I b) A h0 (d + 5) 171 [(2, 55, 0, 0, 0), (2, 30, 0, 0, 0), (0, 0, l1, u1, x2), (2, 48, 0, 0, 0)] M post := by
  refine xa_C_wk ?_
  refine xa_C_arg [(2, 55, 0, 0, 0), (2, 30, 0, 0, 0), (0, 0, 0, 1, x2), (2, 48, 0, 0, 0)] (xa_svR (xa_svR (xa_svI (fun _ _ _ _ => by omega) (xa_svR xa_sv0)))) ?_
  refine xa_meth (Q0 := (7, 1, false, 0, 0, 0)) (by decide +kernel) ⟨rfl, rfl⟩ (full := s_c_171) rfl rfl ?_
  intro hM hv Q hgo
  have loop3 : (∀ i, 0 ≤ i → i < M 30 1 → i < 4 → wd_s (T i)) → (1 ≤ M 30 1 ∧ M 30 1 ≤ 4) → ∀ (f : Nat) (bb al n : Int), 1 ≤ n ∧ n ≤ 2001 → 0 ≤ al ∧ al < n → bb = wd_b (wd_P T (M 30 1) x2 (M 57) (M 56)) (M 55 4).toNat → 2001 - n < (f : Int) → Q 142 [(4, (0, 0, (-2147483648), 2147483647, bb)), (5, (0, 0, 0, 2000, al)), (6, (0, 0, 1, 2001, n)), (2, (0, 0, 0, 1, x2)), (0, (2, 55, 0, 0, 0)), (1, (2, 30, 0, 0, 0)), (3, (2, 48, 0, 0, 0))] [] M := by
    intro hg hs f
    induction f with
    | zero => intro bb al n n1 a1 hb hms; omega
    | succ f ih =>
      intro bb al n n1 a1 hb hms
      refine hgo.1 19 [3, 76, 142] 142 _ _ _ ?_
      refine And.intro ?_ ?_
      · intro (c1 : 2000 < n)
        show xa_C (xl_I b) A h0 _ 59 [(2, 48, 0, 0, 0)] M _
        refine cx_59_48 ?_
        show xa_C (xl_I b) A h0 _ 60 [(2, 48, 0, 0, 0), (1, 0, 0, 2000, al)] (xa_up M 48 1 0) _
        refine cx_60_48 (show 0 ≤ 0 by omega) ?_
        intro (i2 : 0 < 16)
        show xa_wk post (some (0, 0, (-2147483648), 2147483647, bb)) (xa_up (xa_up (xa_up M 48 1 0) 49 0 al) 48 1 (xa_w32 (0 + 1)))
        exact xa_wkI bb rfl (fun _ _ => by omega) (k _ _ (Or.inr ⟨hg, Or.inr (Or.inr ⟨hs.1, hs.2, hb⟩)⟩) (fun q j h1 h2 => by
          first
            | exact (xa_up_ne (by omega)).trans ((xa_up_ne (by omega)).trans (xa_up_ne (by omega)))
            | simp [xa_up, h1, h2]))
      · intro (c1 : n ≤ 2000)
        show xa_C (xl_I b) A h0 _ 173 [(2, 30, 0, 0, 0), (0, 0, 1, 2001, n)] M _
        refine cx_173f (by first | exact hT | exact hT1) hB (by omega) (by first | omega | exact hn8 _ (by omega) (by omega)) ?_ ?_
        · intro (i3 : wd_m T (M 30 1).toNat n)
          show Q 142 [(6, (0, 0, 2, 2002, n + 1)), (5, (0, 0, 1, 2001, al + 1)), (4, (0, 0, (-2147483648), 2147483647, bb)), (2, (0, 0, 0, 1, x2)), (0, (2, 55, 0, 0, 0)), (1, (2, 30, 0, 0, 0)), (3, (2, 48, 0, 0, 0))] [] M
          refine hgo.2.1 142 _ [(4, (0, 0, (-2147483648), 2147483647, bb)), (5, (0, 0, 0, 2000, al + 1)), (6, (0, 0, 1, 2001, n + 1)), (2, (0, 0, 0, 1, x2)), (0, (2, 55, 0, 0, 0)), (1, (2, 30, 0, 0, 0)), (3, (2, 48, 0, 0, 0))] _ _ (xa_subI rfl rfl (fun _ _ _ _ => by omega) (xa_subI rfl rfl (fun _ _ _ _ => by omega) (xa_subI rfl rfl (fun _ _ _ _ => by omega) (xa_subI rfl rfl (fun _ _ _ _ => by omega) (xa_subR rfl (xa_subR rfl (xa_subR rfl (xa_sub0)))))))) ?_
          exact ih bb (al + 1) (n + 1) (by omega) (by omega) hb (by omega)
        · intro (i4 : ¬ wd_m T (M 30 1).toNat n)
          show Q 142 [(6, (0, 0, 2, 2002, n + 1)), (5, (0, 0, 0, 2000, al + 0)), (4, (0, 0, (-2147483648), 2147483647, bb)), (2, (0, 0, 0, 1, x2)), (0, (2, 55, 0, 0, 0)), (1, (2, 30, 0, 0, 0)), (3, (2, 48, 0, 0, 0))] [] M
          refine hgo.2.1 142 _ [(4, (0, 0, (-2147483648), 2147483647, bb)), (5, (0, 0, 0, 2000, al + 0)), (6, (0, 0, 1, 2001, n + 1)), (2, (0, 0, 0, 1, x2)), (0, (2, 55, 0, 0, 0)), (1, (2, 30, 0, 0, 0)), (3, (2, 48, 0, 0, 0))] _ _ (xa_subI rfl rfl (fun _ _ _ _ => by omega) (xa_subI rfl rfl (fun _ _ _ _ => by omega) (xa_subI rfl rfl (fun _ _ _ _ => by omega) (xa_subI rfl rfl (fun _ _ _ _ => by omega) (xa_subR rfl (xa_subR rfl (xa_subR rfl (xa_sub0)))))))) ?_
          exact ih bb (al + 0) (n + 1) (by omega) (by omega) hb (by omega)
  have loop2 : (∀ i, 0 ≤ i → i < M 30 1 → i < 4 → wd_s (T i)) → (1 ≤ M 30 1 ∧ M 30 1 ≤ 4) → ∀ (f : Nat) (bb p : Int), 0 ≤ p ∧ p ≤ M 55 4 → p ≤ 8 → bb = wd_b (wd_P T (M 30 1) x2 (M 57) (M 56)) p.toNat → 8 - p < (f : Int) → Q 76 [(4, (0, 0, (-2147483648), 2147483647, bb)), (5, (0, 0, 0, 8, p)), (2, (0, 0, 0, 1, x2)), (0, (2, 55, 0, 0, 0)), (1, (2, 30, 0, 0, 0)), (3, (2, 48, 0, 0, 0))] [] M := by
    intro hg hs f
    induction f with
    | zero => intro bb p p1 p2 hb hms; omega
    | succ f ih =>
      intro bb p p1 p2 hb hms
      have hn8 := hU p
      have hr := wd_b_r (P := (wd_P T (M 30 1) x2 (M 57) (M 56))) p.toNat
      rw [← hb] at hr
      refine hgo.1 28 [3, 76, 142] 76 _ _ _ ?_
      refine And.intro ?_ ?_
      · intro (c1 : (M 55 4) ≤ p)
        show Q 142 [(6, (0, 0, 1, 1, 1)), (5, (0, 0, 0, 0, 0)), (4, (0, 0, (-2147483648), 2147483647, bb)), (2, (0, 0, 0, 1, x2)), (0, (2, 55, 0, 0, 0)), (1, (2, 30, 0, 0, 0)), (3, (2, 48, 0, 0, 0))] [] M
        refine hgo.2.1 142 _ [(4, (0, 0, (-2147483648), 2147483647, bb)), (5, (0, 0, 0, 2000, 0)), (6, (0, 0, 1, 2001, 1)), (2, (0, 0, 0, 1, x2)), (0, (2, 55, 0, 0, 0)), (1, (2, 30, 0, 0, 0)), (3, (2, 48, 0, 0, 0))] _ _ (xa_subI rfl rfl (fun _ _ _ _ => by omega) (xa_subI rfl rfl (fun _ _ _ _ => by omega) (xa_subI rfl rfl (fun _ _ _ _ => by omega) (xa_subI rfl rfl (fun _ _ _ _ => by omega) (xa_subR rfl (xa_subR rfl (xa_subR rfl (xa_sub0)))))))) ?_
        exact loop3 hg hs 2001 bb 0 1 (by omega) (by omega) (by rw [hb, show p = M 55 4 by omega]) (by omega)
      · intro (c1 : p < (M 55 4))
        refine And.intro ?_ ?_
        · intro (c2 : ¬ x2 = 0)
          show xa_C (xl_I b) A h0 _ 23 [(2, 56, 0, 0, 0), (0, 0, 0, 8, p)] M _
          refine cx_23_56 (show 0 ≤ p ∧ p < 8 by omega) ?_
          show xa_C (xl_I b) A h0 _ 173 [(2, 30, 0, 0, 0), (0, 0, (-2147483648), 2147483647, M 56 p)] M _
          refine cx_173f (by first | exact hT | exact hT1) hB (by omega) (by first | omega | exact hn8 _ (by omega) (by omega)) ?_ ?_
          · intro (i3 : wd_m T (M 30 1).toNat (M 56 p))
            show Q 76 [(5, (0, 0, 1, 9, p + 1)), (4, (0, 0, (-2147483648), 2147483647, xa_ib 4 bb (xa_ib 6 1 p))), (2, (0, 0, 0, 1, x2)), (0, (2, 55, 0, 0, 0)), (1, (2, 30, 0, 0, 0)), (3, (2, 48, 0, 0, 0))] [] M
            have ei : ((p.toNat : Nat) : Int) = p := Int.toNat_of_nonneg (by omega)
            have f9 : (wd_P T (M 30 1) x2 (M 57) (M 56)) ((p.toNat : Nat) : Int) := by
              rw [ei]
              exact (wd_P1 (by omega)).mpr i3
            have eb : xa_ib 4 bb (xa_ib 6 1 p) = wd_b (wd_P T (M 30 1) x2 (M 57) (M 56)) (p + 1).toNat := by
              rw [show (p + 1).toNat = p.toNat + 1 by omega, wd_b1 f9, ← hb, ei]
            refine hgo.2.1 76 _ [(4, (0, 0, (-2147483648), 2147483647, xa_ib 4 bb (xa_ib 6 1 p))), (5, (0, 0, 0, 8, p + 1)), (2, (0, 0, 0, 1, x2)), (0, (2, 55, 0, 0, 0)), (1, (2, 30, 0, 0, 0)), (3, (2, 48, 0, 0, 0))] _ _ (xa_subI rfl rfl (fun _ _ _ _ => by omega) (xa_subI rfl rfl (fun _ _ _ _ => by omega) (xa_subI rfl rfl (fun _ _ _ _ => by omega) (xa_subR rfl (xa_subR rfl (xa_subR rfl (xa_sub0))))))) ?_
            exact ih (p + 1) _ (by omega) (by omega) eb (by omega)
          · intro (i4 : ¬ wd_m T (M 30 1).toNat (M 56 p))
            show Q 76 [(5, (0, 0, 1, 9, p + 1)), (4, (0, 0, (-2147483648), 2147483647, xa_ib 4 bb 0)), (2, (0, 0, 0, 1, x2)), (0, (2, 55, 0, 0, 0)), (1, (2, 30, 0, 0, 0)), (3, (2, 48, 0, 0, 0))] [] M
            have ei : ((p.toNat : Nat) : Int) = p := Int.toNat_of_nonneg (by omega)
            have f9 : ¬ (wd_P T (M 30 1) x2 (M 57) (M 56)) ((p.toNat : Nat) : Int) := by
              rw [ei]
              exact fun h => i4 ((wd_P1 (by omega)).mp h)
            have eb : xa_ib 4 bb 0 = wd_b (wd_P T (M 30 1) x2 (M 57) (M 56)) (p + 1).toNat := by
              rw [show (p + 1).toNat = p.toNat + 1 by omega, wd_b0 f9, ← hb, bk_or0 hr.1 hr.2]
            refine hgo.2.1 76 _ [(4, (0, 0, (-2147483648), 2147483647, xa_ib 4 bb 0)), (5, (0, 0, 0, 8, p + 1)), (2, (0, 0, 0, 1, x2)), (0, (2, 55, 0, 0, 0)), (1, (2, 30, 0, 0, 0)), (3, (2, 48, 0, 0, 0))] _ _ (xa_subI rfl rfl (fun _ _ _ _ => by omega) (xa_subI rfl rfl (fun _ _ _ _ => by omega) (xa_subI rfl rfl (fun _ _ _ _ => by omega) (xa_subR rfl (xa_subR rfl (xa_subR rfl (xa_sub0))))))) ?_
            exact ih (p + 1) _ (by omega) (by omega) eb (by omega)
        · intro (c2 : x2 = 0)
          show xa_C (xl_I b) A h0 _ 23 [(2, 57, 0, 0, 0), (0, 0, 0, 8, p)] M _
          refine cx_23_57 (show 0 ≤ p ∧ p < 8 by omega) ?_
          show xa_C (xl_I b) A h0 _ 173 [(2, 30, 0, 0, 0), (0, 0, (-2147483648), 2147483647, M 57 p)] M _
          refine cx_173f (by first | exact hT | exact hT1) hB (by omega) (by first | omega | exact hn8 _ (by omega) (by omega)) ?_ ?_
          · intro (i5 : wd_m T (M 30 1).toNat (M 57 p))
            show Q 76 [(5, (0, 0, 1, 9, p + 1)), (4, (0, 0, (-2147483648), 2147483647, xa_ib 4 bb (xa_ib 6 1 p))), (2, (0, 0, 0, 1, x2)), (0, (2, 55, 0, 0, 0)), (1, (2, 30, 0, 0, 0)), (3, (2, 48, 0, 0, 0))] [] M
            have ei : ((p.toNat : Nat) : Int) = p := Int.toNat_of_nonneg (by omega)
            have f9 : (wd_P T (M 30 1) x2 (M 57) (M 56)) ((p.toNat : Nat) : Int) := by
              rw [ei]
              exact (wd_P0 (by omega)).mpr i5
            have eb : xa_ib 4 bb (xa_ib 6 1 p) = wd_b (wd_P T (M 30 1) x2 (M 57) (M 56)) (p + 1).toNat := by
              rw [show (p + 1).toNat = p.toNat + 1 by omega, wd_b1 f9, ← hb, ei]
            refine hgo.2.1 76 _ [(4, (0, 0, (-2147483648), 2147483647, xa_ib 4 bb (xa_ib 6 1 p))), (5, (0, 0, 0, 8, p + 1)), (2, (0, 0, 0, 1, x2)), (0, (2, 55, 0, 0, 0)), (1, (2, 30, 0, 0, 0)), (3, (2, 48, 0, 0, 0))] _ _ (xa_subI rfl rfl (fun _ _ _ _ => by omega) (xa_subI rfl rfl (fun _ _ _ _ => by omega) (xa_subI rfl rfl (fun _ _ _ _ => by omega) (xa_subR rfl (xa_subR rfl (xa_subR rfl (xa_sub0))))))) ?_
            exact ih (p + 1) _ (by omega) (by omega) eb (by omega)
          · intro (i6 : ¬ wd_m T (M 30 1).toNat (M 57 p))
            show Q 76 [(5, (0, 0, 1, 9, p + 1)), (4, (0, 0, (-2147483648), 2147483647, xa_ib 4 bb 0)), (2, (0, 0, 0, 1, x2)), (0, (2, 55, 0, 0, 0)), (1, (2, 30, 0, 0, 0)), (3, (2, 48, 0, 0, 0))] [] M
            have ei : ((p.toNat : Nat) : Int) = p := Int.toNat_of_nonneg (by omega)
            have f9 : ¬ (wd_P T (M 30 1) x2 (M 57) (M 56)) ((p.toNat : Nat) : Int) := by
              rw [ei]
              exact fun h => i6 ((wd_P0 (by omega)).mp h)
            have eb : xa_ib 4 bb 0 = wd_b (wd_P T (M 30 1) x2 (M 57) (M 56)) (p + 1).toNat := by
              rw [show (p + 1).toNat = p.toNat + 1 by omega, wd_b0 f9, ← hb, bk_or0 hr.1 hr.2]
            refine hgo.2.1 76 _ [(4, (0, 0, (-2147483648), 2147483647, xa_ib 4 bb 0)), (5, (0, 0, 0, 8, p + 1)), (2, (0, 0, 0, 1, x2)), (0, (2, 55, 0, 0, 0)), (1, (2, 30, 0, 0, 0)), (3, (2, 48, 0, 0, 0))] _ _ (xa_subI rfl rfl (fun _ _ _ _ => by omega) (xa_subI rfl rfl (fun _ _ _ _ => by omega) (xa_subI rfl rfl (fun _ _ _ _ => by omega) (xa_subR rfl (xa_subR rfl (xa_subR rfl (xa_sub0))))))) ?_
            exact ih (p + 1) _ (by omega) (by omega) eb (by omega)
  have loop1 : ∀ (f : Nat) (p : Int), 0 ≤ p ∧ p ≤ 4 → p ≤ M 30 1 → (∀ i, 0 ≤ i → i < p → wd_s (T i)) → 4 - p < (f : Int) → Q 3 [(4, (0, 0, 0, 4, p)), (2, (0, 0, 0, 1, x2)), (0, (2, 55, 0, 0, 0)), (1, (2, 30, 0, 0, 0)), (3, (2, 48, 0, 0, 0))] [] M := by
    intro f
    induction f with
    | zero => intro p p1 p2 hg hms; omega
    | succ f ih =>
      intro p p1 p2 hg hms
      refine hgo.1 27 [3, 76, 142] 3 _ _ _ ?_
      refine And.intro ?_ ?_
      · intro (c1 : (M 30 1) ≤ p)
        refine And.intro ?_ ?_
        · intro (c2 : ¬ (M 30 1) = 0)
          show Q 76 [(5, (0, 0, 0, 0, 0)), (4, (0, 0, 0, 0, 0)), (2, (0, 0, 0, 1, x2)), (0, (2, 55, 0, 0, 0)), (1, (2, 30, 0, 0, 0)), (3, (2, 48, 0, 0, 0))] [] M
          refine hgo.2.1 76 _ [(4, (0, 0, (-2147483648), 2147483647, 0)), (5, (0, 0, 0, 8, 0)), (2, (0, 0, 0, 1, x2)), (0, (2, 55, 0, 0, 0)), (1, (2, 30, 0, 0, 0)), (3, (2, 48, 0, 0, 0))] _ _ (xa_subI rfl rfl (fun _ _ _ _ => by omega) (xa_subI rfl rfl (fun _ _ _ _ => by omega) (xa_subI rfl rfl (fun _ _ _ _ => by omega) (xa_subR rfl (xa_subR rfl (xa_subR rfl (xa_sub0))))))) ?_
          exact loop2 (fun i g0 g1 g2 => hg i g0 (by omega)) (by omega) 9 0 0 (by omega) (by omega) rfl (by omega)
        · intro (c2 : (M 30 1) = 0)
          show xa_wk post (some (0, 0, (-100), (-100), (-100))) M
          exact xa_wkI (-100) rfl (fun _ _ => by omega) (k _ _ (Or.inr ⟨fun i g0 g1 g2 => hg i g0 (by omega), Or.inl ⟨by omega, rfl⟩⟩) (fun _ _ _ _ => rfl))
      · intro (c1 : p < (M 30 1))
        refine And.intro ?_ ?_
        · intro (c3 : 4 ≤ p)
          show xa_wk post (some (0, 0, (-104), (-100), (-100) - p)) M
          exact xa_wkI _ rfl (fun _ _ => by omega) (k _ _ (Or.inr ⟨fun i g0 g1 g2 => hg i g0 (by omega), Or.inr (Or.inl ⟨by omega, by omega⟩)⟩) (fun _ _ _ _ => rfl))
        · intro (c3 : p < 4)
          show xa_C (xl_I b) A h0 _ 118 [(2, 30, 0, 0, 0), (0, 0, 0, 4, p)] M _
          refine cg_118 (show 0 ≤ (M 30 1) ∧ (M 30 1) ≤ 80 by omega) ?_ ?_
          · intro (i4 : (0 ≤ p ∧ p < (M 30 1)) ∧ 48 ≤ M 31 p ∧ M 31 p ≤ 57)
            show Q 3 [(4, (0, 0, 1, 5, p + 1)), (5, (0, 0, 1, 1, 1)), (2, (0, 0, 0, 1, x2)), (0, (2, 55, 0, 0, 0)), (1, (2, 30, 0, 0, 0)), (3, (2, 48, 0, 0, 0))] [] M
            refine hgo.2.1 3 _ [(4, (0, 0, 0, 4, p + 1)), (2, (0, 0, 0, 1, x2)), (0, (2, 55, 0, 0, 0)), (1, (2, 30, 0, 0, 0)), (3, (2, 48, 0, 0, 0))] _ _ (xa_subI rfl rfl (fun _ _ _ _ => by omega) (xa_subI rfl rfl (fun _ _ _ _ => by omega) (xa_subR rfl (xa_subR rfl (xa_subR rfl (xa_sub0)))))) ?_
            exact ih (p + 1) (by omega) (by omega) (fun i g0 g1 => by
              by_cases e : i = p
              · rw [e]
                have t9 := hT p (by omega) (by omega)
                unfold wd_s
                omega
              · exact hg i g0 (by omega)) (by omega)
          · intro (i5 : ¬ ((0 ≤ p ∧ p < (M 30 1)) ∧ 48 ≤ M 31 p ∧ M 31 p ≤ 57))
            show xa_C (xl_I b) A h0 _ 172 [(2, 30, 0, 0, 0), (0, 0, 0, 4, p)] M _
            refine cg_172 (show 0 ≤ (M 30 1) ∧ (M 30 1) ≤ 80 by omega) ?_ ?_
            · intro (i6 : (0 ≤ p ∧ p < (M 30 1)) ∧ M 31 p = 63)
              show Q 3 [(4, (0, 0, 1, 5, p + 1)), (5, (0, 0, 1, 1, 1)), (2, (0, 0, 0, 1, x2)), (0, (2, 55, 0, 0, 0)), (1, (2, 30, 0, 0, 0)), (3, (2, 48, 0, 0, 0))] [] M
              refine hgo.2.1 3 _ [(4, (0, 0, 0, 4, p + 1)), (2, (0, 0, 0, 1, x2)), (0, (2, 55, 0, 0, 0)), (1, (2, 30, 0, 0, 0)), (3, (2, 48, 0, 0, 0))] _ _ (xa_subI rfl rfl (fun _ _ _ _ => by omega) (xa_subI rfl rfl (fun _ _ _ _ => by omega) (xa_subR rfl (xa_subR rfl (xa_subR rfl (xa_sub0)))))) ?_
              exact ih (p + 1) (by omega) (by omega) (fun i g0 g1 => by
                by_cases e : i = p
                · rw [e]
                  have t9 := hT p (by omega) (by omega)
                  unfold wd_s
                  omega
                · exact hg i g0 (by omega)) (by omega)
            · intro (i7 : ¬ ((0 ≤ p ∧ p < (M 30 1)) ∧ M 31 p = 63))
              show xa_wk post (some (0, 0, (-104), (-100), (-100) - p)) M
              have t9 := hT p (by omega) (by omega)
              exact xa_wkI _ rfl (fun _ _ => by omega) (k _ _ (Or.inl ⟨p, by omega, by omega, by omega, by unfold wd_s; omega, hg, by omega⟩) (fun _ _ _ _ => rfl))
  refine hgo.1 7 [3] 0 _ _ _ ?_
  show Q 3 [(4, (0, 0, 0, 0, 0)), (0, (2, 55, 0, 0, 0)), (1, (2, 30, 0, 0, 0)), (2, (0, 0, 0, 1, x2)), (3, (2, 48, 0, 0, 0))] [] M
  refine hgo.2.1 3 _ [(4, (0, 0, 0, 4, 0)), (2, (0, 0, 0, 1, x2)), (0, (2, 55, 0, 0, 0)), (1, (2, 30, 0, 0, 0)), (3, (2, 48, 0, 0, 0))] _ _ (xa_subI rfl rfl (fun _ _ _ _ => by omega) (xa_subI rfl rfl (fun _ _ _ _ => by omega) (xa_subR rfl (xa_subR rfl (xa_subR rfl (xa_sub0)))))) ?_
  exact loop1 5 0 (by omega) (by omega) (fun i g0 g1 => by omega) (by omega)
theorem cw_170_50 {A : Nat → Nat} {h0 : g_H} {d : Nat} {M : xa_M} {post : Option xa_V → xa_M → Prop} {T : Int → Int} {l1 u1 x1 : Int} (hT : (∀ i, 0 ≤ i → i < 80 → M 31 i = T i)) (hB : ∀ i, 0 ≤ T i ∧ T i ≤ 255) (hz : 0 ≤ M 30 1 ∧ M 30 1 ≤ 80) (hp : 0 ≤ M 50 4 ∧ M 50 4 ≤ 8) (hU : ∀ i, 0 ≤ i → i < M 50 4 → (0 ≤ M 51 i ∧ M 51 i ≤ 2000) ∧ (0 ≤ M 52 i ∧ M 52 i ≤ 2000)) (k : ∀ (r : Int) (M1 : xa_M), wd_W x1 (wd_A T (M 30 1) (wd_P T (M 30 1) x1 (M 52) (M 51)) (M 50 4).toNat r) r → M1 30 1 = 0 → (∀ q j, ¬ q = 48 → ¬ q = 49 → ¬ (q = 30 ∧ j = 1) → ¬ (q = 60 ∧ j = 21) → M1 q j = M q j) → post (some (0, 0, (-2147483648), 2147483647, r)) M1) : xa_C (xl_I false) A h0 (d + 6) 170 [(2, 0, 0, 0, 0), (0, 0, l1, u1, x1)] M post := by
  refine xa_C_wk ?_
  refine xa_C_arg [(2, 0, 0, 0, 0), (0, 0, (-2147483648), 2147483647, x1)] (xa_svR (xa_svI (fun _ _ _ _ => by omega) xa_sv0)) ?_
  refine xa_meth (Q0 := (3, 1, false, 0, 0, 11)) (by decide +kernel) ⟨rfl, rfl⟩ (full := s_c_170) rfl rfl ?_
  intro hM hv Q hgo
  refine hgo.1 25 [] 0 _ _ _ ?_
  refine And.intro ?_ ?_
  · intro (c1 : x1 < 0)
    show xa_C (xl_I false) A h0 _ 113 [(2, 30, 0, 0, 0), (0, 0, 0, 0, 0)] M _
    refine cx_113f ?_
    intro n126 M127 (i2 : lt_E M 30 1 (M 30 1) 0 n126 M127)
    show xa_wk post (some (0, 0, (-1), (-1), (-1))) M127
    have z30 : 0 ≤ M 30 1 := hz.1
    obtain ⟨h4, h5⟩ := le_cut z30 i2
    exact xa_wkI (-1) rfl (fun _ _ => by omega) (k _ _ (Or.inl ⟨by omega, rfl⟩) h4 (fun q j h1 h2 h3 h6 => (h5 q j h3 h6).trans rfl))
  · intro (c1 : 0 ≤ x1)
    refine And.intro ?_ ?_
    · intro (c3 : x1 ≤ 1)
      show xa_C (xl_I false) A h0 _ 171 [(2, 50, 0, 0, 0), (2, 30, 0, 0, 0), (0, 0, (-2147483648), 2147483647, x1), (2, 48, 0, 0, 0)] M _
      refine cx_171_50 hT hB hz hp hU (by omega) ?_
      intro r128 M129 (i4 : wd_A T (M 30 1) (wd_P T (M 30 1) x1 (M 52) (M 51)) (M 50 4).toNat r128) (i5 : ∀ q j, ¬ q = 48 → ¬ q = 49 → M129 q j = M q j)
      show xa_C (xl_I false) A h0 _ 113 [(2, 30, 0, 0, 0), (0, 0, 0, 0, 0)] M129 _
      refine cx_113f ?_
      intro n130 M131 (i6 : lt_E M129 30 1 (M129 30 1) 0 n130 M131)
      show xa_wk post (some (0, 0, (-2147483648), 2147483647, r128)) M131
      have z30 : 0 ≤ M129 30 1 := by rw [i5 30 1 (by decide) (by decide)]; exact hz.1
      obtain ⟨h4, h5⟩ := le_cut z30 i6
      exact xa_wkI _ rfl (fun _ _ => by omega) (k _ _ (Or.inr ⟨by omega, i4⟩) h4 (fun q j h1 h2 h3 h6 => (h5 q j h3 h6).trans (i5 q j h1 h2)))
    · intro (c3 : 1 < x1)
      show xa_C (xl_I false) A h0 _ 113 [(2, 30, 0, 0, 0), (0, 0, 0, 0, 0)] M _
      refine cx_113f ?_
      intro n132 M133 (i7 : lt_E M 30 1 (M 30 1) 0 n132 M133)
      show xa_wk post (some (0, 0, (-1), (-1), (-1))) M133
      have z30 : 0 ≤ M 30 1 := hz.1
      obtain ⟨h4, h5⟩ := le_cut z30 i7
      exact xa_wkI (-1) rfl (fun _ _ => by omega) (k _ _ (Or.inl ⟨by omega, rfl⟩) h4 (fun q j h1 h2 h3 h6 => (h5 q j h3 h6).trans rfl))
theorem cw_170_55 {A : Nat → Nat} {h0 : g_H} {d : Nat} {M : xa_M} {post : Option xa_V → xa_M → Prop} {T : Int → Int} {l1 u1 x1 : Int} (hT : (∀ i, 0 ≤ i → i < 80 → M 31 i = T i)) (hB : ∀ i, 0 ≤ T i ∧ T i ≤ 255) (hz : 0 ≤ M 30 1 ∧ M 30 1 ≤ 80) (hp : 0 ≤ M 55 4 ∧ M 55 4 ≤ 8) (hU : ∀ i, 0 ≤ i → i < M 55 4 → (0 ≤ M 56 i ∧ M 56 i ≤ 2000) ∧ (0 ≤ M 57 i ∧ M 57 i ≤ 2000)) (k : ∀ (r : Int) (M1 : xa_M), wd_W x1 (wd_A T (M 30 1) (wd_P T (M 30 1) x1 (M 57) (M 56)) (M 55 4).toNat r) r → M1 30 1 = 0 → (∀ q j, ¬ q = 48 → ¬ q = 49 → ¬ (q = 30 ∧ j = 1) → ¬ (q = 60 ∧ j = 21) → M1 q j = M q j) → post (some (0, 0, (-2147483648), 2147483647, r)) M1) : xa_C (xl_I true) A h0 (d + 6) 170 [(2, 0, 0, 0, 0), (0, 0, l1, u1, x1)] M post := by
  refine xa_C_wk ?_
  refine xa_C_arg [(2, 0, 0, 0, 0), (0, 0, (-2147483648), 2147483647, x1)] (xa_svR (xa_svI (fun _ _ _ _ => by omega) xa_sv0)) ?_
  refine xa_meth (Q0 := (3, 1, false, 0, 0, 11)) (by decide +kernel) ⟨rfl, rfl⟩ (full := s_c_170) rfl rfl ?_
  intro hM hv Q hgo
  refine hgo.1 25 [] 0 _ _ _ ?_
  refine And.intro ?_ ?_
  · intro (c1 : x1 < 0)
    show xa_C (xl_I true) A h0 _ 113 [(2, 30, 0, 0, 0), (0, 0, 0, 0, 0)] M _
    refine cx_113f ?_
    intro n134 M135 (i2 : lt_E M 30 1 (M 30 1) 0 n134 M135)
    show xa_wk post (some (0, 0, (-1), (-1), (-1))) M135
    have z30 : 0 ≤ M 30 1 := hz.1
    obtain ⟨h4, h5⟩ := le_cut z30 i2
    exact xa_wkI (-1) rfl (fun _ _ => by omega) (k _ _ (Or.inl ⟨by omega, rfl⟩) h4 (fun q j h1 h2 h3 h6 => (h5 q j h3 h6).trans rfl))
  · intro (c1 : 0 ≤ x1)
    refine And.intro ?_ ?_
    · intro (c3 : x1 ≤ 1)
      show xa_C (xl_I true) A h0 _ 171 [(2, 55, 0, 0, 0), (2, 30, 0, 0, 0), (0, 0, (-2147483648), 2147483647, x1), (2, 48, 0, 0, 0)] M _
      refine cx_171_55 hT hB hz hp hU (by omega) ?_
      intro r136 M137 (i4 : wd_A T (M 30 1) (wd_P T (M 30 1) x1 (M 57) (M 56)) (M 55 4).toNat r136) (i5 : ∀ q j, ¬ q = 48 → ¬ q = 49 → M137 q j = M q j)
      show xa_C (xl_I true) A h0 _ 113 [(2, 30, 0, 0, 0), (0, 0, 0, 0, 0)] M137 _
      refine cx_113f ?_
      intro n138 M139 (i6 : lt_E M137 30 1 (M137 30 1) 0 n138 M139)
      show xa_wk post (some (0, 0, (-2147483648), 2147483647, r136)) M139
      have z30 : 0 ≤ M137 30 1 := by rw [i5 30 1 (by decide) (by decide)]; exact hz.1
      obtain ⟨h4, h5⟩ := le_cut z30 i6
      exact xa_wkI _ rfl (fun _ _ => by omega) (k _ _ (Or.inr ⟨by omega, i4⟩) h4 (fun q j h1 h2 h3 h6 => (h5 q j h3 h6).trans (i5 q j h1 h2)))
    · intro (c3 : 1 < x1)
      show xa_C (xl_I true) A h0 _ 113 [(2, 30, 0, 0, 0), (0, 0, 0, 0, 0)] M _
      refine cx_113f ?_
      intro n140 M141 (i7 : lt_E M 30 1 (M 30 1) 0 n140 M141)
      show xa_wk post (some (0, 0, (-1), (-1), (-1))) M141
      have z30 : 0 ≤ M 30 1 := hz.1
      obtain ⟨h4, h5⟩ := le_cut z30 i7
      exact xa_wkI (-1) rfl (fun _ _ => by omega) (k _ _ (Or.inl ⟨by omega, rfl⟩) h4 (fun q j h1 h2 h3 h6 => (h5 q j h3 h6).trans rfl))
theorem cw_170 {b : Bool} {A : Nat → Nat} {h0 : g_H} {d : Nat} {M : xa_M} {post : Option xa_V → xa_M → Prop} {T : Int → Int} {l1 u1 x1 : Int} (hT : (∀ i, 0 ≤ i → i < 80 → M 31 i = T i)) (hB : ∀ i, 0 ≤ T i ∧ T i ≤ 255) (hz : 0 ≤ M 30 1 ∧ M 30 1 ≤ 80) (hp : 0 ≤ M (bk_p b) 4 ∧ M (bk_p b) 4 ≤ 8) (hU : ∀ i, 0 ≤ i → i < M (bk_p b) 4 → (0 ≤ M (bk_p b + 1) i ∧ M (bk_p b + 1) i ≤ 2000) ∧ (0 ≤ M (bk_p b + 2) i ∧ M (bk_p b + 2) i ≤ 2000)) (k : ∀ (r : Int) (M1 : xa_M), wd_W x1 (wd_A T (M 30 1) (wd_P T (M 30 1) x1 (M (bk_p b + 2)) (M (bk_p b + 1))) (M (bk_p b) 4).toNat r) r → M1 30 1 = 0 → (∀ q j, ¬ q = 48 → ¬ q = 49 → ¬ (q = 30 ∧ j = 1) → ¬ (q = 60 ∧ j = 21) → M1 q j = M q j) → post (some (0, 0, (-2147483648), 2147483647, r)) M1) : xa_C (xl_I b) A h0 (d + 6) 170 [(2, 0, 0, 0, 0), (0, 0, l1, u1, x1)] M post := by
  cases b
  · exact cw_170_50 hT hB hz hp hU k
  · exact cw_170_55 hT hB hz hp hU k
theorem ct_isWordF {A : Nat → Nat} {h0 : g_H} {d : Nat} {M : xa_M} {post : Option xa_V → xa_M → Prop} {T : Int → Int} {l1 u1 l2 u2 a b : Int} (hT : ∀ i, 0 ≤ i → i < 80 → T i = M 73 i % 256) (ha : 0 ≤ a ∧ a ≤ 2000) (hb1 : 1 ≤ b ∧ b ≤ 4) (k1 : wd_m T b.toNat a → post (some (0, 0, 1, 1, 1)) M) (k2 : ¬ wd_m T b.toNat a → post (some (0, 0, 0, 0, 0)) M) : xa_C xm_I A h0 (d + 1) 280 [(2, 60, 0, 0, 0), (0, 0, l1, u1, a), (0, 0, l2, u2, b)] M post := by
  refine xa_C_arg [(2, 60, 0, 0, 0), (0, 0, 0, 2000, a), (0, 0, 1, 4, b)] (xa_svR (xa_svI (fun _ _ _ _ => by omega) (xa_svI (fun _ _ _ _ => by omega) xa_sv0))) ?_
  refine xa_meth (Q0 := (5, 2, false, 0, 0, 12)) (by decide +kernel) ⟨rfl, rfl⟩ (full := s_c_280) rfl rfl ?_
  intro hM hv Q hgo
  have loop : ∀ (f : Nat) (i r : Int), -1 ≤ i ∧ i ≤ 3 → 0 ≤ r ∧ r ≤ 2000 → (wd_m T (i + 1).toNat r ↔ wd_m T b.toNat a) → i + 1 < (f : Int) → Q 7 [(4, (0, 0, (-1), 3, i)), (3, (0, 0, 0, 2000, r)), (2, (0, 0, 1, 4, b)), (0, (2, 60, 0, 0, 0))] [] M := by
    intro f
    induction f with
    | zero => intro i r i1 r1 hb hms; omega
    | succ f ih =>
      intro i r i1 r1 hb hms
      refine hgo.1 31 [7] 7 _ _ _ ?_
      refine And.intro ?_ ?_
      · intro (c1 : i < 0)
        refine And.intro ?_ ?_
        · intro (c2 : ¬ r = 0)
          show post (some (0, 0, 0, 0, 0)) M
          exact k2 (fun h => absurd ((wd_end (by omega) hb).mpr h) (by omega))
        · intro (c2 : r = 0)
          show post (some (0, 0, 1, 1, 1)) M
          exact k1 ((wd_end (by omega) hb).mp (by omega))
      · intro (c1 : 0 ≤ i)
        refine And.intro ?_ ?_
        · intro (c3 : r = 0)
          show post (some (0, 0, 0, 0, 0)) M
          exact k2 (wd_no1 (by omega) (by omega) hb)
        · intro (c3 : ¬ r = 0)
          refine And.intro (show 0 ≤ i ∧ i < 80 by omega) ?_
          refine And.intro ?_ ?_
          · intro (c4 : (M 73 i) = 63)
            show Q 7 [(4, (0, 0, (-2), 2, i + (-1))), (3, (0, 0, 0, 2000, r / 10)), (2, (0, 0, 1, 4, b)), (0, (2, 60, 0, 0, 0))] [] M
            have t9 := hT i (by omega) (by omega)
            have h9 := xm_t73 hM i (by omega) (by omega)
            have q9 : T i = 63 ∨ T i - 48 = r % 10 := by omega
            refine hgo.2.1 7 _ [(4, (0, 0, (-1), 3, i + (-1))), (3, (0, 0, 0, 2000, r / 10)), (2, (0, 0, 1, 4, b)), (0, (2, 60, 0, 0, 0))] _ _ (xa_subI rfl rfl (fun _ _ _ _ => by omega) (xa_subI rfl rfl (fun _ _ _ _ => by omega) (xa_subI rfl rfl (fun _ _ _ _ => by omega) (xa_subR rfl (xa_sub0))))) ?_
            exact ih (i + (-1)) (r / 10) (by omega) (by omega) (wd_st (by omega) (by omega) q9 hb) (by omega)
          · intro (c4 : ¬ (M 73 i) = 63)
            refine And.intro (show 0 ≤ i ∧ i < 80 by omega) ?_
            refine And.intro ?_ ?_
            · intro (c5 : ((M 73 i) - 48) = (r % 10))
              show Q 7 [(4, (0, 0, (-2), 2, i + (-1))), (3, (0, 0, 0, 2000, r / 10)), (2, (0, 0, 1, 4, b)), (0, (2, 60, 0, 0, 0))] [] M
              have t9 := hT i (by omega) (by omega)
              have h9 := xm_t73 hM i (by omega) (by omega)
              have q9 : T i = 63 ∨ T i - 48 = r % 10 := by omega
              refine hgo.2.1 7 _ [(4, (0, 0, (-1), 3, i + (-1))), (3, (0, 0, 0, 2000, r / 10)), (2, (0, 0, 1, 4, b)), (0, (2, 60, 0, 0, 0))] _ _ (xa_subI rfl rfl (fun _ _ _ _ => by omega) (xa_subI rfl rfl (fun _ _ _ _ => by omega) (xa_subI rfl rfl (fun _ _ _ _ => by omega) (xa_subR rfl (xa_sub0))))) ?_
              exact ih (i + (-1)) (r / 10) (by omega) (by omega) (wd_st (by omega) (by omega) q9 hb) (by omega)
            · intro (c5 : ¬ ((M 73 i) - 48) = (r % 10))
              show post (some (0, 0, 0, 0, 0)) M
              have t9 := hT i (by omega) (by omega)
              have h9 := xm_t73 hM i (by omega) (by omega)
              exact k2 (wd_no2 (by omega) (by omega) hb)
  refine hgo.1 11 [7] 0 _ _ _ ?_
  show Q 7 [(4, (0, 0, 0, 3, b - 1)), (3, (0, 0, 0, 2000, a)), (0, (2, 60, 0, 0, 0)), (1, (0, 0, 0, 2000, a)), (2, (0, 0, 1, 4, b))] [] M
  refine hgo.2.1 7 _ [(4, (0, 0, (-1), 3, b - 1)), (3, (0, 0, 0, 2000, a)), (2, (0, 0, 1, 4, b)), (0, (2, 60, 0, 0, 0))] _ _ (xa_subI rfl rfl (fun _ _ _ _ => by omega) (xa_subI rfl rfl (fun _ _ _ _ => by omega) (xa_subI rfl rfl (fun _ _ _ _ => by omega) (xa_subR rfl (xa_sub0))))) ?_
  exact loop 5 (b - 1) a (by omega) (by omega) (by rw [show b - 1 + 1 = b by omega]) (by omega)
theorem ms_wordF {A : Nat → Nat} {h0 : g_H} {d : Nat} {M : xa_M} {post : Option xa_V → xa_M → Prop} {T : Int → Int} {l1 u1 x1 : Int} (hT : ∀ i, 0 ≤ i → i < 80 → T i = M 73 i % 256) (k : ∀ (r : Int) (M1 : xa_M), wd_W x1 (wd_A T (M 60 18) (wd_P T (M 60 18) x1 (M 71) (M 70)) (M 60 11).toNat r) r → xm_cor (xa_up (xa_up M 60 21 0) 60 18 0) M1 → post (some (0, 0, (-2147483648), 2147483647, r)) M1) : xa_C xm_I A h0 (d + 2) 279 [(2, 60, 0, 0, 0), (0, 0, l1, u1, x1)] M post := by
  refine xa_C_wk ?_
  refine xa_C_arg [(2, 60, 0, 0, 0), (0, 0, (-2147483648), 2147483647, x1)] (xa_svR (xa_svI (fun _ _ _ _ => by omega) xa_sv0)) ?_
  refine xa_meth (Q0 := (6, 1, false, 0, 0, 12)) (by decide +kernel) ⟨rfl, rfl⟩ (full := s_c_279) rfl rfl ?_
  intro hM hv Q hgo
  have b18 := xm_f18 hM
  have b11 := xm_f11 hM
  have loop3 : (0 ≤ x1 ∧ x1 ≤ 1) → ∀ (M1 : xa_M), xm_cor (xa_up (xa_up M 60 21 0) 60 18 0) M1 → ∀ (sz : Int), sz = M 60 18 → (∀ i, 0 ≤ i → i < sz → i < 4 → wd_s (T i)) → (1 ≤ sz ∧ sz ≤ 4) → ∀ (f : Nat) (bb al n : Int), 1 ≤ n ∧ n ≤ 2001 → 0 ≤ al ∧ al < n → bb = wd_b (wd_P T (M 60 18) x1 (M 71) (M 70)) (M 60 11).toNat → 2001 - n < (f : Int) → Q 153 [(5, (0, 0, 1, 2001, n)), (4, (0, 0, 0, 2000, al)), (3, (0, 0, (-2147483648), 2147483647, bb)), (2, (0, 0, 1, 4, sz)), (0, (2, 60, 0, 0, 0))] [] M1 := by
    intro hx M1 hc0 sz hs9 hg hs f
    have h73 : ∀ i, M1 73 i = M 73 i := fun i => (hc0 73 i (by unfold xm_scr; omega)).trans ((xa_up_ne (by omega)).trans (xa_up_ne (by omega)))
    have k70 : ∀ i, M1 70 i = M 70 i := fun i => (hc0 70 i (by unfold xm_scr; omega)).trans ((xa_up_ne (by omega)).trans (xa_up_ne (by omega)))
    have k71 : ∀ i, M1 71 i = M 71 i := fun i => (hc0 71 i (by unfold xm_scr; omega)).trans ((xa_up_ne (by omega)).trans (xa_up_ne (by omega)))
    have e11 : M1 60 11 = M 60 11 := (hc0 60 11 (by unfold xm_scr; omega)).trans ((xa_up_ne (by omega)).trans (xa_up_ne (by omega)))
    have hT1 : ∀ i, 0 ≤ i → i < 80 → T i = M1 73 i % 256 := fun i i0 i1 => by rw [h73 i]; exact hT i i0 i1
    induction f with
    | zero => intro bb al n n1 a1 hb hms; omega
    | succ f ih =>
      intro bb al n n1 a1 hb hms
      refine hgo.1 20 [28, 96, 153] 153 _ _ _ ?_
      refine And.intro ?_ ?_
      · intro (c1 : 2000 < n)
        show xa_C xm_I A h0 _ 231 [(2, 60, 0, 0, 0), (1, 0, 0, 2000, al)] (xa_up M1 60 20 0) _
        refine ct_tell (n := 0) (by first | rfl | (simp [xa_up]; done) | omega) (by omega) (by omega) ?_
        show xa_wk post (some (0, 0, (-2147483648), 2147483647, bb)) (xa_up (xa_up (xa_up M1 60 20 0) 74 0 al) 60 20 1)
        exact xa_wkI bb rfl (fun _ _ => by omega) (k _ _ (Or.inr ⟨by omega, Or.inr ⟨by rw [← hs9]; exact hg, Or.inr (Or.inr ⟨by omega, by omega, hb⟩)⟩⟩) (xm_cor_u (by unfold xm_scr; omega) (xm_cor_u (by unfold xm_scr; omega) (xm_cor_u (by unfold xm_scr; omega) (hc0)))))
      · intro (c1 : n ≤ 2000)
        show xa_C xm_I A h0 _ 280 [(2, 60, 0, 0, 0), (0, 0, 1, 2001, n), (0, 0, 1, 4, sz)] M1 _
        refine ct_isWordF hT1 (by first | omega | exact hn8) (by omega) ?_ ?_
        · intro (i2 : wd_m T (sz).toNat n)
          show Q 153 [(5, (0, 0, 2, 2002, n + 1)), (4, (0, 0, 1, 2001, al + 1)), (3, (0, 0, (-2147483648), 2147483647, bb)), (2, (0, 0, 1, 4, sz)), (0, (2, 60, 0, 0, 0))] [] M1
          refine hgo.2.1 153 _ [(5, (0, 0, 1, 2001, n + 1)), (4, (0, 0, 0, 2000, al + 1)), (3, (0, 0, (-2147483648), 2147483647, bb)), (2, (0, 0, 1, 4, sz)), (0, (2, 60, 0, 0, 0))] _ _ (xa_subI rfl rfl (fun _ _ _ _ => by omega) (xa_subI rfl rfl (fun _ _ _ _ => by omega) (xa_subI rfl rfl (fun _ _ _ _ => by omega) (xa_subI rfl rfl (fun _ _ _ _ => by omega) (xa_subR rfl (xa_sub0)))))) ?_
          exact ih bb (al + 1) (n + 1) (by omega) (by omega) hb (by omega)
        · intro (i3 : ¬ wd_m T (sz).toNat n)
          show Q 153 [(5, (0, 0, 2, 2002, n + 1)), (4, (0, 0, 0, 2000, al + 0)), (3, (0, 0, (-2147483648), 2147483647, bb)), (2, (0, 0, 1, 4, sz)), (0, (2, 60, 0, 0, 0))] [] M1
          refine hgo.2.1 153 _ [(5, (0, 0, 1, 2001, n + 1)), (4, (0, 0, 0, 2000, al + 0)), (3, (0, 0, (-2147483648), 2147483647, bb)), (2, (0, 0, 1, 4, sz)), (0, (2, 60, 0, 0, 0))] _ _ (xa_subI rfl rfl (fun _ _ _ _ => by omega) (xa_subI rfl rfl (fun _ _ _ _ => by omega) (xa_subI rfl rfl (fun _ _ _ _ => by omega) (xa_subI rfl rfl (fun _ _ _ _ => by omega) (xa_subR rfl (xa_sub0)))))) ?_
          exact ih bb (al + 0) (n + 1) (by omega) (by omega) hb (by omega)
  have loop2 : (0 ≤ x1 ∧ x1 ≤ 1) → ∀ (M1 : xa_M), xm_cor (xa_up (xa_up M 60 21 0) 60 18 0) M1 → ∀ (sz : Int), sz = M 60 18 → (∀ i, 0 ≤ i → i < sz → i < 4 → wd_s (T i)) → (1 ≤ sz ∧ sz ≤ 4) → ∀ (f : Nat) (bb p : Int), 0 ≤ p ∧ p ≤ M 60 11 → bb = wd_b (wd_P T (M 60 18) x1 (M 71) (M 70)) p.toNat → 8 - p < (f : Int) → Q 96 [(4, (0, 0, 0, 8, p)), (3, (0, 0, (-2147483648), 2147483647, bb)), (2, (0, 0, 1, 4, sz)), (1, (0, 0, 0, 1, x1)), (0, (2, 60, 0, 0, 0))] [] M1 := by
    intro hx M1 hc0 sz hs9 hg hs f
    have loop3 := loop3 hx M1 hc0
    have h73 : ∀ i, M1 73 i = M 73 i := fun i => (hc0 73 i (by unfold xm_scr; omega)).trans ((xa_up_ne (by omega)).trans (xa_up_ne (by omega)))
    have k70 : ∀ i, M1 70 i = M 70 i := fun i => (hc0 70 i (by unfold xm_scr; omega)).trans ((xa_up_ne (by omega)).trans (xa_up_ne (by omega)))
    have k71 : ∀ i, M1 71 i = M 71 i := fun i => (hc0 71 i (by unfold xm_scr; omega)).trans ((xa_up_ne (by omega)).trans (xa_up_ne (by omega)))
    have e11 : M1 60 11 = M 60 11 := (hc0 60 11 (by unfold xm_scr; omega)).trans ((xa_up_ne (by omega)).trans (xa_up_ne (by omega)))
    have hT1 : ∀ i, 0 ≤ i → i < 80 → T i = M1 73 i % 256 := fun i i0 i1 => by rw [h73 i]; exact hT i i0 i1
    induction f with
    | zero => intro bb p p1 hb hms; omega
    | succ f ih =>
      intro bb p p1 hb hms
      refine hgo.2.2 _ _ _ _ (fun hM1 _ => ?_)
      have t70 := xm_t70 hM1 p
      have t71 := xm_t71 hM1 p
      refine hgo.1 28 [28, 96, 153] 96 _ _ _ ?_
      refine And.intro ?_ ?_
      · intro (c1 : (M1 60 11) ≤ p)
        show Q 153 [(5, (0, 0, 1, 1, 1)), (4, (0, 0, 0, 0, 0)), (3, (0, 0, (-2147483648), 2147483647, bb)), (2, (0, 0, 1, 4, sz)), (1, (0, 0, 0, 1, x1)), (0, (2, 60, 0, 0, 0))] [] M1
        refine hgo.2.1 153 _ [(5, (0, 0, 1, 2001, 1)), (4, (0, 0, 0, 2000, 0)), (3, (0, 0, (-2147483648), 2147483647, bb)), (2, (0, 0, 1, 4, sz)), (0, (2, 60, 0, 0, 0))] _ _ (xa_subI rfl rfl (fun _ _ _ _ => by omega) (xa_subI rfl rfl (fun _ _ _ _ => by omega) (xa_subI rfl rfl (fun _ _ _ _ => by omega) (xa_subI rfl rfl (fun _ _ _ _ => by omega) (xa_subR rfl (xa_sub0)))))) ?_
        exact loop3 sz hs9 hg hs 2001 bb 0 1 (by omega) (by omega) (by rw [hb, show p = M 60 11 by omega]) (by omega)
      · intro (c1 : p < (M1 60 11))
        refine And.intro ?_ ?_
        · intro (c2 : ¬ x1 = 0)
          refine And.intro (show 0 ≤ p ∧ p < 8 by omega) ?_
          show xa_C xm_I A h0 _ 280 [(2, 60, 0, 0, 0), (0, 0, 0, 2000, M1 70 p), (0, 0, 1, 4, sz)] M1 _
          refine ct_isWordF hT1 (by first | omega | exact hn8) (by omega) ?_ ?_
          · intro (i3 : wd_m T (sz).toNat (M1 70 p))
            show Q 96 [(4, (0, 0, 1, 9, p + 1)), (3, (0, 0, (-2147483648), 2147483647, xa_ib 4 bb (xa_ib 6 1 p))), (2, (0, 0, 1, 4, sz)), (1, (0, 0, 0, 1, x1)), (0, (2, 60, 0, 0, 0))] [] M1
            have ei : ((p.toNat : Nat) : Int) = p := Int.toNat_of_nonneg (by omega)
            have w8 := i3
            rw [hs9, k70 p] at w8
            have f9 : (wd_P T (M 60 18) x1 (M 71) (M 70)) ((p.toNat : Nat) : Int) := by
              rw [ei]
              exact (wd_P1 (by omega)).mpr w8
            have eb : xa_ib 4 bb (xa_ib 6 1 p) = wd_b (wd_P T (M 60 18) x1 (M 71) (M 70)) (p + 1).toNat := by
              rw [show (p + 1).toNat = p.toNat + 1 by omega, wd_b1 f9, ← hb, ei]
            refine hgo.2.1 96 _ [(4, (0, 0, 0, 8, p + 1)), (3, (0, 0, (-2147483648), 2147483647, xa_ib 4 bb (xa_ib 6 1 p))), (2, (0, 0, 1, 4, sz)), (1, (0, 0, 0, 1, x1)), (0, (2, 60, 0, 0, 0))] _ _ (xa_subI rfl rfl (fun _ _ _ _ => by omega) (xa_subI rfl rfl (fun _ _ _ _ => by omega) (xa_subI rfl rfl (fun _ _ _ _ => by omega) (xa_subI rfl rfl (fun _ _ _ _ => by omega) (xa_subR rfl (xa_sub0)))))) ?_
            exact ih (p + 1) _ (by omega) eb (by omega)
          · intro (i4 : ¬ wd_m T (sz).toNat (M1 70 p))
            show Q 96 [(4, (0, 0, 1, 9, p + 1)), (3, (0, 0, (-2147483648), 2147483647, bb)), (2, (0, 0, 1, 4, sz)), (1, (0, 0, 0, 1, x1)), (0, (2, 60, 0, 0, 0))] [] M1
            have ei : ((p.toNat : Nat) : Int) = p := Int.toNat_of_nonneg (by omega)
            have w8 := i4
            rw [hs9, k70 p] at w8
            have f9 : ¬ (wd_P T (M 60 18) x1 (M 71) (M 70)) ((p.toNat : Nat) : Int) := by
              rw [ei]
              exact fun h => w8 ((wd_P1 (by omega)).mp h)
            have eb : bb = wd_b (wd_P T (M 60 18) x1 (M 71) (M 70)) (p + 1).toNat := by
              rw [show (p + 1).toNat = p.toNat + 1 by omega, wd_b0 f9, ← hb]
            refine hgo.2.1 96 _ [(4, (0, 0, 0, 8, p + 1)), (3, (0, 0, (-2147483648), 2147483647, bb)), (2, (0, 0, 1, 4, sz)), (1, (0, 0, 0, 1, x1)), (0, (2, 60, 0, 0, 0))] _ _ (xa_subI rfl rfl (fun _ _ _ _ => by omega) (xa_subI rfl rfl (fun _ _ _ _ => by omega) (xa_subI rfl rfl (fun _ _ _ _ => by omega) (xa_subI rfl rfl (fun _ _ _ _ => by omega) (xa_subR rfl (xa_sub0)))))) ?_
            exact ih (p + 1) _ (by omega) eb (by omega)
        · intro (c2 : x1 = 0)
          refine And.intro (show 0 ≤ p ∧ p < 8 by omega) ?_
          show xa_C xm_I A h0 _ 280 [(2, 60, 0, 0, 0), (0, 0, 0, 2000, M1 71 p), (0, 0, 1, 4, sz)] M1 _
          refine ct_isWordF hT1 (by first | omega | exact hn8) (by omega) ?_ ?_
          · intro (i5 : wd_m T (sz).toNat (M1 71 p))
            show Q 96 [(4, (0, 0, 1, 9, p + 1)), (3, (0, 0, (-2147483648), 2147483647, xa_ib 4 bb (xa_ib 6 1 p))), (2, (0, 0, 1, 4, sz)), (1, (0, 0, 0, 1, x1)), (0, (2, 60, 0, 0, 0))] [] M1
            have ei : ((p.toNat : Nat) : Int) = p := Int.toNat_of_nonneg (by omega)
            have w8 := i5
            rw [hs9, k71 p] at w8
            have f9 : (wd_P T (M 60 18) x1 (M 71) (M 70)) ((p.toNat : Nat) : Int) := by
              rw [ei]
              exact (wd_P0 (by omega)).mpr w8
            have eb : xa_ib 4 bb (xa_ib 6 1 p) = wd_b (wd_P T (M 60 18) x1 (M 71) (M 70)) (p + 1).toNat := by
              rw [show (p + 1).toNat = p.toNat + 1 by omega, wd_b1 f9, ← hb, ei]
            refine hgo.2.1 96 _ [(4, (0, 0, 0, 8, p + 1)), (3, (0, 0, (-2147483648), 2147483647, xa_ib 4 bb (xa_ib 6 1 p))), (2, (0, 0, 1, 4, sz)), (1, (0, 0, 0, 1, x1)), (0, (2, 60, 0, 0, 0))] _ _ (xa_subI rfl rfl (fun _ _ _ _ => by omega) (xa_subI rfl rfl (fun _ _ _ _ => by omega) (xa_subI rfl rfl (fun _ _ _ _ => by omega) (xa_subI rfl rfl (fun _ _ _ _ => by omega) (xa_subR rfl (xa_sub0)))))) ?_
            exact ih (p + 1) _ (by omega) eb (by omega)
          · intro (i6 : ¬ wd_m T (sz).toNat (M1 71 p))
            show Q 96 [(4, (0, 0, 1, 9, p + 1)), (3, (0, 0, (-2147483648), 2147483647, bb)), (2, (0, 0, 1, 4, sz)), (1, (0, 0, 0, 1, x1)), (0, (2, 60, 0, 0, 0))] [] M1
            have ei : ((p.toNat : Nat) : Int) = p := Int.toNat_of_nonneg (by omega)
            have w8 := i6
            rw [hs9, k71 p] at w8
            have f9 : ¬ (wd_P T (M 60 18) x1 (M 71) (M 70)) ((p.toNat : Nat) : Int) := by
              rw [ei]
              exact fun h => w8 ((wd_P0 (by omega)).mp h)
            have eb : bb = wd_b (wd_P T (M 60 18) x1 (M 71) (M 70)) (p + 1).toNat := by
              rw [show (p + 1).toNat = p.toNat + 1 by omega, wd_b0 f9, ← hb]
            refine hgo.2.1 96 _ [(4, (0, 0, 0, 8, p + 1)), (3, (0, 0, (-2147483648), 2147483647, bb)), (2, (0, 0, 1, 4, sz)), (1, (0, 0, 0, 1, x1)), (0, (2, 60, 0, 0, 0))] _ _ (xa_subI rfl rfl (fun _ _ _ _ => by omega) (xa_subI rfl rfl (fun _ _ _ _ => by omega) (xa_subI rfl rfl (fun _ _ _ _ => by omega) (xa_subI rfl rfl (fun _ _ _ _ => by omega) (xa_subR rfl (xa_sub0)))))) ?_
            exact ih (p + 1) _ (by omega) eb (by omega)
  have loop1 : (0 ≤ x1 ∧ x1 ≤ 1) → ∀ (sz : Int), sz = M 60 18 → ∀ (M1 : xa_M), xm_cor (xa_up (xa_up M 60 21 0) 60 18 0) M1 → ∀ (f : Nat) (p : Int), 0 ≤ p ∧ p ≤ 4 ∧ p ≤ sz → (∀ i, 0 ≤ i → i < p → wd_s (T i)) → 4 - p < (f : Int) → Q 28 [(3, (0, 0, 0, 4, p)), (2, (0, 0, 0, 80, sz)), (1, (0, 0, 0, 1, x1)), (0, (2, 60, 0, 0, 0))] [] M1 := by
    intro hx sz hs9 M1 hc0 f
    have loop2 := loop2 hx M1 hc0
    have h73 : ∀ i, M1 73 i = M 73 i := fun i => (hc0 73 i (by unfold xm_scr; omega)).trans ((xa_up_ne (by omega)).trans (xa_up_ne (by omega)))
    have k70 : ∀ i, M1 70 i = M 70 i := fun i => (hc0 70 i (by unfold xm_scr; omega)).trans ((xa_up_ne (by omega)).trans (xa_up_ne (by omega)))
    have k71 : ∀ i, M1 71 i = M 71 i := fun i => (hc0 71 i (by unfold xm_scr; omega)).trans ((xa_up_ne (by omega)).trans (xa_up_ne (by omega)))
    have e11 : M1 60 11 = M 60 11 := (hc0 60 11 (by unfold xm_scr; omega)).trans ((xa_up_ne (by omega)).trans (xa_up_ne (by omega)))
    have hT1 : ∀ i, 0 ≤ i → i < 80 → T i = M1 73 i % 256 := fun i i0 i1 => by rw [h73 i]; exact hT i i0 i1
    induction f with
    | zero => intro p p1 hg hms; omega
    | succ f ih =>
      intro p p1 hg hms
      refine hgo.2.2 _ _ _ _ (fun hM1 _ => ?_)
      refine hgo.1 28 [28, 96, 153] 28 _ _ _ ?_
      refine And.intro ?_ ?_
      · intro (c1 : sz ≤ p)
        refine And.intro ?_ ?_
        · intro (c2 : ¬ sz = 0)
          refine And.intro ?_ ?_
          · intro (c3 : sz ≤ 4)
            show Q 96 [(4, (0, 0, 0, 0, 0)), (3, (0, 0, 0, 0, 0)), (2, (0, 0, 0, 80, sz)), (1, (0, 0, 0, 1, x1)), (0, (2, 60, 0, 0, 0))] [] M1
            refine hgo.2.1 96 _ [(4, (0, 0, 0, 8, 0)), (3, (0, 0, (-2147483648), 2147483647, 0)), (2, (0, 0, 1, 4, sz)), (1, (0, 0, 0, 1, x1)), (0, (2, 60, 0, 0, 0))] _ _ (xa_subI rfl rfl (fun _ _ _ _ => by omega) (xa_subI rfl rfl (fun _ _ _ _ => by omega) (xa_subI rfl rfl (fun _ _ _ _ => by omega) (xa_subI rfl rfl (fun _ _ _ _ => by omega) (xa_subR rfl (xa_sub0)))))) ?_
            exact loop2 sz (by omega) (fun i g0 g1 g2 => hg i g0 (by omega)) (by omega) 9 0 0 (by omega) rfl (by omega)
          · intro (c3 : 4 < sz)
            show xa_wk post (some (0, 0, (-104), (-104), (-104))) M1
            exact xa_wkI _ rfl (fun _ _ => by omega) (k _ _ (Or.inr ⟨by omega, Or.inr ⟨fun i g0 g1 g2 => hg i g0 (by omega), Or.inr (Or.inl ⟨by omega, by omega⟩)⟩⟩) hc0)
        · intro (c2 : sz = 0)
          show xa_wk post (some (0, 0, (-100), (-100), (-100))) M1
          exact xa_wkI (-100) rfl (fun _ _ => by omega) (k _ _ (Or.inr ⟨by omega, Or.inr ⟨fun i g0 g1 g2 => hg i g0 (by omega), Or.inl ⟨by omega, rfl⟩⟩⟩) hc0)
      · intro (c1 : p < sz)
        refine And.intro ?_ ?_
        · intro (c4 : 4 ≤ p)
          refine And.intro ?_ ?_
          · intro (c5 : ¬ sz = 0)
            refine And.intro ?_ ?_
            · intro (c6 : sz ≤ 4)
              show Q 96 [(4, (0, 0, 0, 0, 0)), (3, (0, 0, 0, 0, 0)), (2, (0, 0, 0, 80, sz)), (1, (0, 0, 0, 1, x1)), (0, (2, 60, 0, 0, 0))] [] M1
              refine hgo.2.1 96 _ [(4, (0, 0, 0, 8, 0)), (3, (0, 0, (-2147483648), 2147483647, 0)), (2, (0, 0, 1, 4, sz)), (1, (0, 0, 0, 1, x1)), (0, (2, 60, 0, 0, 0))] _ _ (xa_subI rfl rfl (fun _ _ _ _ => by omega) (xa_subI rfl rfl (fun _ _ _ _ => by omega) (xa_subI rfl rfl (fun _ _ _ _ => by omega) (xa_subI rfl rfl (fun _ _ _ _ => by omega) (xa_subR rfl (xa_sub0)))))) ?_
              exact loop2 sz (by omega) (fun i g0 g1 g2 => hg i g0 (by omega)) (by omega) 9 0 0 (by omega) rfl (by omega)
            · intro (c6 : 4 < sz)
              show xa_wk post (some (0, 0, (-104), (-104), (-104))) M1
              exact xa_wkI _ rfl (fun _ _ => by omega) (k _ _ (Or.inr ⟨by omega, Or.inr ⟨fun i g0 g1 g2 => hg i g0 (by omega), Or.inr (Or.inl ⟨by omega, by omega⟩)⟩⟩) hc0)
          · intro (c5 : sz = 0)
            show xa_wk post (some (0, 0, (-100), (-100), (-100))) M1
            exact xa_wkI (-100) rfl (fun _ _ => by omega) (k _ _ (Or.inr ⟨by omega, Or.inr ⟨fun i g0 g1 g2 => hg i g0 (by omega), Or.inl ⟨by omega, rfl⟩⟩⟩) hc0)
        · intro (c4 : p < 4)
          refine And.intro ?_ ?_
          · intro (c7 : (M1 73 p) = 63)
            show Q 28 [(3, (0, 0, 1, 5, p + 1)), (2, (0, 0, 0, 80, sz)), (1, (0, 0, 0, 1, x1)), (0, (2, 60, 0, 0, 0))] [] M1
            refine hgo.2.1 28 _ [(3, (0, 0, 0, 4, p + 1)), (2, (0, 0, 0, 80, sz)), (1, (0, 0, 0, 1, x1)), (0, (2, 60, 0, 0, 0))] _ _ (xa_subI rfl rfl (fun _ _ _ _ => by omega) (xa_subI rfl rfl (fun _ _ _ _ => by omega) (xa_subI rfl rfl (fun _ _ _ _ => by omega) (xa_subR rfl (xa_sub0))))) ?_
            exact ih (p + 1) (by omega) (fun i g0 g1 => by
              by_cases e : i = p
              · rw [e]
                have t9 := hT1 p (by omega) (by omega)
                have h9 := xm_t73 hM1 p (by omega) (by omega)
                unfold wd_s
                omega
              · exact hg i g0 (by omega)) (by omega)
          · intro (c7 : ¬ (M1 73 p) = 63)
            show xa_C xm_I A h0 _ 214 [(0, 0, (-128), 127, M1 73 p), (0, 0, 48, 48, 48), (0, 0, 57, 57, 57)] M1 _
            refine ct_in ?_ ?_
            · intro (i8 : 48 ≤ (M1 73 p) ∧ (M1 73 p) ≤ 57)
              show Q 28 [(3, (0, 0, 1, 5, p + 1)), (2, (0, 0, 0, 80, sz)), (1, (0, 0, 0, 1, x1)), (0, (2, 60, 0, 0, 0))] [] M1
              refine hgo.2.1 28 _ [(3, (0, 0, 0, 4, p + 1)), (2, (0, 0, 0, 80, sz)), (1, (0, 0, 0, 1, x1)), (0, (2, 60, 0, 0, 0))] _ _ (xa_subI rfl rfl (fun _ _ _ _ => by omega) (xa_subI rfl rfl (fun _ _ _ _ => by omega) (xa_subI rfl rfl (fun _ _ _ _ => by omega) (xa_subR rfl (xa_sub0))))) ?_
              exact ih (p + 1) (by omega) (fun i g0 g1 => by
                by_cases e : i = p
                · rw [e]
                  have t9 := hT1 p (by omega) (by omega)
                  have h9 := xm_t73 hM1 p (by omega) (by omega)
                  unfold wd_s
                  omega
                · exact hg i g0 (by omega)) (by omega)
            · intro (i9 : ¬ (48 ≤ (M1 73 p) ∧ (M1 73 p) ≤ 57))
              show xa_wk post (some (0, 0, (-104), (-100), (-100) - p)) M1
              have t9 := hT1 p (by omega) (by omega)
              have h9 := xm_t73 hM1 p (by omega) (by omega)
              exact xa_wkI _ rfl (fun _ _ => by omega) (k _ _ (Or.inr ⟨by omega, Or.inl ⟨p, by omega, by omega, by omega, by unfold wd_s; omega, hg, by omega⟩⟩) hc0)
  refine hgo.1 21 [28] 0 _ _ _ ?_
  show xa_C xm_I A h0 _ 214 [(0, 0, (-2147483648), 2147483647, x1), (0, 0, 0, 0, 0), (0, 0, 1, 1, 1)] (xa_up (xa_up M 60 21 0) 60 18 0) _
  refine ct_in ?_ ?_
  · intro (i1 : 0 ≤ x1 ∧ x1 ≤ 1)
    show Q 28 [(3, (0, 0, 0, 0, 0)), (2, (0, 0, 0, 80, M 60 18)), (0, (2, 60, 0, 0, 0)), (1, (0, 0, (-2147483648), 2147483647, x1))] [] (xa_up (xa_up M 60 21 0) 60 18 0)
    refine hgo.2.1 28 _ [(3, (0, 0, 0, 4, 0)), (2, (0, 0, 0, 80, M 60 18)), (1, (0, 0, 0, 1, x1)), (0, (2, 60, 0, 0, 0))] _ _ (xa_subI rfl rfl (fun _ _ _ _ => by omega) (xa_subI rfl rfl (fun _ _ _ _ => by omega) (xa_subI rfl rfl (fun _ _ _ _ => by omega) (xa_subR rfl (xa_sub0))))) ?_
    exact loop1 (by omega) (M 60 18) rfl (xa_up (xa_up M 60 21 0) 60 18 0) xm_cor_r 5 0 (by omega) (fun i g0 g1 => by omega) (by omega)
  · intro (i2 : ¬ (0 ≤ x1 ∧ x1 ≤ 1))
    show xa_wk post (some (0, 0, (-1), (-1), (-1))) (xa_up (xa_up M 60 21 0) 60 18 0)
    exact xa_wkI (-1) rfl (fun _ _ => by omega) (k _ _ (Or.inl ⟨by omega, rfl⟩) xm_cor_r)
theorem ms_namesE {A : Nat → Nat} {h0 : g_H} {d : Nat} {M : xa_M} {post : Option xa_V → xa_M → Prop} (k : ∀ (lo hi r : Int) (M1 : xa_M), xm_cor (xa_up (xa_up M 60 21 0) 60 18 0) M1 → post (some (0, 0, lo, hi, r)) M1) : xa_C xm_I A h0 (d + 11) 281 [(2, 60, 0, 0, 0)] M post := by
  refine xa_meth (Q0 := (3, 1, false, 0, 0, 12)) (by decide +kernel) ⟨rfl, rfl⟩ (full := s_c_281) rfl rfl ?_
  intro hM hv Q hgo
  have b18 := xm_f18 hM
  obtain ⟨x1, hx1⟩ : ∃ x1, x1 = M 60 18 := ⟨_, rfl⟩
  have loop0 : ∀ (n : Nat) (x2 : Int) (M1 : xa_M), 0 ≤ x2 ∧ x2 ≤ 8 → xm_cor (xa_up (xa_up M 60 21 0) 60 18 0) M1 → 8 - x2 < (n : Int) → Q 17 [(2, (0, 0, 0, 8, x2)), (1, (0, 0, 0, 80, x1)), (0, (2, 60, 0, 0, 0))] [] M1 := by
    intro n
    induction n with
    | zero => intro x2 M1 b2 hc hms; omega
    | succ n ih0 =>
      intro x2 M1 b2 hc hms0
      refine hgo.1 28 [17] 17 _ _ _ ?_
      refine And.intro ?_ ?_
      · intro (c1 : x1 ≤ x2)
        refine And.intro ?_ ?_
        · intro (c2 : ¬ x1 = 0)
          refine And.intro ?_ ?_
          · intro (c3 : x1 ≤ 8)
            show xa_C xm_I A h0 _ 282 [(2, 60, 0, 0, 0), (0, 0, 0, 0, 0), (0, 0, 0, 80, x1), (0, 0, 0, 0, 0)] (xa_up M1 60 53 0) _
            refine ct_namesFrom8 (by omega) (by omega) (by omega) (fun M4 hc4 => ?_)
            show post (some (0, 0, (-2147483648), 2147483647, M4 60 53)) M4
            exact k _ _ _ _ (xm_cor_t (xm_cor_u (by unfold xm_scr; omega) hc) hc4)
          · intro (c3 : 8 < x1)
            show post (some (0, 0, (-108), (-108), (-108))) M1
            exact k _ _ _ _ hc
        · intro (c2 : x1 = 0)
          show post (some (0, 0, (-100), (-100), (-100))) M1
          exact k _ _ _ _ hc
      · intro (c1 : x2 < x1)
        refine And.intro ?_ ?_
        · intro (c5 : 8 ≤ x2)
          refine And.intro ?_ ?_
          · intro (c6 : ¬ x1 = 0)
            refine And.intro ?_ ?_
            · intro (c7 : x1 ≤ 8)
              show xa_C xm_I A h0 _ 282 [(2, 60, 0, 0, 0), (0, 0, 0, 0, 0), (0, 0, 0, 80, x1), (0, 0, 0, 0, 0)] (xa_up M1 60 53 0) _
              refine ct_namesFrom8 (by omega) (by omega) (by omega) (fun M8 hc8 => ?_)
              show post (some (0, 0, (-2147483648), 2147483647, M8 60 53)) M8
              exact k _ _ _ _ (xm_cor_t (xm_cor_u (by unfold xm_scr; omega) hc) hc8)
            · intro (c7 : 8 < x1)
              show post (some (0, 0, (-108), (-108), (-108))) M1
              exact k _ _ _ _ hc
          · intro (c6 : x1 = 0)
            show post (some (0, 0, (-100), (-100), (-100))) M1
            exact k _ _ _ _ hc
        · intro (c5 : x2 < 8)
          refine And.intro ?_ ?_
          · intro (c9 : (M1 73 x2) = 63)
            show Q 17 [(2, (0, 0, 1, 9, x2 + 1)), (1, (0, 0, 0, 80, x1)), (0, (2, 60, 0, 0, 0))] [] M1
            refine hgo.2.1 17 _ [(2, (0, 0, 0, 8, x2 + 1)), (1, (0, 0, 0, 80, x1)), (0, (2, 60, 0, 0, 0))] _ _ (xa_subI rfl rfl (fun _ _ _ _ => by omega) (xa_subI rfl rfl (fun _ _ _ _ => by omega) (xa_subR rfl xa_sub0))) ?_
            exact ih0 (x2 + 1) M1 (by omega) hc (by omega)
          · intro (c9 : ¬ (M1 73 x2) = 63)
            show xa_C xm_I A h0 _ 214 [(0, 0, (-128), 127, M1 73 x2), (0, 0, 97, 97, 97), (0, 0, 122, 122, 122)] M1 _
            refine ct_in ?_ ?_
            · intro (i10 : 97 ≤ (M1 73 x2) ∧ (M1 73 x2) ≤ 122)
              show Q 17 [(2, (0, 0, 1, 9, x2 + 1)), (1, (0, 0, 0, 80, x1)), (0, (2, 60, 0, 0, 0))] [] M1
              refine hgo.2.1 17 _ [(2, (0, 0, 0, 8, x2 + 1)), (1, (0, 0, 0, 80, x1)), (0, (2, 60, 0, 0, 0))] _ _ (xa_subI rfl rfl (fun _ _ _ _ => by omega) (xa_subI rfl rfl (fun _ _ _ _ => by omega) (xa_subR rfl xa_sub0))) ?_
              exact ih0 (x2 + 1) M1 (by omega) hc (by omega)
            · intro (i10 : ¬ (97 ≤ (M1 73 x2) ∧ (M1 73 x2) ≤ 122))
              show post (some (0, 0, (-108), (-100), (-100) - x2)) M1
              exact k _ _ _ _ hc
  refine hgo.1 16 [17] 0 _ _ _ ?_
  show Q 17 [(2, (0, 0, 0, 0, 0)), (1, (0, 0, 0, 80, M 60 18)), (0, (2, 60, 0, 0, 0))] [] (xa_up (xa_up M 60 21 0) 60 18 0)
  rw [← hx1]
  refine hgo.2.1 17 _ [(2, (0, 0, 0, 8, 0)), (1, (0, 0, 0, 80, x1)), (0, (2, 60, 0, 0, 0))] _ _ (xa_subI rfl rfl (fun _ _ _ _ => by omega) (xa_subI rfl rfl (fun _ _ _ _ => by omega) (xa_subR rfl xa_sub0))) ?_
  exact loop0 9 0 (xa_up (xa_up M 60 21 0) 60 18 0) (by omega) xm_cor_r (by omega)


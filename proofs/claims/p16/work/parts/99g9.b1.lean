-- the text and the book (made by wip/u/mkbook.py)
set_option maxRecDepth 20000
/-- digits from a place on: where they end, their number -/
def bk_nm (T : Int → Int) (e : Int) : Nat → Int → Int → Int × Int
  | 0, p, v => (p, v)
  | k + 1, p, v => if p < e ∧ 48 ≤ T p ∧ T p ≤ 57 then bk_nm T e k (p + 1) (v * 10 + T p - 48) else (p, v)
theorem bk_nm1 {T : Int → Int} {e p v : Int} {k : Nat} (h : p < e ∧ 48 ≤ T p ∧ T p ≤ 57) : bk_nm T e (k + 1) p v = bk_nm T e k (p + 1) (v * 10 + T p - 48) := by
  rw [bk_nm]
  exact if_pos h
theorem bk_nm0 {T : Int → Int} {e p v : Int} {k : Nat} (h : ¬ (p < e ∧ 48 ≤ T p ∧ T p ≤ 57)) : bk_nm T e (k + 1) p v = (p, v) := by
  rw [bk_nm]
  exact if_neg h
/-- a number read from a place: its value, whether it is well, where the reading stands then -/
def bk_N (T : Int → Int) (e p x g q : Int) : Prop := ∃ a, bk_nm T e 4 p 0 = (a, x) ∧ p ≤ a ∧ (a ≤ e ∨ a = p) ∧ ((1 ≤ x ∧ x ≤ 2000 ∧ g = 1 ∧ q = a) ∨ (¬ (1 ≤ x ∧ x ≤ 2000) ∧ g = 0 ∧ ((a = p ∧ q = p) ∨ (p < a ∧ q = a - 1))))
theorem bk_N_one {T : Int → Int} {e p x g q x' g' q' : Int} (h : bk_N T e p x g q) (h' : bk_N T e p x' g' q') : x = x' ∧ g = g' ∧ q = q' := by
  obtain ⟨a, h1, h2, h3, h4⟩ := h
  obtain ⟨a', i1, i2, i3, i4⟩ := h'
  rw [h1] at i1
  have e1 := congrArg Prod.fst i1
  have e2 := congrArg Prod.snd i1
  have e1 : a = a' := e1
  have e2 : x = x' := e2
  omega
/-- a line of the book: well or not, its numbers, its name, where the reading stands then -/
def bk_L (T : Int → Int) (e p ok u w n q : Int) : Prop := ∃ x1 g1 q1, bk_N T e p x1 g1 q1 ∧ ((g1 = 0 ∧ ok = 0 ∧ q = q1) ∨ (g1 = 1 ∧ ¬ (q1 < e ∧ T q1 = 58) ∧ ok = 0 ∧ q = q1) ∨ (g1 = 1 ∧ q1 < e ∧ T q1 = 58 ∧ ∃ x2 g2 q2, bk_N T e (q1 + 1) x2 g2 q2 ∧ ((g2 = 0 ∧ ok = 0 ∧ q = q2) ∨ (g2 = 1 ∧ ok = 1 ∧ u = x1 ∧ w = x2 ∧ ((q2 < e ∧ 97 ≤ T q2 ∧ T q2 ≤ 122 ∧ n = T q2 ∧ q = q2 + 1) ∨ (¬ (q2 < e ∧ 97 ≤ T q2 ∧ T q2 ≤ 122) ∧ n = 0 ∧ q = q2))))))
theorem bk_L_one {T : Int → Int} {e p ok u w n q ok' u' w' n' q' : Int} (h : bk_L T e p ok u w n q) (h' : bk_L T e p ok' u' w' n' q') : ok = ok' ∧ q = q' ∧ (ok = 1 → u = u' ∧ w = w' ∧ n = n') := by
  obtain ⟨x1, g1, q1, h1, h2⟩ := h
  obtain ⟨y1, f1, r1, i1, i2⟩ := h'
  obtain ⟨rfl, rfl, rfl⟩ := bk_N_one h1 i1
  rcases h2 with ⟨a1, a2, a3⟩ | ⟨a1, a2, a3, a4⟩ | ⟨a1, a2, a3, x2, g2, q2, a4, a5⟩
  · rcases i2 with ⟨b1, b2, b3⟩ | ⟨b1, b2, b3, b4⟩ | ⟨b1, b2, b3, y2, f2, r2, b4, b5⟩
    · exact ⟨by omega, by omega, fun h => by omega⟩
    · omega
    · omega
  · rcases i2 with ⟨b1, b2, b3⟩ | ⟨b1, b2, b3, b4⟩ | ⟨b1, b2, b3, y2, f2, r2, b4, b5⟩
    · omega
    · exact ⟨by omega, by omega, fun h => by omega⟩
    · exact absurd ⟨b2, b3⟩ a2
  · rcases i2 with ⟨b1, b2, b3⟩ | ⟨b1, b2, b3, b4⟩ | ⟨b1, b2, b3, y2, f2, r2, b4, b5⟩
    · omega
    · exact absurd ⟨a2, a3⟩ b2
    · obtain ⟨rfl, rfl, rfl⟩ := bk_N_one a4 b4
      rcases a5 with ⟨c1, c2, c3⟩ | ⟨c1, c2, c3, c4, c5⟩
      · rcases b5 with ⟨d1, d2, d3⟩ | ⟨d1, d2, d3, d4, d5⟩
        · exact ⟨by omega, by omega, fun h => by omega⟩
        · omega
      · rcases b5 with ⟨d1, d2, d3⟩ | ⟨d1, d2, d3, d4, d5⟩
        · omega
        · refine ⟨by omega, by omega, fun _ => ⟨by omega, by omega, by omega⟩⟩
/-- a book: the answer; the numbers and the names that were read -/
def bk_B (T : Int → Int) (e sz ans : Int) (U W N : Int → Int) : Nat → Int → Int → Prop
  | 0, _, _ => False
  | k + 1, line, p => ∃ ok u w n q, bk_L T e p ok u w n q ∧ ((ok = 0 ∧ ans = -1 - q ∧ ans < 0) ∨ (ok = 1 ∧ U line = u ∧ W line = w ∧ N line = n ∧ ((q < e ∧ T q = 59 ∧ line + 1 < 8 ∧ bk_B T e sz ans U W N k (line + 1) (q + 1)) ∨ (q < e ∧ ¬ (T q = 59 ∧ line + 1 < 8) ∧ ans = -1 - q ∧ ans < 0) ∨ (¬ q < e ∧ sz ≤ 60 ∧ ans = line + 1) ∨ (¬ q < e ∧ 60 < sz ∧ ans = -1 - q ∧ ans < 0))))
theorem bk_B_one {T : Int → Int} {e sz ans ans' : Int} {U W N U' W' N' : Int → Int} : ∀ (k : Nat) (line p : Int), 0 ≤ line → bk_B T e sz ans U W N k line p → bk_B T e sz ans' U' W' N' k line p → ans = ans' ∧ (0 ≤ ans → ∀ i, line ≤ i → i < ans → U i = U' i ∧ W i = W' i ∧ N i = N' i) := by
  intro k
  induction k with
  | zero => intro line p _ h; exact absurd h id
  | succ k ih =>
    intro line p l0 h h'
    obtain ⟨ok, u, w, n, q, h1, h2⟩ := h
    obtain ⟨ok', u', w', n', q', i1, i2⟩ := h'
    obtain ⟨rfl, rfl, e3⟩ := bk_L_one h1 i1
    rcases h2 with ⟨a1, a2, a3⟩ | ⟨a1, a2, a3, a4, a5⟩
    · rcases i2 with ⟨b1, b2, b3⟩ | ⟨b1, b2, b3, b4, b5⟩
      · exact ⟨by omega, fun h => by omega⟩
      · omega
    · rcases i2 with ⟨b1, b2, b3⟩ | ⟨b1, b2, b3, b4, b5⟩
      · omega
      · obtain ⟨f1, f2, f3⟩ := e3 a1
        have here : U line = U' line ∧ W line = W' line ∧ N line = N' line := ⟨by omega, by omega, by omega⟩
        rcases a5 with ⟨c1, c2, c3, c4⟩ | ⟨c1, c2, c3, c4⟩ | ⟨c1, c2, c3⟩ | ⟨c1, c2, c3, c4⟩
        · rcases b5 with ⟨d1, d2, d3, d4⟩ | ⟨d1, d2, d3, d4⟩ | ⟨d1, d2, d3⟩ | ⟨d1, d2, d3, d4⟩
          · obtain ⟨r1, r2⟩ := ih (line + 1) (q + 1) (by omega) c4 d4
            refine ⟨r1, fun z i j0 j1 => ?_⟩
            by_cases ei : i = line
            · rw [ei]
              exact here
            · exact r2 z i (by omega) j1
          · exact absurd ⟨c2, c3⟩ d2
          · omega
          · omega
        · rcases b5 with ⟨d1, d2, d3, d4⟩ | ⟨d1, d2, d3, d4⟩ | ⟨d1, d2, d3⟩ | ⟨d1, d2, d3, d4⟩
          · exact absurd ⟨d2, d3⟩ c2
          · exact ⟨by omega, fun h => by omega⟩
          · omega
          · omega
        · rcases b5 with ⟨d1, d2, d3, d4⟩ | ⟨d1, d2, d3, d4⟩ | ⟨d1, d2, d3⟩ | ⟨d1, d2, d3, d4⟩
          · omega
          · omega
          · refine ⟨by omega, fun z i j0 j1 => ?_⟩
            have ei : i = line := by omega
            rw [ei]
            exact here
          · omega
        · rcases b5 with ⟨d1, d2, d3, d4⟩ | ⟨d1, d2, d3, d4⟩ | ⟨d1, d2, d3⟩ | ⟨d1, d2, d3, d4⟩
          · omega
          · omega
          · omega
          · exact ⟨by omega, fun h => by omega⟩
/-- what reading a book gives -/
def bk_R (T : Int → Int) (sz ans : Int) (U W N : Int → Int) : Prop := (sz = 0 ∧ ans = 0) ∨ (0 < sz ∧ bk_B T (if sz ≤ 60 then sz else 60) sz ans U W N 8 0 0)
theorem bk_R_one {T : Int → Int} {sz ans ans' : Int} {U W N U' W' N' : Int → Int} (h : bk_R T sz ans U W N) (h' : bk_R T sz ans' U' W' N') : ans = ans' ∧ (0 ≤ ans → ∀ i, 0 ≤ i → i < ans → U i = U' i ∧ W i = W' i ∧ N i = N' i) := by
  rcases h with ⟨h1, h2⟩ | ⟨h1, h2⟩
  · rcases h' with ⟨i1, i2⟩ | ⟨i1, i2⟩
    · exact ⟨by omega, fun _ i i0 i1 => by omega⟩
    · omega
  · rcases h' with ⟨i1, i2⟩ | ⟨i1, i2⟩
    · omega
    · exact bk_B_one 8 0 0 (Int.le_refl _) h2 i2
theorem bk_N_b {T : Int → Int} {e p x g q : Int} (h : bk_N T e p x g q) : p ≤ q ∧ (q ≤ e ∨ q = p) ∧ (g = 0 ∨ g = 1) ∧ (g = 1 → 1 ≤ x ∧ x ≤ 2000) := by
  obtain ⟨a, h1, h2, h3, h4⟩ := h
  omega
theorem bk_L_b {T : Int → Int} {e p ok u w n q : Int} (h : bk_L T e p ok u w n q) (hp : p ≤ e) : p ≤ q ∧ q ≤ e ∧ (ok = 0 ∨ ok = 1) := by
  obtain ⟨x1, g1, q1, h1, h2⟩ := h
  have b1 := bk_N_b h1
  rcases h2 with ⟨a1, a2, a3⟩ | ⟨a1, a2, a3, a4⟩ | ⟨a1, a2, a3, x2, g2, q2, a4, a5⟩
  · omega
  · omega
  · have b2 := bk_N_b a4
    omega
theorem bk_B_step {T : Int → Int} {e sz line p ok q ans : Int} {Xa Xb Xc Ya Yb Yc U W N : Int → Int} (l0 : 0 ≤ line) (l1 : line < 8) (hA : ∀ (ans : Int) (U W N : Int → Int), (∀ i, 0 ≤ i → i < line → U i = Xa i ∧ W i = Xb i ∧ N i = Xc i) → bk_B T e sz ans U W N (8 - line).toNat line p → bk_B T e sz ans U W N 8 0 0) (hf : ∀ i, 0 ≤ i → i < line → Ya i = Xa i ∧ Yb i = Xb i ∧ Yc i = Xc i) (hL : bk_L T e p ok (Ya line) (Yb line) (Yc line) q) (hU : ∀ i, 0 ≤ i → i < line + 1 → U i = Ya i ∧ W i = Yb i ∧ N i = Yc i) (ht : (ok = 0 ∧ ans = -1 - q ∧ ans < 0) ∨ (ok = 1 ∧ ((q < e ∧ T q = 59 ∧ line + 1 < 8 ∧ bk_B T e sz ans U W N (7 - line).toNat (line + 1) (q + 1)) ∨ (q < e ∧ ¬ (T q = 59 ∧ line + 1 < 8) ∧ ans = -1 - q ∧ ans < 0) ∨ (¬ q < e ∧ sz ≤ 60 ∧ ans = line + 1) ∨ (¬ q < e ∧ 60 < sz ∧ ans = -1 - q ∧ ans < 0)))) : bk_B T e sz ans U W N 8 0 0 := by
  refine hA ans U W N (fun i i0 i1 => ?_) ?_
  · obtain ⟨a1, a2, a3⟩ := hU i i0 (by omega)
    obtain ⟨b1, b2, b3⟩ := hf i i0 i1
    exact ⟨a1.trans b1, a2.trans b2, a3.trans b3⟩
  · rw [show (8 - line).toNat = (7 - line).toNat + 1 by omega]
    obtain ⟨u1, u2, u3⟩ := hU line l0 (by omega)
    refine ⟨ok, _, _, _, q, hL, ?_⟩
    rcases ht with h | ⟨h1, h2⟩
    · exact Or.inl h
    · exact Or.inr ⟨h1, u1, u2, u3, h2⟩
/-- the same, the book's end -/
theorem bk_B_end {T : Int → Int} {e sz line p ok q ans : Int} {Xa Xb Xc Ya Yb Yc : Int → Int} (l0 : 0 ≤ line) (l1 : line < 8) (hA : ∀ (ans : Int) (U W N : Int → Int), (∀ i, 0 ≤ i → i < line → U i = Xa i ∧ W i = Xb i ∧ N i = Xc i) → bk_B T e sz ans U W N (8 - line).toNat line p → bk_B T e sz ans U W N 8 0 0) (hf : ∀ i, 0 ≤ i → i < line → Ya i = Xa i ∧ Yb i = Xb i ∧ Yc i = Xc i) (hL : bk_L T e p ok (Ya line) (Yb line) (Yc line) q) (ht : (ok = 0 ∧ ans = -1 - q ∧ ans < 0) ∨ (ok = 1 ∧ ((q < e ∧ ¬ (T q = 59 ∧ line + 1 < 8) ∧ ans = -1 - q ∧ ans < 0) ∨ (¬ q < e ∧ sz ≤ 60 ∧ ans = line + 1) ∨ (¬ q < e ∧ 60 < sz ∧ ans = -1 - q ∧ ans < 0)))) : bk_B T e sz ans Ya Yb Yc 8 0 0 := by
  refine bk_B_step l0 l1 hA hf hL (fun i _ _ => ⟨rfl, rfl, rfl⟩) ?_
  rcases ht with h | ⟨h1, h2⟩
  · exact Or.inl h
  · exact Or.inr ⟨h1, Or.inr h2⟩
/-- the same, on to the next line -/
theorem bk_B_next {T : Int → Int} {e sz line p q : Int} {Xa Xb Xc Ya Yb Yc : Int → Int} (l0 : 0 ≤ line) (l1 : line + 1 < 8) (hA : ∀ (ans : Int) (U W N : Int → Int), (∀ i, 0 ≤ i → i < line → U i = Xa i ∧ W i = Xb i ∧ N i = Xc i) → bk_B T e sz ans U W N (8 - line).toNat line p → bk_B T e sz ans U W N 8 0 0) (hf : ∀ i, 0 ≤ i → i < line → Ya i = Xa i ∧ Yb i = Xb i ∧ Yc i = Xc i) (hL : bk_L T e p 1 (Ya line) (Yb line) (Yc line) q) (h1 : q < e) (h2 : T q = 59) : ∀ (ans : Int) (U W N : Int → Int), (∀ i, 0 ≤ i → i < line + 1 → U i = Ya i ∧ W i = Yb i ∧ N i = Yc i) → bk_B T e sz ans U W N (8 - (line + 1)).toNat (line + 1) (q + 1) → bk_B T e sz ans U W N 8 0 0 := by
  intro ans U W N hU hB
  refine bk_B_step l0 (by omega) hA hf hL hU (Or.inr ⟨rfl, Or.inl ⟨h1, h2, l1, ?_⟩⟩)
  rw [show (7 - line).toNat = (8 - (line + 1)).toNat by omega]
  exact hB
theorem bk_i8 (x : Int) : xa_ib 3 x 255 = xa_i8 x % 256 := by
  have h : ∀ z : Int32, (z &&& 255).toInt = (z.toInt8.toInt32).toInt % 256 := by
    intro z
    have e1 : (z.toInt8.toInt32).toInt = z.toInt.bmod (2 ^ 8) := by
      rw [Int8.toInt_toInt32, Int32.toInt_toInt8]
    have e2 : (z &&& 255).toBitVec = z.toBitVec &&& 255#32 := by
      rw [Int32.toBitVec_and]
      rfl
    have h1 : (z.toBitVec &&& 255#32).toNat = z.toBitVec.toNat % 256 := by
      rw [BitVec.toNat_and]
      exact Nat.and_two_pow_sub_one_eq_mod z.toBitVec.toNat 8
    have e3 : (z &&& 255).toInt = ((z.toBitVec.toNat % 256 : Nat) : Int) := by
      show (z &&& 255).toBitVec.toInt = _
      rw [e2, BitVec.toInt_eq_toNat_of_lt (by rw [h1]; omega), h1]
    have e5 : z.toInt = Int.bmod ((z.toBitVec.toNat : Nat) : Int) (2 ^ 32) := BitVec.toInt_eq_toNat_bmod z.toBitVec
    have h5 := Int.bmod_emod (x := z.toInt) (m := 2 ^ 8)
    have h6 : ((2 ^ 8 : Nat) : Int) = 256 := rfl
    have h3 := Int.bmod_emod (x := ((z.toBitVec.toNat : Nat) : Int)) (m := 2 ^ 32)
    have h4 : ((2 ^ 32 : Nat) : Int) = 4294967296 := rfl
    rw [h6] at h5
    rw [h4, ← e5] at h3
    rw [e1, e3, h5]
    omega
  show (Int32.ofInt x &&& Int32.ofInt 255).toInt = _
  exact h (Int32.ofInt x)
/-- four signs come behind the others -/
def lt_W (M M1 : xa_M) (qa qs : Nat) (js s : Int) (f : Int → Int) : Prop := M1 qs js = s + 4 ∧ M1 qa s = f 24 ∧ M1 qa (s + 1) = f 16 ∧ M1 qa (s + 2) = f 8 ∧ M1 qa (s + 3) = f 0 ∧ (∀ i, ¬ (s ≤ i ∧ i < s + 4) → M1 qa i = M qa i) ∧ ∀ q j, ¬ q = qa → ¬ (q = qs ∧ j = js) → ¬ (q = 60 ∧ j = 21) → M1 q j = M q j
/-- what sign does -/
def lt_P (M : xa_M) (qa qs : Nat) (js s : Int) (f : Int → Int) (n : Int) (M1 : xa_M) : Prop := (80 < s + 4 ∧ n = -1 ∧ ∀ q j, ¬ (q = 60 ∧ j = 21) → M1 q j = M q j) ∨ (s + 4 ≤ 80 ∧ n = s + 4 ∧ lt_W M M1 qa qs js s f)
/-- what end does -/
def lt_E (M : xa_M) (qs : Nat) (js s a : Int) (n : Int) (M1 : xa_M) : Prop := ((0 ≤ a ∧ a ≤ s) ∧ n = 1 ∧ M1 qs js = a ∧ ∀ q j, ¬ (q = qs ∧ j = js) → ¬ (q = 60 ∧ j = 21) → M1 q j = M q j) ∨ (¬ (0 ≤ a ∧ a ≤ s) ∧ n = 0 ∧ ∀ q j, ¬ (q = 60 ∧ j = 21) → M1 q j = M q j)
/-- a word may be a number: how many signs, what is left of it -/
def wd_m (T : Int → Int) : Nat → Int → Prop
  | 0, r => r = 0
  | k + 1, r => ¬ r = 0 ∧ (T (k : Int) = 63 ∨ T (k : Int) - 48 = r % 10) ∧ wd_m T k (r / 10)
theorem wd_st {T : Int → Int} {i r : Int} {G : Prop} (i0 : 0 ≤ i) (hr : ¬ r = 0) (hs : T i = 63 ∨ T i - 48 = r % 10) (hb : wd_m T (i + 1).toNat r ↔ G) : wd_m T (i + (-1) + 1).toNat (r / 10) ↔ G := by
  rw [show (i + 1).toNat = i.toNat + 1 by omega] at hb
  rw [show (i + (-1) + 1).toNat = i.toNat by omega]
  have e : ((i.toNat : Nat) : Int) = i := Int.toNat_of_nonneg i0
  exact ⟨fun h => hb.mp ⟨hr, by rw [e]; exact hs, h⟩, fun h => (hb.mpr h).2.2⟩
theorem wd_no1 {T : Int → Int} {i r : Int} {G : Prop} (i0 : 0 ≤ i) (hr : r = 0) (hb : wd_m T (i + 1).toNat r ↔ G) : ¬ G := by
  rw [show (i + 1).toNat = i.toNat + 1 by omega] at hb
  exact fun h => (hb.mpr h).1 hr
theorem wd_no2 {T : Int → Int} {i r : Int} {G : Prop} (i0 : 0 ≤ i) (hs : ¬ (T i = 63 ∨ T i - 48 = r % 10)) (hb : wd_m T (i + 1).toNat r ↔ G) : ¬ G := by
  rw [show (i + 1).toNat = i.toNat + 1 by omega] at hb
  have e : ((i.toNat : Nat) : Int) = i := Int.toNat_of_nonneg i0
  exact fun h => hs (by have := (hb.mpr h).2.1; rw [e] at this; exact this)
theorem wd_end {T : Int → Int} {i r : Int} {G : Prop} (i0 : i < 0) (hb : wd_m T (i + 1).toNat r ↔ G) : r = 0 ↔ G := by
  rw [show (i + 1).toNat = 0 by omega] at hb
  exact hb
/-- those of the first n that are so (bits) -/
noncomputable def wd_b (P : Int → Prop) : Nat → Int
  | 0 => 0
  | p + 1 => @ite _ (P (p : Int)) (Classical.propDecidable _) (xa_ib 4 (wd_b P p) (xa_ib 6 1 (p : Int))) (wd_b P p)
theorem wd_b1 {P : Int → Prop} {p : Nat} (h : P (p : Int)) : wd_b P (p + 1) = xa_ib 4 (wd_b P p) (xa_ib 6 1 (p : Int)) := by
  rw [wd_b]
  exact if_pos h
theorem wd_b0 {P : Int → Prop} {p : Nat} (h : ¬ P (p : Int)) : wd_b P (p + 1) = wd_b P p := by
  rw [wd_b]
  exact if_neg h
theorem wd_b_e {P P' : Int → Prop} : ∀ n : Nat, (∀ p : Nat, p < n → (P (p : Int) ↔ P' (p : Int))) → wd_b P n = wd_b P' n := by
  intro n
  induction n with
  | zero => intro _; rfl
  | succ k ih =>
    intro h
    by_cases c : P (k : Int)
    · rw [wd_b1 c, wd_b1 ((h k (by omega)).mp c), ih (fun p hp => h p (by omega))]
    · rw [wd_b0 c, wd_b0 (fun c' => c ((h k (by omega)).mpr c')), ih (fun p hp => h p (by omega))]
theorem wd_b_r {P : Int → Prop} : ∀ n : Nat, -2147483648 ≤ wd_b P n ∧ wd_b P n ≤ 2147483647 := by
  intro n
  induction n with
  | zero => exact ⟨by show (-2147483648 : Int) ≤ 0; decide, by show (0 : Int) ≤ 2147483647; decide⟩
  | succ k ih =>
    by_cases h : P (k : Int)
    · rw [wd_b1 h]
      generalize wd_b P k = x
      generalize xa_ib 6 1 (k : Int) = y
      have h1 := Int32.le_toInt (s_fib 4 (Int32.ofInt x) (Int32.ofInt y))
      have h2 := Int32.toInt_lt (s_fib 4 (Int32.ofInt x) (Int32.ofInt y))
      unfold xa_ib
      exact ⟨h1, by omega⟩
    · rw [wd_b0 h]
      exact ih
theorem bk_or0 {a : Int} (h1 : -2147483648 ≤ a) (h2 : a ≤ 2147483647) : xa_ib 4 a 0 = a := by
  show (Int32.ofInt a ||| Int32.ofInt 0).toInt = a
  rw [show Int32.ofInt 0 = 0 from rfl, Int32.or_zero]
  exact Int32.toInt_ofInt_of_le (by omega) (by omega)
/-- a sign of a word -/
def wd_s (t : Int) : Prop := t = 63 ∨ (48 ≤ t ∧ t ≤ 57)
/-- what word answers -/
def wd_A (T : Int → Int) (sz : Int) (P : Int → Prop) (n : Nat) (r : Int) : Prop := (∃ k, 0 ≤ k ∧ k < sz ∧ k < 4 ∧ ¬ wd_s (T k) ∧ (∀ i, 0 ≤ i → i < k → wd_s (T i)) ∧ r = -100 - k) ∨ ((∀ i, 0 ≤ i → i < sz → i < 4 → wd_s (T i)) ∧ ((sz = 0 ∧ r = -100) ∨ (4 < sz ∧ r = -104) ∨ (1 ≤ sz ∧ sz ≤ 4 ∧ r = wd_b P n)))
theorem wd_A_one {T : Int → Int} {sz : Int} {P P' : Int → Prop} {n : Nat} {r r' : Int} (hP : ∀ p : Nat, p < n → (P (p : Int) ↔ P' (p : Int))) (h : wd_A T sz P n r) (h' : wd_A T sz P' n r') : r = r' := by
  have eb := wd_b_e n hP
  rcases h with ⟨k, k0, k1, k2, k3, k4, k5⟩ | ⟨g1, g2⟩
  · rcases h' with ⟨l, l0, l1, l2, l3, l4, l5⟩ | ⟨i1, i2⟩
    · have e : k = l := by
        rcases Int.lt_trichotomy k l with c | c | c
        · exact absurd (l4 k k0 c) k3
        · exact c
        · exact absurd (k4 l l0 c) l3
      omega
    · exact absurd (i1 k k0 k1 k2) k3
  · rcases h' with ⟨l, l0, l1, l2, l3, l4, l5⟩ | ⟨i1, i2⟩
    · exact absurd (g1 l l0 l1 l2) l3
    · omega
def wd_W (what : Int) (A : Prop) (r : Int) : Prop := ((what < 0 ∨ 1 < what) ∧ r = -1) ∨ ((0 ≤ what ∧ what ≤ 1) ∧ A)
/-- the numbers that are asked: 0 the lower, 1 the upper ones -/
def wd_P (T : Int → Int) (sz what : Int) (Lo Up : Int → Int) (p : Int) : Prop := wd_m T sz.toNat (if what = 0 then Lo p else Up p)
theorem wd_P0 {T : Int → Int} {sz what : Int} {Lo Up : Int → Int} {p : Int} (h : what = 0) : wd_P T sz what Lo Up p ↔ wd_m T sz.toNat (Lo p) := by
  unfold wd_P
  rw [if_pos h]
theorem wd_P1 {T : Int → Int} {sz what : Int} {Lo Up : Int → Int} {p : Int} (h : ¬ what = 0) : wd_P T sz what Lo Up p ↔ wd_m T sz.toNat (Up p) := by
  unfold wd_P
  rw [if_neg h]
theorem gc_half {a b : Int} (h0 : 0 < b) (h1 : b ≤ a) : 2 * (a % b) < a := by
  have e := Int.mul_ediv_add_emod a b
  have q : 1 ≤ a / b := Int.le_ediv_of_mul_le h0 (by omega)
  have r := Int.emod_lt_of_pos a h0
  have m : b * 1 ≤ b * (a / b) := Int.mul_le_mul_of_nonneg_left q (by omega)
  generalize b * (a / b) = z at e m
  omega
theorem gc_step {a b : Int} {k : Nat} (h0 : 0 < b) (h1 : b ≤ a) (h : a * b < 2 ^ (k + 1)) : b * (a % b) < 2 ^ k := by
  have m : b * (2 * (a % b)) < b * a := Int.mul_lt_mul_of_pos_left (gc_half h0 h1) h0
  rw [Int.mul_comm b a, Int.mul_left_comm] at m
  rw [Int.pow_succ] at h
  generalize b * (a % b) = z at m
  generalize a * b = w at m h
  generalize (2 : Int) ^ k = v at h
  omega
theorem gc_pos {a b : Int} (ha : 0 < a) (hb : 0 < b) : 0 < a * b := Int.mul_pos ha hb
theorem cx_23_31 {b : Bool} {A : Nat → Nat} {h0 : g_H} {d : Nat} {M : xa_M} {post : Option xa_V → xa_M → Prop} {l1 u1 : Int} {i : Int} (h1 : 0 ≤ i ∧ i < 80) (k1 : post (some (0, 0, (-2147483648), 2147483647, M 31 i)) M) : xa_C (xl_I b) A h0 (d + 1) 23 [(2, 31, 0, 0, 0), (0, 0, l1, u1, i)] M post := by
  refine xa_C_arg [(2, 31, 0, 0, 0), (0, 0, (-2147483648), 2147483647, i)] (xa_svR (xa_svI (fun _ _ _ _ => by omega) xa_sv0)) ?_
  refine xa_meth (Q0 := (2, 1, false, 0, 0, 11)) (by decide +kernel) ⟨rfl, rfl⟩ (full := s_c_23) rfl rfl ?_
  intro hM hv Q hgo
  refine hgo.1 15 [] 0 _ _ _ ?_
  refine And.intro ?_ ?_
  · intro (c1 : i < 0)
    show post (some (0, 0, 0, 0, 0)) M
    exact absurd h1 (by omega)
  · intro (c1 : 0 ≤ i)
    refine And.intro ?_ ?_
    · intro (c2 : 80 ≤ i)
      show post (some (0, 0, 0, 0, 0)) M
      exact absurd h1 (by omega)
    · intro (c2 : i < 80)
      refine And.intro (show 0 ≤ i ∧ i < 80 by omega) ?_
      show post (some (0, 0, (-2147483648), 2147483647, M 31 i)) M
      exact k1
theorem cx_119_30 {b : Bool} {A : Nat → Nat} {h0 : g_H} {d : Nat} {M : xa_M} {post : Option xa_V → xa_M → Prop} {l1 u1 : Int} {x1 : Int} (h1 : 0 ≤ (M 30 1) ∧ (M 30 1) ≤ 80) (k1 : (x1 < 0) → post (some (0, 0, (-1), (-1), (-1))) M) (k2 : (0 ≤ x1) → ((M 30 1) ≤ x1) → post (some (0, 0, (-1), (-1), (-1))) M) (k3 : (0 ≤ x1) → (x1 < (M 30 1)) → post (some (0, 0, (-2147483648), 2147483647, M 31 x1)) M) : xa_C (xl_I b) A h0 (d + 2) 119 [(2, 30, 0, 0, 0), (0, 0, l1, u1, x1)] M post := by
  refine xa_C_arg [(2, 30, 0, 0, 0), (0, 0, (-2147483648), 2147483647, x1)] (xa_svR (xa_svI (fun _ _ _ _ => by omega) (xa_sv0))) ?_
  refine xa_meth (Q0 := (2, 1, false, 0, 0, 8)) (by decide +kernel) ⟨rfl, rfl⟩ (full := s_c_119) rfl rfl ?_
  intro hM hv Q hgo
  refine hgo.1 16 [] 0 _ _ _ ?_
  refine And.intro ?_ ?_
  · intro (c1 : x1 < 0)
    show post (some (0, 0, (-1), (-1), (-1))) M
    exact k1 c1
  · intro (c1 : 0 ≤ x1)
    refine And.intro ?_ ?_
    · intro (c2 : (M 30 1) ≤ x1)
      show post (some (0, 0, (-1), (-1), (-1))) M
      exact k2 c1 c2
    · intro (c2 : x1 < (M 30 1))
      show xa_C (xl_I b) A h0 _ 23 [(2, 31, 0, 0, 0), (0, 0, (-2147483648), 2147483647, x1)] M _
      refine cx_23_31 (show 0 ≤ x1 ∧ x1 < 80 by omega) ?_
      show post (some (0, 0, (-2147483648), 2147483647, M 31 x1)) M
      exact k3 c1 c2
theorem cg_119 {b : Bool} {A : Nat → Nat} {h0 : g_H} {d : Nat} {M : xa_M} {post : Option xa_V → xa_M → Prop} {l1 u1 x1 : Int} (h1 : 0 ≤ (M 30 1) ∧ (M 30 1) ≤ 80) (k1 : 0 ≤ x1 ∧ x1 < M 30 1 → post (some (0, 0, (-2147483648), 2147483647, M 31 x1)) M) (k2 : ¬ (0 ≤ x1 ∧ x1 < M 30 1) → post (some (0, 0, (-1), (-1), (-1))) M) : xa_C (xl_I b) A h0 (d + 2) 119 [(2, 30, 0, 0, 0), (0, 0, l1, u1, x1)] M post := by
  refine cx_119_30 h1 ?_ ?_ ?_
  all_goals intros
  all_goals first
    | exact k1 (by omega)
    | exact k2 (by omega)
theorem cx_118_30 {b : Bool} {A : Nat → Nat} {h0 : g_H} {d : Nat} {M : xa_M} {post : Option xa_V → xa_M → Prop} {l1 u1 : Int} {x1 : Int} (h1 : 0 ≤ (M 30 1) ∧ (M 30 1) ≤ 80) (k1 : (0 ≤ x1 ∧ x1 < (M 30 1)) → ((M 31 x1) < 48) → post (some (0, 0, 0, 0, 0)) M) (k2 : (0 ≤ x1 ∧ x1 < (M 30 1)) → (48 ≤ (M 31 x1)) → (0 ≤ x1 ∧ x1 < (M 30 1)) → (57 < (M 31 x1)) → post (some (0, 0, 0, 0, 0)) M) (k3 : (0 ≤ x1 ∧ x1 < (M 30 1)) → (48 ≤ (M 31 x1)) → (0 ≤ x1 ∧ x1 < (M 30 1)) → ((M 31 x1) ≤ 57) → post (some (0, 0, 1, 1, 1)) M) (k4 : (¬ (0 ≤ x1 ∧ x1 < (M 30 1))) → post (some (0, 0, 0, 0, 0)) M) : xa_C (xl_I b) A h0 (d + 3) 118 [(2, 30, 0, 0, 0), (0, 0, l1, u1, x1)] M post := by
  refine xa_C_arg [(2, 30, 0, 0, 0), (0, 0, (-2147483648), 2147483647, x1)] (xa_svR (xa_svI (fun _ _ _ _ => by omega) (xa_sv0))) ?_
  refine xa_meth (Q0 := (2, 2, false, 0, 0, 8)) (by decide +kernel) ⟨rfl, rfl⟩ (full := s_c_118) rfl rfl ?_
  intro hM hv Q hgo
  refine hgo.1 17 [] 0 _ _ _ ?_
  show xa_C (xl_I b) A h0 _ 119 [(2, 30, 0, 0, 0), (0, 0, (-2147483648), 2147483647, x1)] M _
  refine cg_119 (show 0 ≤ (M 30 1) ∧ (M 30 1) ≤ 80 by omega) ?_ ?_
  · intro (i1 : 0 ≤ x1 ∧ x1 < (M 30 1))
    refine And.intro ?_ ?_
    · intro (c2 : (M 31 x1) < 48)
      show post (some (0, 0, 0, 0, 0)) M
      exact k1 i1 c2
    · intro (c2 : 48 ≤ (M 31 x1))
      show xa_C (xl_I b) A h0 _ 119 [(2, 30, 0, 0, 0), (0, 0, (-2147483648), 2147483647, x1)] M _
      refine cg_119 (show 0 ≤ (M 30 1) ∧ (M 30 1) ≤ 80 by omega) ?_ ?_
      · intro (i3 : 0 ≤ x1 ∧ x1 < (M 30 1))
        refine And.intro ?_ ?_
        · intro (c4 : 57 < (M 31 x1))
          show post (some (0, 0, 0, 0, 0)) M
          exact k2 i1 c2 i3 c4
        · intro (c4 : (M 31 x1) ≤ 57)
          show post (some (0, 0, 1, 1, 1)) M
          exact k3 i1 c2 i3 c4
      · intro (i5 : ¬ (0 ≤ x1 ∧ x1 < (M 30 1)))
        exfalso
        omega
  · intro (i6 : ¬ (0 ≤ x1 ∧ x1 < (M 30 1)))
    show post (some (0, 0, 0, 0, 0)) M
    exact k4 i6
theorem cg_118 {b : Bool} {A : Nat → Nat} {h0 : g_H} {d : Nat} {M : xa_M} {post : Option xa_V → xa_M → Prop} {l1 u1 x1 : Int} (h1 : 0 ≤ (M 30 1) ∧ (M 30 1) ≤ 80) (k1 : (0 ≤ x1 ∧ x1 < M 30 1) ∧ 48 ≤ M 31 x1 ∧ M 31 x1 ≤ 57 → post (some (0, 0, 1, 1, 1)) M) (k2 : ¬ ((0 ≤ x1 ∧ x1 < M 30 1) ∧ 48 ≤ M 31 x1 ∧ M 31 x1 ≤ 57) → post (some (0, 0, 0, 0, 0)) M) : xa_C (xl_I b) A h0 (d + 3) 118 [(2, 30, 0, 0, 0), (0, 0, l1, u1, x1)] M post := by
  refine cx_118_30 h1 ?_ ?_ ?_ ?_
  all_goals intros
  all_goals first
    | exact k1 (by omega)
    | exact k2 (by omega)
theorem cx_120_30 {b : Bool} {A : Nat → Nat} {h0 : g_H} {d : Nat} {M : xa_M} {post : Option xa_V → xa_M → Prop} {l1 u1 : Int} {x1 : Int} (h1 : 0 ≤ (M 30 1) ∧ (M 30 1) ≤ 80) (k1 : (0 ≤ x1 ∧ x1 < (M 30 1)) → ((M 31 x1) < 97) → post (some (0, 0, 0, 0, 0)) M) (k2 : (0 ≤ x1 ∧ x1 < (M 30 1)) → (97 ≤ (M 31 x1)) → (0 ≤ x1 ∧ x1 < (M 30 1)) → (122 < (M 31 x1)) → post (some (0, 0, 0, 0, 0)) M) (k3 : (0 ≤ x1 ∧ x1 < (M 30 1)) → (97 ≤ (M 31 x1)) → (0 ≤ x1 ∧ x1 < (M 30 1)) → ((M 31 x1) ≤ 122) → post (some (0, 0, 1, 1, 1)) M) (k4 : (¬ (0 ≤ x1 ∧ x1 < (M 30 1))) → post (some (0, 0, 0, 0, 0)) M) : xa_C (xl_I b) A h0 (d + 3) 120 [(2, 30, 0, 0, 0), (0, 0, l1, u1, x1)] M post := by
  refine xa_C_arg [(2, 30, 0, 0, 0), (0, 0, (-2147483648), 2147483647, x1)] (xa_svR (xa_svI (fun _ _ _ _ => by omega) (xa_sv0))) ?_
  refine xa_meth (Q0 := (2, 2, false, 0, 0, 8)) (by decide +kernel) ⟨rfl, rfl⟩ (full := s_c_120) rfl rfl ?_
  intro hM hv Q hgo
  refine hgo.1 17 [] 0 _ _ _ ?_
  show xa_C (xl_I b) A h0 _ 119 [(2, 30, 0, 0, 0), (0, 0, (-2147483648), 2147483647, x1)] M _
  refine cg_119 (show 0 ≤ (M 30 1) ∧ (M 30 1) ≤ 80 by omega) ?_ ?_
  · intro (i1 : 0 ≤ x1 ∧ x1 < (M 30 1))
    refine And.intro ?_ ?_
    · intro (c2 : (M 31 x1) < 97)
      show post (some (0, 0, 0, 0, 0)) M
      exact k1 i1 c2
    · intro (c2 : 97 ≤ (M 31 x1))
      show xa_C (xl_I b) A h0 _ 119 [(2, 30, 0, 0, 0), (0, 0, (-2147483648), 2147483647, x1)] M _
      refine cg_119 (show 0 ≤ (M 30 1) ∧ (M 30 1) ≤ 80 by omega) ?_ ?_
      · intro (i3 : 0 ≤ x1 ∧ x1 < (M 30 1))
        refine And.intro ?_ ?_
        · intro (c4 : 122 < (M 31 x1))
          show post (some (0, 0, 0, 0, 0)) M
          exact k2 i1 c2 i3 c4
        · intro (c4 : (M 31 x1) ≤ 122)
          show post (some (0, 0, 1, 1, 1)) M
          exact k3 i1 c2 i3 c4
      · intro (i5 : ¬ (0 ≤ x1 ∧ x1 < (M 30 1)))
        exfalso
        omega
  · intro (i6 : ¬ (0 ≤ x1 ∧ x1 < (M 30 1)))
    show post (some (0, 0, 0, 0, 0)) M
    exact k4 i6
theorem cg_120 {b : Bool} {A : Nat → Nat} {h0 : g_H} {d : Nat} {M : xa_M} {post : Option xa_V → xa_M → Prop} {l1 u1 x1 : Int} (h1 : 0 ≤ (M 30 1) ∧ (M 30 1) ≤ 80) (k1 : (0 ≤ x1 ∧ x1 < M 30 1) ∧ 97 ≤ M 31 x1 ∧ M 31 x1 ≤ 122 → post (some (0, 0, 1, 1, 1)) M) (k2 : ¬ ((0 ≤ x1 ∧ x1 < M 30 1) ∧ 97 ≤ M 31 x1 ∧ M 31 x1 ≤ 122) → post (some (0, 0, 0, 0, 0)) M) : xa_C (xl_I b) A h0 (d + 3) 120 [(2, 30, 0, 0, 0), (0, 0, l1, u1, x1)] M post := by
  refine cx_120_30 h1 ?_ ?_ ?_ ?_
  all_goals intros
  all_goals first
    | exact k1 (by omega)
    | exact k2 (by omega)
theorem cx_172_30 {b : Bool} {A : Nat → Nat} {h0 : g_H} {d : Nat} {M : xa_M} {post : Option xa_V → xa_M → Prop} {l1 u1 : Int} {x1 : Int} (h1 : 0 ≤ (M 30 1) ∧ (M 30 1) ≤ 80) (k1 : (0 ≤ x1 ∧ x1 < (M 30 1)) → (¬ (M 31 x1) = 63) → post (some (0, 0, 0, 0, 0)) M) (k2 : (0 ≤ x1 ∧ x1 < (M 30 1)) → ((M 31 x1) = 63) → post (some (0, 0, 1, 1, 1)) M) (k3 : (¬ (0 ≤ x1 ∧ x1 < (M 30 1))) → post (some (0, 0, 0, 0, 0)) M) : xa_C (xl_I b) A h0 (d + 3) 172 [(2, 30, 0, 0, 0), (0, 0, l1, u1, x1)] M post := by
  refine xa_C_arg [(2, 30, 0, 0, 0), (0, 0, (-2147483648), 2147483647, x1)] (xa_svR (xa_svI (fun _ _ _ _ => by omega) (xa_sv0))) ?_
  refine xa_meth (Q0 := (2, 2, false, 0, 0, 8)) (by decide +kernel) ⟨rfl, rfl⟩ (full := s_c_172) rfl rfl ?_
  intro hM hv Q hgo
  refine hgo.1 12 [] 0 _ _ _ ?_
  show xa_C (xl_I b) A h0 _ 119 [(2, 30, 0, 0, 0), (0, 0, (-2147483648), 2147483647, x1)] M _
  refine cg_119 (show 0 ≤ (M 30 1) ∧ (M 30 1) ≤ 80 by omega) ?_ ?_
  · intro (i1 : 0 ≤ x1 ∧ x1 < (M 30 1))
    refine And.intro ?_ ?_
    · intro (c2 : ¬ (M 31 x1) = 63)
      show post (some (0, 0, 0, 0, 0)) M
      exact k1 i1 c2
    · intro (c2 : (M 31 x1) = 63)
      show post (some (0, 0, 1, 1, 1)) M
      exact k2 i1 c2
  · intro (i3 : ¬ (0 ≤ x1 ∧ x1 < (M 30 1)))
    show post (some (0, 0, 0, 0, 0)) M
    exact k3 i3
theorem cg_172 {b : Bool} {A : Nat → Nat} {h0 : g_H} {d : Nat} {M : xa_M} {post : Option xa_V → xa_M → Prop} {l1 u1 x1 : Int} (h1 : 0 ≤ (M 30 1) ∧ (M 30 1) ≤ 80) (k1 : (0 ≤ x1 ∧ x1 < M 30 1) ∧ M 31 x1 = 63 → post (some (0, 0, 1, 1, 1)) M) (k2 : ¬ ((0 ≤ x1 ∧ x1 < M 30 1) ∧ M 31 x1 = 63) → post (some (0, 0, 0, 0, 0)) M) : xa_C (xl_I b) A h0 (d + 3) 172 [(2, 30, 0, 0, 0), (0, 0, l1, u1, x1)] M post := by
  refine cx_172_30 h1 ?_ ?_ ?_
  all_goals intros
  all_goals first
    | exact k1 (by omega)
    | exact k2 (by omega)
theorem cx_117_50 {b : Bool} {A : Nat → Nat} {h0 : g_H} {d : Nat} {M : xa_M} {post : Option xa_V → xa_M → Prop} {T : Int → Int} {l1 u1 e : Int} (hT : (∀ i, 0 ≤ i → i < 80 → M 31 i = T i)) (he : 0 ≤ e ∧ e ≤ 60 ∧ e ≤ M 30 1 ∧ M 30 1 ≤ 80) (hp : 0 ≤ M 50 5 ∧ M 50 5 ≤ e) (k : ∀ M1 : xa_M, (∀ q j, ¬ (q = 50 ∧ (j = 5 ∨ j = 6 ∨ j = 7)) → M1 q j = M q j) → bk_N T e (M 50 5) (M1 50 6) (M1 50 7) (M1 50 5) → post none M1) : xa_C (xl_I b) A h0 (d + 4) 117 [(2, 50, 0, 0, 0), (2, 30, 0, 0, 0), (0, 0, l1, u1, e)] M post := by
  refine xa_C_arg [(2, 50, 0, 0, 0), (2, 30, 0, 0, 0), (0, 0, 0, 60, e)] (xa_svR (xa_svR (xa_svI (fun _ _ _ _ => by omega) xa_sv0))) ?_
  refine xa_meth (Q0 := (5, 0, false, 0, 0, 0)) (by decide +kernel) ⟨rfl, rfl⟩ (full := s_c_117) rfl rfl ?_
  intro hM hv Q hgo
  have loop : ∀ (n : Nat) (i : Int) (M1 : xa_M), 0 ≤ i → i ≤ 4 → (∀ q j, ¬ (q = 50 ∧ j = 6) → M1 q j = M q j) → M 50 5 + i ≤ e → bk_nm T e (4 - i).toNat (M 50 5 + i) (M1 50 6) = bk_nm T e 4 (M 50 5) 0 → (0 ≤ M1 50 6 ∧ (i = 0 → M1 50 6 = 0) ∧ (i = 1 → M1 50 6 ≤ 9) ∧ (i = 2 → M1 50 6 ≤ 99) ∧ (i = 3 → M1 50 6 ≤ 999) ∧ (i = 4 → M1 50 6 ≤ 9999)) → 4 - i < (n : Int) → Q 10 [(3, (0, 0, 0, 4, i)), (4, (0, 0, 0, 4, i)), (2, (0, 0, 0, 60, e)), (0, (2, 50, 0, 0, 0)), (1, (2, 30, 0, 0, 0))] [] M1 := by
    intro n
    induction n with
    | zero => intro i M1 i0 i1 hk hp1 hb hv1 hms; omega
    | succ n ih =>
      intro i M1 i0 i1 hk hp1 hb hv1 hms
      have e5 : M1 50 5 = M 50 5 := hk 50 5 (by decide)
      have e30 : M1 30 1 = M 30 1 := hk 30 1 (by decide)
      have hT1 : (∀ i, 0 ≤ i → i < 80 → M1 31 i = T i) := fun i i0 i1 => (hk 31 i (by omega)).trans (hT i i0 i1)
      refine hgo.1 45 [10] 10 _ _ _ ?_
      refine And.intro ?_ ?_
      · intro (c1 : 4 ≤ i)
        refine And.intro ?_ ?_
        · intro (c2 : (M1 50 6) < 1)
          refine And.intro ?_ ?_
          · intro (c3 : i ≤ 0)
            show post none (xa_up M1 50 7 0)
            have e31 : M 50 5 + i < 80 → M1 31 (M1 50 5 + i) = T (M 50 5 + i) := fun h => by
              rw [e5]
              exact hT1 _ (by omega) h
            have hz : bk_nm T e 4 (M 50 5) 0 = (M 50 5 + i, M1 50 6) := by
              rw [← hb]
              by_cases c9 : i = 4
              · rw [c9]
                rfl
              · rw [show (4 - i).toNat = (3 - i).toNat + 1 by omega]
                exact bk_nm0 (fun hx => by
                  have := e31 (by omega)
                  omega)
            refine k _ (fun q j hq => ?_) ?_
            · exact (xa_up_ne (fun e9 => hq ⟨e9.1, by omega⟩)).trans (hk q j (fun e9 => hq ⟨e9.1, by omega⟩))
            · show bk_N T e (M 50 5) (M1 50 6) 0 (M1 50 5)
              exact ⟨_, hz, by omega, by omega, by omega⟩
          · intro (c3 : 0 < i)
            refine And.intro ?_ ?_
            · intro (c4 : 0 = 0)
              show post none (xa_up (xa_up M1 50 7 0) 50 5 (xa_w32 ((M1 50 5) + (i - 1))))
              have w1 : xa_w32 ((M1 50 5) + (i - 1)) = (M1 50 5) + (i - 1) := xa_w32_id (by omega) (by omega)
              have e31 : M 50 5 + i < 80 → M1 31 (M1 50 5 + i) = T (M 50 5 + i) := fun h => by
                rw [e5]
                exact hT1 _ (by omega) h
              have hz : bk_nm T e 4 (M 50 5) 0 = (M 50 5 + i, M1 50 6) := by
                rw [← hb]
                by_cases c9 : i = 4
                · rw [c9]
                  rfl
                · rw [show (4 - i).toNat = (3 - i).toNat + 1 by omega]
                  exact bk_nm0 (fun hx => by
                    have := e31 (by omega)
                    omega)
              refine k _ (fun q j hq => ?_) ?_
              · exact (xa_up_ne (fun e9 => hq ⟨e9.1, by omega⟩)).trans ((xa_up_ne (fun e9 => hq ⟨e9.1, by omega⟩)).trans (hk q j (fun e9 => hq ⟨e9.1, by omega⟩)))
              · show bk_N T e (M 50 5) (M1 50 6) 0 (xa_w32 ((M1 50 5) + (i - 1)))
                exact ⟨_, hz, by omega, by omega, by omega⟩
            · intro (c4 : ¬ 0 = 0)
              exfalso
              omega
        · intro (c2 : 1 ≤ (M1 50 6))
          refine And.intro ?_ ?_
          · intro (c5 : 2000 < (M1 50 6))
            refine And.intro ?_ ?_
            · intro (c6 : i ≤ 0)
              show post none (xa_up M1 50 7 0)
              have e31 : M 50 5 + i < 80 → M1 31 (M1 50 5 + i) = T (M 50 5 + i) := fun h => by
                rw [e5]
                exact hT1 _ (by omega) h
              have hz : bk_nm T e 4 (M 50 5) 0 = (M 50 5 + i, M1 50 6) := by
                rw [← hb]
                by_cases c9 : i = 4
                · rw [c9]
                  rfl
                · rw [show (4 - i).toNat = (3 - i).toNat + 1 by omega]
                  exact bk_nm0 (fun hx => by
                    have := e31 (by omega)
                    omega)
              refine k _ (fun q j hq => ?_) ?_
              · exact (xa_up_ne (fun e9 => hq ⟨e9.1, by omega⟩)).trans (hk q j (fun e9 => hq ⟨e9.1, by omega⟩))
              · show bk_N T e (M 50 5) (M1 50 6) 0 (M1 50 5)
                exact ⟨_, hz, by omega, by omega, by omega⟩
            · intro (c6 : 0 < i)
              refine And.intro ?_ ?_
              · intro (c7 : 0 = 0)
                show post none (xa_up (xa_up M1 50 7 0) 50 5 (xa_w32 ((M1 50 5) + (i - 1))))
                have w1 : xa_w32 ((M1 50 5) + (i - 1)) = (M1 50 5) + (i - 1) := xa_w32_id (by omega) (by omega)
                have e31 : M 50 5 + i < 80 → M1 31 (M1 50 5 + i) = T (M 50 5 + i) := fun h => by
                  rw [e5]
                  exact hT1 _ (by omega) h
                have hz : bk_nm T e 4 (M 50 5) 0 = (M 50 5 + i, M1 50 6) := by
                  rw [← hb]
                  by_cases c9 : i = 4
                  · rw [c9]
                    rfl
                  · rw [show (4 - i).toNat = (3 - i).toNat + 1 by omega]
                    exact bk_nm0 (fun hx => by
                      have := e31 (by omega)
                      omega)
                refine k _ (fun q j hq => ?_) ?_
                · exact (xa_up_ne (fun e9 => hq ⟨e9.1, by omega⟩)).trans ((xa_up_ne (fun e9 => hq ⟨e9.1, by omega⟩)).trans (hk q j (fun e9 => hq ⟨e9.1, by omega⟩)))
                · show bk_N T e (M 50 5) (M1 50 6) 0 (xa_w32 ((M1 50 5) + (i - 1)))
                  exact ⟨_, hz, by omega, by omega, by omega⟩
              · intro (c7 : ¬ 0 = 0)
                exfalso
                omega
          · intro (c5 : (M1 50 6) ≤ 2000)
            refine And.intro ?_ ?_
            · intro (c8 : i ≤ 0)
              show post none (xa_up M1 50 7 1)
              have e31 : M 50 5 + i < 80 → M1 31 (M1 50 5 + i) = T (M 50 5 + i) := fun h => by
                rw [e5]
                exact hT1 _ (by omega) h
              have hz : bk_nm T e 4 (M 50 5) 0 = (M 50 5 + i, M1 50 6) := by
                rw [← hb]
                by_cases c9 : i = 4
                · rw [c9]
                  rfl
                · rw [show (4 - i).toNat = (3 - i).toNat + 1 by omega]
                  exact bk_nm0 (fun hx => by
                    have := e31 (by omega)
                    omega)
              refine k _ (fun q j hq => ?_) ?_
              · exact (xa_up_ne (fun e9 => hq ⟨e9.1, by omega⟩)).trans (hk q j (fun e9 => hq ⟨e9.1, by omega⟩))
              · show bk_N T e (M 50 5) (M1 50 6) 1 (M1 50 5)
                exact ⟨_, hz, by omega, by omega, by omega⟩
            · intro (c8 : 0 < i)
              refine And.intro ?_ ?_
              · intro (c9 : 1 = 0)
                exfalso
                omega
              · intro (c9 : ¬ 1 = 0)
                show post none (xa_up (xa_up M1 50 7 1) 50 5 (xa_w32 ((M1 50 5) + i)))
                have w1 : xa_w32 ((M1 50 5) + i) = (M1 50 5) + i := xa_w32_id (by omega) (by omega)
                have e31 : M 50 5 + i < 80 → M1 31 (M1 50 5 + i) = T (M 50 5 + i) := fun h => by
                  rw [e5]
                  exact hT1 _ (by omega) h
                have hz : bk_nm T e 4 (M 50 5) 0 = (M 50 5 + i, M1 50 6) := by
                  rw [← hb]
                  by_cases c9 : i = 4
                  · rw [c9]
                    rfl
                  · rw [show (4 - i).toNat = (3 - i).toNat + 1 by omega]
                    exact bk_nm0 (fun hx => by
                      have := e31 (by omega)
                      omega)
                refine k _ (fun q j hq => ?_) ?_
                · exact (xa_up_ne (fun e9 => hq ⟨e9.1, by omega⟩)).trans ((xa_up_ne (fun e9 => hq ⟨e9.1, by omega⟩)).trans (hk q j (fun e9 => hq ⟨e9.1, by omega⟩)))
                · show bk_N T e (M 50 5) (M1 50 6) 1 (xa_w32 ((M1 50 5) + i))
                  exact ⟨_, hz, by omega, by omega, by omega⟩
      · intro (c1 : i < 4)
        refine And.intro ?_ ?_
        · intro (c10 : e ≤ (xa_w32 ((M1 50 5) + i)))
          refine And.intro ?_ ?_
          · intro (c11 : (M1 50 6) < 1)
            refine And.intro ?_ ?_
            · intro (c12 : i ≤ 0)
              show post none (xa_up M1 50 7 0)
              have w1 : xa_w32 ((M1 50 5) + i) = (M1 50 5) + i := xa_w32_id (by omega) (by omega)
              rw [w1] at c10
              have e31 : M 50 5 + i < 80 → M1 31 (M1 50 5 + i) = T (M 50 5 + i) := fun h => by
                rw [e5]
                exact hT1 _ (by omega) h
              have hz : bk_nm T e 4 (M 50 5) 0 = (M 50 5 + i, M1 50 6) := by
                rw [← hb]
                by_cases c9 : i = 4
                · rw [c9]
                  rfl
                · rw [show (4 - i).toNat = (3 - i).toNat + 1 by omega]
                  exact bk_nm0 (fun hx => by
                    have := e31 (by omega)
                    omega)
              refine k _ (fun q j hq => ?_) ?_
              · exact (xa_up_ne (fun e9 => hq ⟨e9.1, by omega⟩)).trans (hk q j (fun e9 => hq ⟨e9.1, by omega⟩))
              · show bk_N T e (M 50 5) (M1 50 6) 0 (M1 50 5)
                exact ⟨_, hz, by omega, by omega, by omega⟩
            · intro (c12 : 0 < i)
              refine And.intro ?_ ?_
              · intro (c13 : 0 = 0)
                show post none (xa_up (xa_up M1 50 7 0) 50 5 (xa_w32 ((M1 50 5) + (i - 1))))
                have w1 : xa_w32 ((M1 50 5) + i) = (M1 50 5) + i := xa_w32_id (by omega) (by omega)
                rw [w1] at c10
                have w2 : xa_w32 ((M1 50 5) + (i - 1)) = (M1 50 5) + (i - 1) := xa_w32_id (by omega) (by omega)
                have e31 : M 50 5 + i < 80 → M1 31 (M1 50 5 + i) = T (M 50 5 + i) := fun h => by
                  rw [e5]
                  exact hT1 _ (by omega) h
                have hz : bk_nm T e 4 (M 50 5) 0 = (M 50 5 + i, M1 50 6) := by
                  rw [← hb]
                  by_cases c9 : i = 4
                  · rw [c9]
                    rfl
                  · rw [show (4 - i).toNat = (3 - i).toNat + 1 by omega]
                    exact bk_nm0 (fun hx => by
                      have := e31 (by omega)
                      omega)
                refine k _ (fun q j hq => ?_) ?_
                · exact (xa_up_ne (fun e9 => hq ⟨e9.1, by omega⟩)).trans ((xa_up_ne (fun e9 => hq ⟨e9.1, by omega⟩)).trans (hk q j (fun e9 => hq ⟨e9.1, by omega⟩)))
                · show bk_N T e (M 50 5) (M1 50 6) 0 (xa_w32 ((M1 50 5) + (i - 1)))
                  exact ⟨_, hz, by omega, by omega, by omega⟩
              · intro (c13 : ¬ 0 = 0)
                exfalso
                omega
          · intro (c11 : 1 ≤ (M1 50 6))
            refine And.intro ?_ ?_
            · intro (c14 : 2000 < (M1 50 6))
              refine And.intro ?_ ?_
              · intro (c15 : i ≤ 0)
                show post none (xa_up M1 50 7 0)
                have w1 : xa_w32 ((M1 50 5) + i) = (M1 50 5) + i := xa_w32_id (by omega) (by omega)
                rw [w1] at c10
                have e31 : M 50 5 + i < 80 → M1 31 (M1 50 5 + i) = T (M 50 5 + i) := fun h => by
                  rw [e5]
                  exact hT1 _ (by omega) h
                have hz : bk_nm T e 4 (M 50 5) 0 = (M 50 5 + i, M1 50 6) := by
                  rw [← hb]
                  by_cases c9 : i = 4
                  · rw [c9]
                    rfl
                  · rw [show (4 - i).toNat = (3 - i).toNat + 1 by omega]
                    exact bk_nm0 (fun hx => by
                      have := e31 (by omega)
                      omega)
                refine k _ (fun q j hq => ?_) ?_
                · exact (xa_up_ne (fun e9 => hq ⟨e9.1, by omega⟩)).trans (hk q j (fun e9 => hq ⟨e9.1, by omega⟩))
                · show bk_N T e (M 50 5) (M1 50 6) 0 (M1 50 5)
                  exact ⟨_, hz, by omega, by omega, by omega⟩
              · intro (c15 : 0 < i)
                refine And.intro ?_ ?_
                · intro (c16 : 0 = 0)
                  show post none (xa_up (xa_up M1 50 7 0) 50 5 (xa_w32 ((M1 50 5) + (i - 1))))
                  have w1 : xa_w32 ((M1 50 5) + i) = (M1 50 5) + i := xa_w32_id (by omega) (by omega)
                  rw [w1] at c10
                  have w2 : xa_w32 ((M1 50 5) + (i - 1)) = (M1 50 5) + (i - 1) := xa_w32_id (by omega) (by omega)
                  have e31 : M 50 5 + i < 80 → M1 31 (M1 50 5 + i) = T (M 50 5 + i) := fun h => by
                    rw [e5]
                    exact hT1 _ (by omega) h
                  have hz : bk_nm T e 4 (M 50 5) 0 = (M 50 5 + i, M1 50 6) := by
                    rw [← hb]
                    by_cases c9 : i = 4
                    · rw [c9]
                      rfl
                    · rw [show (4 - i).toNat = (3 - i).toNat + 1 by omega]
                      exact bk_nm0 (fun hx => by
                        have := e31 (by omega)
                        omega)
                  refine k _ (fun q j hq => ?_) ?_
                  · exact (xa_up_ne (fun e9 => hq ⟨e9.1, by omega⟩)).trans ((xa_up_ne (fun e9 => hq ⟨e9.1, by omega⟩)).trans (hk q j (fun e9 => hq ⟨e9.1, by omega⟩)))
                  · show bk_N T e (M 50 5) (M1 50 6) 0 (xa_w32 ((M1 50 5) + (i - 1)))
                    exact ⟨_, hz, by omega, by omega, by omega⟩
                · intro (c16 : ¬ 0 = 0)
                  exfalso
                  omega
            · intro (c14 : (M1 50 6) ≤ 2000)
              refine And.intro ?_ ?_
              · intro (c17 : i ≤ 0)
                show post none (xa_up M1 50 7 1)
                have w1 : xa_w32 ((M1 50 5) + i) = (M1 50 5) + i := xa_w32_id (by omega) (by omega)
                rw [w1] at c10
                have e31 : M 50 5 + i < 80 → M1 31 (M1 50 5 + i) = T (M 50 5 + i) := fun h => by
                  rw [e5]
                  exact hT1 _ (by omega) h
                have hz : bk_nm T e 4 (M 50 5) 0 = (M 50 5 + i, M1 50 6) := by
                  rw [← hb]
                  by_cases c9 : i = 4
                  · rw [c9]
                    rfl
                  · rw [show (4 - i).toNat = (3 - i).toNat + 1 by omega]
                    exact bk_nm0 (fun hx => by
                      have := e31 (by omega)
                      omega)
                refine k _ (fun q j hq => ?_) ?_
                · exact (xa_up_ne (fun e9 => hq ⟨e9.1, by omega⟩)).trans (hk q j (fun e9 => hq ⟨e9.1, by omega⟩))
                · show bk_N T e (M 50 5) (M1 50 6) 1 (M1 50 5)
                  exact ⟨_, hz, by omega, by omega, by omega⟩
              · intro (c17 : 0 < i)
                refine And.intro ?_ ?_
                · intro (c18 : 1 = 0)
                  exfalso
                  omega
                · intro (c18 : ¬ 1 = 0)
                  show post none (xa_up (xa_up M1 50 7 1) 50 5 (xa_w32 ((M1 50 5) + i)))
                  have w1 : xa_w32 ((M1 50 5) + i) = (M1 50 5) + i := xa_w32_id (by omega) (by omega)
                  rw [w1] at c10
                  have e31 : M 50 5 + i < 80 → M1 31 (M1 50 5 + i) = T (M 50 5 + i) := fun h => by
                    rw [e5]
                    exact hT1 _ (by omega) h
                  have hz : bk_nm T e 4 (M 50 5) 0 = (M 50 5 + i, M1 50 6) := by
                    rw [← hb]
                    by_cases c9 : i = 4
                    · rw [c9]
                      rfl
                    · rw [show (4 - i).toNat = (3 - i).toNat + 1 by omega]
                      exact bk_nm0 (fun hx => by
                        have := e31 (by omega)
                        omega)
                  refine k _ (fun q j hq => ?_) ?_
                  · exact (xa_up_ne (fun e9 => hq ⟨e9.1, by omega⟩)).trans ((xa_up_ne (fun e9 => hq ⟨e9.1, by omega⟩)).trans (hk q j (fun e9 => hq ⟨e9.1, by omega⟩)))
                  · show bk_N T e (M 50 5) (M1 50 6) 1 (xa_w32 ((M1 50 5) + i))
                    exact ⟨_, hz, by omega, by omega, by omega⟩
        · intro (c10 : (xa_w32 ((M1 50 5) + i)) < e)
          show xa_C (xl_I b) A h0 _ 118 [(2, 30, 0, 0, 0), (0, 0, (-2147483648), 2147483647, xa_w32 ((M1 50 5) + i))] M1 _
          refine cg_118 (show 0 ≤ (M1 30 1) ∧ (M1 30 1) ≤ 80 by omega) ?_ ?_
          · intro (i19 : (0 ≤ (xa_w32 ((M1 50 5) + i)) ∧ (xa_w32 ((M1 50 5) + i)) < (M1 30 1)) ∧ 48 ≤ M1 31 (xa_w32 ((M1 50 5) + i)) ∧ M1 31 (xa_w32 ((M1 50 5) + i)) ≤ 57)
            show xa_C (xl_I b) A h0 _ 119 [(2, 30, 0, 0, 0), (0, 0, (-2147483648), 2147483647, xa_w32 ((M1 50 5) + i))] M1 _
            refine cg_119 (show 0 ≤ (M1 30 1) ∧ (M1 30 1) ≤ 80 by omega) ?_ ?_
            · intro (i20 : 0 ≤ (xa_w32 ((M1 50 5) + i)) ∧ (xa_w32 ((M1 50 5) + i)) < (M1 30 1))
              show Q 10 [(4, (0, 0, 1, 5, i + 1)), (3, (0, 0, 1, 5, i + 1)), (2, (0, 0, 0, 60, e)), (0, (2, 50, 0, 0, 0)), (1, (2, 30, 0, 0, 0))] [] (xa_up M1 50 6 (xa_w32 ((xa_w32 ((xa_w32 ((M1 50 6) * 10)) + (M1 31 (xa_w32 ((M1 50 5) + i))))) - 48)))
              have w1 : xa_w32 ((M1 50 5) + i) = (M1 50 5) + i := xa_w32_id (by omega) (by omega)
              rw [w1] at c10 i19 i20
              have w2 : xa_w32 ((M1 50 6) * 10) = (M1 50 6) * 10 := xa_w32_id (by omega) (by omega)
              have e31 := hT1 (M1 50 5 + i) (by omega) (by omega)
              have e32 : T (M1 50 5 + i) = T (M 50 5 + i) := by rw [e5]
              have w3 : xa_w32 ((((M1 50 6) * 10)) + (M1 31 (((M1 50 5) + i)))) = (((M1 50 6) * 10)) + (M1 31 (((M1 50 5) + i))) := xa_w32_id (by omega) (by omega)
              have w4 : xa_w32 ((((((M1 50 6) * 10)) + (M1 31 (((M1 50 5) + i))))) - 48) = (((((M1 50 6) * 10)) + (M1 31 (((M1 50 5) + i))))) - 48 := xa_w32_id (by omega) (by omega)
              have ev : xa_w32 ((xa_w32 ((xa_w32 ((M1 50 6) * 10)) + (M1 31 (xa_w32 ((M1 50 5) + i))))) - 48) = M1 50 6 * 10 + T (M 50 5 + i) - 48 := by
                rw [w1, w2, w3, w4]
                omega
              refine hgo.2.1 10 _ [(3, (0, 0, 0, 4, i + 1)), (4, (0, 0, 0, 4, i + 1)), (2, (0, 0, 0, 60, e)), (0, (2, 50, 0, 0, 0)), (1, (2, 30, 0, 0, 0))] _ _ (xa_subI rfl rfl (fun _ _ _ _ => by omega) (xa_subI rfl rfl (fun _ _ _ _ => by omega) (xa_subI rfl rfl (fun _ _ _ _ => by omega) (xa_subR rfl (xa_subR rfl (xa_sub0)))))) ?_
              exact ih (i + 1) _ (by omega) (by omega) (fun q j hq => (xa_up_ne hq).trans (hk q j hq)) (by omega) (by rw [xa_up_eq, ev, show M 50 5 + (i + 1) = M 50 5 + i + 1 by omega, ← bk_nm1 (by omega), show (4 - (i + 1)).toNat + 1 = (4 - i).toNat by omega]; exact hb) (by rw [xa_up_eq]; omega) (by omega)
            · intro (i21 : ¬ (0 ≤ (xa_w32 ((M1 50 5) + i)) ∧ (xa_w32 ((M1 50 5) + i)) < (M1 30 1)))
              exfalso
              omega
          · intro (i22 : ¬ ((0 ≤ (xa_w32 ((M1 50 5) + i)) ∧ (xa_w32 ((M1 50 5) + i)) < (M1 30 1)) ∧ 48 ≤ M1 31 (xa_w32 ((M1 50 5) + i)) ∧ M1 31 (xa_w32 ((M1 50 5) + i)) ≤ 57))
            refine And.intro ?_ ?_
            · intro (c23 : (M1 50 6) < 1)
              refine And.intro ?_ ?_
              · intro (c24 : i ≤ 0)
                show post none (xa_up M1 50 7 0)
                have w1 : xa_w32 ((M1 50 5) + i) = (M1 50 5) + i := xa_w32_id (by omega) (by omega)
                rw [w1] at c10 i22
                have e31 : M 50 5 + i < 80 → M1 31 (M1 50 5 + i) = T (M 50 5 + i) := fun h => by
                  rw [e5]
                  exact hT1 _ (by omega) h
                have hz : bk_nm T e 4 (M 50 5) 0 = (M 50 5 + i, M1 50 6) := by
                  rw [← hb]
                  by_cases c9 : i = 4
                  · rw [c9]
                    rfl
                  · rw [show (4 - i).toNat = (3 - i).toNat + 1 by omega]
                    exact bk_nm0 (fun hx => by
                      have := e31 (by omega)
                      omega)
                refine k _ (fun q j hq => ?_) ?_
                · exact (xa_up_ne (fun e9 => hq ⟨e9.1, by omega⟩)).trans (hk q j (fun e9 => hq ⟨e9.1, by omega⟩))
                · show bk_N T e (M 50 5) (M1 50 6) 0 (M1 50 5)
                  exact ⟨_, hz, by omega, by omega, by omega⟩
              · intro (c24 : 0 < i)
                refine And.intro ?_ ?_
                · intro (c25 : 0 = 0)
                  show post none (xa_up (xa_up M1 50 7 0) 50 5 (xa_w32 ((M1 50 5) + (i - 1))))
                  have w1 : xa_w32 ((M1 50 5) + i) = (M1 50 5) + i := xa_w32_id (by omega) (by omega)
                  rw [w1] at c10 i22
                  have w2 : xa_w32 ((M1 50 5) + (i - 1)) = (M1 50 5) + (i - 1) := xa_w32_id (by omega) (by omega)
                  have e31 : M 50 5 + i < 80 → M1 31 (M1 50 5 + i) = T (M 50 5 + i) := fun h => by
                    rw [e5]
                    exact hT1 _ (by omega) h
                  have hz : bk_nm T e 4 (M 50 5) 0 = (M 50 5 + i, M1 50 6) := by
                    rw [← hb]
                    by_cases c9 : i = 4
                    · rw [c9]
                      rfl
                    · rw [show (4 - i).toNat = (3 - i).toNat + 1 by omega]
                      exact bk_nm0 (fun hx => by
                        have := e31 (by omega)
                        omega)
                  refine k _ (fun q j hq => ?_) ?_
                  · exact (xa_up_ne (fun e9 => hq ⟨e9.1, by omega⟩)).trans ((xa_up_ne (fun e9 => hq ⟨e9.1, by omega⟩)).trans (hk q j (fun e9 => hq ⟨e9.1, by omega⟩)))
                  · show bk_N T e (M 50 5) (M1 50 6) 0 (xa_w32 ((M1 50 5) + (i - 1)))
                    exact ⟨_, hz, by omega, by omega, by omega⟩
                · intro (c25 : ¬ 0 = 0)
                  exfalso
                  omega
            · intro (c23 : 1 ≤ (M1 50 6))
              refine And.intro ?_ ?_
              · intro (c26 : 2000 < (M1 50 6))
                refine And.intro ?_ ?_
                · intro (c27 : i ≤ 0)
                  show post none (xa_up M1 50 7 0)
                  have w1 : xa_w32 ((M1 50 5) + i) = (M1 50 5) + i := xa_w32_id (by omega) (by omega)
                  rw [w1] at c10 i22
                  have e31 : M 50 5 + i < 80 → M1 31 (M1 50 5 + i) = T (M 50 5 + i) := fun h => by
                    rw [e5]
                    exact hT1 _ (by omega) h
                  have hz : bk_nm T e 4 (M 50 5) 0 = (M 50 5 + i, M1 50 6) := by
                    rw [← hb]
                    by_cases c9 : i = 4
                    · rw [c9]
                      rfl
                    · rw [show (4 - i).toNat = (3 - i).toNat + 1 by omega]
                      exact bk_nm0 (fun hx => by
                        have := e31 (by omega)
                        omega)
                  refine k _ (fun q j hq => ?_) ?_
                  · exact (xa_up_ne (fun e9 => hq ⟨e9.1, by omega⟩)).trans (hk q j (fun e9 => hq ⟨e9.1, by omega⟩))
                  · show bk_N T e (M 50 5) (M1 50 6) 0 (M1 50 5)
                    exact ⟨_, hz, by omega, by omega, by omega⟩
                · intro (c27 : 0 < i)
                  refine And.intro ?_ ?_
                  · intro (c28 : 0 = 0)
                    show post none (xa_up (xa_up M1 50 7 0) 50 5 (xa_w32 ((M1 50 5) + (i - 1))))
                    have w1 : xa_w32 ((M1 50 5) + i) = (M1 50 5) + i := xa_w32_id (by omega) (by omega)
                    rw [w1] at c10 i22
                    have w2 : xa_w32 ((M1 50 5) + (i - 1)) = (M1 50 5) + (i - 1) := xa_w32_id (by omega) (by omega)
                    have e31 : M 50 5 + i < 80 → M1 31 (M1 50 5 + i) = T (M 50 5 + i) := fun h => by
                      rw [e5]
                      exact hT1 _ (by omega) h
                    have hz : bk_nm T e 4 (M 50 5) 0 = (M 50 5 + i, M1 50 6) := by
                      rw [← hb]
                      by_cases c9 : i = 4
                      · rw [c9]
                        rfl
                      · rw [show (4 - i).toNat = (3 - i).toNat + 1 by omega]
                        exact bk_nm0 (fun hx => by
                          have := e31 (by omega)
                          omega)
                    refine k _ (fun q j hq => ?_) ?_
                    · exact (xa_up_ne (fun e9 => hq ⟨e9.1, by omega⟩)).trans ((xa_up_ne (fun e9 => hq ⟨e9.1, by omega⟩)).trans (hk q j (fun e9 => hq ⟨e9.1, by omega⟩)))
                    · show bk_N T e (M 50 5) (M1 50 6) 0 (xa_w32 ((M1 50 5) + (i - 1)))
                      exact ⟨_, hz, by omega, by omega, by omega⟩
                  · intro (c28 : ¬ 0 = 0)
                    exfalso
                    omega
              · intro (c26 : (M1 50 6) ≤ 2000)
                refine And.intro ?_ ?_
                · intro (c29 : i ≤ 0)
                  show post none (xa_up M1 50 7 1)
                  have w1 : xa_w32 ((M1 50 5) + i) = (M1 50 5) + i := xa_w32_id (by omega) (by omega)
                  rw [w1] at c10 i22
                  have e31 : M 50 5 + i < 80 → M1 31 (M1 50 5 + i) = T (M 50 5 + i) := fun h => by
                    rw [e5]
                    exact hT1 _ (by omega) h
                  have hz : bk_nm T e 4 (M 50 5) 0 = (M 50 5 + i, M1 50 6) := by
                    rw [← hb]
                    by_cases c9 : i = 4
                    · rw [c9]
                      rfl
                    · rw [show (4 - i).toNat = (3 - i).toNat + 1 by omega]
                      exact bk_nm0 (fun hx => by
                        have := e31 (by omega)
                        omega)
                  refine k _ (fun q j hq => ?_) ?_
                  · exact (xa_up_ne (fun e9 => hq ⟨e9.1, by omega⟩)).trans (hk q j (fun e9 => hq ⟨e9.1, by omega⟩))
                  · show bk_N T e (M 50 5) (M1 50 6) 1 (M1 50 5)
                    exact ⟨_, hz, by omega, by omega, by omega⟩
                · intro (c29 : 0 < i)
                  refine And.intro ?_ ?_
                  · intro (c30 : 1 = 0)
                    exfalso
                    omega
                  · intro (c30 : ¬ 1 = 0)
                    show post none (xa_up (xa_up M1 50 7 1) 50 5 (xa_w32 ((M1 50 5) + i)))
                    have w1 : xa_w32 ((M1 50 5) + i) = (M1 50 5) + i := xa_w32_id (by omega) (by omega)
                    rw [w1] at c10 i22
                    have e31 : M 50 5 + i < 80 → M1 31 (M1 50 5 + i) = T (M 50 5 + i) := fun h => by
                      rw [e5]
                      exact hT1 _ (by omega) h
                    have hz : bk_nm T e 4 (M 50 5) 0 = (M 50 5 + i, M1 50 6) := by
                      rw [← hb]
                      by_cases c9 : i = 4
                      · rw [c9]
                        rfl
                      · rw [show (4 - i).toNat = (3 - i).toNat + 1 by omega]
                        exact bk_nm0 (fun hx => by
                          have := e31 (by omega)
                          omega)
                    refine k _ (fun q j hq => ?_) ?_
                    · exact (xa_up_ne (fun e9 => hq ⟨e9.1, by omega⟩)).trans ((xa_up_ne (fun e9 => hq ⟨e9.1, by omega⟩)).trans (hk q j (fun e9 => hq ⟨e9.1, by omega⟩)))
                    · show bk_N T e (M 50 5) (M1 50 6) 1 (xa_w32 ((M1 50 5) + i))
                      exact ⟨_, hz, by omega, by omega, by omega⟩
  refine hgo.1 12 [10] 0 _ _ _ ?_
  show Q 10 [(4, (0, 0, 0, 0, 0)), (3, (0, 0, 0, 0, 0)), (0, (2, 50, 0, 0, 0)), (1, (2, 30, 0, 0, 0)), (2, (0, 0, 0, 60, e))] [] (xa_up M 50 6 0)
  refine hgo.2.1 10 _ [(3, (0, 0, 0, 4, 0)), (4, (0, 0, 0, 4, 0)), (2, (0, 0, 0, 60, e)), (0, (2, 50, 0, 0, 0)), (1, (2, 30, 0, 0, 0))] _ _ (xa_subI rfl rfl (fun _ _ _ _ => by omega) (xa_subI rfl rfl (fun _ _ _ _ => by omega) (xa_subI rfl rfl (fun _ _ _ _ => by omega) (xa_subR rfl (xa_subR rfl (xa_sub0)))))) ?_
  exact loop 5 0 _ (by omega) (by omega) (fun q j hq => xa_up_ne hq) (by omega) (by rw [xa_up_eq, show M 50 5 + 0 = M 50 5 by omega]; rfl) (by rw [xa_up_eq]; omega) (by omega)
theorem cx_117_55 {b : Bool} {A : Nat → Nat} {h0 : g_H} {d : Nat} {M : xa_M} {post : Option xa_V → xa_M → Prop} {T : Int → Int} {l1 u1 e : Int} (hT : (∀ i, 0 ≤ i → i < 80 → M 31 i = T i)) (he : 0 ≤ e ∧ e ≤ 60 ∧ e ≤ M 30 1 ∧ M 30 1 ≤ 80) (hp : 0 ≤ M 55 5 ∧ M 55 5 ≤ e) (k : ∀ M1 : xa_M, (∀ q j, ¬ (q = 55 ∧ (j = 5 ∨ j = 6 ∨ j = 7)) → M1 q j = M q j) → bk_N T e (M 55 5) (M1 55 6) (M1 55 7) (M1 55 5) → post none M1) : xa_C (xl_I b) A h0 (d + 4) 117 [(2, 55, 0, 0, 0), (2, 30, 0, 0, 0), (0, 0, l1, u1, e)] M post := by
  refine xa_C_arg [(2, 55, 0, 0, 0), (2, 30, 0, 0, 0), (0, 0, 0, 60, e)] (xa_svR (xa_svR (xa_svI (fun _ _ _ _ => by omega) xa_sv0))) ?_
  refine xa_meth (Q0 := (5, 0, false, 0, 0, 0)) (by decide +kernel) ⟨rfl, rfl⟩ (full := s_c_117) rfl rfl ?_
  intro hM hv Q hgo
  have loop : ∀ (n : Nat) (i : Int) (M1 : xa_M), 0 ≤ i → i ≤ 4 → (∀ q j, ¬ (q = 55 ∧ j = 6) → M1 q j = M q j) → M 55 5 + i ≤ e → bk_nm T e (4 - i).toNat (M 55 5 + i) (M1 55 6) = bk_nm T e 4 (M 55 5) 0 → (0 ≤ M1 55 6 ∧ (i = 0 → M1 55 6 = 0) ∧ (i = 1 → M1 55 6 ≤ 9) ∧ (i = 2 → M1 55 6 ≤ 99) ∧ (i = 3 → M1 55 6 ≤ 999) ∧ (i = 4 → M1 55 6 ≤ 9999)) → 4 - i < (n : Int) → Q 10 [(3, (0, 0, 0, 4, i)), (4, (0, 0, 0, 4, i)), (2, (0, 0, 0, 60, e)), (0, (2, 55, 0, 0, 0)), (1, (2, 30, 0, 0, 0))] [] M1 := by
    intro n
    induction n with
    | zero => intro i M1 i0 i1 hk hp1 hb hv1 hms; omega
    | succ n ih =>
      intro i M1 i0 i1 hk hp1 hb hv1 hms
      have e5 : M1 55 5 = M 55 5 := hk 55 5 (by decide)
      have e30 : M1 30 1 = M 30 1 := hk 30 1 (by decide)
      have hT1 : (∀ i, 0 ≤ i → i < 80 → M1 31 i = T i) := fun i i0 i1 => (hk 31 i (by omega)).trans (hT i i0 i1)
      refine hgo.1 45 [10] 10 _ _ _ ?_
      refine And.intro ?_ ?_
      · intro (c1 : 4 ≤ i)
        refine And.intro ?_ ?_
        · intro (c2 : (M1 55 6) < 1)
          refine And.intro ?_ ?_
          · intro (c3 : i ≤ 0)
            show post none (xa_up M1 55 7 0)
            have e31 : M 55 5 + i < 80 → M1 31 (M1 55 5 + i) = T (M 55 5 + i) := fun h => by
              rw [e5]
              exact hT1 _ (by omega) h
            have hz : bk_nm T e 4 (M 55 5) 0 = (M 55 5 + i, M1 55 6) := by
              rw [← hb]
              by_cases c9 : i = 4
              · rw [c9]
                rfl
              · rw [show (4 - i).toNat = (3 - i).toNat + 1 by omega]
                exact bk_nm0 (fun hx => by
                  have := e31 (by omega)
                  omega)
            refine k _ (fun q j hq => ?_) ?_
            · exact (xa_up_ne (fun e9 => hq ⟨e9.1, by omega⟩)).trans (hk q j (fun e9 => hq ⟨e9.1, by omega⟩))
            · show bk_N T e (M 55 5) (M1 55 6) 0 (M1 55 5)
              exact ⟨_, hz, by omega, by omega, by omega⟩
          · intro (c3 : 0 < i)
            refine And.intro ?_ ?_
            · intro (c4 : 0 = 0)
              show post none (xa_up (xa_up M1 55 7 0) 55 5 (xa_w32 ((M1 55 5) + (i - 1))))
              have w1 : xa_w32 ((M1 55 5) + (i - 1)) = (M1 55 5) + (i - 1) := xa_w32_id (by omega) (by omega)
              have e31 : M 55 5 + i < 80 → M1 31 (M1 55 5 + i) = T (M 55 5 + i) := fun h => by
                rw [e5]
                exact hT1 _ (by omega) h
              have hz : bk_nm T e 4 (M 55 5) 0 = (M 55 5 + i, M1 55 6) := by
                rw [← hb]
                by_cases c9 : i = 4
                · rw [c9]
                  rfl
                · rw [show (4 - i).toNat = (3 - i).toNat + 1 by omega]
                  exact bk_nm0 (fun hx => by
                    have := e31 (by omega)
                    omega)
              refine k _ (fun q j hq => ?_) ?_
              · exact (xa_up_ne (fun e9 => hq ⟨e9.1, by omega⟩)).trans ((xa_up_ne (fun e9 => hq ⟨e9.1, by omega⟩)).trans (hk q j (fun e9 => hq ⟨e9.1, by omega⟩)))
              · show bk_N T e (M 55 5) (M1 55 6) 0 (xa_w32 ((M1 55 5) + (i - 1)))
                exact ⟨_, hz, by omega, by omega, by omega⟩
            · intro (c4 : ¬ 0 = 0)
              exfalso
              omega
        · intro (c2 : 1 ≤ (M1 55 6))
          refine And.intro ?_ ?_
          · intro (c5 : 2000 < (M1 55 6))
            refine And.intro ?_ ?_
            · intro (c6 : i ≤ 0)
              show post none (xa_up M1 55 7 0)
              have e31 : M 55 5 + i < 80 → M1 31 (M1 55 5 + i) = T (M 55 5 + i) := fun h => by
                rw [e5]
                exact hT1 _ (by omega) h
              have hz : bk_nm T e 4 (M 55 5) 0 = (M 55 5 + i, M1 55 6) := by
                rw [← hb]
                by_cases c9 : i = 4
                · rw [c9]
                  rfl
                · rw [show (4 - i).toNat = (3 - i).toNat + 1 by omega]
                  exact bk_nm0 (fun hx => by
                    have := e31 (by omega)
                    omega)
              refine k _ (fun q j hq => ?_) ?_
              · exact (xa_up_ne (fun e9 => hq ⟨e9.1, by omega⟩)).trans (hk q j (fun e9 => hq ⟨e9.1, by omega⟩))
              · show bk_N T e (M 55 5) (M1 55 6) 0 (M1 55 5)
                exact ⟨_, hz, by omega, by omega, by omega⟩
            · intro (c6 : 0 < i)
              refine And.intro ?_ ?_
              · intro (c7 : 0 = 0)
                show post none (xa_up (xa_up M1 55 7 0) 55 5 (xa_w32 ((M1 55 5) + (i - 1))))
                have w1 : xa_w32 ((M1 55 5) + (i - 1)) = (M1 55 5) + (i - 1) := xa_w32_id (by omega) (by omega)
                have e31 : M 55 5 + i < 80 → M1 31 (M1 55 5 + i) = T (M 55 5 + i) := fun h => by
                  rw [e5]
                  exact hT1 _ (by omega) h
                have hz : bk_nm T e 4 (M 55 5) 0 = (M 55 5 + i, M1 55 6) := by
                  rw [← hb]
                  by_cases c9 : i = 4
                  · rw [c9]
                    rfl
                  · rw [show (4 - i).toNat = (3 - i).toNat + 1 by omega]
                    exact bk_nm0 (fun hx => by
                      have := e31 (by omega)
                      omega)
                refine k _ (fun q j hq => ?_) ?_
                · exact (xa_up_ne (fun e9 => hq ⟨e9.1, by omega⟩)).trans ((xa_up_ne (fun e9 => hq ⟨e9.1, by omega⟩)).trans (hk q j (fun e9 => hq ⟨e9.1, by omega⟩)))
                · show bk_N T e (M 55 5) (M1 55 6) 0 (xa_w32 ((M1 55 5) + (i - 1)))
                  exact ⟨_, hz, by omega, by omega, by omega⟩
              · intro (c7 : ¬ 0 = 0)
                exfalso
                omega
          · intro (c5 : (M1 55 6) ≤ 2000)
            refine And.intro ?_ ?_
            · intro (c8 : i ≤ 0)
              show post none (xa_up M1 55 7 1)
              have e31 : M 55 5 + i < 80 → M1 31 (M1 55 5 + i) = T (M 55 5 + i) := fun h => by
                rw [e5]
                exact hT1 _ (by omega) h
              have hz : bk_nm T e 4 (M 55 5) 0 = (M 55 5 + i, M1 55 6) := by
                rw [← hb]
                by_cases c9 : i = 4
                · rw [c9]
                  rfl
                · rw [show (4 - i).toNat = (3 - i).toNat + 1 by omega]
                  exact bk_nm0 (fun hx => by
                    have := e31 (by omega)
                    omega)
              refine k _ (fun q j hq => ?_) ?_
              · exact (xa_up_ne (fun e9 => hq ⟨e9.1, by omega⟩)).trans (hk q j (fun e9 => hq ⟨e9.1, by omega⟩))
              · show bk_N T e (M 55 5) (M1 55 6) 1 (M1 55 5)
                exact ⟨_, hz, by omega, by omega, by omega⟩
            · intro (c8 : 0 < i)
              refine And.intro ?_ ?_
              · intro (c9 : 1 = 0)
                exfalso
                omega
              · intro (c9 : ¬ 1 = 0)
                show post none (xa_up (xa_up M1 55 7 1) 55 5 (xa_w32 ((M1 55 5) + i)))
                have w1 : xa_w32 ((M1 55 5) + i) = (M1 55 5) + i := xa_w32_id (by omega) (by omega)
                have e31 : M 55 5 + i < 80 → M1 31 (M1 55 5 + i) = T (M 55 5 + i) := fun h => by
                  rw [e5]
                  exact hT1 _ (by omega) h
                have hz : bk_nm T e 4 (M 55 5) 0 = (M 55 5 + i, M1 55 6) := by
                  rw [← hb]
                  by_cases c9 : i = 4
                  · rw [c9]
                    rfl
                  · rw [show (4 - i).toNat = (3 - i).toNat + 1 by omega]
                    exact bk_nm0 (fun hx => by
                      have := e31 (by omega)
                      omega)
                refine k _ (fun q j hq => ?_) ?_
                · exact (xa_up_ne (fun e9 => hq ⟨e9.1, by omega⟩)).trans ((xa_up_ne (fun e9 => hq ⟨e9.1, by omega⟩)).trans (hk q j (fun e9 => hq ⟨e9.1, by omega⟩)))
                · show bk_N T e (M 55 5) (M1 55 6) 1 (xa_w32 ((M1 55 5) + i))
                  exact ⟨_, hz, by omega, by omega, by omega⟩
      · intro (c1 : i < 4)
        refine And.intro ?_ ?_
        · intro (c10 : e ≤ (xa_w32 ((M1 55 5) + i)))
          refine And.intro ?_ ?_
          · intro (c11 : (M1 55 6) < 1)
            refine And.intro ?_ ?_
            · intro (c12 : i ≤ 0)
              show post none (xa_up M1 55 7 0)
              have w1 : xa_w32 ((M1 55 5) + i) = (M1 55 5) + i := xa_w32_id (by omega) (by omega)
              rw [w1] at c10
              have e31 : M 55 5 + i < 80 → M1 31 (M1 55 5 + i) = T (M 55 5 + i) := fun h => by
                rw [e5]
                exact hT1 _ (by omega) h
              have hz : bk_nm T e 4 (M 55 5) 0 = (M 55 5 + i, M1 55 6) := by
                rw [← hb]
                by_cases c9 : i = 4
                · rw [c9]
                  rfl
                · rw [show (4 - i).toNat = (3 - i).toNat + 1 by omega]
                  exact bk_nm0 (fun hx => by
                    have := e31 (by omega)
                    omega)
              refine k _ (fun q j hq => ?_) ?_
              · exact (xa_up_ne (fun e9 => hq ⟨e9.1, by omega⟩)).trans (hk q j (fun e9 => hq ⟨e9.1, by omega⟩))
              · show bk_N T e (M 55 5) (M1 55 6) 0 (M1 55 5)
                exact ⟨_, hz, by omega, by omega, by omega⟩
            · intro (c12 : 0 < i)
              refine And.intro ?_ ?_
              · intro (c13 : 0 = 0)
                show post none (xa_up (xa_up M1 55 7 0) 55 5 (xa_w32 ((M1 55 5) + (i - 1))))
                have w1 : xa_w32 ((M1 55 5) + i) = (M1 55 5) + i := xa_w32_id (by omega) (by omega)
                rw [w1] at c10
                have w2 : xa_w32 ((M1 55 5) + (i - 1)) = (M1 55 5) + (i - 1) := xa_w32_id (by omega) (by omega)
                have e31 : M 55 5 + i < 80 → M1 31 (M1 55 5 + i) = T (M 55 5 + i) := fun h => by
                  rw [e5]
                  exact hT1 _ (by omega) h
                have hz : bk_nm T e 4 (M 55 5) 0 = (M 55 5 + i, M1 55 6) := by
                  rw [← hb]
                  by_cases c9 : i = 4
                  · rw [c9]
                    rfl
                  · rw [show (4 - i).toNat = (3 - i).toNat + 1 by omega]
                    exact bk_nm0 (fun hx => by
                      have := e31 (by omega)
                      omega)
                refine k _ (fun q j hq => ?_) ?_
                · exact (xa_up_ne (fun e9 => hq ⟨e9.1, by omega⟩)).trans ((xa_up_ne (fun e9 => hq ⟨e9.1, by omega⟩)).trans (hk q j (fun e9 => hq ⟨e9.1, by omega⟩)))
                · show bk_N T e (M 55 5) (M1 55 6) 0 (xa_w32 ((M1 55 5) + (i - 1)))
                  exact ⟨_, hz, by omega, by omega, by omega⟩
              · intro (c13 : ¬ 0 = 0)
                exfalso
                omega
          · intro (c11 : 1 ≤ (M1 55 6))
            refine And.intro ?_ ?_
            · intro (c14 : 2000 < (M1 55 6))
              refine And.intro ?_ ?_
              · intro (c15 : i ≤ 0)
                show post none (xa_up M1 55 7 0)
                have w1 : xa_w32 ((M1 55 5) + i) = (M1 55 5) + i := xa_w32_id (by omega) (by omega)
                rw [w1] at c10
                have e31 : M 55 5 + i < 80 → M1 31 (M1 55 5 + i) = T (M 55 5 + i) := fun h => by
                  rw [e5]
                  exact hT1 _ (by omega) h
                have hz : bk_nm T e 4 (M 55 5) 0 = (M 55 5 + i, M1 55 6) := by
                  rw [← hb]
                  by_cases c9 : i = 4
                  · rw [c9]
                    rfl
                  · rw [show (4 - i).toNat = (3 - i).toNat + 1 by omega]
                    exact bk_nm0 (fun hx => by
                      have := e31 (by omega)
                      omega)
                refine k _ (fun q j hq => ?_) ?_
                · exact (xa_up_ne (fun e9 => hq ⟨e9.1, by omega⟩)).trans (hk q j (fun e9 => hq ⟨e9.1, by omega⟩))
                · show bk_N T e (M 55 5) (M1 55 6) 0 (M1 55 5)
                  exact ⟨_, hz, by omega, by omega, by omega⟩
              · intro (c15 : 0 < i)
                refine And.intro ?_ ?_
                · intro (c16 : 0 = 0)
                  show post none (xa_up (xa_up M1 55 7 0) 55 5 (xa_w32 ((M1 55 5) + (i - 1))))
                  have w1 : xa_w32 ((M1 55 5) + i) = (M1 55 5) + i := xa_w32_id (by omega) (by omega)
                  rw [w1] at c10
                  have w2 : xa_w32 ((M1 55 5) + (i - 1)) = (M1 55 5) + (i - 1) := xa_w32_id (by omega) (by omega)
                  have e31 : M 55 5 + i < 80 → M1 31 (M1 55 5 + i) = T (M 55 5 + i) := fun h => by
                    rw [e5]
                    exact hT1 _ (by omega) h
                  have hz : bk_nm T e 4 (M 55 5) 0 = (M 55 5 + i, M1 55 6) := by
                    rw [← hb]
                    by_cases c9 : i = 4
                    · rw [c9]
                      rfl
                    · rw [show (4 - i).toNat = (3 - i).toNat + 1 by omega]
                      exact bk_nm0 (fun hx => by
                        have := e31 (by omega)
                        omega)
                  refine k _ (fun q j hq => ?_) ?_
                  · exact (xa_up_ne (fun e9 => hq ⟨e9.1, by omega⟩)).trans ((xa_up_ne (fun e9 => hq ⟨e9.1, by omega⟩)).trans (hk q j (fun e9 => hq ⟨e9.1, by omega⟩)))
                  · show bk_N T e (M 55 5) (M1 55 6) 0 (xa_w32 ((M1 55 5) + (i - 1)))
                    exact ⟨_, hz, by omega, by omega, by omega⟩
                · intro (c16 : ¬ 0 = 0)
                  exfalso
                  omega
            · intro (c14 : (M1 55 6) ≤ 2000)
              refine And.intro ?_ ?_
              · intro (c17 : i ≤ 0)
                show post none (xa_up M1 55 7 1)
                have w1 : xa_w32 ((M1 55 5) + i) = (M1 55 5) + i := xa_w32_id (by omega) (by omega)
                rw [w1] at c10
                have e31 : M 55 5 + i < 80 → M1 31 (M1 55 5 + i) = T (M 55 5 + i) := fun h => by
                  rw [e5]
                  exact hT1 _ (by omega) h
                have hz : bk_nm T e 4 (M 55 5) 0 = (M 55 5 + i, M1 55 6) := by
                  rw [← hb]
                  by_cases c9 : i = 4
                  · rw [c9]
                    rfl
                  · rw [show (4 - i).toNat = (3 - i).toNat + 1 by omega]
                    exact bk_nm0 (fun hx => by
                      have := e31 (by omega)
                      omega)
                refine k _ (fun q j hq => ?_) ?_
                · exact (xa_up_ne (fun e9 => hq ⟨e9.1, by omega⟩)).trans (hk q j (fun e9 => hq ⟨e9.1, by omega⟩))
                · show bk_N T e (M 55 5) (M1 55 6) 1 (M1 55 5)
                  exact ⟨_, hz, by omega, by omega, by omega⟩
              · intro (c17 : 0 < i)
                refine And.intro ?_ ?_
                · intro (c18 : 1 = 0)
                  exfalso
                  omega
                · intro (c18 : ¬ 1 = 0)
                  show post none (xa_up (xa_up M1 55 7 1) 55 5 (xa_w32 ((M1 55 5) + i)))
                  have w1 : xa_w32 ((M1 55 5) + i) = (M1 55 5) + i := xa_w32_id (by omega) (by omega)
                  rw [w1] at c10
                  have e31 : M 55 5 + i < 80 → M1 31 (M1 55 5 + i) = T (M 55 5 + i) := fun h => by
                    rw [e5]
                    exact hT1 _ (by omega) h
                  have hz : bk_nm T e 4 (M 55 5) 0 = (M 55 5 + i, M1 55 6) := by
                    rw [← hb]
                    by_cases c9 : i = 4
                    · rw [c9]
                      rfl
                    · rw [show (4 - i).toNat = (3 - i).toNat + 1 by omega]
                      exact bk_nm0 (fun hx => by
                        have := e31 (by omega)
                        omega)
                  refine k _ (fun q j hq => ?_) ?_
                  · exact (xa_up_ne (fun e9 => hq ⟨e9.1, by omega⟩)).trans ((xa_up_ne (fun e9 => hq ⟨e9.1, by omega⟩)).trans (hk q j (fun e9 => hq ⟨e9.1, by omega⟩)))
                  · show bk_N T e (M 55 5) (M1 55 6) 1 (xa_w32 ((M1 55 5) + i))
                    exact ⟨_, hz, by omega, by omega, by omega⟩
        · intro (c10 : (xa_w32 ((M1 55 5) + i)) < e)
          show xa_C (xl_I b) A h0 _ 118 [(2, 30, 0, 0, 0), (0, 0, (-2147483648), 2147483647, xa_w32 ((M1 55 5) + i))] M1 _
          refine cg_118 (show 0 ≤ (M1 30 1) ∧ (M1 30 1) ≤ 80 by omega) ?_ ?_
          · intro (i19 : (0 ≤ (xa_w32 ((M1 55 5) + i)) ∧ (xa_w32 ((M1 55 5) + i)) < (M1 30 1)) ∧ 48 ≤ M1 31 (xa_w32 ((M1 55 5) + i)) ∧ M1 31 (xa_w32 ((M1 55 5) + i)) ≤ 57)
            show xa_C (xl_I b) A h0 _ 119 [(2, 30, 0, 0, 0), (0, 0, (-2147483648), 2147483647, xa_w32 ((M1 55 5) + i))] M1 _
            refine cg_119 (show 0 ≤ (M1 30 1) ∧ (M1 30 1) ≤ 80 by omega) ?_ ?_
            · intro (i20 : 0 ≤ (xa_w32 ((M1 55 5) + i)) ∧ (xa_w32 ((M1 55 5) + i)) < (M1 30 1))
              show Q 10 [(4, (0, 0, 1, 5, i + 1)), (3, (0, 0, 1, 5, i + 1)), (2, (0, 0, 0, 60, e)), (0, (2, 55, 0, 0, 0)), (1, (2, 30, 0, 0, 0))] [] (xa_up M1 55 6 (xa_w32 ((xa_w32 ((xa_w32 ((M1 55 6) * 10)) + (M1 31 (xa_w32 ((M1 55 5) + i))))) - 48)))
              have w1 : xa_w32 ((M1 55 5) + i) = (M1 55 5) + i := xa_w32_id (by omega) (by omega)
              rw [w1] at c10 i19 i20
              have w2 : xa_w32 ((M1 55 6) * 10) = (M1 55 6) * 10 := xa_w32_id (by omega) (by omega)
              have e31 := hT1 (M1 55 5 + i) (by omega) (by omega)
              have e32 : T (M1 55 5 + i) = T (M 55 5 + i) := by rw [e5]
              have w3 : xa_w32 ((((M1 55 6) * 10)) + (M1 31 (((M1 55 5) + i)))) = (((M1 55 6) * 10)) + (M1 31 (((M1 55 5) + i))) := xa_w32_id (by omega) (by omega)
              have w4 : xa_w32 ((((((M1 55 6) * 10)) + (M1 31 (((M1 55 5) + i))))) - 48) = (((((M1 55 6) * 10)) + (M1 31 (((M1 55 5) + i))))) - 48 := xa_w32_id (by omega) (by omega)
              have ev : xa_w32 ((xa_w32 ((xa_w32 ((M1 55 6) * 10)) + (M1 31 (xa_w32 ((M1 55 5) + i))))) - 48) = M1 55 6 * 10 + T (M 55 5 + i) - 48 := by
                rw [w1, w2, w3, w4]
                omega
              refine hgo.2.1 10 _ [(3, (0, 0, 0, 4, i + 1)), (4, (0, 0, 0, 4, i + 1)), (2, (0, 0, 0, 60, e)), (0, (2, 55, 0, 0, 0)), (1, (2, 30, 0, 0, 0))] _ _ (xa_subI rfl rfl (fun _ _ _ _ => by omega) (xa_subI rfl rfl (fun _ _ _ _ => by omega) (xa_subI rfl rfl (fun _ _ _ _ => by omega) (xa_subR rfl (xa_subR rfl (xa_sub0)))))) ?_
              exact ih (i + 1) _ (by omega) (by omega) (fun q j hq => (xa_up_ne hq).trans (hk q j hq)) (by omega) (by rw [xa_up_eq, ev, show M 55 5 + (i + 1) = M 55 5 + i + 1 by omega, ← bk_nm1 (by omega), show (4 - (i + 1)).toNat + 1 = (4 - i).toNat by omega]; exact hb) (by rw [xa_up_eq]; omega) (by omega)
            · intro (i21 : ¬ (0 ≤ (xa_w32 ((M1 55 5) + i)) ∧ (xa_w32 ((M1 55 5) + i)) < (M1 30 1)))
              exfalso
              omega
          · intro (i22 : ¬ ((0 ≤ (xa_w32 ((M1 55 5) + i)) ∧ (xa_w32 ((M1 55 5) + i)) < (M1 30 1)) ∧ 48 ≤ M1 31 (xa_w32 ((M1 55 5) + i)) ∧ M1 31 (xa_w32 ((M1 55 5) + i)) ≤ 57))
            refine And.intro ?_ ?_
            · intro (c23 : (M1 55 6) < 1)
              refine And.intro ?_ ?_
              · intro (c24 : i ≤ 0)
                show post none (xa_up M1 55 7 0)
                have w1 : xa_w32 ((M1 55 5) + i) = (M1 55 5) + i := xa_w32_id (by omega) (by omega)
                rw [w1] at c10 i22
                have e31 : M 55 5 + i < 80 → M1 31 (M1 55 5 + i) = T (M 55 5 + i) := fun h => by
                  rw [e5]
                  exact hT1 _ (by omega) h
                have hz : bk_nm T e 4 (M 55 5) 0 = (M 55 5 + i, M1 55 6) := by
                  rw [← hb]
                  by_cases c9 : i = 4
                  · rw [c9]
                    rfl
                  · rw [show (4 - i).toNat = (3 - i).toNat + 1 by omega]
                    exact bk_nm0 (fun hx => by
                      have := e31 (by omega)
                      omega)
                refine k _ (fun q j hq => ?_) ?_
                · exact (xa_up_ne (fun e9 => hq ⟨e9.1, by omega⟩)).trans (hk q j (fun e9 => hq ⟨e9.1, by omega⟩))
                · show bk_N T e (M 55 5) (M1 55 6) 0 (M1 55 5)
                  exact ⟨_, hz, by omega, by omega, by omega⟩
              · intro (c24 : 0 < i)
                refine And.intro ?_ ?_
                · intro (c25 : 0 = 0)
                  show post none (xa_up (xa_up M1 55 7 0) 55 5 (xa_w32 ((M1 55 5) + (i - 1))))
                  have w1 : xa_w32 ((M1 55 5) + i) = (M1 55 5) + i := xa_w32_id (by omega) (by omega)
                  rw [w1] at c10 i22
                  have w2 : xa_w32 ((M1 55 5) + (i - 1)) = (M1 55 5) + (i - 1) := xa_w32_id (by omega) (by omega)
                  have e31 : M 55 5 + i < 80 → M1 31 (M1 55 5 + i) = T (M 55 5 + i) := fun h => by
                    rw [e5]
                    exact hT1 _ (by omega) h
                  have hz : bk_nm T e 4 (M 55 5) 0 = (M 55 5 + i, M1 55 6) := by
                    rw [← hb]
                    by_cases c9 : i = 4
                    · rw [c9]
                      rfl
                    · rw [show (4 - i).toNat = (3 - i).toNat + 1 by omega]
                      exact bk_nm0 (fun hx => by
                        have := e31 (by omega)
                        omega)
                  refine k _ (fun q j hq => ?_) ?_
                  · exact (xa_up_ne (fun e9 => hq ⟨e9.1, by omega⟩)).trans ((xa_up_ne (fun e9 => hq ⟨e9.1, by omega⟩)).trans (hk q j (fun e9 => hq ⟨e9.1, by omega⟩)))
                  · show bk_N T e (M 55 5) (M1 55 6) 0 (xa_w32 ((M1 55 5) + (i - 1)))
                    exact ⟨_, hz, by omega, by omega, by omega⟩
                · intro (c25 : ¬ 0 = 0)
                  exfalso
                  omega
            · intro (c23 : 1 ≤ (M1 55 6))
              refine And.intro ?_ ?_
              · intro (c26 : 2000 < (M1 55 6))
                refine And.intro ?_ ?_
                · intro (c27 : i ≤ 0)
                  show post none (xa_up M1 55 7 0)
                  have w1 : xa_w32 ((M1 55 5) + i) = (M1 55 5) + i := xa_w32_id (by omega) (by omega)
                  rw [w1] at c10 i22
                  have e31 : M 55 5 + i < 80 → M1 31 (M1 55 5 + i) = T (M 55 5 + i) := fun h => by
                    rw [e5]
                    exact hT1 _ (by omega) h
                  have hz : bk_nm T e 4 (M 55 5) 0 = (M 55 5 + i, M1 55 6) := by
                    rw [← hb]
                    by_cases c9 : i = 4
                    · rw [c9]
                      rfl
                    · rw [show (4 - i).toNat = (3 - i).toNat + 1 by omega]
                      exact bk_nm0 (fun hx => by
                        have := e31 (by omega)
                        omega)
                  refine k _ (fun q j hq => ?_) ?_
                  · exact (xa_up_ne (fun e9 => hq ⟨e9.1, by omega⟩)).trans (hk q j (fun e9 => hq ⟨e9.1, by omega⟩))
                  · show bk_N T e (M 55 5) (M1 55 6) 0 (M1 55 5)
                    exact ⟨_, hz, by omega, by omega, by omega⟩
                · intro (c27 : 0 < i)
                  refine And.intro ?_ ?_
                  · intro (c28 : 0 = 0)
                    show post none (xa_up (xa_up M1 55 7 0) 55 5 (xa_w32 ((M1 55 5) + (i - 1))))
                    have w1 : xa_w32 ((M1 55 5) + i) = (M1 55 5) + i := xa_w32_id (by omega) (by omega)
                    rw [w1] at c10 i22
                    have w2 : xa_w32 ((M1 55 5) + (i - 1)) = (M1 55 5) + (i - 1) := xa_w32_id (by omega) (by omega)
                    have e31 : M 55 5 + i < 80 → M1 31 (M1 55 5 + i) = T (M 55 5 + i) := fun h => by
                      rw [e5]
                      exact hT1 _ (by omega) h
                    have hz : bk_nm T e 4 (M 55 5) 0 = (M 55 5 + i, M1 55 6) := by
                      rw [← hb]
                      by_cases c9 : i = 4
                      · rw [c9]
                        rfl
                      · rw [show (4 - i).toNat = (3 - i).toNat + 1 by omega]
                        exact bk_nm0 (fun hx => by
                          have := e31 (by omega)
                          omega)
                    refine k _ (fun q j hq => ?_) ?_
                    · exact (xa_up_ne (fun e9 => hq ⟨e9.1, by omega⟩)).trans ((xa_up_ne (fun e9 => hq ⟨e9.1, by omega⟩)).trans (hk q j (fun e9 => hq ⟨e9.1, by omega⟩)))
                    · show bk_N T e (M 55 5) (M1 55 6) 0 (xa_w32 ((M1 55 5) + (i - 1)))
                      exact ⟨_, hz, by omega, by omega, by omega⟩
                  · intro (c28 : ¬ 0 = 0)
                    exfalso
                    omega
              · intro (c26 : (M1 55 6) ≤ 2000)
                refine And.intro ?_ ?_
                · intro (c29 : i ≤ 0)
                  show post none (xa_up M1 55 7 1)
                  have w1 : xa_w32 ((M1 55 5) + i) = (M1 55 5) + i := xa_w32_id (by omega) (by omega)
                  rw [w1] at c10 i22
                  have e31 : M 55 5 + i < 80 → M1 31 (M1 55 5 + i) = T (M 55 5 + i) := fun h => by
                    rw [e5]
                    exact hT1 _ (by omega) h
                  have hz : bk_nm T e 4 (M 55 5) 0 = (M 55 5 + i, M1 55 6) := by
                    rw [← hb]
                    by_cases c9 : i = 4
                    · rw [c9]
                      rfl
                    · rw [show (4 - i).toNat = (3 - i).toNat + 1 by omega]
                      exact bk_nm0 (fun hx => by
                        have := e31 (by omega)
                        omega)
                  refine k _ (fun q j hq => ?_) ?_
                  · exact (xa_up_ne (fun e9 => hq ⟨e9.1, by omega⟩)).trans (hk q j (fun e9 => hq ⟨e9.1, by omega⟩))
                  · show bk_N T e (M 55 5) (M1 55 6) 1 (M1 55 5)
                    exact ⟨_, hz, by omega, by omega, by omega⟩
                · intro (c29 : 0 < i)
                  refine And.intro ?_ ?_
                  · intro (c30 : 1 = 0)
                    exfalso
                    omega
                  · intro (c30 : ¬ 1 = 0)
                    show post none (xa_up (xa_up M1 55 7 1) 55 5 (xa_w32 ((M1 55 5) + i)))
                    have w1 : xa_w32 ((M1 55 5) + i) = (M1 55 5) + i := xa_w32_id (by omega) (by omega)
                    rw [w1] at c10 i22
                    have e31 : M 55 5 + i < 80 → M1 31 (M1 55 5 + i) = T (M 55 5 + i) := fun h => by
                      rw [e5]
                      exact hT1 _ (by omega) h
                    have hz : bk_nm T e 4 (M 55 5) 0 = (M 55 5 + i, M1 55 6) := by
                      rw [← hb]
                      by_cases c9 : i = 4
                      · rw [c9]
                        rfl
                      · rw [show (4 - i).toNat = (3 - i).toNat + 1 by omega]
                        exact bk_nm0 (fun hx => by
                          have := e31 (by omega)
                          omega)
                    refine k _ (fun q j hq => ?_) ?_
                    · exact (xa_up_ne (fun e9 => hq ⟨e9.1, by omega⟩)).trans ((xa_up_ne (fun e9 => hq ⟨e9.1, by omega⟩)).trans (hk q j (fun e9 => hq ⟨e9.1, by omega⟩)))
                    · show bk_N T e (M 55 5) (M1 55 6) 1 (xa_w32 ((M1 55 5) + i))
                      exact ⟨_, hz, by omega, by omega, by omega⟩
  refine hgo.1 12 [10] 0 _ _ _ ?_
  show Q 10 [(4, (0, 0, 0, 0, 0)), (3, (0, 0, 0, 0, 0)), (0, (2, 55, 0, 0, 0)), (1, (2, 30, 0, 0, 0)), (2, (0, 0, 0, 60, e))] [] (xa_up M 55 6 0)
  refine hgo.2.1 10 _ [(3, (0, 0, 0, 4, 0)), (4, (0, 0, 0, 4, 0)), (2, (0, 0, 0, 60, e)), (0, (2, 55, 0, 0, 0)), (1, (2, 30, 0, 0, 0))] _ _ (xa_subI rfl rfl (fun _ _ _ _ => by omega) (xa_subI rfl rfl (fun _ _ _ _ => by omega) (xa_subI rfl rfl (fun _ _ _ _ => by omega) (xa_subR rfl (xa_subR rfl (xa_sub0)))))) ?_
  exact loop 5 0 _ (by omega) (by omega) (fun q j hq => xa_up_ne hq) (by omega) (by rw [xa_up_eq, show M 55 5 + 0 = M 55 5 by omega]; rfl) (by rw [xa_up_eq]; omega) (by omega)

-- depths, on both sides (made by wip/u/mkdp.py)
set_option maxRecDepth 20000
-- depths: bits of fourteen, layers (by hand)
/-- of the first fourteen bits alone -/
abbrev bs (x : Int) : Prop := 0 ≤ x ∧ x < 16384
theorem bn_of {x : Int} (h : bs x) : (Int32.ofInt x).toBitVec.toNat = x.toNat := by
  obtain ⟨h0, h1⟩ := h
  rw [Int32.toBitVec_ofInt, BitVec.toNat_ofInt, show ((2 ^ 32 : Nat) : Int) = 4294967296 from rfl, Int.emod_eq_of_lt h0 (by omega)]
theorem bs_of {z : Int32} (h : z.toBitVec.toNat < 16384) : bs z.toInt := by
  rw [← Int32.toInt_toBitVec, BitVec.toInt_eq_toNat_of_lt (by omega)]
  unfold bs
  omega
theorem bs_and {x y : Int} (h : bs x) : bs (xa_ib 3 x y) := by
  refine bs_of (z := Int32.ofInt x &&& Int32.ofInt y) ?_
  rw [Int32.toBitVec_and, BitVec.toNat_and, bn_of h]
  have h1 := h.1
  have h2 := h.2
  exact Nat.lt_of_le_of_lt Nat.and_le_left (by omega)
theorem bs_or {x y : Int} (h : bs x) (h' : bs y) : bs (xa_ib 4 x y) := by
  refine bs_of (z := Int32.ofInt x ||| Int32.ofInt y) ?_
  rw [Int32.toBitVec_or, BitVec.toNat_or, bn_of h, bn_of h']
  have h1 := h.1
  have h2 := h.2
  have h3 := h'.1
  have h4 := h'.2
  exact Nat.or_lt_two_pow (n := 14) (show x.toNat < 2 ^ 14 by omega) (show y.toNat < 2 ^ 14 by omega)
theorem bs_0 : bs 0 := ⟨Int.le_refl 0, by decide⟩
theorem bt_and {a b w : Int} (w0 : 0 ≤ w) (w1 : w < 31) : bt (xa_ib 3 a b) w = 1 ↔ bt a w = 1 ∧ bt b w = 1 := by
  rw [bt_1 w0 w1, bt_1 w0 w1, bt_1 w0 w1]
  have e : Int32.ofInt (xa_ib 3 a b) = Int32.ofInt a &&& Int32.ofInt b := by
    show Int32.ofInt (Int32.ofInt a &&& Int32.ofInt b).toInt = _
    rw [Int32.ofInt_toInt]
  rw [e, Int32.toBitVec_and, BitVec.getLsbD_and, Bool.and_eq_true]
theorem bt_xm {a w : Int} (w0 : 0 ≤ w) (w1 : w < 31) : bt (xa_ib 5 a (-1)) w = 1 ↔ ¬ bt a w = 1 := by
  rw [bt_1 w0 w1, bt_1 w0 w1]
  have e : Int32.ofInt (xa_ib 5 a (-1)) = Int32.ofInt a ^^^ Int32.ofInt (-1) := by
    show Int32.ofInt (Int32.ofInt a ^^^ Int32.ofInt (-1)).toInt = _
    rw [Int32.ofInt_toInt]
  have key : ∀ n : Nat, n < 31 → (Int32.ofInt (-1)).toBitVec.getLsbD n = true := by decide +kernel
  rw [e, Int32.toBitVec_xor, BitVec.getLsbD_xor, key w.toNat (by omega)]
  cases (Int32.ofInt a).toBitVec.getLsbD w.toNat <;> simp
theorem bt01 {a w : Int} (w0 : 0 ≤ w) (w1 : w < 31) : bt a w = 0 ∨ bt a w = 1 := by
  rw [bt_eq w0 w1]
  cases (Int32.ofInt a).toBitVec.getLsbD w.toNat <;> simp
theorem bt_all {k w : Int} (k0 : 0 ≤ k) (k1 : k ≤ 14) (w0 : 0 ≤ w) (w1 : w < 31) : bt (xa_w32 (xa_ib 6 1 k - 1)) w = 1 ↔ w < k := by
  have key : (List.range 15).all (fun k => (List.range 31).all (fun w => decide (bt (xa_w32 (xa_ib 6 1 (k : Int) - 1)) (w : Int) = 1) == decide ((w : Int) < (k : Int)))) = true := by decide +kernel
  have h := List.all_eq_true.mp (List.all_eq_true.mp key k.toNat (List.mem_range.mpr (by omega))) w.toNat (List.mem_range.mpr (by omega))
  rw [Int.toNat_of_nonneg k0, Int.toNat_of_nonneg w0, beq_iff_eq] at h
  exact decide_eq_decide.mp h
theorem bs_all {k : Int} (k0 : 0 ≤ k) (k1 : k ≤ 14) : bs (xa_w32 (xa_ib 6 1 k - 1)) := by
  have key : (List.range 15).all (fun k => decide (0 ≤ xa_w32 (xa_ib 6 1 (k : Int) - 1)) && decide (xa_w32 (xa_ib 6 1 (k : Int) - 1) < 16384)) = true := by decide +kernel
  have h := List.all_eq_true.mp key k.toNat (List.mem_range.mpr (by omega))
  rw [Int.toNat_of_nonneg k0, Bool.and_eq_true, decide_eq_true_eq, decide_eq_true_eq] at h
  exact h
theorem bs_beh {k g : Int} (k0 : 0 ≤ k) (k1 : k ≤ 14) (g0 : 0 ≤ g) (g1 : g < k) : bs (xa_w32 (xa_ib 6 1 k - xa_ib 6 2 g)) := by
  have key : (List.range 15).all (fun k => (List.range k).all (fun g => decide (0 ≤ xa_w32 (xa_ib 6 1 (k : Int) - xa_ib 6 2 (g : Int))) && decide (xa_w32 (xa_ib 6 1 (k : Int) - xa_ib 6 2 (g : Int)) < 16384))) = true := by decide +kernel
  have h := List.all_eq_true.mp (List.all_eq_true.mp key k.toNat (List.mem_range.mpr (by omega))) g.toNat (List.mem_range.mpr (by omega))
  rw [Int.toNat_of_nonneg k0, Int.toNat_of_nonneg g0, Bool.and_eq_true, decide_eq_true_eq, decide_eq_true_eq] at h
  exact h
theorem bs_z {x : Int} (h : bs x) (e : ∀ w, 0 ≤ w → w < 14 → ¬ bt x w = 1) : x = 0 := by
  have h1 := h.1
  have h2 := h.2
  have hz : x.toNat = 0 := by
    refine Nat.eq_of_testBit_eq (fun i => ?_)
    rw [Nat.zero_testBit]
    by_cases c : i < 14
    · have g := e (i : Int) (by omega) (by omega)
      rw [bt_1 (by omega) (by omega), Int.toNat_natCast] at g
      have g2 : ¬ (Int32.ofInt x).toBitVec.toNat.testBit i = true := g
      rw [bn_of h] at g2
      exact Bool.eq_false_iff.mpr g2
    · exact Nat.testBit_lt_two_pow (Nat.lt_of_lt_of_le (show x.toNat < 2 ^ 14 by omega) (Nat.pow_le_pow_right (by decide) (by omega)))
  omega
theorem bs_low {s : Int} (h : bs s) (h0 : ¬ s = 0) : ¬ xa_ib 3 s (-s) = 0 := by
  intro e
  have e1 : Int32.ofInt s &&& Int32.ofInt (-s) = 0 := Int32.toInt_inj.mp (show (Int32.ofInt s &&& Int32.ofInt (-s)).toInt = (0 : Int32).toInt from e.trans rfl)
  have e2 : BitVec.ofInt 32 s &&& -BitVec.ofInt 32 s = 0#32 := by
    have e3 := congrArg Int32.toBitVec e1
    rw [Int32.toBitVec_and, Int32.toBitVec_ofInt, Int32.toBitVec_ofInt, BitVec.ofInt_neg] at e3
    exact e3
  have e3 := BitVec.add_eq_or_of_and_eq_zero _ _ e2
  rw [BitVec.add_right_neg] at e3
  have e4 := (BitVec.or_eq_zero_iff.mp e3.symm).1
  have e5 := bn_of h
  rw [Int32.toBitVec_ofInt, e4] at e5
  have e6 : 0 = s.toNat := e5
  have := h.1
  omega
/-- how many -/
def cn (x : Int) : Int := xk_n (fun w => 1 - bt x w) 0 14
theorem cn_le (x : Int) : 0 ≤ cn x ∧ cn x ≤ 14 := by
  have h := xk_b (f := fun w => 1 - bt x w) (c := 0) 14
  unfold cn
  omega
theorem cn_mn {x y : Int} (h : ∀ w, 0 ≤ w → w < 14 → bt x w = 1 → bt y w = 1) : cn x ≤ cn y := by
  show xk_n (fun w => 1 - bt x w) 0 14 ≤ xk_n (fun w => 1 - bt y w) 0 14
  refine xk_mn 14 (fun w w0 w1 e => ?_)
  have e' : 1 - bt x w ≤ 0 := e
  rcases bt01 (a := x) w0 (show w < 31 by omega) with c | c
  · omega
  · have := h w w0 (by omega) c
    show 1 - bt y w ≤ 0
    omega
theorem cn_lt {x y v : Int} (h : ∀ w, 0 ≤ w → w < 14 → bt x w = 1 → bt y w = 1) (v0 : 0 ≤ v) (v1 : v < 14) (hy : bt y v = 1) (hx : ¬ bt x v = 1) : cn x + 1 ≤ cn y := by
  show xk_n (fun w => 1 - bt x w) 0 14 + 1 ≤ xk_n (fun w => 1 - bt y w) 0 14
  refine xk_lt 14 v (fun w w0 w1 e => ?_) v0 (by omega) (show 1 - bt y v ≤ 0 by omega) (fun e => ?_)
  · have e' : 1 - bt x w ≤ 0 := e
    rcases bt01 (a := x) w0 (show w < 31 by omega) with c | c
    · omega
    · have := h w w0 (by omega) c
      show 1 - bt y w ≤ 0
      omega
  · have e' : 1 - bt x v ≤ 0 := e
    rcases bt01 (a := x) v0 (show v < 31 by omega) with c | c
    · omega
    · exact hx c
theorem cn_1 {x v : Int} (v0 : 0 ≤ v) (v1 : v < 14) (hb : bt x v = 1) : 1 ≤ cn x := by
  have h := cn_lt (x := 0) (y := x) (v := v) (fun u u0 u1 hu => absurd hu (bt_0 u0 (by omega))) v0 v1 hb (bt_0 v0 (by omega))
  have := (cn_le 0).1
  omega
theorem cn_0 {x : Int} (h : bs x) (e : cn x ≤ 0) : x = 0 := bs_z h (fun w w0 w1 hb => by
  have := cn_1 w0 w1 hb
  omega)
theorem dq_F (P : Int → Prop) (f1 f2 : Int → Int) : ∃ F : Int → Int, (∀ g, P g → F g = f1 g) ∧ ∀ g, ¬ P g → F g = f2 g := ⟨fun g => @ite Int (P g) (Classical.propDecidable _) (f1 g) (f2 g), fun _ h => if_pos h, fun _ h => if_neg h⟩
/-- those of S can each have one of k layers, by what others have -/
def dq_X (n : Int) (C : Int → Int → Prop) (S : Int → Prop) (L : Int → Int) (k : Int) : Prop := ∃ f : Int → Int, (∀ g, 0 ≤ g → g < n → S g → 0 ≤ f g ∧ f g < k) ∧ (∀ g h, 0 ≤ g → g < n → 0 ≤ h → h < n → S g → S h → C g h → ¬ f g = f h) ∧ (∀ g h, 0 ≤ g → g < n → 0 ≤ h → h < n → S g → ¬ L h = -1 → C g h → ¬ f g = L h)
def dq_s (n : Int) (C : Int → Int → Prop) : Prop := (∀ g h, 0 ≤ g → g < n → 0 ≤ h → h < n → C g h → C h g) ∧ ∀ g, 0 ≤ g → g < n → ¬ C g g
section DQ
variable {n k U g c : Int} {C : Int → Int → Prop} {S S1 S2 S' : Int → Prop} {L L' : Int → Int}
theorem dq_X0 (h : ∀ g, 0 ≤ g → g < n → ¬ S g) : dq_X n C S L k := ⟨fun _ => 0, fun g g0 g1 s => absurd s (h g g0 g1), fun g _ g0 g1 _ _ s => absurd s (h g g0 g1), fun g _ g0 g1 _ _ s => absurd s (h g g0 g1)⟩
theorem dq_Xs (e : ∀ g, 0 ≤ g → g < n → S1 g → S g) (eL : ∀ g, 0 ≤ g → g < n → L' g = L g) (h : dq_X n C S L k) : dq_X n C S1 L' k := by
  obtain ⟨f, a1, a2, a3⟩ := h
  refine ⟨f, fun g g0 g1 s => a1 g g0 g1 (e g g0 g1 s), fun g h g0 g1 h0 h1 s t => a2 g h g0 g1 h0 h1 (e g g0 g1 s) (e h h0 h1 t), fun g h g0 g1 h0 h1 s l => ?_⟩
  rw [eL h h0 h1] at l ⊢
  exact a3 g h g0 g1 h0 h1 (e g g0 g1 s) l
theorem dq_Xu (hs : dq_s n C) (e : ∀ g, 0 ≤ g → g < n → S g → S1 g ∨ S2 g) (hn : ∀ g h, 0 ≤ g → g < n → 0 ≤ h → h < n → S1 g → S2 h → ¬ C g h) (h1 : dq_X n C S1 L k) (h2 : dq_X n C S2 L k) : dq_X n C S L k := by
  obtain ⟨f1, a1, a2, a3⟩ := h1
  obtain ⟨f2, b1, b2, b3⟩ := h2
  obtain ⟨F, p, q⟩ := dq_F S1 f1 f2
  refine ⟨F, fun g g0 g1 s => ?_, fun g h g0 g1 h0 h1 s t c => ?_, fun g h g0 g1 h0 h1 s l c => ?_⟩
  · by_cases z : S1 g
    · rw [p g z]
      exact a1 g g0 g1 z
    · rw [q g z]
      exact b1 g g0 g1 ((e g g0 g1 s).resolve_left z)
  · by_cases z : S1 g
    · by_cases y : S1 h
      · rw [p g z, p h y]
        exact a2 g h g0 g1 h0 h1 z y c
      · exact absurd c (hn g h g0 g1 h0 h1 z ((e h h0 h1 t).resolve_left y))
    · by_cases y : S1 h
      · exact absurd (hs.1 g h g0 g1 h0 h1 c) (hn h g h0 h1 g0 g1 y ((e g g0 g1 s).resolve_left z))
      · rw [q g z, q h y]
        exact b2 g h g0 g1 h0 h1 ((e g g0 g1 s).resolve_left z) ((e h h0 h1 t).resolve_left y) c
  · by_cases z : S1 g
    · rw [p g z]
      exact a3 g h g0 g1 h0 h1 z l c
    · rw [q g z]
      exact b3 g h g0 g1 h0 h1 ((e g g0 g1 s).resolve_left z) l c
theorem dq_Xi (hs : dq_s n C) (g0 : 0 ≤ g) (g1 : g < n) (hLg : L g = -1) (hS' : ∀ x, 0 ≤ x → x < n → S x → ¬ x = g → S' x) (eL : L' g = c) (eL' : ∀ x, ¬ x = g → L' x = L x) (c0 : 0 ≤ c) (ck : c < k) (hc : ∀ h, 0 ≤ h → h < n → L h = c → ¬ C g h) (hX : dq_X n C S' L' k) : dq_X n C S L k := by
  obtain ⟨f, a1, a2, a3⟩ := hX
  obtain ⟨F, p, q⟩ := dq_F (fun x => x = g) (fun _ => c) f
  refine ⟨F, fun x x0 x1 s => ?_, fun x y x0 x1 y0 y1 s t d => ?_, fun x h x0 x1 h0 h1 s l d => ?_⟩
  · by_cases z : x = g
    · rw [p x z]
      exact ⟨c0, ck⟩
    · rw [q x z]
      exact a1 x x0 x1 (hS' x x0 x1 s z)
  · by_cases z : x = g
    · by_cases y' : y = g
      · rw [z, y'] at d
        exact absurd d (hs.2 g g0 g1)
      · rw [p x z, q y y']
        rw [z] at d
        have w := a3 y g y0 y1 g0 g1 (hS' y y0 y1 t y') (by omega) (hs.1 g y g0 g1 y0 y1 d)
        rw [eL] at w
        exact fun e => w e.symm
    · by_cases y' : y = g
      · rw [q x z, p y y']
        rw [y'] at d
        have w := a3 x g x0 x1 g0 g1 (hS' x x0 x1 s z) (by omega) d
        rw [eL] at w
        exact w
      · rw [q x z, q y y']
        exact a2 x y x0 x1 y0 y1 (hS' x x0 x1 s z) (hS' y y0 y1 t y') d
  · by_cases z : x = g
    · rw [p x z]
      rw [z] at d
      exact fun e => hc h h0 h1 e.symm d
    · rw [q x z]
      have hg : ¬ h = g := fun e => l (by rw [e]; exact hLg)
      have w := a3 x h x0 x1 h0 h1 (hS' x x0 x1 s z) (by rw [eL' h hg]; exact l) d
      rw [eL' h hg] at w
      exact w
theorem dq_Xe (g0 : 0 ≤ g) (g1 : g < n) (hg : S g) (U0 : 0 ≤ U) (hL : ∀ h, 0 ≤ h → h < n → L h < U) (hX : dq_X n C S L k) : ∃ c, 0 ≤ c ∧ c ≤ U ∧ c < k ∧ (∀ h, 0 ≤ h → h < n → L h = c → ¬ C g h) ∧ ∀ (L' : Int → Int) (S' : Int → Prop), (∀ x, 0 ≤ x → x < n → S' x → S x ∧ ¬ x = g) → L' g = c → (∀ x, ¬ x = g → L' x = L x) → dq_X n C S' L' k := by
  obtain ⟨f, a1, a2, a3⟩ := hX
  have bg := a1 g g0 g1 hg
  by_cases cU : f g ≤ U
  · refine ⟨f g, bg.1, cU, bg.2, fun h h0 h1 e d => a3 g h g0 g1 h0 h1 hg (by omega) d e.symm, fun L' S' hS' eL eL' => ⟨f, fun x x0 x1 s => a1 x x0 x1 (hS' x x0 x1 s).1, fun x y x0 x1 y0 y1 s t => a2 x y x0 x1 y0 y1 (hS' x x0 x1 s).1 (hS' y y0 y1 t).1, fun x h x0 x1 h0 h1 s l d => ?_⟩⟩
    by_cases z : h = g
    · rw [z, eL]
      rw [z] at d
      exact a2 x g x0 x1 g0 g1 (hS' x x0 x1 s).1 hg d
    · rw [eL' h z] at l ⊢
      exact a3 x h x0 x1 h0 h1 (hS' x x0 x1 s).1 l d
  · obtain ⟨F2, p2, q2⟩ := dq_F (fun x => f x = U) (fun _ => f g) f
    obtain ⟨F, p, q⟩ := dq_F (fun x => f x = f g) (fun _ => U) F2
    have hF : ∀ x, (f x = f g ∧ F x = U) ∨ (¬ f x = f g ∧ f x = U ∧ F x = f g) ∨ (¬ f x = f g ∧ ¬ f x = U ∧ F x = f x) := fun x => by
      by_cases z : f x = f g
      · exact Or.inl ⟨z, p x z⟩
      · by_cases y : f x = U
        · exact Or.inr (Or.inl ⟨z, y, (q x z).trans (p2 x y)⟩)
        · exact Or.inr (Or.inr ⟨z, y, (q x z).trans (q2 x y)⟩)
    refine ⟨U, U0, Int.le_refl U, by omega, fun h h0 h1 e => ?_, fun L' S' hS' eL eL' => ⟨F, fun x x0 x1 s => ?_, fun x y x0 x1 y0 y1 s t d => ?_, fun x h x0 x1 h0 h1 s l d => ?_⟩⟩
    · have := hL h h0 h1
      omega
    · have bx := a1 x x0 x1 (hS' x x0 x1 s).1
      rcases hF x with h | h | h <;> omega
    · have w := a2 x y x0 x1 y0 y1 (hS' x x0 x1 s).1 (hS' y y0 y1 t).1 d
      rcases hF x with h | h | h <;> rcases hF y with h' | h' | h' <;> omega
    · by_cases z : h = g
      · rw [z, eL]
        rw [z] at d
        have w := a2 x g x0 x1 g0 g1 (hS' x x0 x1 s).1 hg d
        rcases hF x with h' | h' | h' <;> omega
      · rw [eL' h z] at l ⊢
        have w := a3 x h x0 x1 h0 h1 (hS' x x0 x1 s).1 l d
        have u := hL h h0 h1
        rcases hF x with h' | h' | h' <;> omega
end DQ
/-- what the meshes lead alike -/
def dq_i (a b : Int → Int) (mm : Int) (R : Int → Prop) : Prop := ∀ m, 0 ≤ m → m < mm → (R (a m) ↔ R (b m))
theorem dq_ic {a b F : Int → Int} {mm c : Int} (h : ∀ m, 0 ≤ m → m < mm → F (a m) = F (b m)) : dq_i a b mm (fun x => F x = c) := fun m m0 m1 => by
  show (F (a m) = c ↔ F (b m) = c)
  rw [h m m0 m1]
/-- k layers do -/
def dq_Col (n : Int) (W : Int → Int → Prop) (a b : Int → Int) (mm k : Int) : Prop := ∃ f : Int → Int, (∀ v, 0 ≤ v → v < n → 0 ≤ f v ∧ f v < k) ∧ (∀ m, 0 ≤ m → m < mm → f (a m) = f (b m)) ∧ ∀ v u, 0 ≤ v → v < u → u < n → W v u → ¬ f v = f u
/-- two led together stand in each other's way -/
def dq_Self (n : Int) (W : Int → Int → Prop) (a b : Int → Int) (mm : Int) : Prop := ∃ v u, 0 ≤ v ∧ v < u ∧ u < n ∧ W v u ∧ ∀ R : Int → Prop, dq_i a b mm R → (R v ↔ R u)
def dq_A (n : Int) (W : Int → Int → Prop) (a b : Int → Int) (mm r : Int) : Prop := (dq_Self n W a b mm ∧ r = -2) ∨ (¬ dq_Self n W a b mm ∧ 0 ≤ r ∧ dq_Col n W a b mm r ∧ ∀ k, 0 ≤ k → k < r → ¬ dq_Col n W a b mm k)
section DA
variable {n mm k : Int} {W : Int → Int → Prop} {a b : Int → Int}
theorem dq_A1 {r r' : Int} (h : dq_A n W a b mm r) (h' : dq_A n W a b mm r') : r = r' := by
  rcases h with ⟨s, e⟩ | ⟨s, r0, c, m⟩
  · rcases h' with ⟨_, e'⟩ | ⟨s', _⟩
    · exact e.trans e'.symm
    · exact absurd s s'
  · rcases h' with ⟨s', _⟩ | ⟨_, r0', c', m'⟩
    · exact absurd s' s
    · rcases Int.lt_trichotomy r r' with h | h | h
      · exact absurd c (m' r r0 h)
      · exact h
      · exact absurd c' (m r' r0' h)
theorem dq_Ae {n' mm' r : Int} {W' : Int → Int → Prop} {a' b' : Int → Int} (en : n' = n) (em : mm' = mm) (eW : ∀ v u, 0 ≤ v → v < n → 0 ≤ u → u < n → (W' v u ↔ W v u)) (ea : ∀ m, 0 ≤ m → m < mm → a' m = a m) (eb : ∀ m, 0 ≤ m → m < mm → b' m = b m) (h : dq_A n W a b mm r) : dq_A n' W' a' b' mm' r := by
  subst en em
  have c : ∀ k, dq_Col n' W' a' b' mm' k ↔ dq_Col n' W a b mm' k := fun k => ⟨fun ⟨f, f1, f2, f3⟩ => ⟨f, f1, fun m m0 m1 => by rw [← ea m m0 m1, ← eb m m0 m1]; exact f2 m m0 m1, fun v u v0 vu u1 w => f3 v u v0 vu u1 ((eW v u v0 (by omega) (by omega) u1).mpr w)⟩, fun ⟨f, f1, f2, f3⟩ => ⟨f, f1, fun m m0 m1 => by rw [ea m m0 m1, eb m m0 m1]; exact f2 m m0 m1, fun v u v0 vu u1 w => f3 v u v0 vu u1 ((eW v u v0 (by omega) (by omega) u1).mp w)⟩⟩
  have i : ∀ R, dq_i a' b' mm' R ↔ dq_i a b mm' R := fun R => ⟨fun h m m0 m1 => by rw [← ea m m0 m1, ← eb m m0 m1]; exact h m m0 m1, fun h m m0 m1 => by rw [ea m m0 m1, eb m m0 m1]; exact h m m0 m1⟩
  have s : dq_Self n' W' a' b' mm' ↔ dq_Self n' W a b mm' := ⟨fun ⟨v, u, v0, vu, u1, w, hR⟩ => ⟨v, u, v0, vu, u1, (eW v u v0 (by omega) (by omega) u1).mp w, fun R hi => hR R ((i R).mpr hi)⟩, fun ⟨v, u, v0, vu, u1, w, hR⟩ => ⟨v, u, v0, vu, u1, (eW v u v0 (by omega) (by omega) u1).mpr w, fun R hi => hR R ((i R).mp hi)⟩⟩
  rcases h with ⟨h, e⟩ | ⟨h, r0, c1, m⟩
  · exact Or.inl ⟨s.mpr h, e⟩
  · exact Or.inr ⟨fun h' => h (s.mp h'), r0, (c r).mpr c1, fun k k0 k1 h' => m k k0 k1 ((c k).mp h')⟩
/-- the lots by number -/
def dq_g (n mm : Int) (a b p : Int → Int) (G : Int) : Prop := (∀ m, 0 ≤ m → m < mm → p (a m) = p (b m)) ∧ (∀ v u, 0 ≤ v → v < n → 0 ≤ u → u < n → p v = p u → ∀ R, dq_i a b mm R → (R v ↔ R u)) ∧ (∀ v, 0 ≤ v → v < n → 0 ≤ p v ∧ p v < G) ∧ ∀ x, 0 ≤ x → x < G → ∃ v, 0 ≤ v ∧ v < n ∧ p v = x
def dq_c (n : Int) (W : Int → Int → Prop) (p : Int → Int) (G : Int) (C : Int → Int → Prop) : Prop := ∀ x y, 0 ≤ x → x < G → 0 ≤ y → y < G → (C x y ↔ ∃ v u, 0 ≤ v ∧ v < u ∧ u < n ∧ W v u ∧ ((p v = x ∧ p u = y) ∨ (p v = y ∧ p u = x)))
theorem dq_gX {p : Int → Int} {G : Int} {C : Int → Int → Prop} {S : Int → Prop} {L : Int → Int} (hab : xk_ab n mm a b) (hg : dq_g n mm a b p G) (hc : dq_c n W p G C) (hS : ∀ x, 0 ≤ x → x < G → S x) (hL : ∀ x, 0 ≤ x → x < G → L x = -1) : dq_X G C S L k ↔ dq_Col n W a b mm k := by
  obtain ⟨g1, g2, g3, g4⟩ := hg
  constructor
  · intro ⟨f, f1, f2, _⟩
    refine ⟨fun v => f (p v), fun v v0 v1 => f1 (p v) (g3 v v0 v1).1 (g3 v v0 v1).2 (hS _ (g3 v v0 v1).1 (g3 v v0 v1).2), fun m m0 m1 => congrArg f (g1 m m0 m1), fun v u v0 vu u1 w => ?_⟩
    have hv := g3 v v0 (by omega)
    have hu := g3 u (by omega) u1
    exact f2 (p v) (p u) hv.1 hv.2 hu.1 hu.2 (hS _ hv.1 hv.2) (hS _ hu.1 hu.2) ((hc (p v) (p u) hv.1 hv.2 hu.1 hu.2).mpr ⟨v, u, v0, vu, u1, w, Or.inl ⟨rfl, rfl⟩⟩)
  · intro ⟨F, F1, F2, F3⟩
    have cst : ∀ v u, 0 ≤ v → v < n → 0 ≤ u → u < n → p v = p u → F u = F v := fun v u v0 v1 u0 u1 e => (g2 v u v0 v1 u0 u1 e (fun x => F x = F v) (dq_ic F2)).mp rfl
    have hr : ∃ r : Int → Int, ∀ x, 0 ≤ x → x < G → 0 ≤ r x ∧ r x < n ∧ p (r x) = x := by
      have h : ∀ x : Int, ∃ v : Int, 0 ≤ x → x < G → 0 ≤ v ∧ v < n ∧ p v = x := fun x => by
        by_cases h : 0 ≤ x ∧ x < G
        · obtain ⟨v, hv⟩ := g4 x h.1 h.2
          exact ⟨v, fun _ _ => hv⟩
        · exact ⟨0, fun h0 h1 => absurd ⟨h0, h1⟩ h⟩
      exact ⟨fun x => Classical.choose (h x), fun x => Classical.choose_spec (h x)⟩
    obtain ⟨r, hr⟩ := hr
    refine ⟨fun x => F (r x), fun x x0 x1 _ => F1 (r x) (hr x x0 x1).1 (hr x x0 x1).2.1, fun x y x0 x1 y0 y1 _ _ d => ?_, fun x h _ _ h0 h1 _ l => absurd (hL h h0 h1) l⟩
    obtain ⟨v, u, v0, vu, u1, w, e⟩ := (hc x y x0 x1 y0 y1).mp d
    have rx := hr x x0 x1
    have ry := hr y y0 y1
    have ne := F3 v u v0 vu u1 w
    show ¬ F (r x) = F (r y)
    rcases e with ⟨e1, e2⟩ | ⟨e1, e2⟩
    · rw [cst v (r x) v0 (by omega) rx.1 rx.2.1 (by rw [e1, rx.2.2]), cst u (r y) (by omega) u1 ry.1 ry.2.1 (by rw [e2, ry.2.2])]
      exact ne
    · rw [cst u (r x) (by omega) u1 rx.1 rx.2.1 (by rw [e2, rx.2.2]), cst v (r y) v0 (by omega) ry.1 ry.2.1 (by rw [e1, ry.2.2])]
      exact fun e => ne e.symm
theorem dq_gS {p : Int → Int} {G : Int} {C : Int → Int → Prop} (hg : dq_g n mm a b p G) (hc : dq_c n W p G C) : (∃ x, 0 ≤ x ∧ x < G ∧ C x x) ↔ dq_Self n W a b mm := by
  obtain ⟨g1, g2, g3, g4⟩ := hg
  constructor
  · intro ⟨x, x0, x1, d⟩
    obtain ⟨v, u, v0, vu, u1, w, e⟩ := (hc x x x0 x1 x0 x1).mp d
    refine ⟨v, u, v0, vu, u1, w, g2 v u v0 (by omega) (by omega) u1 ?_⟩
    rcases e with ⟨e1, e2⟩ | ⟨e1, e2⟩ <;> exact e1.trans e2.symm
  · intro ⟨v, u, v0, vu, u1, w, h⟩
    have e := (h (fun x => p x = p v) (dq_ic g1)).mp rfl
    have hv := g3 v v0 (by omega)
    exact ⟨p v, hv.1, hv.2, (hc (p v) (p v) hv.1 hv.2 hv.1 hv.2).mpr ⟨v, u, v0, vu, u1, w, Or.inl ⟨rfl, e⟩⟩⟩
theorem dq_gG {G : Int} {C : Int → Int → Prop} {S : Int → Prop} {L : Int → Int} (hs : dq_s G C) (hL : ∀ x, 0 ≤ x → x < G → L x = -1) : dq_X G C S L G := ⟨fun x => x, fun _ g0 g1 _ => ⟨g0, g1⟩, fun g h g0 g1 _ _ _ _ d e => hs.2 g g0 g1 (by have e' : g = h := e; rw [← e'] at d; exact d), fun _ h _ _ h0 h1 _ l => absurd (hL h h0 h1) l⟩
/-- those ahead of w are put, the rest can be -/
def dq_E (n : Int) (W : Int → Int → Prop) (z : Int → Int) (P : Int → Int) (w k : Int) : Prop := ∃ f : Int → Int, (∀ v, 0 ≤ v → v < n → 0 ≤ f v ∧ f v < k) ∧ (∀ v u, 0 ≤ v → v < n → 0 ≤ u → u < n → z v = z u → f v = f u) ∧ (∀ v u, 0 ≤ v → v < u → u < n → W v u → ¬ f v = f u) ∧ ∀ v, 0 ≤ v → v < w → f v = P v
theorem dq_EC {z P : Int → Int} (hab : xk_ab n mm a b) (z1 : ∀ m, 0 ≤ m → m < mm → z (a m) = z (b m)) (z2 : ∀ R : Int → Prop, dq_i a b mm R → ∀ w, 0 ≤ w → w < n → (R w ↔ R (z w))) (z3 : ∀ w, 0 ≤ w → w < n → 0 ≤ z w ∧ z w < n) : dq_E n W z P 0 k ↔ dq_Col n W a b mm k := by
  constructor
  · intro ⟨f, f1, f2, f3, _⟩
    exact ⟨f, f1, fun m m0 m1 => f2 (a m) (b m) (hab m m0 m1).1.1 (hab m m0 m1).1.2 (hab m m0 m1).2.1 (hab m m0 m1).2.2 (z1 m m0 m1), f3⟩
  · intro ⟨f, f1, f2, f3⟩
    have e : ∀ v, 0 ≤ v → v < n → f (z v) = f v := fun v v0 v1 => (z2 (fun x => f x = f v) (dq_ic f2) v v0 v1).mp rfl
    exact ⟨f, f1, fun v u v0 v1 u0 u1 h => by rw [← e v v0 v1, ← e u u0 u1, h], f3, fun v v0 v1 => by omega⟩
theorem dq_ES {z : Int → Int} (z1 : ∀ m, 0 ≤ m → m < mm → z (a m) = z (b m)) (z2 : ∀ R : Int → Prop, dq_i a b mm R → ∀ w, 0 ≤ w → w < n → (R w ↔ R (z w))) : dq_Self n W a b mm ↔ ∃ v u, 0 ≤ v ∧ v < u ∧ u < n ∧ W v u ∧ z v = z u := by
  constructor
  · intro ⟨v, u, v0, vu, u1, w, h⟩
    exact ⟨v, u, v0, vu, u1, w, ((h (fun x => z x = z v) (dq_ic z1)).mp rfl).symm⟩
  · intro ⟨v, u, v0, vu, u1, w, h⟩
    exact ⟨v, u, v0, vu, u1, w, fun R hR => by rw [z2 R hR v v0 (by omega), z2 R hR u (by omega) u1, h]⟩
theorem dq_En {z : Int → Int} (z3 : ∀ w, 0 ≤ w → w < n → 0 ≤ z w ∧ z w < n) (hw : ∀ v u, 0 ≤ v → v < u → u < n → z v = z u → ¬ W v u) (P : Int → Int) (hk : n ≤ k) : dq_E n W z P 0 k := ⟨z, fun v v0 v1 => by have := z3 v v0 v1; omega, fun _ _ _ _ _ _ h => h, fun v u v0 vu u1 w e => hw v u v0 vu u1 e w, fun v v0 v1 => by omega⟩
theorem dq_Ei {z P P' : Int → Int} {w : Int} (h : dq_E n W z P' (w + 1) k) (e : ∀ v, 0 ≤ v → v < w → P' v = P v) : dq_E n W z P w k := by
  obtain ⟨f, f1, f2, f3, f4⟩ := h
  exact ⟨f, f1, f2, f3, fun v v0 v1 => (f4 v v0 (by omega)).trans (e v v0 v1)⟩
theorem dq_Ec {z P : Int → Int} {w u : Int} (w0 : 0 ≤ w) (w1 : w < n) (u0 : 0 ≤ u) (hu : ∀ v, 0 ≤ v → v < w → P v < u) (hz : 0 ≤ z w ∧ z (z w) = z w) (h : dq_E n W z P w k) : ∃ d, 0 ≤ d ∧ d ≤ u ∧ d < k ∧ (z w < w → P (z w) = d) ∧ (∀ v, 0 ≤ v → v < w → P v = d → ¬ W v w) ∧ ∀ P' : Int → Int, (∀ v, 0 ≤ v → v < w → P' v = P v) → P' w = d → dq_E n W z P' (w + 1) k := by
  obtain ⟨f, f1, f2, f3, f4⟩ := h
  have bw := f1 w w0 w1
  by_cases c : f w ≤ u
  · refine ⟨f w, bw.1, c, bw.2, fun h => ?_, fun v v0 v1 e hW => f3 v w v0 v1 w1 hW ((f4 v v0 v1).trans e), fun P' e e' => ⟨f, f1, f2, f3, fun v v0 v1 => ?_⟩⟩
    · rw [← f4 (z w) hz.1 h]
      exact f2 (z w) w hz.1 (by omega) w0 w1 hz.2
    · by_cases ev : v = w
      · rw [ev, e']
      · rw [e v v0 (by omega)]
        exact f4 v v0 (by omega)
  · obtain ⟨F2, p2, q2⟩ := dq_F (fun x => f x = u) (fun _ => f w) f
    obtain ⟨F, p, q⟩ := dq_F (fun x => f x = f w) (fun _ => u) F2
    have hF : ∀ x, (f x = f w ∧ F x = u) ∨ (¬ f x = f w ∧ f x = u ∧ F x = f w) ∨ (¬ f x = f w ∧ ¬ f x = u ∧ F x = f x) := fun x => by
      by_cases z : f x = f w
      · exact Or.inl ⟨z, p x z⟩
      · by_cases y : f x = u
        · exact Or.inr (Or.inl ⟨z, y, (q x z).trans (p2 x y)⟩)
        · exact Or.inr (Or.inr ⟨z, y, (q x z).trans (q2 x y)⟩)
    have F2e : ∀ x y, f x = f y → F x = F y := fun x y e => by
      rcases hF x with h | h | h <;> rcases hF y with h' | h' | h' <;> omega
    have F4 : ∀ v, 0 ≤ v → v < w → F v = P v := fun v v0 v1 => by
      have e1 := f4 v v0 v1
      have e2 := hu v v0 v1
      rcases hF v with h | h | h <;> omega
    have Fw : F w = u := p w rfl
    refine ⟨u, u0, Int.le_refl u, by omega, fun h => ?_, fun v v0 v1 e => ?_, fun P' e e' => ⟨F, fun x x0 x1 => ?_, fun x y x0 x1 y0 y1 h => F2e x y (f2 x y x0 x1 y0 y1 h), fun x y x0 xy y1 hW e => ?_, fun v v0 v1 => ?_⟩⟩
    · have e1 := f2 (z w) w hz.1 (by omega) w0 w1 hz.2
      have e2 := f4 (z w) hz.1 h
      have e3 := hu (z w) hz.1 h
      omega
    · have := hu v v0 v1
      omega
    · have bx := f1 x x0 x1
      rcases hF x with h | h | h <;> omega
    · have ne := f3 x y x0 xy y1 hW
      rcases hF x with h | h | h <;> rcases hF y with h' | h' | h' <;> omega
    · by_cases ev : v = w
      · rw [ev, e', Fw]
      · rw [e v v0 (by omega)]
        exact F4 v v0 (by omega)
end DA
/-- two wheels in each other's way -/
def dp_W (xs ys ax tk o p : Int → Int) (m v u : Int) : Prop := ax v = ax u ∨ pl_cr xs ys ax tk o p m v u
/-- only what the layers are reckoned in has changed -/
def dp_K (N M : xa_M) : Prop := ∀ (q : Nat) (j : Int), ¬ (q = 34 ∧ j = 3) → ¬ (35 ≤ q ∧ q ≤ 37) → ¬ (q = 48 ∨ q = 49) → M q j = N q j
theorem dp_Kr {M : xa_M} : dp_K M M := fun _ _ _ _ _ => rfl
theorem dp_Kt {N M M1 : xa_M} (h : dp_K N M) (h1 : dp_K M M1) : dp_K N M1 := fun q j a b c => (h1 q j a b c).trans (h q j a b c)
theorem dp_Kq {M M1 : xa_M} {q0 : Nat} (hq : (35 ≤ q0 ∧ q0 ≤ 37) ∨ q0 = 48 ∨ q0 = 49) (h : ∀ (q : Nat) (j : Int), ¬ q = q0 → M1 q j = M q j) : dp_K M M1 := fun q j a b c => h q j (by omega)
theorem dp_Ku {N M : xa_M} {q0 : Nat} {i v : Int} (hq : (35 ≤ q0 ∧ q0 ≤ 37) ∨ q0 = 48 ∨ q0 = 49 ∨ (q0 = 34 ∧ i = 3)) (h : dp_K N M) : dp_K N (xa_up M q0 i v) := fun q j a b c => (xa_up_ne (by omega)).trans (h q j a b c)
theorem dp_Ke {N M : xa_M} (h : dp_K N M) (q : Nat) (h1 : q < 34) : M q = N q := funext (fun j => h q j (by omega) (by omega) (by omega))
theorem dp_F_k {N M : xa_M} (h : dp_K N M) (hF : pl_F N) : pl_F M := by
  unfold pl_F at hF ⊢
  rw [dp_Ke h 1 (by decide), dp_Ke h 4 (by decide), dp_Ke h 5 (by decide), dp_Ke h 6 (by decide), dp_Ke h 7 (by decide), dp_Ke h 8 (by decide), dp_Ke h 9 (by decide), dp_Ke h 10 (by decide)]
  exact hF
theorem dp_fl {i x : Int} {q : Nat} {M : xa_M} (hd : ∀ t, 0 ≤ t → t < i → M q t = x) : ∀ t, 0 ≤ t → t < i + 1 → xa_up M q i x q t = x := fun t t0 t1 => by
  by_cases e : t = i
  · rw [e]
    exact xa_up_eq
  · exact (xa_up_ne (fun e' => e e'.2)).trans (hd t t0 (by omega))
theorem dp_u2 (M : xa_M) (x y v w i : Int) : xa_up (xa_up M 36 x v) 36 y w 36 i = if i = y then w else if i = x then v else M 36 i := by simp only [xa_up, true_and]
theorem dp_u1 (M : xa_M) (x v i : Int) : xa_up M 36 x v 36 i = if i = x then v else M 36 i := by simp only [xa_up, true_and]
/-- two lots clash -/
def dp_cl (M M1 : xa_M) (x y : Int) : Prop := (∀ (q : Nat) (j : Int), ¬ q = 36 → M1 q j = M q j) ∧ ∀ i j, 0 ≤ i → i < 14 → 0 ≤ j → j < 14 → (bt (M1 36 i) j = 1 ↔ bt (M 36 i) j = 1 ∨ (i = x ∧ j = y) ∨ (i = y ∧ j = x))
theorem dp_cl_s {M : xa_M} {x y : Int} (hx : 0 ≤ x ∧ x ≤ 13) (hy : 0 ≤ y ∧ y ≤ 13) : dp_cl M (xa_up (xa_up M 36 x (xa_ib 4 (M 36 x) (xa_ib 6 1 y))) 36 y (xa_ib 4 (xa_up M 36 x (xa_ib 4 (M 36 x) (xa_ib 6 1 y)) 36 y) (xa_ib 6 1 x))) x y := by
  refine ⟨fun q j h => (xa_up_ne (fun e => h e.1)).trans (xa_up_ne (fun e => h e.1)), fun i j i0 i1 j0 j1 => ?_⟩
  have s1 := bt_sh (k := x) hx.1 (show x < 31 by omega) j0 (show j < 31 by omega)
  have s2 := bt_sh (k := y) hy.1 (show y < 31 by omega) j0 (show j < 31 by omega)
  rw [dp_u2, dp_u1]
  by_cases a : i = y
  · rw [if_pos a, bt_or j0 (by omega), s1]
    by_cases b : y = x
    · rw [if_pos b, bt_or j0 (by omega), s2, show i = x by omega]
      omega
    · rw [if_neg b, a]
      omega
  · rw [if_neg a]
    by_cases b : i = x
    · rw [if_pos b, bt_or j0 (by omega), s2, b]
      omega
    · rw [if_neg b]
      omega
/-- closed under meshes -/
def dp_cls (mm : Int) (a b : Int → Int) (B : Int) : Prop := ∀ m, 0 ≤ m → m < mm → (bt B (a m) = 1 ↔ bt B (b m) = 1)
/-- what is found is led together with x -/
def dp_sd (mm : Int) (a b : Int → Int) (x B : Int) : Prop := ∀ R : Int → Prop, dq_i a b mm R → R x → ∀ w, 0 ≤ w → w < 14 → bt B w = 1 → R w
def dp_J (n mm : Int) (a b : Int → Int) (x B0 B w : Int) : Prop := (∀ t, 0 ≤ t → t < 14 → bt B0 t = 1 → bt B t = 1) ∧ (∀ t, 0 ≤ t → t < w → bt B0 t = 1 → ∀ m, 0 ≤ m → m < mm → (a m = t → bt B (b m) = 1) ∧ (b m = t → bt B (a m) = 1)) ∧ dp_sd mm a b x B
section DP
variable {n mm x B0 B w p : Int} {a b : Int → Int}
theorem dp_pass (hn : n ≤ 14) (hab : xk_ab n mm a b) (hJ : dp_J n mm a b x B0 B n) (hx : bt B0 x = 1) (h : dp_cls mm a b B0 ∨ p + 1 ≤ cn B0) : dp_cls mm a b B ∨ p + 1 + 1 ≤ cn B := by
  obtain ⟨sub, nb, sd⟩ := hJ
  by_cases e : ∀ t, 0 ≤ t → t < 14 → bt B t = 1 → bt B0 t = 1
  · refine Or.inl (fun m m0 m1 => ?_)
    obtain ⟨⟨a0, a1⟩, b0, b1⟩ := hab m m0 m1
    exact ⟨fun h => (nb (a m) a0 a1 (e _ a0 (by omega) h) m m0 m1).1 rfl, fun h => (nb (b m) b0 b1 (e _ b0 (by omega) h) m m0 m1).2 rfl⟩
  · rcases h with h | h
    · exact absurd (sd (fun t => bt B0 t = 1) h hx) e
    · refine Or.inr ?_
      have : ∃ t, 0 ≤ t ∧ t < 14 ∧ bt B t = 1 ∧ ¬ bt B0 t = 1 := by
        apply Classical.byContradiction
        intro hn
        exact e (fun t t0 t1 h1 => Classical.byContradiction (fun h2 => hn ⟨t, t0, t1, h1, h2⟩))
      obtain ⟨t, t0, t1, h1, h2⟩ := this
      have := cn_lt sub t0 t1 h1 h2
      omega
theorem dp_J0 (hsd : dp_sd mm a b x B) : dp_J n mm a b x B B 0 := ⟨fun _ _ _ h => h, fun t t0 t1 => by omega, hsd⟩
theorem dp_Js {r : Int} (hn : n ≤ 14) (hab : xk_ab n mm a b) (hJ : dp_J n mm a b x B0 B w) (w0 : 0 ≤ w) (w1 : w < n) (h1 : ∀ t, 0 ≤ t → t < 14 → bt r t = 1 → bt B w = 1 ∧ ∃ m, 0 ≤ m ∧ m < mm ∧ ((a m = w ∧ b m = t) ∨ (b m = w ∧ a m = t))) (h2 : bt B w = 1 → ∀ m, 0 ≤ m → m < mm → (a m = w → bt r (b m) = 1) ∧ (b m = w → bt r (a m) = 1)) : dp_J n mm a b x B0 (xa_ib 4 B r) (w + 1) := by
  obtain ⟨sub, nb, sd⟩ := hJ
  refine ⟨fun t t0 t1 h => (bt_or t0 (by omega)).mpr (Or.inl (sub t t0 t1 h)), fun t t0 t1 h m m0 m1 => ?_, fun R hR rx t t0 t1 h => ?_⟩
  · obtain ⟨⟨a0, a1⟩, b0, b1⟩ := hab m m0 m1
    rw [bt_or a0 (by omega), bt_or b0 (by omega)]
    by_cases e : t = w
    · rw [e] at h ⊢
      have g := h2 (sub w w0 (by omega) h) m m0 m1
      exact ⟨fun q => Or.inr (g.1 q), fun q => Or.inr (g.2 q)⟩
    · have g := nb t t0 (by omega) h m m0 m1
      exact ⟨fun q => Or.inl (g.1 q), fun q => Or.inl (g.2 q)⟩
  · rcases (bt_or t0 (by omega)).mp h with h | h
    · exact sd R hR rx t t0 t1 h
    · obtain ⟨hB, m, m0, m1, e⟩ := h1 t t0 t1 h
      have rw_ := sd R hR rx w w0 (by omega) hB
      have i := hR m m0 m1
      rcases e with ⟨e1, e2⟩ | ⟨e1, e2⟩
      · rw [← e1] at rw_
        rw [← e2]
        exact i.mp rw_
      · rw [← e1] at rw_
        rw [← e2]
        exact i.mpr rw_
/-- the lots of those ahead of w -/
def dp_P (n mm : Int) (a b p : Int → Int) (G w : Int) : Prop := (0 ≤ G ∧ G ≤ w) ∧ (∀ v, 0 ≤ v → v < n → p v = -1 ∨ (0 ≤ p v ∧ p v < G)) ∧ (∀ v, 0 ≤ v → v < w → ¬ p v = -1) ∧ (∀ m, 0 ≤ m → m < mm → p (a m) = p (b m)) ∧ (∀ v u, 0 ≤ v → v < n → 0 ≤ u → u < n → p v = p u → ¬ p v = -1 → ∀ R, dq_i a b mm R → (R v ↔ R u)) ∧ ∀ x, 0 ≤ x → x < G → ∃ v, 0 ≤ v ∧ v < n ∧ p v = x
theorem dp_P0 {p : Int → Int} (hn : n ≤ 14) (hab : xk_ab n mm a b) (h : ∀ t, 0 ≤ t → t < 14 → p t = -1) : dp_P n mm a b p 0 0 := ⟨by omega, fun v v0 v1 => Or.inl (h v v0 (by omega)), fun v v0 v1 => by omega, fun m m0 m1 => by
  obtain ⟨⟨a0, a1⟩, b0, b1⟩ := hab m m0 m1
  rw [h _ a0 (by omega), h _ b0 (by omega)], fun v u v0 v1 _ _ _ ne => absurd (h v v0 (by omega)) ne, fun x x0 x1 => by omega⟩
theorem dp_Ps {p : Int → Int} {G : Int} (hP : dp_P n mm a b p G w) (h : ¬ p w = -1) : dp_P n mm a b p G (w + 1) := by
  obtain ⟨g, q1, q2, q3, q4, q5⟩ := hP
  refine ⟨by omega, q1, fun v v0 v1 => ?_, q3, q4, q5⟩
  by_cases e : v = w
  · rw [e]
    exact h
  · exact q2 v v0 (by omega)
theorem dp_Pn {p p' : Int → Int} {G : Int} (hn : n ≤ 14) (hab : xk_ab n mm a b) (hP : dp_P n mm a b p G w) (w0 : 0 ≤ w) (w1 : w < n) (hw : p w = -1) (hb : bt B w = 1) (hcl : dp_cls mm a b B) (hsd : dp_sd mm a b w B) (hp : ∀ t, 0 ≤ t → t < n → (bt B t = 1 → p' t = G) ∧ (¬ bt B t = 1 → p' t = p t)) : dp_P n mm a b p' (G + 1) (w + 1) := by
  obtain ⟨g, q1, q2, q3, q4, q5⟩ := hP
  have un : ∀ t, 0 ≤ t → t < n → bt B t = 1 → p t = -1 := fun t t0 t1 h => hsd (fun x => p x = -1) (dq_ic q3) hw t t0 (by omega) h
  refine ⟨by omega, fun v v0 v1 => ?_, fun v v0 v1 => ?_, fun m m0 m1 => ?_, fun v u v0 v1 u0 u1 e ne R hR => ?_, fun y y0 y1 => ?_⟩
  · have h1 := q1 v v0 v1
    have h2 := hp v v0 v1
    by_cases c : bt B v = 1
    · have := h2.1 c
      omega
    · have := h2.2 c
      omega
  · have h2 := hp v v0 (by omega)
    by_cases c : bt B v = 1
    · have := h2.1 c
      omega
    · have e := h2.2 c
      have nw : ¬ v = w := fun e => c (by rw [e]; exact hb)
      have := q2 v v0 (by omega)
      omega
  · obtain ⟨⟨a0, a1⟩, b0, b1⟩ := hab m m0 m1
    have ha := hp _ a0 a1
    have hb' := hp _ b0 b1
    by_cases c : bt B (a m) = 1
    · rw [ha.1 c, hb'.1 ((hcl m m0 m1).mp c)]
    · rw [ha.2 c, hb'.2 (fun h => c ((hcl m m0 m1).mpr h)), q3 m m0 m1]
  · have hv := hp v v0 v1
    have hu := hp u u0 u1
    have ov := q1 v v0 v1
    have ou := q1 u u0 u1
    by_cases c : bt B v = 1
    · by_cases d : bt B u = 1
      · by_cases r : R w
        · exact ⟨fun _ => hsd R hR r u u0 (by omega) d, fun _ => hsd R hR r v v0 (by omega) c⟩
        · have nR : dq_i a b mm (fun t => ¬ R t) := fun m m0 m1 => not_congr (hR m m0 m1)
          have rv : ¬ R v := hsd _ nR r v v0 (by omega) c
          have ru : ¬ R u := hsd _ nR r u u0 (by omega) d
          exact ⟨fun h => absurd h rv, fun h => absurd h ru⟩
      · have e1 := hv.1 c
        have e2 := hu.2 d
        omega
    · by_cases d : bt B u = 1
      · have e1 := hv.2 c
        have e2 := hu.1 d
        omega
      · have e1 := hv.2 c
        have e2 := hu.2 d
        exact q4 v u v0 v1 u0 u1 (by omega) (by omega) R hR
  · by_cases e : y = G
    · exact ⟨w, w0, w1, by rw [e]; exact (hp w w0 w1).1 hb⟩
    · obtain ⟨v, v0, v1, ev⟩ := q5 y y0 (by omega)
      exact ⟨v, v0, v1, ((hp v v0 v1).2 (fun h => by have := un v v0 v1 h; omega)).trans ev⟩
theorem dp_Pg {p : Int → Int} {G : Int} (hP : dp_P n mm a b p G n) : dq_g n mm a b p G := by
  obtain ⟨g, q1, q2, q3, q4, q5⟩ := hP
  exact ⟨q3, fun v u v0 v1 u0 u1 e => q4 v u v0 v1 u0 u1 e (q2 v v0 v1), fun v v0 v1 => by
    have h1 := q1 v v0 v1
    have h2 := q2 v v0 v1
    omega, q5⟩
/-- the clashes of the pairs ahead of v, u -/
def dp_B (n : Int) (W : Int → Int → Prop) (p c : Int → Int) (v u : Int) : Prop := ∀ x y, 0 ≤ x → x < 14 → 0 ≤ y → y < 14 → (bt (c x) y = 1 ↔ ∃ v' u', 0 ≤ v' ∧ v' < u' ∧ u' < n ∧ (v' < v ∨ (v' = v ∧ u' < u)) ∧ W v' u' ∧ ((p v' = x ∧ p u' = y) ∨ (p v' = y ∧ p u' = x)))
theorem dp_Bc {W : Int → Int → Prop} {p c : Int → Int} {v u v2 u2 : Int} (h : dp_B n W p c v u) (e : ∀ v' u', 0 ≤ v' → v' < u' → u' < n → W v' u' → ((v' < v ∨ (v' = v ∧ u' < u)) ↔ (v' < v2 ∨ (v' = v2 ∧ u' < u2)))) : dp_B n W p c v2 u2 := fun x y x0 x1 y0 y1 => by
  rw [h x y x0 x1 y0 y1]
  constructor
  · intro ⟨v', u', h0, h1, h2, h3, h4, h5⟩
    exact ⟨v', u', h0, h1, h2, (e v' u' h0 h1 h2 h4).mp h3, h4, h5⟩
  · intro ⟨v', u', h0, h1, h2, h3, h4, h5⟩
    exact ⟨v', u', h0, h1, h2, (e v' u' h0 h1 h2 h4).mpr h3, h4, h5⟩
theorem dp_B0 {W : Int → Int → Prop} {p c : Int → Int} (h : ∀ t, 0 ≤ t → t < 14 → c t = 0) : dp_B n W p c 0 0 := fun x y x0 x1 y0 y1 => by
  rw [h x x0 x1]
  exact ⟨fun h => absurd h (bt_0 y0 (by omega)), fun ⟨v', u', h0, h1, h2, h3, _⟩ => by omega⟩
theorem dp_By {W : Int → Int → Prop} {p : Int → Int} {v u : Int} {M M1 : xa_M} (h : dp_B n W p (M 36) v u) (v0 : 0 ≤ v) (vu : v < u) (u1 : u < n) (hW : W v u) (hc : dp_cl M M1 (p v) (p u)) : dp_B n W p (M1 36) v (u + 1) := fun x y x0 x1 y0 y1 => by
  rw [hc.2 x y x0 x1 y0 y1, h x y x0 x1 y0 y1]
  constructor
  · intro h
    rcases h with ⟨v', u', h0, h1, h2, h3, h4, h5⟩ | ⟨e1, e2⟩ | ⟨e1, e2⟩
    · exact ⟨v', u', h0, h1, h2, by omega, h4, h5⟩
    · exact ⟨v, u, v0, vu, u1, by omega, hW, Or.inl ⟨e1.symm, e2.symm⟩⟩
    · exact ⟨v, u, v0, vu, u1, by omega, hW, Or.inr ⟨e2.symm, e1.symm⟩⟩
  · intro ⟨v', u', h0, h1, h2, h3, h4, h5⟩
    by_cases z : v' = v ∧ u' = u
    · obtain ⟨z1, z2⟩ := z
      rw [z1, z2] at h5
      rcases h5 with ⟨e1, e2⟩ | ⟨e1, e2⟩
      · exact Or.inr (Or.inl ⟨e1.symm, e2.symm⟩)
      · exact Or.inr (Or.inr ⟨e2.symm, e1.symm⟩)
    · exact Or.inl ⟨v', u', h0, h1, h2, by omega, h4, h5⟩
theorem dp_Bq {W : Int → Int → Prop} {p c : Int → Int} {G : Int} (hG : G ≤ 14) (h : dp_B n W p c n 0) : dq_c n W p G (fun x y => bt (c x) y = 1) := fun x y x0 x1 y0 y1 => by
  show bt (c x) y = 1 ↔ _
  rw [h x y x0 (by omega) y0 (by omega)]
  exact ⟨fun ⟨v', u', h0, h1, h2, _, h4, h5⟩ => ⟨v', u', h0, h1, h2, h4, h5⟩, fun ⟨v', u', h0, h1, h2, h4, h5⟩ => ⟨v', u', h0, h1, h2, Or.inl (by omega), h4, h5⟩⟩
theorem dp_s {W : Int → Int → Prop} {p : Int → Int} {G : Int} {C : Int → Int → Prop} (hc : dq_c n W p G C) (hn : ∀ x, 0 ≤ x → x < G → ¬ C x x) : dq_s G C := ⟨fun g h g0 g1 h0 h1 d => by
  obtain ⟨v, u, v0, vu, u1, w, e⟩ := (hc g h g0 g1 h0 h1).mp d
  exact (hc h g h0 h1 g0 g1).mpr ⟨v, u, v0, vu, u1, w, e.symm⟩, hn⟩
/-- of what is barred -/
def dp_b (L : Int → Int) (z h B : Int) : Prop := ∀ x, 0 ≤ x → x < 14 → (bt B x = 1 ↔ ∃ t, 0 ≤ t ∧ t < h ∧ L t = x ∧ bt z t = 1)
theorem dp_br1 {L : Int → Int} {h z : Int} (hb : dp_b L z h B) (h0 : 0 ≤ h) (hL : 0 ≤ L h ∧ L h ≤ 13) (hc : bt z h = 1) : dp_b L z (h + 1) (xa_ib 4 B (xa_ib 6 1 (L h))) := fun x x0 x1 => by
  rw [bt_or x0 (by omega), bt_sh hL.1 (by omega) x0 (by omega), hb x x0 x1]
  constructor
  · intro q
    rcases q with ⟨t, t0, t1, e, y9⟩ | e
    · exact ⟨t, t0, by omega, e, y9⟩
    · exact ⟨h, h0, by omega, e, hc⟩
  · intro ⟨t, t0, t1, e, y9⟩
    by_cases y : t = h
    · rw [y] at e
      exact Or.inr e
    · exact Or.inl ⟨t, t0, by omega, e, y9⟩
theorem dp_br0 {L : Int → Int} {h z : Int} (hb : dp_b L z h B) (hn : L h = -1 ∨ ¬ bt z h = 1) : dp_b L z (h + 1) (xa_ib 4 B 0) := fun x x0 x1 => by
  rw [bt_or x0 (by omega), hb x x0 x1]
  constructor
  · intro q
    rcases q with ⟨t, t0, t1, e, y9⟩ | e
    · exact ⟨t, t0, by omega, e, y9⟩
    · exact absurd e (bt_0 x0 (by omega))
  · intro ⟨t, t0, t1, e, y9⟩
    by_cases y : t = h
    · rw [y] at e y9
      rcases hn with q | q
      · omega
      · exact absurd y9 q
    · exact Or.inl ⟨t, t0, by omega, e, y9⟩
theorem dp_op {r U m G z : Int} {L : Int → Int} (r0 : 0 ≤ r) (r1 : r ≤ 14) (hb : dp_b L z G B) {x : Int} (x0 : 0 ≤ x) (x1 : x < 14) (hr : x < r ↔ x ≤ U ∧ x < m) : bt (xa_ib 3 (xa_w32 (xa_ib 6 1 r - 1)) (xa_ib 5 B (-1))) x = 1 ↔ x ≤ U ∧ x < m ∧ ∀ t, 0 ≤ t → t < G → L t = x → ¬ bt z t = 1 := by
  rw [bt_and x0 (by omega), bt_all r0 r1 x0 (by omega), bt_xm x0 (by omega), hb x x0 x1, hr]
  constructor
  · intro ⟨⟨y1, y2⟩, y3⟩
    exact ⟨y1, y2, fun t t0 t1 e y9 => y3 ⟨t, t0, t1, e, y9⟩⟩
  · intro ⟨y1, y2, y3⟩
    exact ⟨⟨y1, y2⟩, fun ⟨t, t0, t1, e, y9⟩ => y3 t t0 t1 e y9⟩
/-- closed under clashes -/
def dp_cc (G : Int) (C : Int → Int → Prop) (s B : Int) : Prop := ∀ g t, 0 ≤ g → g < G → 0 ≤ t → t < G → bt B g = 1 → bt s t = 1 → C g t → bt B t = 1
def dp_ci (G : Int) (C : Int → Int → Prop) (s B0 B i : Int) : Prop := bs B ∧ (∀ t, 0 ≤ t → t < 14 → bt B t = 1 → bt s t = 1) ∧ (∀ t, 0 ≤ t → t < 14 → bt B0 t = 1 → bt B t = 1) ∧ (∀ g t, 0 ≤ g → g < i → 0 ≤ t → t < G → bt B0 g = 1 → bt s t = 1 → C g t → bt B t = 1) ∧ (dp_cc G C s B0 → ∀ t, 0 ≤ t → t < 14 → bt B t = 1 → bt B0 t = 1)
theorem dp_cs {G s r i : Int} {C : Int → Int → Prop} (hi : 0 ≤ i ∧ i < G) (g14 : G ≤ 14) (h : dp_ci G C s B0 B i) (hr : bs r) (hsG : ∀ t, 0 ≤ t → t < 14 → bt s t = 1 → t < G) (h1 : ∀ t, 0 ≤ t → t < 14 → bt r t = 1 → bt B i = 1 ∧ bt s t = 1 ∧ (t < G → C i t)) (h2 : bt B i = 1 → ∀ t, 0 ≤ t → t < G → bt s t = 1 → C i t → bt r t = 1) : dp_ci G C s B0 (xa_ib 4 B r) (i + 1) := by
  obtain ⟨b, s1, s2, s3, s4⟩ := h
  refine ⟨bs_or b hr, fun t t0 t1 h => ?_, fun t t0 t1 h => (bt_or t0 (by omega)).mpr (Or.inl (s2 t t0 t1 h)), fun g t g0 g1 t0 t1 h hs d => (bt_or t0 (by omega)).mpr ?_, fun q t t0 t1 h => ?_⟩
  · rcases (bt_or t0 (by omega)).mp h with h | h
    · exact s1 t t0 t1 h
    · exact (h1 t t0 t1 h).2.1
  · by_cases e : g = i
    · rw [e] at h d
      exact Or.inr (h2 (s2 i hi.1 (by omega) h) t t0 t1 hs d)
    · exact Or.inl (s3 g t g0 (by omega) t0 t1 h hs d)
  · rcases (bt_or t0 (by omega)).mp h with h | h
    · exact s4 q t t0 t1 h
    · obtain ⟨y1, y2, y3⟩ := h1 t t0 t1 h
      have tG := hsG t t0 t1 y2
      exact q i t hi.1 hi.2 t0 tG (s4 q i hi.1 (by omega) y1) y2 (y3 tG)
theorem dp_cp {G s k : Int} {C : Int → Int → Prop} (g14 : G ≤ 14) (h : dp_ci G C s B0 B G) (hq : dp_cc G C s B0 ∨ k + 1 ≤ cn B0) : (dp_cc G C s B ∨ k + 1 + 1 ≤ cn B) ∧ (B = B0 → dp_cc G C s B) := by
  obtain ⟨b, s1, s2, s3, s4⟩ := h
  have cl : (∀ t, 0 ≤ t → t < 14 → bt B t = 1 → bt B0 t = 1) → dp_cc G C s B := fun e g t g0 g1 t0 t1 hg hs d => s3 g t g0 g1 t0 t1 (e g g0 (by omega) hg) hs d
  refine ⟨?_, fun e => cl (fun t _ _ h => by rw [← e]; exact h)⟩
  rcases hq with q | q
  · exact Or.inl (cl (s4 q))
  · by_cases e : ∀ t, 0 ≤ t → t < 14 → bt B t = 1 → bt B0 t = 1
    · exact Or.inl (cl e)
    · refine Or.inr ?_
      have : ∃ t, 0 ≤ t ∧ t < 14 ∧ bt B t = 1 ∧ ¬ bt B0 t = 1 := by
        apply Classical.byContradiction
        intro hn
        exact e (fun t t0 t1 h1 => Classical.byContradiction (fun h2 => hn ⟨t, t0, t1, h1, h2⟩))
      obtain ⟨t, t0, t1, h1, h2⟩ := this
      have := cn_lt s2 t0 t1 h1 h2
      omega
end DP
theorem bs_and2 {x y : Int} (h : bs y) : bs (xa_ib 3 x y) := by
  refine bs_of (z := Int32.ofInt x &&& Int32.ofInt y) ?_
  rw [Int32.toBitVec_and, BitVec.toNat_and, bn_of h]
  have h1 := h.1
  have h2 := h.2
  exact Nat.lt_of_le_of_lt Nat.and_le_right (by omega)
theorem bt_beh {k g w : Int} (k0 : 0 ≤ k) (k1 : k ≤ 14) (g0 : 0 ≤ g) (g1 : g < k) (w0 : 0 ≤ w) (w1 : w < 14) (h : bt (xa_w32 (xa_ib 6 1 k - xa_ib 6 2 g)) w = 1) : g < w ∧ w < k := by
  have key : (List.range 15).all (fun k => (List.range k).all (fun g => (List.range 14).all (fun w => decide (bt (xa_w32 (xa_ib 6 1 (k : Int) - xa_ib 6 2 (g : Int))) (w : Int) = 1 → ((g : Int) < (w : Int) ∧ (w : Int) < (k : Int)))))) = true := by decide +kernel
  have h2 := List.all_eq_true.mp (List.all_eq_true.mp (List.all_eq_true.mp key k.toNat (List.mem_range.mpr (by omega))) g.toNat (List.mem_range.mpr (by omega))) w.toNat (List.mem_range.mpr (by omega))
  rw [Int.toNat_of_nonneg k0, Int.toNat_of_nonneg g0, Int.toNat_of_nonneg w0, decide_eq_true_eq] at h2
  exact h2 h
/-- the wheels of a lot get its number -/
def dp_gp (M M1 : xa_M) (B w : Int) : Prop := (∀ (q : Nat) (j : Int), ¬ q = 35 → M1 q j = M q j) ∧ (∀ t, 0 ≤ t → t < w → (bt B t = 1 → M1 35 t = M 34 3) ∧ (¬ bt B t = 1 → M1 35 t = M 35 t)) ∧ ∀ t, w ≤ t → M1 35 t = M 35 t
theorem dp_gp1 {M M1 : xa_M} {B w v : Int} (h : dp_gp M M1 B w) (hb : bt B w = 1) (e : v = M 34 3) : dp_gp M (xa_up M1 35 w v) B (w + 1) := by
  obtain ⟨h1, h2, h3⟩ := h
  refine ⟨fun q j hq => (xa_up_ne (fun e => hq e.1)).trans (h1 q j hq), fun t t0 t1 => ?_, fun t t1 => (xa_up_ne (by omega)).trans (h3 t (by omega))⟩
  by_cases c : t = w
  · rw [c, xa_up_eq]
    exact ⟨fun _ => e, fun n => absurd hb n⟩
  · rw [xa_up_ne (fun e => c e.2)]
    exact h2 t t0 (by omega)
theorem dp_gp0 {M M1 : xa_M} {B w : Int} (h : dp_gp M M1 B w) (hb : ¬ bt B w = 1) : dp_gp M M1 B (w + 1) := by
  obtain ⟨h1, h2, h3⟩ := h
  refine ⟨h1, fun t t0 t1 => ?_, fun t t1 => h3 t (by omega)⟩
  by_cases c : t = w
  · rw [c]
    exact ⟨fun y => absurd y hb, fun _ => h3 w (Int.le_refl w)⟩
  · exact h2 t t0 (by omega)
theorem dp_up35 {M : xa_M} {v : Int} (q : Nat) (hq : ¬ q = 34) : (xa_up M 34 3 v) q = M q := funext (fun j => xa_up_ne (fun e => hq e.1))
def dp_L (N M : xa_M) : Prop := (0 ≤ M 34 3 ∧ M 34 3 ≤ 14) ∧ dq_g (N 1 9) (N 1 10) (N 7) (N 8) (M 35) (M 34 3) ∧ dq_c (N 1 9) (dp_W (N 9) (N 10) (N 5) (N 4) (N 7) (N 8) (N 1 10)) (M 35) (M 34 3) (fun x y => bt (M 36 x) y = 1)
theorem dp_back {M : xa_M} {g c : Int} (h : M 37 g = -1) : xa_up (xa_up M 37 g c) 37 g (-1) = M := by
  funext q j
  by_cases e : q = 37 ∧ j = g
  · obtain ⟨e1, e2⟩ := e
    rw [e1, e2, xa_up_eq, h]
  · rw [xa_up_ne e, xa_up_ne e]
def dp_o (G : Int) (C : Int → Int → Prop) (L : Int → Int) (g m r : Int) : Prop := bs r ∧ ∃ U, 0 ≤ U ∧ (∀ t, 0 ≤ t → t < G → L t < U) ∧ ∀ x, 0 ≤ x → x < 14 → (bt r x = 1 ↔ x ≤ U ∧ x < m ∧ ∀ t, 0 ≤ t → t < G → L t = x → ¬ C g t)
def dp_lot (G : Int) (C : Int → Int → Prop) (s B : Int) : Prop := bs B ∧ (∀ t, 0 ≤ t → t < 14 → bt B t = 1 → bt s t = 1) ∧ (¬ s = 0 → ∃ t, 0 ≤ t ∧ t < 14 ∧ bt B t = 1) ∧ dp_cc G C s B
def dp_min (G : Int) (C : Int → Int → Prop) (r : Int) : Prop := (0 ≤ r ∧ r ≤ G) ∧ dq_X G C (fun _ => True) (fun _ => -1) r ∧ ∀ x, 0 ≤ x → x < r → ¬ dq_X G C (fun _ => True) (fun _ => -1) x
theorem cn_00 : cn 0 = 0 := by decide +kernel
theorem cn_ex {x : Int} (h : 1 ≤ cn x) : ∃ t, 0 ≤ t ∧ t < 14 ∧ bt x t = 1 := by
  apply Classical.byContradiction
  intro n
  have := cn_mn (x := x) (y := 0) (fun w w0 w1 e => absurd ⟨w, w0, w1, e⟩ n)
  have := cn_00
  omega
section DR
variable {G s B g c m o : Int} {C : Int → Int → Prop} {M : xa_M}
theorem dp_c0 (g14 : G ≤ 14) (hs : bs s) : bs (xa_ib 3 s (-s)) ∧ (∀ t, 0 ≤ t → t < 14 → bt (xa_ib 3 s (-s)) t = 1 → bt s t = 1) ∧ (¬ s = 0 → ∃ t, 0 ≤ t ∧ t < 14 ∧ bt (xa_ib 3 s (-s)) t = 1) ∧ (dp_cc G C s (xa_ib 3 s (-s)) ∨ 0 + 1 ≤ cn (xa_ib 3 s (-s))) ∧ (xa_ib 3 s (-s) = 0 → dp_cc G C s (xa_ib 3 s (-s))) := by
  have a1 : ∀ t, 0 ≤ t → t < 14 → bt (xa_ib 3 s (-s)) t = 1 → bt s t = 1 := fun t t0 t1 h => ((bt_and t0 (by omega)).mp h).1
  have a2 : ¬ s = 0 → ∃ t, 0 ≤ t ∧ t < 14 ∧ bt (xa_ib 3 s (-s)) t = 1 := fun h => Classical.byContradiction (fun n => bs_low hs h (bs_z (bs_and hs) (fun w w0 w1 e => n ⟨w, w0, w1, e⟩)))
  refine ⟨bs_and hs, a1, a2, ?_, fun e g t g0 g1 _ _ hg => ?_⟩
  · by_cases h : s = 0
    · refine Or.inl (fun g t g0 g1 _ _ hg => ?_)
      have := a1 g g0 (by omega) hg
      rw [h] at this
      exact absurd this (bt_0 g0 (by omega))
    · obtain ⟨t, t0, t1, e⟩ := a2 h
      have := cn_1 t0 t1 e
      exact Or.inr (by omega)
  · rw [e] at hg
    exact absurd hg (bt_0 g0 (by omega))
theorem dp_lf (h : dp_lot G C s B) (hs : ¬ s = 0) : 1 ≤ cn B ∧ cn B ≤ cn s := by
  obtain ⟨t, t0, t1, e⟩ := h.2.2.1 hs
  exact ⟨cn_1 t0 t1 e, cn_mn h.2.1⟩
theorem dp_rm (h : dp_lot G C s B) (hs : ¬ s = 0) : cn (xa_ib 3 s (xa_ib 5 B (-1))) + 1 ≤ cn s := by
  obtain ⟨t, t0, t1, e⟩ := h.2.2.1 hs
  exact cn_lt (fun w w0 w1 q => ((bt_and w0 (by omega)).mp q).1) t0 t1 (h.2.1 t t0 t1 e) (fun q => (bt_xm t0 (by omega)).mp ((bt_and t0 (by omega)).mp q).2 e)
theorem dp_un {L : Int → Int} (g14 : G ≤ 14) (hsC : dq_s G C) (h : dp_lot G C s B) (h1 : dq_X G C (fun t => bt B t = 1) L m) (h2 : dq_X G C (fun t => bt (xa_ib 3 s (xa_ib 5 B (-1))) t = 1) L m) : dq_X G C (fun t => bt s t = 1) L m := by
  refine dq_Xu hsC (fun g g0 g1 e => ?_) (fun g t g0 g1 t0 t1 e q d => ?_) h1 h2
  · by_cases c : bt B g = 1
    · exact Or.inl c
    · exact Or.inr ((bt_and g0 (by omega)).mpr ⟨e, (bt_xm g0 (by omega)).mpr c⟩)
  · have y := (bt_and t0 (by omega)).mp q
    exact (bt_xm t0 (by omega)).mp y.2 (h.2.2.2 g t g0 g1 t0 t1 e y.1 d)
theorem dp_sg {t : Int} (hg : 0 ≤ g ∧ g < 31) (t0 : 0 ≤ t) (t1 : t < 31) : bt (xa_ib 3 s (xa_ib 5 (xa_ib 6 1 g) (-1))) t = 1 ↔ bt s t = 1 ∧ ¬ g = t := by
  rw [bt_and t0 t1, bt_xm t0 t1, bt_sh hg.1 hg.2 t0 t1]
theorem dp_c1 (hg : 0 ≤ g ∧ g < 14) (h : bt s g = 1) : cn (xa_ib 3 s (xa_ib 5 (xa_ib 6 1 g) (-1))) + 1 ≤ cn s := cn_lt (fun w w0 w1 q => ((dp_sg (by omega) w0 (by omega)).mp q).1) hg.1 hg.2 h (fun q => ((dp_sg (by omega) hg.1 (by omega)).mp q).2 rfl)
theorem dp_hl (hl : ∀ t, 0 ≤ t → t < 14 → -1 ≤ M 37 t ∧ M 37 t ≤ 13) (hc : -1 ≤ c ∧ c ≤ 13) : ∀ t, 0 ≤ t → t < 14 → -1 ≤ xa_up M 37 g c 37 t ∧ xa_up M 37 g c 37 t ≤ 13 := fun t t0 t1 => by
  by_cases e : t = g
  · rw [e, xa_up_eq]
    exact hc
  · rw [xa_up_ne (fun q => e q.2)]
    exact hl t t0 t1
theorem dp_y1 (g14 : G ≤ 14) (hsC : dq_s G C) (hg : 0 ≤ g ∧ g < G) (hLg : M 37 g = -1) (ho : dp_o G C (M 37) g m o) (c0 : 0 ≤ c) (c1 : c < 14) (hb : bt o c = 1) (hX : dq_X G C (fun t => bt (xa_ib 3 s (xa_ib 5 (xa_ib 6 1 g) (-1))) t = 1) ((xa_up M 37 g c) 37) m) : dq_X G C (fun t => bt s t = 1) (M 37) m := by
  obtain ⟨_, U, U0, hU, hx⟩ := ho
  obtain ⟨y1, y2, y3⟩ := (hx c c0 c1).mp hb
  exact dq_Xi hsC hg.1 hg.2 hLg (fun x x0 x1 h ne => (dp_sg (by omega) x0 (by omega)).mpr ⟨h, fun e => ne e.symm⟩) xa_up_eq (fun x ne => xa_up_ne (fun q => ne q.2)) c0 y2 y3 hX
theorem dp_yf (g14 : G ≤ 14) (m14 : m ≤ 14) (hg : 0 ≤ g ∧ g < G) (hgs : bt s g = 1) (ho : dp_o G C (M 37) g m o) (hX : dq_X G C (fun t => bt s t = 1) (M 37) m) : ∃ x, 0 ≤ x ∧ x < m ∧ bt o x = 1 ∧ dq_X G C (fun t => bt (xa_ib 3 s (xa_ib 5 (xa_ib 6 1 g) (-1))) t = 1) ((xa_up M 37 g x) 37) m := by
  obtain ⟨_, U, U0, hU, hx⟩ := ho
  obtain ⟨c, c0, cU, cm, hc, h⟩ := dq_Xe (S := fun t => bt s t = 1) hg.1 hg.2 hgs U0 hU hX
  exact ⟨c, c0, cm, (hx c c0 (by omega)).mpr ⟨cU, cm, hc⟩, h _ _ (fun x x0 x1 e => by
    have y := (dp_sg (by omega) x0 (by omega)).mp e
    exact ⟨y.1, fun q => y.2 q.symm⟩) xa_up_eq (fun x ne => xa_up_ne (fun q => ne q.2))⟩
end DR
def dp_CPs (κ : Int) (e : Nat) : Prop := ∀ {b : Bool} {A : Nat → Nat} {h0 : g_H} {d : Nat} {M : xa_M} {post : Option xa_V → xa_M → Prop} {l1 u1 l2 u2 l3 u3 s m p : Int} {C : Int → Int → Prop} {G : Int}, M 34 3 = G → 0 ≤ G ∧ G ≤ 14 → (∀ x y, 0 ≤ x → x < G → 0 ≤ y → y < G → (C x y ↔ bt (M 36 x) y = 1)) → (∀ t, 0 ≤ t → t < 14 → -1 ≤ M 37 t ∧ M 37 t ≤ 13) → dq_s G C → bs s → cn s ≤ κ → 0 ≤ p ∧ p + cn s ≤ 14 → 0 ≤ m ∧ m ≤ 14 → (∀ t, 0 ≤ t → t < 14 → bt s t = 1 → t < G ∧ M 37 t = -1) → (∀ r : Int, (r = 0 ∨ r = 1) → (r = 1 ↔ dq_X G C (fun t => bt s t = 1) (M 37) m) → post (some (0, 0, 0, 1, r)) M) → xa_C (xl_I b) A h0 (d + e + 3) 157 [(2, 34, 0, 0, 0), (0, 0, l1, u1, s), (0, 0, l2, u2, m), (0, 0, l3, u3, p)] M post
def dp_CLs (κ : Int) (e : Nat) : Prop := ∀ {b : Bool} {A : Nat → Nat} {h0 : g_H} {d : Nat} {M : xa_M} {post : Option xa_V → xa_M → Prop} {l1 u1 l2 u2 l3 u3 s m p : Int} {C : Int → Int → Prop} {G : Int}, M 34 3 = G → 0 ≤ G ∧ G ≤ 14 → (∀ x y, 0 ≤ x → x < G → 0 ≤ y → y < G → (C x y ↔ bt (M 36 x) y = 1)) → (∀ t, 0 ≤ t → t < 14 → -1 ≤ M 37 t ∧ M 37 t ≤ 13) → dq_s G C → bs s → cn s ≤ κ → 0 ≤ p ∧ p + cn s ≤ 14 → 0 ≤ m ∧ m ≤ 14 → (∀ t, 0 ≤ t → t < 14 → bt s t = 1 → t < G ∧ M 37 t = -1) → 1 ≤ cn s → (∀ r : Int, (r = 0 ∨ r = 1) → (r = 1 ↔ dq_X G C (fun t => bt s t = 1) (M 37) m) → post (some (0, 0, 0, 1, r)) M) → xa_C (xl_I b) A h0 (d + e + 2) 159 [(2, 34, 0, 0, 0), (0, 0, l1, u1, s), (0, 0, l2, u2, m), (0, 0, l3, u3, p)] M post
theorem dp_T1 {G m a : Int} {C : Int → Int → Prop} {L : Int → Int} (ha : ∀ t, 0 ≤ t → t < G → bt a t = 1) (hL : ∀ t, 0 ≤ t → t < G → L t = -1) : dq_X G C (fun t => bt a t = 1) L m ↔ dq_X G C (fun _ => True) (fun _ => -1) m := ⟨fun h => dq_Xs (fun g g0 g1 _ => ha g g0 g1) (fun g g0 g1 => (hL g g0 g1).symm) h, fun h => dq_Xs (fun _ _ _ _ => trivial) (fun g g0 g1 => hL g g0 g1) h⟩
theorem dp_ans {n mm G r : Int} {W : Int → Int → Prop} {a b p : Int → Int} {C : Int → Int → Prop} (hab : xk_ab n mm a b) (hg : dq_g n mm a b p G) (hc : dq_c n W p G C) (hn : ∀ x, 0 ≤ x → x < G → ¬ C x x) (h : dp_min G C r) : dq_A n W a b mm r := by
  obtain ⟨r1, r2, r3⟩ := h
  have e : ∀ k, dq_X G C (fun _ => True) (fun _ => -1) k ↔ dq_Col n W a b mm k := fun k => dq_gX hab hg hc (fun _ _ _ => trivial) (fun _ _ _ => rfl)
  refine Or.inr ⟨fun h => ?_, r1.1, (e r).mp r2, fun k k0 k1 h => r3 k k0 k1 ((e k).mpr h)⟩
  obtain ⟨x, x0, x1, hx⟩ := (dq_gS hg hc).mpr h
  exact hn x x0 x1 hx
theorem dp_heq {n mm : Int} {a b f : Int → Int} (hab : xk_ab n mm a b) (hK : xk_K n mm a b f) (hR : xk_R n mm a b f n) (hn : 0 ≤ n) : ∀ i, 0 ≤ i → i < mm → f (a i) = f (b i) := by
  have hcl : ∀ c, 0 ≤ c → xk_cl mm a b f c := fun c c0 => by
    rcases hR c c0 with h | h
    · exact h
    · have := (xk_b (f := f) (c := c) n.toNat).2
      omega
  intro i i0 i1
  obtain ⟨ha, hb⟩ := hab i i0 i1
  have h1 := (hcl _ (hK.2 _ ha.1 ha.2).1 i i0 i1).1 (Int.le_refl _)
  have h2 := (hcl _ (hK.2 _ hb.1 hb.2).1 i i0 i1).2 (Int.le_refl _)
  omega
/-- those ahead of w are put as they may be -/
def dp_V (M : xa_M) (w u m : Int) : Prop := (∀ v, 0 ≤ v → v < w → 0 ≤ M 94 v ∧ M 94 v < u ∧ M 94 v < m) ∧ (∀ v x, 0 ≤ v → v < w → 0 ≤ x → x < w → M 93 v = M 93 x → M 94 v = M 94 x) ∧ ∀ v x, 0 ≤ v → v < x → x < w → xm_inw M v x → ¬ M 94 v = M 94 x
def dp_Z (M : xa_M) (w m d : Int) : Prop := (M 93 w < w → M 94 (M 93 w) = d) ∧ (∀ v, 0 ≤ v → v < w → M 94 v = d → ¬ xm_inw M v w) ∧ ∀ P' : Int → Int, (∀ v, 0 ≤ v → v < w → P' v = M 94 v) → P' w = d → dq_E (M 60 0) (xm_inw M) (M 93) P' (w + 1) m
theorem dp_Vs {M M1 : xa_M} {w u z m d : Int} (h : xm_94 w M M1) (hf : xm_ff M) (hV : dp_V M w u m) (w0 : 0 ≤ w) (w1 : w < M 60 0) (hd : 0 ≤ d ∧ d < m) (hz1 : u ≤ z) (hz2 : d + 1 ≤ z) (h1 : M 93 w < w → M 94 (M 93 w) = d) (h2 : ∀ v, 0 ≤ v → v < w → M 94 v = d → ¬ xm_inw M v w) : dp_V (xa_up M1 94 w d) (w + 1) z m := by
  obtain ⟨v1, v2, v3⟩ := hV
  have g : xm_94 w M (xa_up M1 94 w d) := xm_94_u (Int.le_refl w) h
  have ew : xa_up M1 94 w d 94 w = d := xa_up_eq
  have eo : ∀ v, v < w → xa_up M1 94 w d 94 v = M 94 v := fun v hv => g 94 v (by omega)
  have e3 : ∀ v, xa_up M1 94 w d 93 v = M 93 v := fun v => g 93 v (by omega)
  have ei : ∀ a b, xm_inw (xa_up M1 94 w d) a b = xm_inw M a b := fun a b => propext (xm_inw_c (xm_94_c g))
  have fw := hf w w0 w1
  have key : ∀ v, 0 ≤ v → v < w → M 93 v = M 93 w → M 94 v = d := fun v v0 vw e => by
    have fv := hf v v0 (by omega)
    have c : M 93 w < w := by omega
    rw [← h1 c, ← e]
    exact v2 v (M 93 v) v0 vw fv.1 (by omega) fv.2.2.symm
  refine ⟨fun v v0 vw => ?_, fun v x v0 vw x0 xw e => ?_, fun v x v0 vx xw hi => ?_⟩
  · by_cases c : v = w
    · rw [c, ew]
      omega
    · rw [eo v (by omega)]
      have := v1 v v0 (by omega)
      omega
  · rw [e3, e3] at e
    by_cases c : v = w
    · by_cases c' : x = w
      · rw [c, c']
      · rw [c] at e ⊢
        rw [ew, eo x (by omega)]
        exact (key x x0 (by omega) e.symm).symm
    · by_cases c' : x = w
      · rw [c'] at e ⊢
        rw [ew, eo v (by omega)]
        exact key v v0 (by omega) e
      · rw [eo v (by omega), eo x (by omega)]
        exact v2 v x v0 (by omega) x0 (by omega) e
  · rw [ei] at hi
    by_cases c : x = w
    · rw [c] at hi vx ⊢
      rw [ew, eo v vx]
      exact fun e => h2 v v0 vx e hi
    · rw [eo v (by omega), eo x (by omega)]
      exact v3 v x v0 vx (by omega) hi
theorem dp_Ee {M M1 : xa_M} {w m : Int} (h : xm_94 w M M1) (w9 : Int) : dq_E (M1 60 0) (xm_inw M1) (M1 93) (M1 94) w9 m ↔ dq_E (M 60 0) (xm_inw M) (M 93) (M1 94) w9 m := by
  rw [h 60 0 (by omega), show M1 93 = M 93 from funext (fun v => h 93 v (by omega)), show xm_inw M1 = xm_inw M from funext (fun a => funext (fun b => propext (xm_inw_c (xm_94_c h))))]
theorem dp_VE {M : xa_M} {u m : Int} (hV : dp_V M (M 60 0) u m) : dq_E (M 60 0) (xm_inw M) (M 93) (M 94) (M 60 0) m := ⟨M 94, fun v v0 v1 => by have := hV.1 v v0 v1; omega, fun v x v0 v1 x0 x1 e => hV.2.1 v x v0 v1 x0 x1 e, fun v x v0 vx x1 h => hV.2.2 v x v0 vx x1 h, fun _ _ _ => rfl⟩
def dp_z (M M1 : xa_M) : Prop := (∀ m, 0 ≤ m → m < M 60 6 → M1 93 (M 66 m) = M1 93 (M 67 m)) ∧ ∀ R : Int → Prop, dq_i (M 66) (M 67) (M 60 6) R → ∀ w, 0 ≤ w → w < M 60 0 → (R w ↔ R (M1 93 w))
theorem dp_z_94 {M M1 M2 : xa_M} {w : Int} (h : xm_94 w M1 M2) (hz : dp_z M M1) : dp_z M M2 := by
  unfold dp_z
  rw [show M2 93 = M1 93 from funext (fun v => h 93 v (by omega))]
  exact hz
theorem cx_77d_35 {b : Bool} {A : Nat → Nat} {h0 : g_H} {d : Nat} {M : xa_M} {post : Option xa_V → xa_M → Prop} {l1 u1 : Int} {x1 : Int} (k : ∀ M1 : xa_M, (∀ (q : Nat) (j : Int), ¬ q = 35 → M1 q j = M q j) → (∀ t, 0 ≤ t → t < 14 → M1 35 t = x1) → post none M1) : xa_C (xl_I b) A h0 (d + 1) 77 [(2, 35, 0, 0, 0), (0, 0, l1, u1, x1)] M post := by
  refine xa_C_arg [(2, 35, 0, 0, 0), (0, 0, (-2147483648), 2147483647, x1)] (xa_svR (xa_svI (fun _ _ _ _ => by omega) (xa_sv0))) ?_
  refine xa_meth (Q0 := (3, 0, false, 0, 0, 11)) (by decide +kernel) ⟨rfl, rfl⟩ (full := s_c_77) rfl rfl ?_
  intro hM hv Q hgo
  have loop : ∀ (n : Nat) (i : Int) (M1 : xa_M), 0 ≤ i ∧ i ≤ 14 → (∀ (q : Nat) (j : Int), ¬ q = 35 → M1 q j = M q j) → (∀ t, 0 ≤ t → t < i → M1 35 t = x1) → 14 - i < (n : Int) → Q 2 [(2, (0, 0, 0, 14, i)), (0, (2, 35, 0, 0, 0)), (1, (0, 0, (-2147483648), 2147483647, x1))] [] M1 := by
    intro n
    induction n with
    | zero => intro i M1 i1 hk hd hms; omega
    | succ n ih =>
      intro i M1 i1 hk hd hms
      refine hgo.1 15 [2] 2 _ _ _ ?_
      refine And.intro ?_ ?_
      · intro (c1 : 14 ≤ i)
        show post none M1
        exact k M1 hk (fun t t0 t1 => hd t t0 (by omega))
      · intro (c1 : i < 14)
        refine And.intro (show 0 ≤ i ∧ i < 14 by omega) ?_
        show Q 2 [(2, (0, 0, 1, 15, i + 1)), (0, (2, 35, 0, 0, 0)), (1, (0, 0, (-2147483648), 2147483647, x1))] [] (xa_up M1 35 i x1)
        refine hgo.2.1 2 _ [(2, (0, 0, 0, 14, i + 1)), (0, (2, 35, 0, 0, 0)), (1, (0, 0, (-2147483648), 2147483647, x1))] _ _ (xa_subI rfl rfl (fun _ _ _ _ => by omega) (xa_subR rfl (xa_subI rfl rfl (fun _ _ _ _ => by omega) (xa_sub0)))) ?_
        exact ih (i + 1) (xa_up M1 35 i x1) (by omega) (fun q j hq => (xa_up_ne (fun e => hq e.1)).trans (hk q j hq)) (dp_fl hd) (by omega)
  refine hgo.1 7 [2] 0 _ _ _ ?_
  show Q 2 [(2, (0, 0, 0, 0, 0)), (0, (2, 35, 0, 0, 0)), (1, (0, 0, (-2147483648), 2147483647, x1))] [] M
  refine hgo.2.1 2 _ [(2, (0, 0, 0, 14, 0)), (0, (2, 35, 0, 0, 0)), (1, (0, 0, (-2147483648), 2147483647, x1))] _ _ (xa_subI rfl rfl (fun _ _ _ _ => by omega) (xa_subR rfl (xa_subI rfl rfl (fun _ _ _ _ => by omega) (xa_sub0)))) ?_
  exact loop 15 0 M (by omega) (fun _ _ _ => rfl) (fun t t0 t1 => by omega) (by omega)
theorem cx_77d_36 {b : Bool} {A : Nat → Nat} {h0 : g_H} {d : Nat} {M : xa_M} {post : Option xa_V → xa_M → Prop} {l1 u1 : Int} {x1 : Int} (k : ∀ M1 : xa_M, (∀ (q : Nat) (j : Int), ¬ q = 36 → M1 q j = M q j) → (∀ t, 0 ≤ t → t < 14 → M1 36 t = x1) → post none M1) : xa_C (xl_I b) A h0 (d + 1) 77 [(2, 36, 0, 0, 0), (0, 0, l1, u1, x1)] M post := by
  refine xa_C_arg [(2, 36, 0, 0, 0), (0, 0, (-2147483648), 2147483647, x1)] (xa_svR (xa_svI (fun _ _ _ _ => by omega) (xa_sv0))) ?_
  refine xa_meth (Q0 := (3, 0, false, 0, 0, 11)) (by decide +kernel) ⟨rfl, rfl⟩ (full := s_c_77) rfl rfl ?_
  intro hM hv Q hgo
  have loop : ∀ (n : Nat) (i : Int) (M1 : xa_M), 0 ≤ i ∧ i ≤ 14 → (∀ (q : Nat) (j : Int), ¬ q = 36 → M1 q j = M q j) → (∀ t, 0 ≤ t → t < i → M1 36 t = x1) → 14 - i < (n : Int) → Q 2 [(2, (0, 0, 0, 14, i)), (0, (2, 36, 0, 0, 0)), (1, (0, 0, (-2147483648), 2147483647, x1))] [] M1 := by
    intro n
    induction n with
    | zero => intro i M1 i1 hk hd hms; omega
    | succ n ih =>
      intro i M1 i1 hk hd hms
      refine hgo.1 15 [2] 2 _ _ _ ?_
      refine And.intro ?_ ?_
      · intro (c1 : 14 ≤ i)
        show post none M1
        exact k M1 hk (fun t t0 t1 => hd t t0 (by omega))
      · intro (c1 : i < 14)
        refine And.intro (show 0 ≤ i ∧ i < 14 by omega) ?_
        show Q 2 [(2, (0, 0, 1, 15, i + 1)), (0, (2, 36, 0, 0, 0)), (1, (0, 0, (-2147483648), 2147483647, x1))] [] (xa_up M1 36 i x1)
        refine hgo.2.1 2 _ [(2, (0, 0, 0, 14, i + 1)), (0, (2, 36, 0, 0, 0)), (1, (0, 0, (-2147483648), 2147483647, x1))] _ _ (xa_subI rfl rfl (fun _ _ _ _ => by omega) (xa_subR rfl (xa_subI rfl rfl (fun _ _ _ _ => by omega) (xa_sub0)))) ?_
        exact ih (i + 1) (xa_up M1 36 i x1) (by omega) (fun q j hq => (xa_up_ne (fun e => hq e.1)).trans (hk q j hq)) (dp_fl hd) (by omega)
  refine hgo.1 7 [2] 0 _ _ _ ?_
  show Q 2 [(2, (0, 0, 0, 0, 0)), (0, (2, 36, 0, 0, 0)), (1, (0, 0, (-2147483648), 2147483647, x1))] [] M
  refine hgo.2.1 2 _ [(2, (0, 0, 0, 14, 0)), (0, (2, 36, 0, 0, 0)), (1, (0, 0, (-2147483648), 2147483647, x1))] _ _ (xa_subI rfl rfl (fun _ _ _ _ => by omega) (xa_subR rfl (xa_subI rfl rfl (fun _ _ _ _ => by omega) (xa_sub0)))) ?_
  exact loop 15 0 M (by omega) (fun _ _ _ => rfl) (fun t t0 t1 => by omega) (by omega)
theorem cx_77d_37 {b : Bool} {A : Nat → Nat} {h0 : g_H} {d : Nat} {M : xa_M} {post : Option xa_V → xa_M → Prop} {l1 u1 : Int} {x1 : Int} (k : ∀ M1 : xa_M, (∀ (q : Nat) (j : Int), ¬ q = 37 → M1 q j = M q j) → (∀ t, 0 ≤ t → t < 14 → M1 37 t = x1) → post none M1) : xa_C (xl_I b) A h0 (d + 1) 77 [(2, 37, 0, 0, 0), (0, 0, l1, u1, x1)] M post := by
  refine xa_C_arg [(2, 37, 0, 0, 0), (0, 0, (-2147483648), 2147483647, x1)] (xa_svR (xa_svI (fun _ _ _ _ => by omega) (xa_sv0))) ?_
  refine xa_meth (Q0 := (3, 0, false, 0, 0, 11)) (by decide +kernel) ⟨rfl, rfl⟩ (full := s_c_77) rfl rfl ?_
  intro hM hv Q hgo
  have loop : ∀ (n : Nat) (i : Int) (M1 : xa_M), 0 ≤ i ∧ i ≤ 14 → (∀ (q : Nat) (j : Int), ¬ q = 37 → M1 q j = M q j) → (∀ t, 0 ≤ t → t < i → M1 37 t = x1) → 14 - i < (n : Int) → Q 2 [(2, (0, 0, 0, 14, i)), (0, (2, 37, 0, 0, 0)), (1, (0, 0, (-2147483648), 2147483647, x1))] [] M1 := by
    intro n
    induction n with
    | zero => intro i M1 i1 hk hd hms; omega
    | succ n ih =>
      intro i M1 i1 hk hd hms
      refine hgo.1 15 [2] 2 _ _ _ ?_
      refine And.intro ?_ ?_
      · intro (c1 : 14 ≤ i)
        show post none M1
        exact k M1 hk (fun t t0 t1 => hd t t0 (by omega))
      · intro (c1 : i < 14)
        refine And.intro (show 0 ≤ i ∧ i < 14 by omega) ?_
        show Q 2 [(2, (0, 0, 1, 15, i + 1)), (0, (2, 37, 0, 0, 0)), (1, (0, 0, (-2147483648), 2147483647, x1))] [] (xa_up M1 37 i x1)
        refine hgo.2.1 2 _ [(2, (0, 0, 0, 14, i + 1)), (0, (2, 37, 0, 0, 0)), (1, (0, 0, (-2147483648), 2147483647, x1))] _ _ (xa_subI rfl rfl (fun _ _ _ _ => by omega) (xa_subR rfl (xa_subI rfl rfl (fun _ _ _ _ => by omega) (xa_sub0)))) ?_
        exact ih (i + 1) (xa_up M1 37 i x1) (by omega) (fun q j hq => (xa_up_ne (fun e => hq e.1)).trans (hk q j hq)) (dp_fl hd) (by omega)
  refine hgo.1 7 [2] 0 _ _ _ ?_
  show Q 2 [(2, (0, 0, 0, 0, 0)), (0, (2, 37, 0, 0, 0)), (1, (0, 0, (-2147483648), 2147483647, x1))] [] M
  refine hgo.2.1 2 _ [(2, (0, 0, 0, 14, 0)), (0, (2, 37, 0, 0, 0)), (1, (0, 0, (-2147483648), 2147483647, x1))] _ _ (xa_subI rfl rfl (fun _ _ _ _ => by omega) (xa_subR rfl (xa_subI rfl rfl (fun _ _ _ _ => by omega) (xa_sub0)))) ?_
  exact loop 15 0 M (by omega) (fun _ _ _ => rfl) (fun t t0 t1 => by omega) (by omega)
theorem cx_23_36 {b : Bool} {A : Nat → Nat} {h0 : g_H} {d : Nat} {M : xa_M} {post : Option xa_V → xa_M → Prop} {l1 u1 : Int} {i : Int} (h1 : 0 ≤ i ∧ i < 14) (k1 : post (some (0, 0, (-2147483648), 2147483647, M 36 i)) M) : xa_C (xl_I b) A h0 (d + 1) 23 [(2, 36, 0, 0, 0), (0, 0, l1, u1, i)] M post := by
  refine xa_C_arg [(2, 36, 0, 0, 0), (0, 0, (-2147483648), 2147483647, i)] (xa_svR (xa_svI (fun _ _ _ _ => by omega) xa_sv0)) ?_
  refine xa_meth (Q0 := (2, 1, false, 0, 0, 11)) (by decide +kernel) ⟨rfl, rfl⟩ (full := s_c_23) rfl rfl ?_
  intro hM hv Q hgo
  refine hgo.1 15 [] 0 _ _ _ ?_
  refine And.intro ?_ ?_
  · intro (c1 : i < 0)
    show post (some (0, 0, 0, 0, 0)) M
    exact absurd h1 (by omega)
  · intro (c1 : 0 ≤ i)
    refine And.intro ?_ ?_
    · intro (c2 : 14 ≤ i)
      show post (some (0, 0, 0, 0, 0)) M
      exact absurd h1 (by omega)
    · intro (c2 : i < 14)
      refine And.intro (show 0 ≤ i ∧ i < 14 by omega) ?_
      show post (some (0, 0, (-2147483648), 2147483647, M 36 i)) M
      exact k1
theorem cx_18_36 {b : Bool} {A : Nat → Nat} {h0 : g_H} {d : Nat} {M : xa_M} {post : Option xa_V → xa_M → Prop} {l1 u1 l2 u2 : Int} {i v : Int} (h1 : 0 ≤ i ∧ i < 14) (k1 : post none (xa_up M 36 i v)) : xa_C (xl_I b) A h0 (d + 1) 18 [(2, 36, 0, 0, 0), (0, 0, l1, u1, i), (0, 0, l2, u2, v)] M post := by
  refine xa_C_arg [(2, 36, 0, 0, 0), (0, 0, (-2147483648), 2147483647, i), (0, 0, (-2147483648), 2147483647, v)] (xa_svR (xa_svI (fun _ _ _ _ => by omega) (xa_svI (fun _ _ _ _ => by omega) xa_sv0))) ?_
  refine xa_meth (Q0 := (3, 0, false, 0, 0, 11)) (by decide +kernel) ⟨rfl, rfl⟩ (full := s_c_18) rfl rfl ?_
  intro hM hv Q hgo
  refine hgo.1 15 [] 0 _ _ _ ?_
  refine And.intro ?_ ?_
  · intro (c1 : i < 0)
    show post none M
    exact absurd h1 (by omega)
  · intro (c1 : 0 ≤ i)
    refine And.intro ?_ ?_
    · intro (c2 : 14 ≤ i)
      show post none M
      exact absurd h1 (by omega)
    · intro (c2 : i < 14)
      refine And.intro (show 0 ≤ i ∧ i < 14 by omega) ?_
      show post none (xa_up M 36 i v)
      exact k1
theorem cx_154d {b : Bool} {A : Nat → Nat} {h0 : g_H} {d : Nat} {M : xa_M} {post : Option xa_V → xa_M → Prop} {l1 u1 l2 u2 : Int} {x y : Int} (h1 : 0 ≤ x ∧ x ≤ 13) (h2 : 0 ≤ y ∧ y ≤ 13) (k : ∀ M1 : xa_M, dp_cl M M1 x y → post none M1) : xa_C (xl_I b) A h0 (d + 2) 154 [(2, 34, 0, 0, 0), (0, 0, l1, u1, x), (0, 0, l2, u2, y)] M post := by
  refine xa_C_arg [(2, 34, 0, 0, 0), (0, 0, 0, 13, x), (0, 0, 0, 13, y)] (xa_svR (xa_svI (fun _ _ _ _ => by omega) (xa_svI (fun _ _ _ _ => by omega) (xa_sv0)))) ?_
  refine xa_meth (Q0 := (3, 0, false, 0, 0, 4)) (by decide +kernel) ⟨rfl, rfl⟩ (full := s_c_154) rfl rfl ?_
  intro hM hv Q hgo
  refine hgo.1 29 [] 0 _ _ _ ?_
  show xa_C (xl_I b) A h0 _ 23 [(2, 36, 0, 0, 0), (0, 0, 0, 13, x)] M _
  refine cx_23_36 (show 0 ≤ x ∧ x < 14 by omega) ?_
  show xa_C (xl_I b) A h0 _ 18 [(2, 36, 0, 0, 0), (0, 0, 0, 13, x), (0, 0, (-2147483648), 2147483647, xa_ib 4 (M 36 x) (xa_ib 6 1 y))] M _
  refine cx_18_36 (show 0 ≤ x ∧ x < 14 by omega) ?_
  show xa_C (xl_I b) A h0 _ 23 [(2, 36, 0, 0, 0), (0, 0, 0, 13, y)] (xa_up M 36 x (xa_ib 4 (M 36 x) (xa_ib 6 1 y))) _
  refine cx_23_36 (show 0 ≤ y ∧ y < 14 by omega) ?_
  show xa_C (xl_I b) A h0 _ 18 [(2, 36, 0, 0, 0), (0, 0, 0, 13, y), (0, 0, (-2147483648), 2147483647, xa_ib 4 ((xa_up M 36 x (xa_ib 4 (M 36 x) (xa_ib 6 1 y))) 36 y) (xa_ib 6 1 x))] (xa_up M 36 x (xa_ib 4 (M 36 x) (xa_ib 6 1 y))) _
  refine cx_18_36 (show 0 ≤ y ∧ y < 14 by omega) ?_
  show post none (xa_up (xa_up M 36 x (xa_ib 4 (M 36 x) (xa_ib 6 1 y))) 36 y (xa_ib 4 ((xa_up M 36 x (xa_ib 4 (M 36 x) (xa_ib 6 1 y))) 36 y) (xa_ib 6 1 x)))
  exact k _ (dp_cl_s h1 h2)
theorem cx_18_35 {b : Bool} {A : Nat → Nat} {h0 : g_H} {d : Nat} {M : xa_M} {post : Option xa_V → xa_M → Prop} {l1 u1 l2 u2 : Int} {i v : Int} (h1 : 0 ≤ i ∧ i < 14) (k1 : post none (xa_up M 35 i v)) : xa_C (xl_I b) A h0 (d + 1) 18 [(2, 35, 0, 0, 0), (0, 0, l1, u1, i), (0, 0, l2, u2, v)] M post := by
  refine xa_C_arg [(2, 35, 0, 0, 0), (0, 0, (-2147483648), 2147483647, i), (0, 0, (-2147483648), 2147483647, v)] (xa_svR (xa_svI (fun _ _ _ _ => by omega) (xa_svI (fun _ _ _ _ => by omega) xa_sv0))) ?_
  refine xa_meth (Q0 := (3, 0, false, 0, 0, 11)) (by decide +kernel) ⟨rfl, rfl⟩ (full := s_c_18) rfl rfl ?_
  intro hM hv Q hgo
  refine hgo.1 15 [] 0 _ _ _ ?_
  refine And.intro ?_ ?_
  · intro (c1 : i < 0)
    show post none M
    exact absurd h1 (by omega)
  · intro (c1 : 0 ≤ i)
    refine And.intro ?_ ?_
    · intro (c2 : 14 ≤ i)
      show post none M
      exact absurd h1 (by omega)
    · intro (c2 : i < 14)
      refine And.intro (show 0 ≤ i ∧ i < 14 by omega) ?_
      show post none (xa_up M 35 i v)
      exact k1
theorem cx_153d {b : Bool} {A : Nat → Nat} {h0 : g_H} {d : Nat} {M : xa_M} {post : Option xa_V → xa_M → Prop} {l2 u2 : Int} {x : Int} (hF : pl_F M) (hab : xk_ab (M 1 9) (M 1 10) (M 7) (M 8)) (hx : 0 ≤ x ∧ x < M 1 9) (n14 : M 1 9 ≤ 14) (k : ∀ (M1 : xa_M) (B : Int), (∀ (q : Nat) (j : Int), ¬ q = 35 → M1 q j = M q j) → bt B x = 1 → dp_cls (M 1 10) (M 7) (M 8) B → dp_sd (M 1 10) (M 7) (M 8) x B → (∀ t, 0 ≤ t → t < M 1 9 → (bt B t = 1 → M1 35 t = M 34 3) ∧ (¬ bt B t = 1 → M1 35 t = M 35 t)) → post none M1) : xa_C (xl_I b) A h0 (d + 4) 153 [(2, 34, 0, 0, 0), (2, 1, 0, 0, 0), (0, 0, l2, u2, x)] M post := by
  refine xa_C_arg [(2, 34, 0, 0, 0), (2, 1, 0, 0, 0), (0, 0, 0, 13, x)] (xa_svR (xa_svR (xa_svI (fun _ _ _ _ => by omega) (xa_sv0)))) ?_
  refine xa_meth (Q0 := (6, 0, false, 0, 0, 4)) (by decide +kernel) ⟨rfl, rfl⟩ (full := s_c_153) rfl rfl ?_
  intro hM hv Q hgo
  have hn := hF.1
  have hx0 := hx.1
  obtain ⟨-, hm, hr, hx, hy, ha, hd, ht⟩ := hF
  have out : ∀ (B : Int), bt B x = 1 → dp_cls (M 1 10) (M 7) (M 8) B → dp_sd (M 1 10) (M 7) (M 8) x B → ∀ (n : Nat) (w : Int) (M1 : xa_M), 0 ≤ w ∧ w ≤ M 1 9 → dp_gp M M1 B w → 14 - w < (n : Int) → Q 64 [(4, (0, 0, 0, 14, w)), (3, (0, 0, (-2147483648), 2147483647, B)), (0, (2, 34, 0, 0, 0)), (1, (2, 1, 0, 0, 0)), (2, (0, 0, 0, 13, x))] [] M1 := by
    intro B hb hcl hsd
    intro n
    induction n with
    | zero => intro w M1 w1 hp hms; omega
    | succ n ih =>
      intro w M1 w1 hp hms
      have e9 := hp.1 1 9 (by decide)
      refine hgo.1 24 [7, 17, 64] 64 _ _ _ ?_
      refine And.intro ?_ ?_
      · intro (c1 : (M1 1 9) ≤ w)
        show post none M1
        exact k M1 B hp.1 hb hcl hsd (fun t t0 t1 => hp.2.1 t t0 (by omega))
      · intro (c1 : w < (M1 1 9))
        refine And.intro ?_ ?_
        · intro (c2 : ¬ (xa_ib 3 (xa_ib 7 B w) 1) = 1)
          show Q 64 [(4, (0, 0, 1, 15, w + 1)), (3, (0, 0, (-2147483648), 2147483647, B)), (0, (2, 34, 0, 0, 0)), (1, (2, 1, 0, 0, 0)), (2, (0, 0, 0, 13, x))] [] M1
          refine hgo.2.1 64 _ [(4, (0, 0, 0, 14, w + 1)), (3, (0, 0, (-2147483648), 2147483647, B)), (0, (2, 34, 0, 0, 0)), (1, (2, 1, 0, 0, 0)), (2, (0, 0, 0, 13, x))] _ _ (xa_subI rfl rfl (fun _ _ _ _ => by omega) (xa_subI rfl rfl (fun _ _ _ _ => by omega) (xa_subR rfl (xa_subR rfl (xa_subI rfl rfl (fun _ _ _ _ => by omega) (xa_sub0)))))) ?_
          exact ih (w + 1) M1 (by omega) (dp_gp0 hp c2) (by omega)
        · intro (c2 : (xa_ib 3 (xa_ib 7 B w) 1) = 1)
          show xa_C (xl_I b) A h0 _ 18 [(2, 35, 0, 0, 0), (0, 0, 0, 14, w), (0, 0, (-2147483648), 2147483647, M1 34 3)] M1 _
          refine cx_18_35 (show 0 ≤ w ∧ w < 14 by omega) ?_
          show Q 64 [(4, (0, 0, 1, 15, w + 1)), (3, (0, 0, (-2147483648), 2147483647, B)), (0, (2, 34, 0, 0, 0)), (1, (2, 1, 0, 0, 0)), (2, (0, 0, 0, 13, x))] [] (xa_up M1 35 w (M1 34 3))
          refine hgo.2.1 64 _ [(4, (0, 0, 0, 14, w + 1)), (3, (0, 0, (-2147483648), 2147483647, B)), (0, (2, 34, 0, 0, 0)), (1, (2, 1, 0, 0, 0)), (2, (0, 0, 0, 13, x))] _ _ (xa_subI rfl rfl (fun _ _ _ _ => by omega) (xa_subI rfl rfl (fun _ _ _ _ => by omega) (xa_subR rfl (xa_subR rfl (xa_subI rfl rfl (fun _ _ _ _ => by omega) (xa_sub0)))))) ?_
          exact ih (w + 1) (xa_up M1 35 w (M1 34 3)) (by omega) (dp_gp1 hp c2 (hp.1 34 3 (by decide))) (by omega)
  have loop : ∀ (n : Nat) (p B : Int), 0 ≤ p ∧ p ≤ 14 → bt B x = 1 → dp_sd (M 1 10) (M 7) (M 8) x B → (dp_cls (M 1 10) (M 7) (M 8) B ∨ p + 1 ≤ cn B) → 14 - p < (n : Int) → Q 7 [(3, (0, 0, (-2147483648), 2147483647, B)), (4, (0, 0, 0, 14, p)), (0, (2, 34, 0, 0, 0)), (1, (2, 1, 0, 0, 0)), (2, (0, 0, 0, 13, x))] [] M := by
    intro n
    induction n with
    | zero => intro p B p1 hb hsd hq hms; omega
    | succ n ih =>
      intro p B p1 hb hsd hq hms
      have inner : p < 14 → ∀ (n : Nat) (w Bc : Int), 0 ≤ w ∧ w ≤ M 1 9 → dp_J (M 1 9) (M 1 10) (M 7) (M 8) x B Bc w → 14 - w < (n : Int) → Q 17 [(5, (0, 0, 0, 14, w)), (3, (0, 0, (-2147483648), 2147483647, Bc)), (4, (0, 0, 0, 13, p)), (0, (2, 34, 0, 0, 0)), (1, (2, 1, 0, 0, 0)), (2, (0, 0, 0, 13, x))] [] M := by
        intro p14
        intro n
        induction n with
        | zero => intro w Bc w1 hJ hms; omega
        | succ n ih2 =>
          intro w Bc w1 hJ hms
          refine hgo.1 25 [7, 17, 64] 17 _ _ _ ?_
          refine And.intro ?_ ?_
          · intro (c1 : (M 1 9) ≤ w)
            show Q 7 [(4, (0, 0, 1, 14, p + 1)), (5, (0, 0, 0, 14, w)), (3, (0, 0, (-2147483648), 2147483647, Bc)), (0, (2, 34, 0, 0, 0)), (1, (2, 1, 0, 0, 0)), (2, (0, 0, 0, 13, x))] [] M
            have ew : w = M 1 9 := by omega
            rw [ew] at hJ
            refine hgo.2.1 7 _ [(3, (0, 0, (-2147483648), 2147483647, Bc)), (4, (0, 0, 0, 14, p + 1)), (0, (2, 34, 0, 0, 0)), (1, (2, 1, 0, 0, 0)), (2, (0, 0, 0, 13, x))] _ _ (xa_subI rfl rfl (fun _ _ _ _ => by omega) (xa_subI rfl rfl (fun _ _ _ _ => by omega) (xa_subR rfl (xa_subR rfl (xa_subI rfl rfl (fun _ _ _ _ => by omega) (xa_sub0)))))) ?_
            exact ih (p + 1) Bc (by omega) (hJ.1 x hx0 (by omega) hb) hJ.2.2 (dp_pass hn.2 hab hJ hb hq) (by omega)
          · intro (c1 : w < (M 1 9))
            refine And.intro ?_ ?_
            · intro (c2 : ¬ (xa_ib 3 (xa_ib 7 Bc w) 1) = 1)
              show Q 17 [(5, (0, 0, 1, 15, w + 1)), (3, (0, 0, (-2147483648), 2147483647, xa_ib 4 Bc 0)), (4, (0, 0, 0, 13, p)), (0, (2, 34, 0, 0, 0)), (1, (2, 1, 0, 0, 0)), (2, (0, 0, 0, 13, x))] [] M
              refine hgo.2.1 17 _ [(5, (0, 0, 0, 14, w + 1)), (3, (0, 0, (-2147483648), 2147483647, xa_ib 4 Bc 0)), (4, (0, 0, 0, 13, p)), (0, (2, 34, 0, 0, 0)), (1, (2, 1, 0, 0, 0)), (2, (0, 0, 0, 13, x))] _ _ (xa_subI rfl rfl (fun _ _ _ _ => by omega) (xa_subI rfl rfl (fun _ _ _ _ => by omega) (xa_subI rfl rfl (fun _ _ _ _ => by omega) (xa_subR rfl (xa_subR rfl (xa_subI rfl rfl (fun _ _ _ _ => by omega) (xa_sub0))))))) ?_
              exact ih2 (w + 1) _ (by omega) (dp_Js hn.2 hab hJ w1.1 (by omega) (fun t t0 t1 e => absurd e (bt_0 t0 (by omega))) (fun e => absurd e c2)) (by omega)
            · intro (c2 : (xa_ib 3 (xa_ib 7 Bc w) 1) = 1)
              show xa_C (xl_I b) A h0 _ 39 [(2, 1, 0, 0, 0), (0, 0, 0, 14, w)] M _
              refine cx_39_1 hm hr ?_
              intro r113 (i3 : lm_bt M w (M 1 10) r113)
              show Q 17 [(5, (0, 0, 1, 15, w + 1)), (3, (0, 0, (-2147483648), 2147483647, xa_ib 4 Bc r113)), (4, (0, 0, 0, 13, p)), (0, (2, 34, 0, 0, 0)), (1, (2, 1, 0, 0, 0)), (2, (0, 0, 0, 13, x))] [] M
              refine hgo.2.1 17 _ [(5, (0, 0, 0, 14, w + 1)), (3, (0, 0, (-2147483648), 2147483647, xa_ib 4 Bc r113)), (4, (0, 0, 0, 13, p)), (0, (2, 34, 0, 0, 0)), (1, (2, 1, 0, 0, 0)), (2, (0, 0, 0, 13, x))] _ _ (xa_subI rfl rfl (fun _ _ _ _ => by omega) (xa_subI rfl rfl (fun _ _ _ _ => by omega) (xa_subI rfl rfl (fun _ _ _ _ => by omega) (xa_subR rfl (xa_subR rfl (xa_subI rfl rfl (fun _ _ _ _ => by omega) (xa_sub0))))))) ?_
              exact ih2 (w + 1) _ (by omega) (dp_Js hn.2 hab hJ w1.1 (by omega) (fun t t0 t1 e => ⟨c2, (i3 t t0 t1).mp e⟩) (fun _ m m0 m1 => ⟨fun e => (i3 _ (hab m m0 m1).2.1 (by have := (hab m m0 m1).2.2; omega)).mpr ⟨m, m0, m1, Or.inl ⟨e, rfl⟩⟩, fun e => (i3 _ (hab m m0 m1).1.1 (by have := (hab m m0 m1).1.2; omega)).mpr ⟨m, m0, m1, Or.inr ⟨e, rfl⟩⟩⟩)) (by omega)
      refine hgo.1 10 [7, 17, 64] 7 _ _ _ ?_
      refine And.intro ?_ ?_
      · intro (c1 : 14 ≤ p)
        show Q 64 [(4, (0, 0, 0, 0, 0)), (3, (0, 0, (-2147483648), 2147483647, B)), (0, (2, 34, 0, 0, 0)), (1, (2, 1, 0, 0, 0)), (2, (0, 0, 0, 13, x))] [] M
        refine hgo.2.1 64 _ [(4, (0, 0, 0, 14, 0)), (3, (0, 0, (-2147483648), 2147483647, B)), (0, (2, 34, 0, 0, 0)), (1, (2, 1, 0, 0, 0)), (2, (0, 0, 0, 13, x))] _ _ (xa_subI rfl rfl (fun _ _ _ _ => by omega) (xa_subI rfl rfl (fun _ _ _ _ => by omega) (xa_subR rfl (xa_subR rfl (xa_subI rfl rfl (fun _ _ _ _ => by omega) (xa_sub0)))))) ?_
        exact out B hb (hq.resolve_right (by have := (cn_le B).2; omega)) hsd 15 0 M (by omega) ⟨fun _ _ _ => rfl, fun t t0 t1 => by omega, fun _ _ => rfl⟩ (by omega)
      · intro (c1 : p < 14)
        show Q 17 [(5, (0, 0, 0, 0, 0)), (3, (0, 0, (-2147483648), 2147483647, B)), (4, (0, 0, 0, 14, p)), (0, (2, 34, 0, 0, 0)), (1, (2, 1, 0, 0, 0)), (2, (0, 0, 0, 13, x))] [] M
        refine hgo.2.1 17 _ [(5, (0, 0, 0, 14, 0)), (3, (0, 0, (-2147483648), 2147483647, B)), (4, (0, 0, 0, 13, p)), (0, (2, 34, 0, 0, 0)), (1, (2, 1, 0, 0, 0)), (2, (0, 0, 0, 13, x))] _ _ (xa_subI rfl rfl (fun _ _ _ _ => by omega) (xa_subI rfl rfl (fun _ _ _ _ => by omega) (xa_subI rfl rfl (fun _ _ _ _ => by omega) (xa_subR rfl (xa_subR rfl (xa_subI rfl rfl (fun _ _ _ _ => by omega) (xa_sub0))))))) ?_
        exact inner (by omega) 15 0 B (by omega) (dp_J0 hsd) (by omega)
  refine hgo.1 11 [7, 17, 64] 0 _ _ _ ?_
  show Q 7 [(4, (0, 0, 0, 0, 0)), (3, (0, 0, (-2147483648), 2147483647, xa_ib 6 1 x)), (0, (2, 34, 0, 0, 0)), (1, (2, 1, 0, 0, 0)), (2, (0, 0, 0, 13, x))] [] M
  refine hgo.2.1 7 _ [(3, (0, 0, (-2147483648), 2147483647, xa_ib 6 1 x)), (4, (0, 0, 0, 14, 0)), (0, (2, 34, 0, 0, 0)), (1, (2, 1, 0, 0, 0)), (2, (0, 0, 0, 13, x))] _ _ (xa_subI rfl rfl (fun _ _ _ _ => by omega) (xa_subI rfl rfl (fun _ _ _ _ => by omega) (xa_subR rfl (xa_subR rfl (xa_subI rfl rfl (fun _ _ _ _ => by omega) (xa_sub0)))))) ?_
  have sx : ∀ w, 0 ≤ w → w < 14 → (bt (xa_ib 6 1 x) w = 1 ↔ x = w) := fun w w0 w1 => bt_sh hx0 (by omega) w0 (by omega)
  have b1 := (sx x hx0 (by omega)).mpr rfl
  have c1 := cn_1 hx0 (show x < 14 by omega) b1
  exact loop 15 0 _ (by omega) b1 (fun R hR rx w w0 w1 e => by rw [← (sx w w0 w1).mp e]; exact rx) (Or.inr (by omega)) (by omega)
theorem cx_23_35 {b : Bool} {A : Nat → Nat} {h0 : g_H} {d : Nat} {M : xa_M} {post : Option xa_V → xa_M → Prop} {l1 u1 : Int} {i : Int} (h1 : 0 ≤ i ∧ i < 14) (k1 : post (some (0, 0, (-2147483648), 2147483647, M 35 i)) M) : xa_C (xl_I b) A h0 (d + 1) 23 [(2, 35, 0, 0, 0), (0, 0, l1, u1, i)] M post := by
  refine xa_C_arg [(2, 35, 0, 0, 0), (0, 0, (-2147483648), 2147483647, i)] (xa_svR (xa_svI (fun _ _ _ _ => by omega) xa_sv0)) ?_
  refine xa_meth (Q0 := (2, 1, false, 0, 0, 11)) (by decide +kernel) ⟨rfl, rfl⟩ (full := s_c_23) rfl rfl ?_
  intro hM hv Q hgo
  refine hgo.1 15 [] 0 _ _ _ ?_
  refine And.intro ?_ ?_
  · intro (c1 : i < 0)
    show post (some (0, 0, 0, 0, 0)) M
    exact absurd h1 (by omega)
  · intro (c1 : 0 ≤ i)
    refine And.intro ?_ ?_
    · intro (c2 : 14 ≤ i)
      show post (some (0, 0, 0, 0, 0)) M
      exact absurd h1 (by omega)
    · intro (c2 : i < 14)
      refine And.intro (show 0 ≤ i ∧ i < 14 by omega) ?_
      show post (some (0, 0, (-2147483648), 2147483647, M 35 i)) M
      exact k1
theorem cx_23_37 {b : Bool} {A : Nat → Nat} {h0 : g_H} {d : Nat} {M : xa_M} {post : Option xa_V → xa_M → Prop} {l1 u1 : Int} {i : Int} (h1 : 0 ≤ i ∧ i < 14) (k1 : post (some (0, 0, (-2147483648), 2147483647, M 37 i)) M) : xa_C (xl_I b) A h0 (d + 1) 23 [(2, 37, 0, 0, 0), (0, 0, l1, u1, i)] M post := by
  refine xa_C_arg [(2, 37, 0, 0, 0), (0, 0, (-2147483648), 2147483647, i)] (xa_svR (xa_svI (fun _ _ _ _ => by omega) xa_sv0)) ?_
  refine xa_meth (Q0 := (2, 1, false, 0, 0, 11)) (by decide +kernel) ⟨rfl, rfl⟩ (full := s_c_23) rfl rfl ?_
  intro hM hv Q hgo
  refine hgo.1 15 [] 0 _ _ _ ?_
  refine And.intro ?_ ?_
  · intro (c1 : i < 0)
    show post (some (0, 0, 0, 0, 0)) M
    exact absurd h1 (by omega)
  · intro (c1 : 0 ≤ i)
    refine And.intro ?_ ?_
    · intro (c2 : 14 ≤ i)
      show post (some (0, 0, 0, 0, 0)) M
      exact absurd h1 (by omega)
    · intro (c2 : i < 14)
      refine And.intro (show 0 ≤ i ∧ i < 14 by omega) ?_
      show post (some (0, 0, (-2147483648), 2147483647, M 37 i)) M
      exact k1
theorem cx_161d {b : Bool} {A : Nat → Nat} {h0 : g_H} {d : Nat} {M : xa_M} {post : Option xa_V → xa_M → Prop} {l1 u1 l2 u2 : Int} {g m : Int} {C : Int → Int → Prop} {G : Int} (hG : M 34 3 = G) (g14 : 0 ≤ G ∧ G ≤ 14) (hC : ∀ x y, 0 ≤ x → x < G → 0 ≤ y → y < G → (C x y ↔ bt (M 36 x) y = 1)) (hl : ∀ t, 0 ≤ t → t < 14 → -1 ≤ M 37 t ∧ M 37 t ≤ 13) (h1 : 0 ≤ g ∧ g < G) (h2 : 0 ≤ m ∧ m ≤ 14) (k : ∀ r : Int, dp_o G C (M 37) g m r → post (some (0, 0, (-2147483648), 2147483647, r)) M) : xa_C (xl_I b) A h0 (d + 2) 161 [(2, 34, 0, 0, 0), (0, 0, l1, u1, g), (0, 0, l2, u2, m)] M post := by
  refine xa_C_arg [(2, 34, 0, 0, 0), (0, 0, 0, 13, g), (0, 0, 0, 14, m)] (xa_svR (xa_svI (fun _ _ _ _ => by omega) (xa_svI (fun _ _ _ _ => by omega) (xa_sv0)))) ?_
  refine xa_meth (Q0 := (7, 1, false, 0, 0, 4)) (by decide +kernel) ⟨rfl, rfl⟩ (full := s_c_161) rfl rfl ?_
  intro hM hv Q hgo
  have loop : ∀ (n : Nat) (h u B : Int), 0 ≤ h ∧ h ≤ G → 0 ≤ u ∧ u ≤ 14 → (∀ t, 0 ≤ t → t < h → M 37 t < u) → dp_b (M 37) (M 36 g) h B → 14 - h < (n : Int) → Q 8 [(5, (0, 0, 0, 14, h)), (3, (0, 0, 0, 14, u)), (4, (0, 0, (-2147483648), 2147483647, B)), (0, (2, 34, 0, 0, 0)), (1, (0, 0, 0, 13, g)), (2, (0, 0, 0, 14, m))] [] M := by
    intro n
    induction n with
    | zero => intro h u B i1 u1 hu hb hms; omega
    | succ n ih =>
      intro h u B i1 u1 hu hb hms
      have hh : h < G → -1 ≤ M 37 h ∧ M 37 h ≤ 13 := fun c => hl h i1.1 (by omega)
      have e1 : h < G → xa_w32 ((M 37 h) + 1) = M 37 h + 1 := fun c => xa_w32_id (by have := hh c; omega) (by have := hh c; omega)
      refine hgo.1 42 [8] 8 _ _ _ ?_
      refine And.intro ?_ ?_
      · intro (c1 : (M 34 3) ≤ h)
        show xa_C (xl_I b) A h0 _ 32 [(0, 0, 1, 15, u + 1), (0, 0, 0, 14, m)] M _
        refine cx_32 ?_ ?_
        · intro (i2 : m < (u + 1))
          show post (some (0, 0, (-2147483648), 2147483647, xa_ib 3 (xa_w32 ((xa_ib 6 1 m) - 1)) (xa_ib 5 B (-1)))) M
          have eh : h = G := by omega
          rw [eh] at hb hu
          exact k _ ⟨bs_and (bs_all (by omega) (by omega)), u, u1.1, hu, fun x x0 x1 => (dp_op (U := u) (m := m) (by omega) (by omega) hb x0 x1 (by omega)).trans ⟨fun ⟨y1, y2, y3⟩ => ⟨y1, y2, fun t t0 t1 e c => y3 t t0 t1 e ((hC g t h1.1 h1.2 t0 t1).mp c)⟩, fun ⟨y1, y2, y3⟩ => ⟨y1, y2, fun t t0 t1 e c => y3 t t0 t1 e ((hC g t h1.1 h1.2 t0 t1).mpr c)⟩⟩⟩
        · intro (i3 : (u + 1) ≤ m)
          show post (some (0, 0, (-2147483648), 2147483647, xa_ib 3 (xa_w32 ((xa_ib 6 1 (u + 1)) - 1)) (xa_ib 5 B (-1)))) M
          have eh : h = G := by omega
          rw [eh] at hb hu
          exact k _ ⟨bs_and (bs_all (by omega) (by omega)), u, u1.1, hu, fun x x0 x1 => (dp_op (U := u) (m := m) (by omega) (by omega) hb x0 x1 (by omega)).trans ⟨fun ⟨y1, y2, y3⟩ => ⟨y1, y2, fun t t0 t1 e c => y3 t t0 t1 e ((hC g t h1.1 h1.2 t0 t1).mp c)⟩, fun ⟨y1, y2, y3⟩ => ⟨y1, y2, fun t t0 t1 e c => y3 t t0 t1 e ((hC g t h1.1 h1.2 t0 t1).mpr c)⟩⟩⟩
      · intro (c1 : h < (M 34 3))
        show xa_C (xl_I b) A h0 _ 23 [(2, 37, 0, 0, 0), (0, 0, 0, 14, h)] M _
        refine cx_23_37 (show 0 ≤ h ∧ h < 14 by omega) ?_
        show xa_C (xl_I b) A h0 _ 35 [(0, 0, 0, 14, u), (0, 0, (-2147483648), 2147483647, xa_w32 ((M 37 h) + 1))] M _
        refine cx_35 ?_ ?_
        · intro (i4 : u < (xa_w32 ((M 37 h) + 1)))
          refine And.intro ?_ ?_
          · intro (c5 : (M 37 h) = (-1))
            show Q 8 [(5, (0, 0, 1, 15, h + 1)), (4, (0, 0, (-2147483648), 2147483647, xa_ib 4 B 0)), (3, (0, 0, (-2147483648), 2147483647, xa_w32 ((M 37 h) + 1))), (6, (0, 0, (-2147483648), 2147483647, M 37 h)), (0, (2, 34, 0, 0, 0)), (1, (0, 0, 0, 13, g)), (2, (0, 0, 0, 14, m))] [] M
            have hh := hh (by omega)
            have e1 := e1 (by omega)
            refine hgo.2.1 8 _ [(5, (0, 0, 0, 14, h + 1)), (3, (0, 0, 0, 14, xa_w32 ((M 37 h) + 1))), (4, (0, 0, (-2147483648), 2147483647, xa_ib 4 B 0)), (0, (2, 34, 0, 0, 0)), (1, (0, 0, 0, 13, g)), (2, (0, 0, 0, 14, m))] _ _ (xa_subI rfl rfl (fun _ _ _ _ => by omega) (xa_subI rfl rfl (fun _ _ _ _ => by omega) (xa_subI rfl rfl (fun _ _ _ _ => by omega) (xa_subR rfl (xa_subI rfl rfl (fun _ _ _ _ => by omega) (xa_subI rfl rfl (fun _ _ _ _ => by omega) (xa_sub0))))))) ?_
            exact ih (h + 1) (xa_w32 ((M 37 h) + 1)) _ (by omega) (by omega) (fun t t0 t1 => by
              by_cases e : t = h
              · rw [e]
                omega
              · have := hu t t0 (by omega)
                omega) (dp_br0 hb (Or.inl (by omega))) (by omega)
          · intro (c5 : ¬ (M 37 h) = (-1))
            show xa_C (xl_I b) A h0 _ 23 [(2, 36, 0, 0, 0), (0, 0, 0, 13, g)] M _
            refine cx_23_36 (show 0 ≤ g ∧ g < 14 by omega) ?_
            refine And.intro ?_ ?_
            · intro (c6 : ¬ (xa_ib 3 (xa_ib 7 (M 36 g) h) 1) = 1)
              show Q 8 [(5, (0, 0, 1, 15, h + 1)), (4, (0, 0, (-2147483648), 2147483647, xa_ib 4 B 0)), (3, (0, 0, (-2147483648), 2147483647, xa_w32 ((M 37 h) + 1))), (6, (0, 0, (-2147483648), 2147483647, M 37 h)), (0, (2, 34, 0, 0, 0)), (1, (0, 0, 0, 13, g)), (2, (0, 0, 0, 14, m))] [] M
              have hh := hh (by omega)
              have e1 := e1 (by omega)
              refine hgo.2.1 8 _ [(5, (0, 0, 0, 14, h + 1)), (3, (0, 0, 0, 14, xa_w32 ((M 37 h) + 1))), (4, (0, 0, (-2147483648), 2147483647, xa_ib 4 B 0)), (0, (2, 34, 0, 0, 0)), (1, (0, 0, 0, 13, g)), (2, (0, 0, 0, 14, m))] _ _ (xa_subI rfl rfl (fun _ _ _ _ => by omega) (xa_subI rfl rfl (fun _ _ _ _ => by omega) (xa_subI rfl rfl (fun _ _ _ _ => by omega) (xa_subR rfl (xa_subI rfl rfl (fun _ _ _ _ => by omega) (xa_subI rfl rfl (fun _ _ _ _ => by omega) (xa_sub0))))))) ?_
              exact ih (h + 1) (xa_w32 ((M 37 h) + 1)) _ (by omega) (by omega) (fun t t0 t1 => by
                by_cases e : t = h
                · rw [e]
                  omega
                · have := hu t t0 (by omega)
                  omega) (dp_br0 hb (Or.inr c6)) (by omega)
            · intro (c6 : (xa_ib 3 (xa_ib 7 (M 36 g) h) 1) = 1)
              show Q 8 [(5, (0, 0, 1, 15, h + 1)), (4, (0, 0, (-2147483648), 2147483647, xa_ib 4 B (xa_ib 6 1 (M 37 h)))), (3, (0, 0, (-2147483648), 2147483647, xa_w32 ((M 37 h) + 1))), (6, (0, 0, (-2147483648), 2147483647, M 37 h)), (0, (2, 34, 0, 0, 0)), (1, (0, 0, 0, 13, g)), (2, (0, 0, 0, 14, m))] [] M
              have hh := hh (by omega)
              have e1 := e1 (by omega)
              refine hgo.2.1 8 _ [(5, (0, 0, 0, 14, h + 1)), (3, (0, 0, 0, 14, xa_w32 ((M 37 h) + 1))), (4, (0, 0, (-2147483648), 2147483647, xa_ib 4 B (xa_ib 6 1 (M 37 h)))), (0, (2, 34, 0, 0, 0)), (1, (0, 0, 0, 13, g)), (2, (0, 0, 0, 14, m))] _ _ (xa_subI rfl rfl (fun _ _ _ _ => by omega) (xa_subI rfl rfl (fun _ _ _ _ => by omega) (xa_subI rfl rfl (fun _ _ _ _ => by omega) (xa_subR rfl (xa_subI rfl rfl (fun _ _ _ _ => by omega) (xa_subI rfl rfl (fun _ _ _ _ => by omega) (xa_sub0))))))) ?_
              exact ih (h + 1) (xa_w32 ((M 37 h) + 1)) _ (by omega) (by omega) (fun t t0 t1 => by
                by_cases e : t = h
                · rw [e]
                  omega
                · have := hu t t0 (by omega)
                  omega) (dp_br1 hb i1.1 (by omega) c6) (by omega)
        · intro (i7 : (xa_w32 ((M 37 h) + 1)) ≤ u)
          refine And.intro ?_ ?_
          · intro (c8 : (M 37 h) = (-1))
            show Q 8 [(5, (0, 0, 1, 15, h + 1)), (4, (0, 0, (-2147483648), 2147483647, xa_ib 4 B 0)), (3, (0, 0, (-2147483648), 2147483647, u)), (6, (0, 0, (-2147483648), 2147483647, M 37 h)), (0, (2, 34, 0, 0, 0)), (1, (0, 0, 0, 13, g)), (2, (0, 0, 0, 14, m))] [] M
            have hh := hh (by omega)
            have e1 := e1 (by omega)
            refine hgo.2.1 8 _ [(5, (0, 0, 0, 14, h + 1)), (3, (0, 0, 0, 14, u)), (4, (0, 0, (-2147483648), 2147483647, xa_ib 4 B 0)), (0, (2, 34, 0, 0, 0)), (1, (0, 0, 0, 13, g)), (2, (0, 0, 0, 14, m))] _ _ (xa_subI rfl rfl (fun _ _ _ _ => by omega) (xa_subI rfl rfl (fun _ _ _ _ => by omega) (xa_subI rfl rfl (fun _ _ _ _ => by omega) (xa_subR rfl (xa_subI rfl rfl (fun _ _ _ _ => by omega) (xa_subI rfl rfl (fun _ _ _ _ => by omega) (xa_sub0))))))) ?_
            exact ih (h + 1) u _ (by omega) (by omega) (fun t t0 t1 => by
              by_cases e : t = h
              · rw [e]
                omega
              · have := hu t t0 (by omega)
                omega) (dp_br0 hb (Or.inl (by omega))) (by omega)
          · intro (c8 : ¬ (M 37 h) = (-1))
            show xa_C (xl_I b) A h0 _ 23 [(2, 36, 0, 0, 0), (0, 0, 0, 13, g)] M _
            refine cx_23_36 (show 0 ≤ g ∧ g < 14 by omega) ?_
            refine And.intro ?_ ?_
            · intro (c9 : ¬ (xa_ib 3 (xa_ib 7 (M 36 g) h) 1) = 1)
              show Q 8 [(5, (0, 0, 1, 15, h + 1)), (4, (0, 0, (-2147483648), 2147483647, xa_ib 4 B 0)), (3, (0, 0, (-2147483648), 2147483647, u)), (6, (0, 0, (-2147483648), 2147483647, M 37 h)), (0, (2, 34, 0, 0, 0)), (1, (0, 0, 0, 13, g)), (2, (0, 0, 0, 14, m))] [] M
              have hh := hh (by omega)
              have e1 := e1 (by omega)
              refine hgo.2.1 8 _ [(5, (0, 0, 0, 14, h + 1)), (3, (0, 0, 0, 14, u)), (4, (0, 0, (-2147483648), 2147483647, xa_ib 4 B 0)), (0, (2, 34, 0, 0, 0)), (1, (0, 0, 0, 13, g)), (2, (0, 0, 0, 14, m))] _ _ (xa_subI rfl rfl (fun _ _ _ _ => by omega) (xa_subI rfl rfl (fun _ _ _ _ => by omega) (xa_subI rfl rfl (fun _ _ _ _ => by omega) (xa_subR rfl (xa_subI rfl rfl (fun _ _ _ _ => by omega) (xa_subI rfl rfl (fun _ _ _ _ => by omega) (xa_sub0))))))) ?_
              exact ih (h + 1) u _ (by omega) (by omega) (fun t t0 t1 => by
                by_cases e : t = h
                · rw [e]
                  omega
                · have := hu t t0 (by omega)
                  omega) (dp_br0 hb (Or.inr c9)) (by omega)
            · intro (c9 : (xa_ib 3 (xa_ib 7 (M 36 g) h) 1) = 1)
              show Q 8 [(5, (0, 0, 1, 15, h + 1)), (4, (0, 0, (-2147483648), 2147483647, xa_ib 4 B (xa_ib 6 1 (M 37 h)))), (3, (0, 0, (-2147483648), 2147483647, u)), (6, (0, 0, (-2147483648), 2147483647, M 37 h)), (0, (2, 34, 0, 0, 0)), (1, (0, 0, 0, 13, g)), (2, (0, 0, 0, 14, m))] [] M
              have hh := hh (by omega)
              have e1 := e1 (by omega)
              refine hgo.2.1 8 _ [(5, (0, 0, 0, 14, h + 1)), (3, (0, 0, 0, 14, u)), (4, (0, 0, (-2147483648), 2147483647, xa_ib 4 B (xa_ib 6 1 (M 37 h)))), (0, (2, 34, 0, 0, 0)), (1, (0, 0, 0, 13, g)), (2, (0, 0, 0, 14, m))] _ _ (xa_subI rfl rfl (fun _ _ _ _ => by omega) (xa_subI rfl rfl (fun _ _ _ _ => by omega) (xa_subI rfl rfl (fun _ _ _ _ => by omega) (xa_subR rfl (xa_subI rfl rfl (fun _ _ _ _ => by omega) (xa_subI rfl rfl (fun _ _ _ _ => by omega) (xa_sub0))))))) ?_
              exact ih (h + 1) u _ (by omega) (by omega) (fun t t0 t1 => by
                by_cases e : t = h
                · rw [e]
                  omega
                · have := hu t t0 (by omega)
                  omega) (dp_br1 hb i1.1 (by omega) c9) (by omega)
  refine hgo.1 11 [8] 0 _ _ _ ?_
  show Q 8 [(5, (0, 0, 0, 0, 0)), (4, (0, 0, 0, 0, 0)), (3, (0, 0, 0, 0, 0)), (0, (2, 34, 0, 0, 0)), (1, (0, 0, 0, 13, g)), (2, (0, 0, 0, 14, m))] [] M
  refine hgo.2.1 8 _ [(5, (0, 0, 0, 14, 0)), (3, (0, 0, 0, 14, 0)), (4, (0, 0, (-2147483648), 2147483647, 0)), (0, (2, 34, 0, 0, 0)), (1, (0, 0, 0, 13, g)), (2, (0, 0, 0, 14, m))] _ _ (xa_subI rfl rfl (fun _ _ _ _ => by omega) (xa_subI rfl rfl (fun _ _ _ _ => by omega) (xa_subI rfl rfl (fun _ _ _ _ => by omega) (xa_subR rfl (xa_subI rfl rfl (fun _ _ _ _ => by omega) (xa_subI rfl rfl (fun _ _ _ _ => by omega) (xa_sub0))))))) ?_
  exact loop 15 0 0 0 (by omega) (by omega) (fun t t0 t1 => by omega) (fun x x0 x1 => ⟨fun h => absurd h (bt_0 x0 (by omega)), fun ⟨t, t0, t1, _⟩ => by omega⟩) (by omega)
theorem cx_160d {b : Bool} {A : Nat → Nat} {h0 : g_H} {d : Nat} {M : xa_M} {post : Option xa_V → xa_M → Prop} {l1 u1 l2 u2 : Int} {s m : Int} {C : Int → Int → Prop} {G : Int} (hG : M 34 3 = G) (g14 : 0 ≤ G ∧ G ≤ 14) (hC : ∀ x y, 0 ≤ x → x < G → 0 ≤ y → y < G → (C x y ↔ bt (M 36 x) y = 1)) (hl : ∀ t, 0 ≤ t → t < 14 → -1 ≤ M 37 t ∧ M 37 t ≤ 13) (hs : bs s) (h2 : 0 ≤ m ∧ m ≤ 14) (k : ∀ r : Int, (0 ≤ r ∧ r < G ∧ bt s r = 1) ∨ (r = -1 ∧ ∀ t, 0 ≤ t → t < G → ¬ bt s t = 1) → post (some (0, 0, (-1), 13, r)) M) : xa_C (xl_I b) A h0 (d + 3) 160 [(2, 34, 0, 0, 0), (0, 0, l1, u1, s), (0, 0, l2, u2, m)] M post := by
  refine xa_C_arg [(2, 34, 0, 0, 0), (0, 0, 0, 16383, s), (0, 0, 0, 14, m)] (xa_svR (xa_svI (fun _ _ _ _ => by omega) (xa_svI (fun _ _ _ _ => by omega) (xa_sv0)))) ?_
  refine xa_meth (Q0 := (7, 1, false, 0, 0, 4)) (by decide +kernel) ⟨rfl, rfl⟩ (full := s_c_160) rfl rfl ?_
  intro hM hv Q hgo
  have loop : ∀ (n : Nat) (i q f : Int), 0 ≤ i ∧ i ≤ G → -1 ≤ q ∧ q ≤ 13 → ((0 ≤ q ∧ q < i ∧ bt s q = 1) ∨ (q = -1 ∧ ∀ t, 0 ≤ t → t < i → ¬ bt s t = 1)) → 14 - i < (n : Int) → Q 8 [(5, (0, 0, 0, 14, i)), (3, (0, 0, (-1), 13, q)), (4, (0, 0, (-2147483648), 2147483647, f)), (0, (2, 34, 0, 0, 0)), (1, (0, 0, 0, 16383, s)), (2, (0, 0, 0, 14, m))] [] M := by
    intro n
    induction n with
    | zero => intro i q f i1 q1 hq hms; omega
    | succ n ih =>
      intro i q f i1 q1 hq hms
      refine hgo.1 42 [8] 8 _ _ _ ?_
      refine And.intro ?_ ?_
      · intro (c1 : (M 34 3) ≤ i)
        show post (some (0, 0, (-1), 13, q)) M
        rw [show i = G by omega] at hq
        exact k q hq
      · intro (c1 : i < (M 34 3))
        refine And.intro ?_ ?_
        · intro (c2 : ¬ (xa_ib 3 (xa_ib 7 s i) 1) = 1)
          show Q 8 [(5, (0, 0, 1, 15, i + 1)), (3, (0, 0, (-1), 13, q)), (4, (0, 0, (-2147483648), 2147483647, f)), (0, (2, 34, 0, 0, 0)), (1, (0, 0, 0, 16383, s)), (2, (0, 0, 0, 14, m))] [] M
          refine hgo.2.1 8 _ [(5, (0, 0, 0, 14, i + 1)), (3, (0, 0, (-1), 13, q)), (4, (0, 0, (-2147483648), 2147483647, f)), (0, (2, 34, 0, 0, 0)), (1, (0, 0, 0, 16383, s)), (2, (0, 0, 0, 14, m))] _ _ (xa_subI rfl rfl (fun _ _ _ _ => by omega) (xa_subI rfl rfl (fun _ _ _ _ => by omega) (xa_subI rfl rfl (fun _ _ _ _ => by omega) (xa_subR rfl (xa_subI rfl rfl (fun _ _ _ _ => by omega) (xa_subI rfl rfl (fun _ _ _ _ => by omega) (xa_sub0))))))) ?_
          exact ih (i + 1) q _ (by omega) (by omega) (hq.elim (fun h => Or.inl ⟨h.1, by omega, h.2.2⟩) (fun h => Or.inr ⟨h.1, fun t t0 t1 => by
            by_cases e : t = i
            · rw [e]
              exact c2
            · exact h.2 t t0 (by omega)⟩)) (by omega)
        · intro (c2 : (xa_ib 3 (xa_ib 7 s i) 1) = 1)
          show xa_C (xl_I b) A h0 _ 161 [(2, 34, 0, 0, 0), (0, 0, 0, 14, i), (0, 0, 0, 14, m)] M _
          refine cx_161d hG g14 hC hl (show 0 ≤ i ∧ i < G by omega) (show 0 ≤ m ∧ m ≤ 14 by omega) ?_
          intro r120 (i3 : dp_o G C (M 37) i m r120)
          show xa_C (xl_I b) A h0 _ 136 [(0, 0, (-2147483648), 2147483647, r120)] M _
          refine ct_bitCount ?_
          show xa_C (xl_I b) A h0 _ 23 [(2, 36, 0, 0, 0), (0, 0, 0, 14, i)] M _
          refine cx_23_36 (show 0 ≤ i ∧ i < 14 by omega) ?_
          show xa_C (xl_I b) A h0 _ 136 [(0, 0, (-2147483648), 2147483647, M 36 i)] M _
          refine ct_bitCount ?_
          refine And.intro ?_ ?_
          · intro (c4 : q = (-1))
            show Q 8 [(5, (0, 0, 1, 15, i + 1)), (4, (0, 0, (-2147483648), 2147483647, xa_w32 ((xa_w32 ((xa_bc r120) * 14)) - (xa_bc (M 36 i))))), (3, (0, 0, 0, 14, i)), (6, (0, 0, (-2147483648), 2147483647, xa_w32 ((xa_w32 ((xa_bc r120) * 14)) - (xa_bc (M 36 i))))), (0, (2, 34, 0, 0, 0)), (1, (0, 0, 0, 16383, s)), (2, (0, 0, 0, 14, m))] [] M
            refine hgo.2.1 8 _ [(5, (0, 0, 0, 14, i + 1)), (3, (0, 0, (-1), 13, i)), (4, (0, 0, (-2147483648), 2147483647, xa_w32 ((xa_w32 ((xa_bc r120) * 14)) - (xa_bc (M 36 i))))), (0, (2, 34, 0, 0, 0)), (1, (0, 0, 0, 16383, s)), (2, (0, 0, 0, 14, m))] _ _ (xa_subI rfl rfl (fun _ _ _ _ => by omega) (xa_subI rfl rfl (fun _ _ _ _ => by omega) (xa_subI rfl rfl (fun _ _ _ _ => by omega) (xa_subR rfl (xa_subI rfl rfl (fun _ _ _ _ => by omega) (xa_subI rfl rfl (fun _ _ _ _ => by omega) (xa_sub0))))))) ?_
            exact ih (i + 1) i _ (by omega) (by omega) (Or.inl ⟨i1.1, by omega, c2⟩) (by omega)
          · intro (c4 : ¬ q = (-1))
            refine And.intro ?_ ?_
            · intro (c5 : f ≤ (xa_w32 ((xa_w32 ((xa_bc r120) * 14)) - (xa_bc (M 36 i)))))
              show Q 8 [(5, (0, 0, 1, 15, i + 1)), (6, (0, 0, (-2147483648), 2147483647, xa_w32 ((xa_w32 ((xa_bc r120) * 14)) - (xa_bc (M 36 i))))), (3, (0, 0, (-1), 13, q)), (4, (0, 0, (-2147483648), 2147483647, f)), (0, (2, 34, 0, 0, 0)), (1, (0, 0, 0, 16383, s)), (2, (0, 0, 0, 14, m))] [] M
              refine hgo.2.1 8 _ [(5, (0, 0, 0, 14, i + 1)), (3, (0, 0, (-1), 13, q)), (4, (0, 0, (-2147483648), 2147483647, f)), (0, (2, 34, 0, 0, 0)), (1, (0, 0, 0, 16383, s)), (2, (0, 0, 0, 14, m))] _ _ (xa_subI rfl rfl (fun _ _ _ _ => by omega) (xa_subI rfl rfl (fun _ _ _ _ => by omega) (xa_subI rfl rfl (fun _ _ _ _ => by omega) (xa_subR rfl (xa_subI rfl rfl (fun _ _ _ _ => by omega) (xa_subI rfl rfl (fun _ _ _ _ => by omega) (xa_sub0))))))) ?_
              exact ih (i + 1) q _ (by omega) (by omega) (Or.inl (hq.elim (fun h => ⟨h.1, by omega, h.2.2⟩) (fun h => absurd h.1 c4))) (by omega)
            · intro (c5 : (xa_w32 ((xa_w32 ((xa_bc r120) * 14)) - (xa_bc (M 36 i)))) < f)
              show Q 8 [(5, (0, 0, 1, 15, i + 1)), (4, (0, 0, (-2147483648), 2147483647, xa_w32 ((xa_w32 ((xa_bc r120) * 14)) - (xa_bc (M 36 i))))), (3, (0, 0, 0, 14, i)), (6, (0, 0, (-2147483648), 2147483647, xa_w32 ((xa_w32 ((xa_bc r120) * 14)) - (xa_bc (M 36 i))))), (0, (2, 34, 0, 0, 0)), (1, (0, 0, 0, 16383, s)), (2, (0, 0, 0, 14, m))] [] M
              refine hgo.2.1 8 _ [(5, (0, 0, 0, 14, i + 1)), (3, (0, 0, (-1), 13, i)), (4, (0, 0, (-2147483648), 2147483647, xa_w32 ((xa_w32 ((xa_bc r120) * 14)) - (xa_bc (M 36 i))))), (0, (2, 34, 0, 0, 0)), (1, (0, 0, 0, 16383, s)), (2, (0, 0, 0, 14, m))] _ _ (xa_subI rfl rfl (fun _ _ _ _ => by omega) (xa_subI rfl rfl (fun _ _ _ _ => by omega) (xa_subI rfl rfl (fun _ _ _ _ => by omega) (xa_subR rfl (xa_subI rfl rfl (fun _ _ _ _ => by omega) (xa_subI rfl rfl (fun _ _ _ _ => by omega) (xa_sub0))))))) ?_
              exact ih (i + 1) i _ (by omega) (by omega) (Or.inl ⟨i1.1, by omega, c2⟩) (by omega)
  refine hgo.1 11 [8] 0 _ _ _ ?_
  show Q 8 [(5, (0, 0, 0, 0, 0)), (4, (0, 0, 0, 0, 0)), (3, (0, 0, (-1), (-1), (-1))), (0, (2, 34, 0, 0, 0)), (1, (0, 0, 0, 16383, s)), (2, (0, 0, 0, 14, m))] [] M
  refine hgo.2.1 8 _ [(5, (0, 0, 0, 14, 0)), (3, (0, 0, (-1), 13, (-1))), (4, (0, 0, (-2147483648), 2147483647, 0)), (0, (2, 34, 0, 0, 0)), (1, (0, 0, 0, 16383, s)), (2, (0, 0, 0, 14, m))] _ _ (xa_subI rfl rfl (fun _ _ _ _ => by omega) (xa_subI rfl rfl (fun _ _ _ _ => by omega) (xa_subI rfl rfl (fun _ _ _ _ => by omega) (xa_subR rfl (xa_subI rfl rfl (fun _ _ _ _ => by omega) (xa_subI rfl rfl (fun _ _ _ _ => by omega) (xa_sub0))))))) ?_
  exact loop 15 0 (-1) 0 (by omega) (by omega) (Or.inr ⟨rfl, fun t t0 t1 => by omega⟩) (by omega)
theorem cx_160e {b : Bool} {A : Nat → Nat} {h0 : g_H} {d : Nat} {M : xa_M} {post : Option xa_V → xa_M → Prop} {l1 u1 l2 u2 s m : Int} {C : Int → Int → Prop} {G : Int} (hG : M 34 3 = G) (g14 : 0 ≤ G ∧ G ≤ 14) (hC : ∀ x y, 0 ≤ x → x < G → 0 ≤ y → y < G → (C x y ↔ bt (M 36 x) y = 1)) (hl : ∀ t, 0 ≤ t → t < 14 → -1 ≤ M 37 t ∧ M 37 t ≤ 13) (hs : bs s) (h2 : 0 ≤ m ∧ m ≤ 14) (hn : ∃ t, 0 ≤ t ∧ t < G ∧ bt s t = 1) (k : ∀ r : Int, 0 ≤ r ∧ r < G → bt s r = 1 → post (some (0, 0, (-1), 13, r)) M) : xa_C (xl_I b) A h0 (d + 3) 160 [(2, 34, 0, 0, 0), (0, 0, l1, u1, s), (0, 0, l2, u2, m)] M post :=
  cx_160d hG g14 hC hl hs h2 (fun r h => by
    rcases h with ⟨r0, r1, h⟩ | ⟨_, h⟩
    · exact k r ⟨r0, r1⟩ h
    · obtain ⟨t, t0, t1, e⟩ := hn
      exact absurd e (h t t0 t1))
theorem cx_158d {b : Bool} {A : Nat → Nat} {h0 : g_H} {d : Nat} {M : xa_M} {post : Option xa_V → xa_M → Prop} {l1 u1 : Int} {s : Int} {C : Int → Int → Prop} {G : Int} (hG : M 34 3 = G) (g14 : 0 ≤ G ∧ G ≤ 14) (hC : ∀ x y, 0 ≤ x → x < G → 0 ≤ y → y < G → (C x y ↔ bt (M 36 x) y = 1)) (hs : bs s) (hsG : ∀ t, 0 ≤ t → t < 14 → bt s t = 1 → t < G) (k : ∀ B : Int, dp_lot G C s B → post (some (0, 0, (-2147483648), 2147483647, B)) M) : xa_C (xl_I b) A h0 (d + 2) 158 [(2, 34, 0, 0, 0), (0, 0, l1, u1, s)] M post := by
  refine xa_C_arg [(2, 34, 0, 0, 0), (0, 0, 0, 16383, s)] (xa_svR (xa_svI (fun _ _ _ _ => by omega) (xa_sv0))) ?_
  refine xa_meth (Q0 := (6, 1, false, 0, 0, 4)) (by decide +kernel) ⟨rfl, rfl⟩ (full := s_c_158) rfl rfl ?_
  intro hM hv Q hgo
  have loop : ∀ (n : Nat) (p B Z : Int), 0 ≤ p ∧ p ≤ 14 → bs B → (∀ t, 0 ≤ t → t < 14 → bt B t = 1 → bt s t = 1) → (¬ s = 0 → ∃ t, 0 ≤ t ∧ t < 14 ∧ bt B t = 1) → (dp_cc G C s B ∨ p + 1 ≤ cn B) → (B = Z → dp_cc G C s B) → 14 - p < (n : Int) → Q 10 [(4, (0, 0, 0, 14, p)), (2, (0, 0, (-2147483648), 2147483647, B)), (3, (0, 0, (-2147483648), 2147483647, Z)), (0, (2, 34, 0, 0, 0)), (1, (0, 0, 0, 16383, s))] [] M := by
    intro n
    induction n with
    | zero => intro p B Z p1 hb hs1 hz hq he hms; omega
    | succ n ih =>
      intro p B Z p1 hb hs1 hz hq he hms
      have inner : p < 14 → ∀ (n : Nat) (i Bc : Int), 0 ≤ i ∧ i ≤ G → dp_ci G C s B Bc i → 14 - i < (n : Int) → Q 27 [(5, (0, 0, 0, 14, i)), (2, (0, 0, (-2147483648), 2147483647, Bc)), (4, (0, 0, 0, 13, p)), (3, (0, 0, (-2147483648), 2147483647, B)), (0, (2, 34, 0, 0, 0)), (1, (0, 0, 0, 16383, s))] [] M := by
        intro p14
        intro n
        induction n with
        | zero => intro i Bc i1 hJ hms; omega
        | succ n ih2 =>
          intro i Bc i1 hJ hms
          refine hgo.1 28 [10, 27] 27 _ _ _ ?_
          refine And.intro ?_ ?_
          · intro (c1 : (M 34 3) ≤ i)
            show Q 10 [(4, (0, 0, 1, 14, p + 1)), (5, (0, 0, 0, 14, i)), (2, (0, 0, (-2147483648), 2147483647, Bc)), (3, (0, 0, (-2147483648), 2147483647, B)), (0, (2, 34, 0, 0, 0)), (1, (0, 0, 0, 16383, s))] [] M
            have ei : i = G := by omega
            rw [ei] at hJ
            obtain ⟨y1, y2⟩ := dp_cp g14.2 hJ hq
            refine hgo.2.1 10 _ [(4, (0, 0, 0, 14, p + 1)), (2, (0, 0, (-2147483648), 2147483647, Bc)), (3, (0, 0, (-2147483648), 2147483647, B)), (0, (2, 34, 0, 0, 0)), (1, (0, 0, 0, 16383, s))] _ _ (xa_subI rfl rfl (fun _ _ _ _ => by omega) (xa_subI rfl rfl (fun _ _ _ _ => by omega) (xa_subI rfl rfl (fun _ _ _ _ => by omega) (xa_subR rfl (xa_subI rfl rfl (fun _ _ _ _ => by omega) (xa_sub0)))))) ?_
            exact ih (p + 1) Bc B (by omega) hJ.1 hJ.2.1 (fun h => by
              obtain ⟨t, t0, t1, e⟩ := hz h
              exact ⟨t, t0, t1, hJ.2.2.1 t t0 t1 e⟩) y1 y2 (by omega)
          · intro (c1 : i < (M 34 3))
            refine And.intro ?_ ?_
            · intro (c2 : ¬ (xa_ib 3 (xa_ib 7 Bc i) 1) = 1)
              show Q 27 [(5, (0, 0, 1, 15, i + 1)), (2, (0, 0, (-2147483648), 2147483647, xa_ib 4 Bc 0)), (4, (0, 0, 0, 13, p)), (3, (0, 0, (-2147483648), 2147483647, B)), (0, (2, 34, 0, 0, 0)), (1, (0, 0, 0, 16383, s))] [] M
              refine hgo.2.1 27 _ [(5, (0, 0, 0, 14, i + 1)), (2, (0, 0, (-2147483648), 2147483647, xa_ib 4 Bc 0)), (4, (0, 0, 0, 13, p)), (3, (0, 0, (-2147483648), 2147483647, B)), (0, (2, 34, 0, 0, 0)), (1, (0, 0, 0, 16383, s))] _ _ (xa_subI rfl rfl (fun _ _ _ _ => by omega) (xa_subI rfl rfl (fun _ _ _ _ => by omega) (xa_subI rfl rfl (fun _ _ _ _ => by omega) (xa_subI rfl rfl (fun _ _ _ _ => by omega) (xa_subR rfl (xa_subI rfl rfl (fun _ _ _ _ => by omega) (xa_sub0))))))) ?_
              exact ih2 (i + 1) _ (by omega) (dp_cs ⟨i1.1, by omega⟩ g14.2 hJ bs_0 hsG (fun t t0 t1 e => absurd e (bt_0 t0 (by omega))) (fun e => absurd e c2)) (by omega)
            · intro (c2 : (xa_ib 3 (xa_ib 7 Bc i) 1) = 1)
              show xa_C (xl_I b) A h0 _ 23 [(2, 36, 0, 0, 0), (0, 0, 0, 14, i)] M _
              refine cx_23_36 (show 0 ≤ i ∧ i < 14 by omega) ?_
              show Q 27 [(5, (0, 0, 1, 15, i + 1)), (2, (0, 0, (-2147483648), 2147483647, xa_ib 4 Bc (xa_ib 3 (M 36 i) s))), (4, (0, 0, 0, 13, p)), (3, (0, 0, (-2147483648), 2147483647, B)), (0, (2, 34, 0, 0, 0)), (1, (0, 0, 0, 16383, s))] [] M
              refine hgo.2.1 27 _ [(5, (0, 0, 0, 14, i + 1)), (2, (0, 0, (-2147483648), 2147483647, xa_ib 4 Bc (xa_ib 3 (M 36 i) s))), (4, (0, 0, 0, 13, p)), (3, (0, 0, (-2147483648), 2147483647, B)), (0, (2, 34, 0, 0, 0)), (1, (0, 0, 0, 16383, s))] _ _ (xa_subI rfl rfl (fun _ _ _ _ => by omega) (xa_subI rfl rfl (fun _ _ _ _ => by omega) (xa_subI rfl rfl (fun _ _ _ _ => by omega) (xa_subI rfl rfl (fun _ _ _ _ => by omega) (xa_subR rfl (xa_subI rfl rfl (fun _ _ _ _ => by omega) (xa_sub0))))))) ?_
              exact ih2 (i + 1) _ (by omega) (dp_cs ⟨i1.1, by omega⟩ g14.2 hJ (bs_and2 hs) hsG (fun t t0 t1 e => ⟨c2, ((bt_and t0 (by omega)).mp e).2, fun tG => (hC i t i1.1 (by omega) t0 tG).mpr ((bt_and t0 (by omega)).mp e).1⟩) (fun _ t t0 t1 q d => (bt_and t0 (by omega)).mpr ⟨(hC i t i1.1 (by omega) t0 t1).mp d, q⟩)) (by omega)
      refine hgo.1 15 [10, 27] 10 _ _ _ ?_
      refine And.intro ?_ ?_
      · intro (c1 : 14 ≤ p)
        show post (some (0, 0, (-2147483648), 2147483647, B)) M
        exact k B ⟨hb, hs1, hz, hq.resolve_right (by have := (cn_le B).2; omega)⟩
      · intro (c1 : p < 14)
        refine And.intro ?_ ?_
        · intro (c2 : B = Z)
          show post (some (0, 0, (-2147483648), 2147483647, B)) M
          exact k B ⟨hb, hs1, hz, he c2⟩
        · intro (c2 : ¬ B = Z)
          show Q 27 [(5, (0, 0, 0, 0, 0)), (3, (0, 0, (-2147483648), 2147483647, B)), (4, (0, 0, 0, 14, p)), (2, (0, 0, (-2147483648), 2147483647, B)), (0, (2, 34, 0, 0, 0)), (1, (0, 0, 0, 16383, s))] [] M
          refine hgo.2.1 27 _ [(5, (0, 0, 0, 14, 0)), (2, (0, 0, (-2147483648), 2147483647, B)), (4, (0, 0, 0, 13, p)), (3, (0, 0, (-2147483648), 2147483647, B)), (0, (2, 34, 0, 0, 0)), (1, (0, 0, 0, 16383, s))] _ _ (xa_subI rfl rfl (fun _ _ _ _ => by omega) (xa_subI rfl rfl (fun _ _ _ _ => by omega) (xa_subI rfl rfl (fun _ _ _ _ => by omega) (xa_subI rfl rfl (fun _ _ _ _ => by omega) (xa_subR rfl (xa_subI rfl rfl (fun _ _ _ _ => by omega) (xa_sub0))))))) ?_
          exact inner (by omega) 15 0 B (by omega) ⟨hb, hs1, fun _ _ _ h => h, fun g t g0 g1 => by omega, fun _ _ _ _ h => h⟩ (by omega)
  refine hgo.1 14 [10, 27] 0 _ _ _ ?_
  show Q 10 [(4, (0, 0, 0, 0, 0)), (3, (0, 0, 0, 0, 0)), (2, (0, 0, (-2147483648), 2147483647, xa_ib 3 s (-s))), (0, (2, 34, 0, 0, 0)), (1, (0, 0, 0, 16383, s))] [] M
  refine hgo.2.1 10 _ [(4, (0, 0, 0, 14, 0)), (2, (0, 0, (-2147483648), 2147483647, xa_ib 3 s (-s))), (3, (0, 0, (-2147483648), 2147483647, 0)), (0, (2, 34, 0, 0, 0)), (1, (0, 0, 0, 16383, s))] _ _ (xa_subI rfl rfl (fun _ _ _ _ => by omega) (xa_subI rfl rfl (fun _ _ _ _ => by omega) (xa_subI rfl rfl (fun _ _ _ _ => by omega) (xa_subR rfl (xa_subI rfl rfl (fun _ _ _ _ => by omega) (xa_sub0)))))) ?_
  obtain ⟨y1, y2, y3, y4, y5⟩ := dp_c0 (C := C) g14.2 hs
  exact loop 15 0 _ 0 (by omega) y1 y2 y3 y4 y5 (by omega)
theorem cx_18_37 {b : Bool} {A : Nat → Nat} {h0 : g_H} {d : Nat} {M : xa_M} {post : Option xa_V → xa_M → Prop} {l1 u1 l2 u2 : Int} {i v : Int} (h1 : 0 ≤ i ∧ i < 14) (k1 : post none (xa_up M 37 i v)) : xa_C (xl_I b) A h0 (d + 1) 18 [(2, 37, 0, 0, 0), (0, 0, l1, u1, i), (0, 0, l2, u2, v)] M post := by
  refine xa_C_arg [(2, 37, 0, 0, 0), (0, 0, (-2147483648), 2147483647, i), (0, 0, (-2147483648), 2147483647, v)] (xa_svR (xa_svI (fun _ _ _ _ => by omega) (xa_svI (fun _ _ _ _ => by omega) xa_sv0))) ?_
  refine xa_meth (Q0 := (3, 0, false, 0, 0, 11)) (by decide +kernel) ⟨rfl, rfl⟩ (full := s_c_18) rfl rfl ?_
  intro hM hv Q hgo
  refine hgo.1 15 [] 0 _ _ _ ?_
  refine And.intro ?_ ?_
  · intro (c1 : i < 0)
    show post none M
    exact absurd h1 (by omega)
  · intro (c1 : 0 ≤ i)
    refine And.intro ?_ ?_
    · intro (c2 : 14 ≤ i)
      show post none M
      exact absurd h1 (by omega)
    · intro (c2 : i < 14)
      refine And.intro (show 0 ≤ i ∧ i < 14 by omega) ?_
      show post none (xa_up M 37 i v)
      exact k1
theorem dp_CP {κ : Int} {e : Nat} (hL : dp_CLs κ e) : dp_CPs κ e := by
  intro b A h0 d M post l1 u1 l2 u2 l3 u3 s m p C G hG g14 hC hl hsC hs hk hd h2 hS k
  have cs9 := cn_le s
  refine xa_C_wk ?_
  refine xa_C_arg [(2, 34, 0, 0, 0), (0, 0, 0, 16383, s), (0, 0, 0, 14, m), (0, 0, 0, 14, p)] (xa_svR (xa_svI (fun _ _ _ _ => by omega) (xa_svI (fun _ _ _ _ => by omega) (xa_svI (fun _ _ _ _ => by omega) (xa_sv0))))) ?_
  refine xa_meth (d := d + e + 2) (Q0 := (7, 2, false, 0, 0, 4)) (by decide +kernel) ⟨rfl, rfl⟩ (full := s_c_157) rfl rfl ?_
  intro hM hv Q hgo
  have loop : ∀ (n : Nat) (i rs : Int), 0 ≤ i ∧ i ≤ 14 → bs rs → (∀ t, 0 ≤ t → t < 14 → bt rs t = 1 → bt s t = 1) → i + cn rs ≤ cn s → (dq_X G C (fun t => bt rs t = 1) (M 37) m → dq_X G C (fun t => bt s t = 1) (M 37) m) → 14 - i < (n : Int) → Q 6 [(5, (0, 0, 0, 14, i)), (4, (0, 0, 0, 16383, rs)), (0, (2, 34, 0, 0, 0)), (1, (0, 0, 0, 16383, s)), (2, (0, 0, 0, 14, m)), (3, (0, 0, 0, 14, p))] [] M := by
    intro n
    induction n with
    | zero => intro i rs i1 hr hsub hcn hX hms; omega
    | succ n ih =>
      intro i rs i1 hr hsub hcn hX hms
      refine hgo.1 28 [6] 6 _ _ _ ?_
      refine And.intro ?_ ?_
      · intro (c1 : 14 ≤ i)
        show xa_wk post (some (0, 0, 1, 1, 1)) M
        have ez : rs = 0 := cn_0 hr (by have := (cn_le s).2; omega)
        exact xa_wkI 1 rfl (fun _ _ => by omega) (k 1 (Or.inr rfl) ⟨fun _ => hX (dq_X0 (fun g g0 g1 q => by
          have q2 : bt rs g = 1 := q
          rw [ez] at q2
          exact bt_0 g0 (by omega) q2)), fun _ => rfl⟩)
      · intro (c1 : i < 14)
        refine And.intro ?_ ?_
        · intro (c2 : rs = 0)
          show xa_wk post (some (0, 0, 1, 1, 1)) M
          have ez : rs = 0 := c2
          exact xa_wkI 1 rfl (fun _ _ => by omega) (k 1 (Or.inr rfl) ⟨fun _ => hX (dq_X0 (fun g g0 g1 q => by
            have q2 : bt rs g = 1 := q
            rw [ez] at q2
            exact bt_0 g0 (by omega) q2)), fun _ => rfl⟩)
        · intro (c2 : ¬ rs = 0)
          show xa_C (xl_I b) A h0 _ 158 [(2, 34, 0, 0, 0), (0, 0, 0, 16383, rs)] M _
          refine cx_158d (d := d + e) hG g14 hC hr (fun t t0 t1 h => (hS t t0 t1 (hsub t t0 t1 h)).1) ?_
          intro B121 (i3 : dp_lot G C rs B121)
          show xa_C (xl_I b) A h0 _ 159 [(2, 34, 0, 0, 0), (0, 0, (-2147483648), 2147483647, B121), (0, 0, 0, 14, m), (0, 0, 0, 14, p)] M _
          refine hL (d := d) hG g14 hC hl hsC (by assumption : dp_lot G C rs B121).1 (by have z := dp_lf (by assumption : dp_lot G C rs B121) (by assumption : ¬ rs = 0); have z2 := cn_mn hsub; omega) ⟨hd.1, by have z := dp_lf (by assumption : dp_lot G C rs B121) (by assumption : ¬ rs = 0); have z2 := cn_mn hsub; omega⟩ h2 (fun t t0 t1 h => hS t t0 t1 (hsub t t0 t1 ((by assumption : dp_lot G C rs B121).2.1 t t0 t1 h))) (dp_lf (by assumption : dp_lot G C rs B121) (by assumption : ¬ rs = 0)).1 ?_
          intro r122 (i4 : r122 = 0 ∨ r122 = 1) (i5 : r122 = 1 ↔ dq_X G C (fun t => bt B121 t = 1) (M 37) m)
          refine And.intro ?_ ?_
          · intro (c6 : ¬ r122 = 0)
            show Q 6 [(5, (0, 0, 1, 15, i + 1)), (4, (0, 0, (-2147483648), 2147483647, xa_ib 3 rs (xa_ib 5 B121 (-1)))), (6, (0, 0, (-2147483648), 2147483647, B121)), (0, (2, 34, 0, 0, 0)), (1, (0, 0, 0, 16383, s)), (2, (0, 0, 0, 14, m)), (3, (0, 0, 0, 14, p))] [] M
            have hb2 : 0 ≤ (xa_ib 3 rs (xa_ib 5 B121 (-1))) ∧ (xa_ib 3 rs (xa_ib 5 B121 (-1))) < 16384 := bs_and hr
            have z3 := dp_rm i3 c2
            have one := i5.mp (by omega)
            refine hgo.2.1 6 _ [(5, (0, 0, 0, 14, i + 1)), (4, (0, 0, 0, 16383, xa_ib 3 rs (xa_ib 5 B121 (-1)))), (0, (2, 34, 0, 0, 0)), (1, (0, 0, 0, 16383, s)), (2, (0, 0, 0, 14, m)), (3, (0, 0, 0, 14, p))] _ _ (xa_subI rfl rfl (fun _ _ _ _ => by omega) (xa_subI rfl rfl (fun _ _ _ _ => by omega) (xa_subR rfl (xa_subI rfl rfl (fun _ _ _ _ => by omega) (xa_subI rfl rfl (fun _ _ _ _ => by omega) (xa_subI rfl rfl (fun _ _ _ _ => by omega) (xa_sub0))))))) ?_
            exact ih (i + 1) _ (by omega) hb2 (fun t t0 t1 h => hsub t t0 t1 ((bt_and t0 (by omega)).mp h).1) (by omega) (fun h => hX (dp_un g14.2 hsC i3 one h)) (by omega)
          · intro (c6 : r122 = 0)
            show xa_wk post (some (0, 0, 0, 0, 0)) M
            exact xa_wkI 0 rfl (fun _ _ => by omega) (k 0 (Or.inl rfl) ⟨fun h => absurd h (by decide), fun hx => by
              have q := i5.mpr (dq_Xs (fun g g0 g1 h => hsub g g0 (by omega) (i3.2.1 g g0 (by omega) h)) (fun _ _ _ => rfl) hx)
              omega⟩)
  refine hgo.1 9 [6] 0 _ _ _ ?_
  show Q 6 [(5, (0, 0, 0, 0, 0)), (4, (0, 0, 0, 16383, s)), (0, (2, 34, 0, 0, 0)), (1, (0, 0, 0, 16383, s)), (2, (0, 0, 0, 14, m)), (3, (0, 0, 0, 14, p))] [] M
  refine hgo.2.1 6 _ [(5, (0, 0, 0, 14, 0)), (4, (0, 0, 0, 16383, s)), (0, (2, 34, 0, 0, 0)), (1, (0, 0, 0, 16383, s)), (2, (0, 0, 0, 14, m)), (3, (0, 0, 0, 14, p))] _ _ (xa_subI rfl rfl (fun _ _ _ _ => by omega) (xa_subI rfl rfl (fun _ _ _ _ => by omega) (xa_subR rfl (xa_subI rfl rfl (fun _ _ _ _ => by omega) (xa_subI rfl rfl (fun _ _ _ _ => by omega) (xa_subI rfl rfl (fun _ _ _ _ => by omega) (xa_sub0))))))) ?_
  exact loop 15 0 s (by omega) hs (fun _ _ _ h => h) (by omega) (fun h => h) (by omega)
theorem dp_CL {κ : Int} {e : Nat} (h : dp_CPs κ e) : dp_CLs (κ + 1) (e + 2) := by
  intro b A h0 d M post l1 u1 l2 u2 l3 u3 s m p C G hG g14 hC hl hsC hs hk hd h2 hS h1 k
  have cs9 := cn_le s
  refine xa_C_wk ?_
  refine xa_C_arg [(2, 34, 0, 0, 0), (0, 0, 0, 16383, s), (0, 0, 0, 14, m), (0, 0, 0, 14, p)] (xa_svR (xa_svI (fun _ _ _ _ => by omega) (xa_svI (fun _ _ _ _ => by omega) (xa_svI (fun _ _ _ _ => by omega) (xa_sv0))))) ?_
  refine xa_meth (d := d + e + 3) (Q0 := (8, 2, false, 0, 0, 4)) (by decide +kernel) ⟨rfl, rfl⟩ (full := s_c_159) rfl rfl ?_
  intro hM hv Q hgo
  have ne9 : ∃ t, 0 ≤ t ∧ t < G ∧ bt s t = 1 := by
    obtain ⟨t, t0, t1, e⟩ := cn_ex h1
    exact ⟨t, t0, (hS t t0 t1 e).1, e⟩
  have loop : ∀ (g o : Int), 0 ≤ g ∧ g < G → bt s g = 1 → dp_o G C (M 37) g m o → ∀ (n : Nat) (c can : Int), 0 ≤ c ∧ c ≤ 14 → 0 ≤ can ∧ can ≤ 1 → ((can = 1 → dq_X G C (fun t => bt s t = 1) (M 37) m) ∧ (can = 0 → ∀ x, 0 ≤ x → x < c → bt o x = 1 → ¬ dq_X G C (fun t => bt (xa_ib 3 s (xa_ib 5 (xa_ib 6 1 g) (-1))) t = 1) ((xa_up M 37 g x) 37) m)) → 14 - c < (n : Int) → Q 31 [(7, (0, 0, 0, 14, c)), (6, (0, 0, 0, 1, can)), (4, (0, 0, 0, 13, g)), (5, (0, 0, (-2147483648), 2147483647, o)), (0, (2, 34, 0, 0, 0)), (1, (0, 0, 0, 16383, s)), (2, (0, 0, 0, 14, m)), (3, (0, 0, 0, 13, p))] [] M := by
    intro g o hg hgs ho
    intro n
    induction n with
    | zero => intro c can b1 c01 i2 hms; omega
    | succ n ih =>
      intro c can b1 c01 i2 hms
      have z1 := dp_c1 ⟨hg.1, (by omega : g < 14)⟩ hgs
      have hLg := (hS g hg.1 (by omega) hgs).2
      refine hgo.1 43 [31] 31 _ _ _ ?_
      refine And.intro ?_ ?_
      · intro (c1 : m ≤ c)
        show xa_wk post (some (0, 0, 0, 1, can)) M
        exact xa_wkI can rfl (fun _ _ => by omega) (k can (by omega) ⟨i2.1, fun hx => by
          by_cases q : can = 0
          · obtain ⟨x, x0, xm, e, z⟩ := dp_yf g14.2 h2.2 hg hgs ho hx
            exact absurd z (i2.2 q x x0 (by omega) e)
          · omega⟩)
      · intro (c1 : c < m)
        refine And.intro ?_ ?_
        · intro (c2 : ¬ can = 0)
          show xa_wk post (some (0, 0, 0, 1, can)) M
          exact xa_wkI can rfl (fun _ _ => by omega) (k can (by omega) ⟨i2.1, fun hx => by
            by_cases q : can = 0
            · obtain ⟨x, x0, xm, e, z⟩ := dp_yf g14.2 h2.2 hg hgs ho hx
              exact absurd z (i2.2 q x x0 (by omega) e)
            · omega⟩)
        · intro (c2 : can = 0)
          refine And.intro ?_ ?_
          · intro (c3 : ¬ (xa_ib 3 (xa_ib 7 o c) 1) = 1)
            show Q 31 [(7, (0, 0, 1, 15, c + 1)), (6, (0, 0, 0, 1, can)), (4, (0, 0, 0, 13, g)), (5, (0, 0, (-2147483648), 2147483647, o)), (0, (2, 34, 0, 0, 0)), (1, (0, 0, 0, 16383, s)), (2, (0, 0, 0, 14, m)), (3, (0, 0, 0, 13, p))] [] M
            refine hgo.2.1 31 _ [(7, (0, 0, 0, 14, c + 1)), (6, (0, 0, 0, 1, can)), (4, (0, 0, 0, 13, g)), (5, (0, 0, (-2147483648), 2147483647, o)), (0, (2, 34, 0, 0, 0)), (1, (0, 0, 0, 16383, s)), (2, (0, 0, 0, 14, m)), (3, (0, 0, 0, 13, p))] _ _ (xa_subI rfl rfl (fun _ _ _ _ => by omega) (xa_subI rfl rfl (fun _ _ _ _ => by omega) (xa_subI rfl rfl (fun _ _ _ _ => by omega) (xa_subI rfl rfl (fun _ _ _ _ => by omega) (xa_subR rfl (xa_subI rfl rfl (fun _ _ _ _ => by omega) (xa_subI rfl rfl (fun _ _ _ _ => by omega) (xa_subI rfl rfl (fun _ _ _ _ => by omega) (xa_sub0))))))))) ?_
            exact ih (c + 1) can (by omega) (by omega) ⟨i2.1, fun q x x0 x1 e => by
              by_cases y : x = c
              · rw [y] at e
                exact absurd e c3
              · exact i2.2 q x x0 (by omega) e⟩ (by omega)
          · intro (c3 : (xa_ib 3 (xa_ib 7 o c) 1) = 1)
            show xa_C (xl_I b) A h0 _ 18 [(2, 37, 0, 0, 0), (0, 0, 0, 13, g), (0, 0, 0, 14, c)] M _
            refine cx_18_37 (show 0 ≤ g ∧ g < 14 by omega) ?_
            show xa_C (xl_I b) A h0 _ 157 [(2, 34, 0, 0, 0), (0, 0, (-2147483648), 2147483647, xa_ib 3 s (xa_ib 5 (xa_ib 6 1 g) (-1))), (0, 0, 0, 14, m), (0, 0, 1, 14, p + 1)] (xa_up M 37 g c) _
            refine h (d := d) ((xa_up_ne (by omega)).trans hG) g14 (fun x y x0 x1 y0 y1 => by rw [xa_up_ne (by omega)]; exact hC x y x0 x1 y0 y1) (dp_hl hl (by omega)) hsC (bs_and hs) (by omega) (by omega) h2 (fun t t0 t1 q => ⟨(hS t t0 t1 ((dp_sg (by omega) t0 (by omega)).mp q).1).1, (xa_up_ne (fun w => ((dp_sg (by omega) t0 (by omega)).mp q).2 w.2.symm)).trans (hS t t0 t1 ((dp_sg (by omega) t0 (by omega)).mp q).1).2⟩) ?_
            intro r123 (i4 : r123 = 0 ∨ r123 = 1) (i5 : r123 = 1 ↔ dq_X G C (fun t => bt (xa_ib 3 s (xa_ib 5 (xa_ib 6 1 g) (-1))) t = 1) ((xa_up M 37 g c) 37) m)
            show xa_C (xl_I b) A h0 _ 18 [(2, 37, 0, 0, 0), (0, 0, 0, 13, g), (0, 0, (-1), (-1), (-1))] (xa_up M 37 g c) _
            refine cx_18_37 (show 0 ≤ g ∧ g < 14 by omega) ?_
            show Q 31 [(7, (0, 0, 1, 15, c + 1)), (6, (0, 0, 0, 1, r123)), (4, (0, 0, 0, 13, g)), (5, (0, 0, (-2147483648), 2147483647, o)), (0, (2, 34, 0, 0, 0)), (1, (0, 0, 0, 16383, s)), (2, (0, 0, 0, 14, m)), (3, (0, 0, 0, 13, p))] [] (xa_up (xa_up M 37 g c) 37 g (-1))
            rw [dp_back hLg]
            refine hgo.2.1 31 _ [(7, (0, 0, 0, 14, c + 1)), (6, (0, 0, 0, 1, r123)), (4, (0, 0, 0, 13, g)), (5, (0, 0, (-2147483648), 2147483647, o)), (0, (2, 34, 0, 0, 0)), (1, (0, 0, 0, 16383, s)), (2, (0, 0, 0, 14, m)), (3, (0, 0, 0, 13, p))] _ _ (xa_subI rfl rfl (fun _ _ _ _ => by omega) (xa_subI rfl rfl (fun _ _ _ _ => by omega) (xa_subI rfl rfl (fun _ _ _ _ => by omega) (xa_subI rfl rfl (fun _ _ _ _ => by omega) (xa_subR rfl (xa_subI rfl rfl (fun _ _ _ _ => by omega) (xa_subI rfl rfl (fun _ _ _ _ => by omega) (xa_subI rfl rfl (fun _ _ _ _ => by omega) (xa_sub0))))))))) ?_
            exact ih (c + 1) r123 (by omega) (by omega) ⟨fun q => dp_y1 g14.2 hsC hg hLg ho b1.1 (by omega) c3 (i5.mp q), fun q x x0 x1 e => by
              by_cases y : x = c
              · rw [y]
                exact fun z => by have := i5.mpr z; omega
              · exact i2.2 c2 x x0 (by omega) e⟩ (by omega)
  refine hgo.1 22 [31] 0 _ _ _ ?_
  refine And.intro ?_ ?_
  · intro (c1 : p < 14)
    show xa_C (xl_I b) A h0 _ 160 [(2, 34, 0, 0, 0), (0, 0, 0, 16383, s), (0, 0, 0, 14, m)] M _
    refine cx_160e (d := d + e) hG g14 hC hl hs h2 ne9 ?_
    intro r124 (i2 : 0 ≤ r124 ∧ r124 < G) (i3 : bt s r124 = 1)
    show xa_C (xl_I b) A h0 _ 161 [(2, 34, 0, 0, 0), (0, 0, (-1), 13, r124), (0, 0, 0, 14, m)] M _
    refine cx_161d (d := d + e + 1) hG g14 hC hl (show 0 ≤ r124 ∧ r124 < G by omega) (show 0 ≤ m ∧ m ≤ 14 by omega) ?_
    intro r125 (i4 : dp_o G C (M 37) r124 m r125)
    show Q 31 [(7, (0, 0, 0, 0, 0)), (6, (0, 0, 0, 0, 0)), (5, (0, 0, (-2147483648), 2147483647, r125)), (4, (0, 0, (-1), 13, r124)), (0, (2, 34, 0, 0, 0)), (1, (0, 0, 0, 16383, s)), (2, (0, 0, 0, 14, m)), (3, (0, 0, 0, 14, p))] [] M
    refine hgo.2.1 31 _ [(7, (0, 0, 0, 14, 0)), (6, (0, 0, 0, 1, 0)), (4, (0, 0, 0, 13, r124)), (5, (0, 0, (-2147483648), 2147483647, r125)), (0, (2, 34, 0, 0, 0)), (1, (0, 0, 0, 16383, s)), (2, (0, 0, 0, 14, m)), (3, (0, 0, 0, 13, p))] _ _ (xa_subI rfl rfl (fun _ _ _ _ => by omega) (xa_subI rfl rfl (fun _ _ _ _ => by omega) (xa_subI rfl rfl (fun _ _ _ _ => by omega) (xa_subI rfl rfl (fun _ _ _ _ => by omega) (xa_subR rfl (xa_subI rfl rfl (fun _ _ _ _ => by omega) (xa_subI rfl rfl (fun _ _ _ _ => by omega) (xa_subI rfl rfl (fun _ _ _ _ => by omega) (xa_sub0))))))))) ?_
    exact loop r124 r125 i2 i3 i4 15 0 0 (by omega) (by omega) ⟨fun q => absurd q (by decide), fun _ x x0 x1 => by omega⟩ (by omega)
  · intro (c1 : 14 ≤ p)
    show xa_wk post (some (0, 0, 0, 0, 0)) M
    exfalso
    omega
theorem dp_al : ∀ k : Nat, dp_CPs (k : Int) (2 * k) := by
  intro k
  induction k with
  | zero =>
    have z : dp_CLs ((0 : Nat) : Int) (2 * 0) := by
      intro b A h0 d M post l1 u1 l2 u2 l3 u3 s m p C G hG g14 hC hl hsC hs hk hd h2 hS h1 k
      exfalso
      have : cn s ≤ 0 := hk
      omega
    exact @dp_CP ((0 : Nat) : Int) (2 * 0) @z
  | succ k ih =>
    rw [show ((k + 1 : Nat) : Int) = (k : Int) + 1 from by omega]
    exact dp_CP (dp_CL ih)
theorem dp_all : dp_CPs 14 28 := dp_al 14
theorem cx_156d {b : Bool} {A : Nat → Nat} {h0 : g_H} {d : Nat} {M : xa_M} {post : Option xa_V → xa_M → Prop} {C : Int → Int → Prop} {G : Int} (hG : M 34 3 = G) (g14 : 0 ≤ G ∧ G ≤ 14) (hC : ∀ x y, 0 ≤ x → x < G → 0 ≤ y → y < G → (C x y ↔ bt (M 36 x) y = 1)) (hsC : dq_s G C) (k : ∀ (M1 : xa_M) (r : Int), (∀ (q : Nat) (j : Int), ¬ q = 37 → M1 q j = M q j) → (∀ t, 0 ≤ t → t < 14 → M1 37 t = -1) → dp_min G C r → post (some (0, 0, 0, 14, r)) M1) : xa_C (xl_I b) A h0 (d + 32) 156 [(2, 34, 0, 0, 0)] M post := by
  refine xa_meth (Q0 := (4, 1, false, 0, 0, 4)) (by decide +kernel) ⟨rfl, rfl⟩ (full := s_c_156) rfl rfl ?_
  intro hM hv Q hgo
  have loop : ∀ M1 : xa_M, (∀ (q : Nat) (j : Int), ¬ q = 37 → M1 q j = M q j) → (∀ t, 0 ≤ t → t < 14 → M1 37 t = -1) → ∀ a : Int, (bs a ∧ ∀ t, 0 ≤ t → t < 14 → (bt a t = 1 ↔ t < G)) → ∀ (n : Nat) (q f : Int), 0 ≤ f ∧ f ≤ G → q = f → (∀ x, 0 ≤ x → x < f → ¬ dq_X G C (fun _ => True) (fun _ => -1) x) → 14 - f < (n : Int) → Q 21 [(3, (0, 0, 0, 14, q)), (2, (0, 0, 0, 14, f)), (1, (0, 0, 0, 16383, a)), (0, (2, 34, 0, 0, 0))] [] M1 := by
    intro M1 hf h37 a ha
    intro n
    induction n with
    | zero => intro q f f1 eq hx hms; omega
    | succ n ih =>
      intro q f f1 eq hx hms
      have hG1 : M1 34 3 = G := (hf 34 3 (by decide)).trans hG
      have hC1 : ∀ x y, 0 ≤ x → x < G → 0 ≤ y → y < G → (C x y ↔ bt (M1 36 x) y = 1) := fun x y x0 x1 y0 y1 => by
        rw [hf 36 x (by decide)]
        exact hC x y x0 x1 y0 y1
      have hl1 : ∀ t, 0 ≤ t → t < 14 → -1 ≤ M1 37 t ∧ M1 37 t ≤ 13 := fun t t0 t1 => by
        rw [h37 t t0 t1]
        decide
      have ha1 := ha.1
      refine hgo.1 18 [21] 21 _ _ _ ?_
      refine And.intro ?_ ?_
      · intro (c1 : (M1 34 3) ≤ q)
        show post (some (0, 0, 0, 14, f)) M1
        have ef : f = G := by omega
        rw [ef] at hx ⊢
        exact k M1 G hf h37 ⟨⟨g14.1, Int.le_refl G⟩, dq_gG hsC (fun _ _ _ => rfl), hx⟩
      · intro (c1 : q < (M1 34 3))
        show xa_C (xl_I b) A h0 _ 157 [(2, 34, 0, 0, 0), (0, 0, 0, 16383, a), (0, 0, 0, 14, f), (0, 0, 0, 0, 0)] M1 _
        refine dp_all (d := d) hG1 g14 hC1 hl1 hsC ha.1 (cn_le a).2 ⟨Int.le_refl 0, by have := (cn_le a).2; omega⟩ (show 0 ≤ f ∧ f ≤ 14 by omega) (fun t t0 t1 h => ⟨(ha.2 t t0 t1).mp h, h37 t t0 t1⟩) ?_
        intro r126 (i2 : r126 = 0 ∨ r126 = 1) (i3 : r126 = 1 ↔ dq_X G C (fun t => bt a t = 1) (M1 37) f)
        refine And.intro ?_ ?_
        · intro (c4 : ¬ r126 = 0)
          show post (some (0, 0, 0, 14, f)) M1
          exact k M1 f hf h37 ⟨f1, (dp_T1 (fun t t0 t1 => (ha.2 t t0 (by omega)).mpr t1) (fun t t0 t1 => h37 t t0 (by omega))).mp (i3.mp (by omega)), hx⟩
        · intro (c4 : r126 = 0)
          show Q 21 [(3, (0, 0, 1, 15, q + 1)), (2, (0, 0, 1, 15, f + 1)), (1, (0, 0, 0, 16383, a)), (0, (2, 34, 0, 0, 0))] [] M1
          refine hgo.2.1 21 _ [(3, (0, 0, 0, 14, q + 1)), (2, (0, 0, 0, 14, f + 1)), (1, (0, 0, 0, 16383, a)), (0, (2, 34, 0, 0, 0))] _ _ (xa_subI rfl rfl (fun _ _ _ _ => by omega) (xa_subI rfl rfl (fun _ _ _ _ => by omega) (xa_subI rfl rfl (fun _ _ _ _ => by omega) (xa_subR rfl (xa_sub0))))) ?_
          exact ih (q + 1) (f + 1) (by omega) (by omega) (fun x x0 x1 => by
            by_cases e : x = f
            · rw [e]
              exact fun h => by have := i3.mpr ((dp_T1 (fun t t0 t1 => (ha.2 t t0 (by omega)).mpr t1) (fun t t0 t1 => h37 t t0 (by omega))).mpr h); omega
            · exact hx x x0 (by omega)) (by omega)
  refine hgo.1 20 [21] 0 _ _ _ ?_
  show xa_C (xl_I b) A h0 _ 77 [(2, 37, 0, 0, 0), (0, 0, (-1), (-1), (-1))] M _
  refine cx_77d_37 ?_
  intro M127 (i1 : ∀ (q : Nat) (j : Int), ¬ q = 37 → M127 q j = M q j) (i2 : ∀ t, 0 ≤ t → t < 14 → M127 37 t = (-1))
  show Q 21 [(3, (0, 0, 0, 0, 0)), (2, (0, 0, 0, 0, 0)), (1, (0, 0, (-2147483648), 2147483647, xa_w32 ((xa_ib 6 1 (M127 34 3)) - 1))), (0, (2, 34, 0, 0, 0))] [] M127
  have e3 : M127 34 3 = G := (i1 34 3 (by decide)).trans hG
  have hb : 0 ≤ (xa_w32 ((xa_ib 6 1 (M127 34 3)) - 1)) ∧ (xa_w32 ((xa_ib 6 1 (M127 34 3)) - 1)) < 16384 := bs_all (by omega) (by omega)
  refine hgo.2.1 21 _ [(3, (0, 0, 0, 14, 0)), (2, (0, 0, 0, 14, 0)), (1, (0, 0, 0, 16383, xa_w32 ((xa_ib 6 1 (M127 34 3)) - 1))), (0, (2, 34, 0, 0, 0))] _ _ (xa_subI rfl rfl (fun _ _ _ _ => by omega) (xa_subI rfl rfl (fun _ _ _ _ => by omega) (xa_subI rfl rfl (fun _ _ _ _ => by omega) (xa_subR rfl (xa_sub0))))) ?_
  exact loop M127 i1 i2 (xa_w32 ((xa_ib 6 1 (M127 34 3)) - 1)) ⟨hb, fun t t0 t1 => (bt_all (by omega) (by omega) t0 (by omega)).trans (by rw [e3])⟩ 15 0 0 (by omega) (by omega) (fun x x0 x1 => by omega) (by omega)

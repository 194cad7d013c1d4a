set_option maxRecDepth 20000
theorem rz_mb {p q A B : Int} (h1 : -A ≤ p) (h2 : p ≤ A) (h3 : -B ≤ q) (h4 : q ≤ B) : -(A * B) ≤ p * q ∧ p * q ≤ A * B := by
  have a := Int.mul_nonneg (show 0 ≤ A - p by omega) (show 0 ≤ B - q by omega)
  have b := Int.mul_nonneg (show 0 ≤ A + p by omega) (show 0 ≤ B + q by omega)
  have c := Int.mul_nonneg (show 0 ≤ A - p by omega) (show 0 ≤ B + q by omega)
  have d := Int.mul_nonneg (show 0 ≤ A + p by omega) (show 0 ≤ B - q by omega)
  simp only [Int.sub_mul, Int.mul_sub, Int.add_mul, Int.mul_add] at a b c d
  omega
def rz_sl (a b c d : Int) : Prop := (0 ≤ a ∧ a ≤ 99) ∧ (a < b ∧ b ≤ 100) ∧ (1 ≤ d ∧ d ≤ 20) ∧ (-d ≤ c ∧ c ≤ d)
def rz_un (u d : Int) : Prop := (1 ≤ u ∧ u ≤ 1000) ∧ (1 ≤ d ∧ d ≤ 1000) ∧ d ≤ u
theorem rz_Qc {A : Nat → Nat} {W : y_W} {b : Bool} {h : g_H} {N : xa_M} (hQ : iv_Q A W b h N) {d j : Nat} {vs : List xa_V} {xs : List Value} (hx : xa_gS A vs xs) {Px : Option xa_V → xa_M → Prop} (hC : xa_C (xl_I b) A h d j vs (iv_num h) Px) : g_run d j xs h 0 0 (fun r h1 => ∃ v M1, Px v M1 ∧ xa_gR A v r ∧ iv_Q A W b h1 M1 ∧ xa_H (xl_I b) A M1 h h1 ∧ (∀ M : xa_M, xa_H xm_I A M h h → xa_H xm_I A M h1 h1) ∧ (∀ x : Int, 0 ≤ x → x < 496 → iv_num h1 104 x = iv_num h 104 x)) := by
  refine hC h xs (xc_F (xl_fit b) (iv_iW_inv hQ.1) hQ.2.1) hx _ (fun v M' x h' hv hr hX => ?_)
  obtain ⟨hI1, km⟩ := xc_B (xl_fit b) hQ.1 hX
  have out : ∀ q, ¬ q < 60 → h'[q]? = h[q]? := fun q hq => hX.2.2 q (xl_no hq)
  refine ⟨v, M', hv, hr, ⟨hI1, iv_F_X hX, iv_kept_k (List.prefix_refl W) ?_ ?_ ?_ ?_ ?_ hQ.2.2.1, fun q j hq hC => iv_num_x hX hC hq⟩, hX, km, fun x _ _ => iv_num_h (out 104 (by omega)) _⟩
  · intro i hi
    unfold iv_ct
    rw [hX.2.2 11 rfl]
  · intro i hi
    exact iv_num_h (out 105 (by omega)) _
  · intro x x0 x1
    exact iv_num_h (out 104 (by omega)) _
  · intro p a f hp hw e
    exact ⟨f, by rw [out p (by omega)]; exact e, fun _ _ => rfl⟩
  · intro k p a F hk hp hw e
    exact ⟨F, by rw [out p (by omega)]; exact e, fun _ _ _ => rfl⟩
def rz_uk (K : xa_M) (a b : Int) : Prop := (0 ≤ a ∧ a < 4) ∧ (0 ≤ b ∧ b < 4) ∧ ¬ K 105 a = 0 ∧ ¬ K 105 b = 0
theorem rz_uke {K K' : xa_M} {a b : Int} (e : ∀ x, 0 ≤ x → x < 4 → K 105 x = K' 105 x) : rz_uk K a b ↔ rz_uk K' a b :=
  ⟨fun ⟨h1, h2, h3, h4⟩ => ⟨h1, h2, by rw [← e a h1.1 h1.2]; exact h3, by rw [← e b h2.1 h2.2]; exact h4⟩, fun ⟨h1, h2, h3, h4⟩ => ⟨h1, h2, by rw [e a h1.1 h1.2]; exact h3, by rw [e b h2.1 h2.2]; exact h4⟩⟩
/-- the class's numbers of a cell behind a call -/
theorem rz_n48 {A : Nat → Nat} {b : Bool} {M1 : xa_M} {h h1 : g_H} (hX : xa_H (xl_I b) A M1 h h1) : iv_num h1 48 1 = M1 48 1 := iv_num_M (j := 1) hX rfl (by decide) (by decide) (by show (0 : Nat) < 2; decide)

-- fittings, on both sides
set_option maxRecDepth 20000
/-- what fittings answers -/
def tf_85 (N : xa_M) (X p r : Int) : Prop := ∃ (e s : Int) (W R : Int → Int), tk_S N X p e s W R ∧ ((¬ e = 0 ∧ r = e) ∨ (e = 0 ∧ r = fs_c (tk_F N s W R p) (tk_pr N s W).toNat))
theorem tf_85_one {N : xa_M} {X p r r' : Int} (hM : tk_M N) (h : tf_85 N X p r) (h' : tf_85 N X p r') : r = r' := by
  obtain ⟨e, s, W, R, hS, h1⟩ := h
  obtain ⟨e', s', W', R', hS', h2⟩ := h'
  obtain ⟨ee, k⟩ := tk_S_one hM hS hS'
  subst ee
  rcases h1 with ⟨a1, a2⟩ | ⟨a1, a2⟩
  · rcases h2 with ⟨-, b2⟩ | ⟨b1, -⟩
    · omega
    · exact absurd b1 a1
  · rcases h2 with ⟨b1, -⟩ | ⟨-, b2⟩
    · exact absurd a1 b1
    · obtain ⟨rfl, k2⟩ := k (Or.inl a1)
      obtain ⟨k3, k4, -, -⟩ := tk_e (M := N) k2
      rw [a2, b2, k3 p, k4]
/-- what is told has become other -/
theorem tk_re {N M1 M2 Ma : xa_M} {X p i : Int} (hZ : tk_Z N X p Ma) (hS : tk_S N X p 0 (Ma 15 10) (Ma 21) (Ma 22)) (hK : fa_K Ma M1) (hst : tk_st N p Ma M1 i) (hge : i ≤ fs_c (tk_F N (Ma 15 10) (Ma 21) (Ma 22) p) (tk_pr N (Ma 15 10) (Ma 21)).toNat) (e : ∀ (q : Nat) (j : Int), ¬ (q = 48 ∨ q = 49) → M2 q j = M1 q j) : ∃ Ma' : xa_M, tk_Z N X p Ma' ∧ tk_S N X p 0 (Ma' 15 10) (Ma' 21) (Ma' 22) ∧ fa_K Ma' M2 ∧ tk_st N p Ma' M2 i ∧ i ≤ fs_c (tk_F N (Ma' 15 10) (Ma' 21) (Ma' 22) p) (tk_pr N (Ma' 15 10) (Ma' 21)).toNat := by
  obtain ⟨Ma', hm⟩ : ∃ Ma' : xa_M, ∀ (q : Nat) (j : Int), Ma' q j = if q = 48 ∨ q = 49 then M2 q j else Ma q j := ⟨fun q j => if q = 48 ∨ q = 49 then M2 q j else Ma q j, fun _ _ => rfl⟩
  have hn : ∀ q, ¬ (q = 48 ∨ q = 49) → Ma' q = Ma q := fun q hq => funext (fun j => (hm q j).trans (if_neg hq))
  have hn2 : ∀ q, ¬ (q = 48 ∨ q = 49) → M2 q = M1 q := fun q hq => funext (fun j => e q j hq)
  have e15 := hn 15 (by decide)
  have e21 := hn 21 (by decide)
  have e22 := hn 22 (by decide)
  have e23 := hn 23 (by decide)
  have e24 := hn 24 (by decide)
  have f15 := hn2 15 (by decide)
  have f22 := hn2 22 (by decide)
  have f25 := hn2 25 (by decide)
  have f26 := hn2 26 (by decide)
  have f27 := hn2 27 (by decide)
  refine ⟨Ma', ?_, ?_, fun q j a b c d => ?_, ?_, ?_⟩
  · unfold tk_Z tk_A
    rw [e15, e21, e22, e23, e24]
    exact hZ
  · rw [e15, e21, e22]
    exact hS
  · by_cases hq : q = 48 ∨ q = 49
    · rw [hm q j, if_pos hq]
    · rw [hm q j, if_neg hq, e q j hq]
      exact hK q j a b c d
  · unfold tk_st fa_S fb_P at hst ⊢
    rw [e15, e21, e22, e23, e24, f15, f22, f25, f26, f27]
    exact hst
  · rw [e15, e21, e22]
    exact hge
theorem tk_ge {N : xa_M} {s p i : Int} {W R V : Int → Int} (hin : tk_in N s W V) (hF : tk_F N s W R p (tk_rk N s W V)) (hc : fs_c (tk_F N s W R p) (tk_rk N s W V).toNat = i) : i + 1 ≤ fs_c (tk_F N s W R p) (tk_pr N s W).toNat := by
  obtain ⟨b0, b1⟩ := fs_rk_b s.toNat hin
  have b0' : 0 ≤ tk_rk N s W V := b0
  have b1' : tk_rk N s W V < tk_pr N s W := b1
  have h1 := fa_c1 (F := tk_F N s W R p) b0' hF
  have h2 := fs_cl (F := tk_F N s W R p) (show (tk_rk N s W V + 1).toNat ≤ (tk_pr N s W).toNat by omega)
  omega
/-- both sides have answered, what they hold is as it was -/
theorem tf_lmR {b : Bool} {U V U' V' : xa_M} (h : lm_R b (xj U V)) (e1 : ∀ (q : Nat) (j : Int), ¬ (15 ≤ q ∧ q ≤ 27) → ¬ (q = 48 ∨ q = 49) → U' q j = U q j) (e2 : xm_cor V V') : lm_R b (xj U' V') := by
  refine lm_R_k (fun q j hC => ?_) h
  unfold xj
  by_cases hq : q < 60
  · rw [if_pos hq, if_pos hq]
    exact e1 q j (by first | (have t9 := lm_Cq hC; omega) | (unfold lm_C at hC; omega)) (by first | (have t9 := lm_Cq hC; omega) | (unfold lm_C at hC; omega))
  · rw [if_neg hq, if_neg hq]
    exact e2 q j (by first | (have t9 := lm_Cq hC; unfold xm_scr; omega) | (unfold lm_C at hC; unfold xm_scr; omega))

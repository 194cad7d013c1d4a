-- fittings, on both sides
set_option maxRecDepth 20000
theorem cx_60b {b : Bool} {A : Nat → Nat} {h0 : g_H} {d : Nat} {M : xa_M} {post : Option xa_V → xa_M → Prop} {l1 u1 x1 : Int} (h1 : (0 : Int) ≤ M 48 1) (k : ∀ M1 : xa_M, (∀ (q : Nat) (j : Int), ¬ (q = 48 ∨ q = 49) → M1 q j = M q j) → (0 : Int) ≤ M1 48 1 → post none M1) : xa_C (xl_I b) A h0 (d + 2) 60 [(2, 48, 0, 0, 0), (1, 0, l1, u1, x1)] M post :=
  cx_60_48 h1 (fun _ => k M (fun _ _ _ => rfl) h1) (fun h => k _ (fun q j hq => (xa_up_ne (by omega)).trans (xa_up_ne (by omega))) (by
    rw [xa_up_eq, xa_w32_id (by omega) (by omega)]
    omega))
theorem tk_ge {N : xa_M} {s p i : Int} {W R V : Int → Int} (hin : tk_in N s W V) (hF : tk_F N s W R p (tk_rk N s W V)) (hc : fs_c (tk_F N s W R p) (tk_rk N s W V).toNat = i) : i + 1 ≤ fs_c (tk_F N s W R p) (tk_pr N s W).toNat := by
  obtain ⟨b0, b1⟩ := fs_rk_b s.toNat hin
  have b0' : 0 ≤ tk_rk N s W V := b0
  have b1' : tk_rk N s W V < tk_pr N s W := b1
  have h1 := fa_c1 (F := tk_F N s W R p) b0' hF
  have h2 := fs_cl (F := tk_F N s W R p) (show (tk_rk N s W V + 1).toNat ≤ (tk_pr N s W).toNat by omega)
  omega

set_option maxRecDepth 20000
/-- the class tells a way: what stands when the periods up to p are seen for sign s (g: one is found) -/
def rz_w (T C : Int → Int) (N S s u p g z : Int) : Prop := (g = 0 ∧ xa_bc u = s ∧ nm_s T C s u (nm_f T C N S.toNat (N - s - 1).toNat) p.toNat = 0 ∧ z = s) ∨ (g = 1 ∧ xa_bc u = s + 1 ∧ z = s + 1)
theorem rz_w0 {T C : Int → Int} {N S s u p g z : Int} (h : rz_w T C N S s u p g z) (hg : g = 0) : xa_bc u = s ∧ nm_s T C s u (nm_f T C N S.toNat (N - s - 1).toNat) p.toNat = 0 ∧ z = s := by
  rcases h with ⟨-, a⟩ | ⟨a, -⟩
  · exact a
  · omega
theorem rz_w1 {T C : Int → Int} {N S s u p g z : Int} (h : rz_w T C N S s u p g z) (hg : ¬ g = 0) : xa_bc u = s + 1 ∧ z = s + 1 := by
  rcases h with ⟨a, -⟩ | ⟨-, a⟩
  · exact absurd a hg
  · exact a
theorem rz_wS {T C : Int → Int} {N S s u p g z : Int} (hs : s < N) (hp : p = S) (hg : 0 < nm_g T C N S.toNat u) (h : rz_w T C N S s u p g z) : xa_bc u = s + 1 ∧ z = s + 1 := by
  rcases h with ⟨-, a, b, -⟩ | ⟨-, a⟩
  · exfalso
    have e := nm_gL (T := T) (C := C) (N := N) (u := u) (S := S.toNat) (show xa_bc u < N by omega)
    rw [hp] at b
    rw [a, b] at e
    omega
  · exact a

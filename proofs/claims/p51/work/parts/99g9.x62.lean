set_option maxRecDepth 20000
theorem rz_Sr {N : xa_M} {X p r n : Int} {W R : Int → Int} (h : tk_S N X p r n W R) : r ≤ 0 := by
  rcases h with ⟨-, h⟩ | ⟨-, ⟨-, h⟩ | ⟨-, ⟨-, h⟩ | ⟨-, h⟩⟩⟩ <;> omega

-- the four cases that stand out
theorem lw_rest {p : Program} {l : Launch} {e : Env} {s : State} {m : MethodId} {below : List Frame} {meth : Method} {c : Code} {b : Nat} {xs : Nat → Int32} {D : va_G} {dA : Nat → ClassId} (hflags : l.flags = flags0) (C0 : lw_At p s m meth c b 5 xs) (hK : g_K4 D dA s) (σ : Nat → Int) (ρ : Nat → Nat) (hok : s_ok (lw_xs xs) σ lw_M)
    (h : σ 5 = 6 ∨ σ 5 = 30 ∨ σ 5 = 31 ∨ σ 5 = 49) : lw_PP p l e s m below meth c b D dA (s_cX σ ρ b (s_lit 0 0)) := by
  rcases h with h | h | h | h
  · exact lw_of hflags C0 hK ρ hok h
  · exact lw_slot C0 hK ρ hok h
  · exact lw_uneven C0 hK ρ hok h
  · exact lw_row hflags C0 hK ρ hok h

-- the law's two helpers: they catch what of and row throw
section T62
variable {p : Program} {l : Launch} {e : Env} {R : Room} {s : State} {m : MethodId} {args : Array Value} {below : List Frame} {meth : Method} {c : Code} {nL : Nat} {D : va_G} {dA : Nat → ClassId} {A : Nat → Prop} {H0 : Heap} {Q : State → Prop} {pc hpc : Nat} {L : g_L}
/-- behind a call that returns or throws -/
theorem x_after2 {h : g_H} {H : Heap} {locs : List Loc} {ls : Array Slot} {st0 rest : List Value} {mc ms cells slots : Nat} {a : Array Value} {ret : Option Value → g_H → Prop} {post : g_H → Prop} (hA : ∀ q, H0.size ≤ q → A q) (hl : lv_has ls nL L) (hD : va_D A (g_tw dA h)) (hS : va_S A H0 H locs)
    (hr : vx_Run p l e R s m args below meth c H locs cells slots mc ms (F0 m pc ls st0) rest (g_Qc dA D h H.size ret a) (x_XC D dA h H.size post) (va_A (g_tw dA h) H.size))
    (kr : ∀ r h', ret r h' → g_G p l e R s m args below meth c nL D dA A H0 Q (pc + 3, L, r.toList ++ rest, cells + mc, slots + ms, h'))
    (hcatch : ∀ (H1 : Heap) (locs1 : List Loc) (q : Addr) (ce : Cell), H1[q]? = some ce → ce.vm = .none → s.vm.findClass x_E = some ce.cls → W p l e R s m args below meth c H1 locs1 (cells + mc) (slots + ms) Q (F0 m hpc ls [.ref q]) → vx_W p l e R s m args below meth c H1 locs1 (cells + mc) (slots + ms) Q (F0 m pc ls rest) q)
    (kk : ∀ (h' : g_H) (q : Addr), post h' → g_G p l e R s m args below meth c nL D dA A H0 Q (hpc, L, [.ref q], cells + mc, slots + ms, h')) : W p l e R s m args below meth c H locs cells slots Q (F0 m pc ls st0) := by
  have hF : ∀ q, va_A (g_tw dA h) H.size q → A q := by
    intro q hq
    rcases hq with ⟨k, e, hk⟩ | hq
    · exact hD.2 k (q, e) hk
    · exact hA q (Nat.le_trans hS.1 hq)
  intro T hT X
  rcases hr T hT X with ⟨v, st₀, t, T', L', h0, X', hL, e1, e2, ⟨⟨r, h', hv, hp', hP', hD'⟩, hz, hk⟩, stp⟩ | ⟨q, st₀, t, T', L', E, ce, h0, X', hL, e1, e2, ⟨hE, ⟨h', hp, hP', hD'⟩, hz, hk⟩, hce, hcv, hcl, st⟩
  · cases hv
    rw [h0] at hz hk
    obtain ⟨t2, a1, b1⟩ := kr v h' hp' ls T'.heap (locs ++ L') hl (by rw [e1]; exact hP') (hD'.weaken (fun _ _ _ hq => hF _ hq))
      ⟨Nat.le_trans hS.1 (by rw [e1]; exact hz), fun q h1 h2 => by rw [e1, hk q (Nat.lt_of_lt_of_le h1 hS.1) (fun z => h2 (hF q z))]; exact hS.2.1 q h1 h2, fun q hq => by
        rcases List.mem_append.mp hq with h | h
        · exact hS.2.2 q h
        · exact hF _ (hL q h)⟩ T' rfl X'
    exact ⟨t2, stp t2 a1, b1⟩
  · subst hE
    rw [h0] at hz hk
    have hS' : va_S A H0 T'.heap (locs ++ L') := ⟨Nat.le_trans hS.1 (by rw [e1]; exact hz), fun q h1 h2 => by rw [e1, hk q (Nat.lt_of_lt_of_le h1 hS.1) (fun z => h2 (hF q z))]; exact hS.2.1 q h1 h2, fun q hq => by
      rcases List.mem_append.mp hq with h | h
      · exact hS.2.2 q h
      · exact hF _ (hL q h)⟩
    have hw := kk h' q hp ls T'.heap (locs ++ L') hl (by rw [e1]; exact hP') (hD'.weaken (fun _ _ _ hq => hF _ hq)) hS'
    obtain ⟨t2, b1, b2⟩ := hcatch T'.heap (locs ++ L') q ce (by rw [e1]; exact hce) hcv hcl hw T' rfl X'
    exact ⟨t2, st.trans b1, b2⟩
end T62
theorem x_PC_at {D : va_G} {dA : Nat → ClassId} {h' : g_H} {A : Nat → Prop} {s : State} {H : Heap} {locs : List Loc} {as : List Value} (hA : ∀ q, s.heap.size ≤ q → A q) (hK : g_K4 D dA s) (hX : x_K s) (hZ : x_Z A s s.heap) (hP : va_P D g_cl (g_tw dA h') H) (hD : va_D A (g_tw dA h')) (hS : va_S A s.heap H locs) :
    ∀ U : State, U.heap = H → s.WarmedH U.vm → x_Pc D dA as h' H.size as.toArray U := by
  intro U hU hW
  refine ⟨rfl, by rw [hU], by rw [hU]; exact hP, g_K4.moved hW hK, hD.weaken (fun _ _ _ _ => trivial), x_K.moved hW hX, ?_⟩
  rw [hU]
  refine x_Z.narrow (x_Z.moved hW.alike (hZ.kept hS.2.1)) (fun q hq => ?_)
  rcases hq with ⟨k, e, hk⟩ | hq
  · exact hD.2 k (q, e) hk
  · exact hA q (Nat.le_trans hS.1 hq)
section T63
variable {CALL : Nat → List Value → g_H → Nat → Nat → (Option Value → g_H → Prop) → Prop} {o nL : Nat} {ini : Bool} {bc bs : Nat} {cc : ByteArray} {P : g_S → Prop}
theorem iv_lastore (hcl : ∀ S, g_pre CALL o nL ini bc bs cc P S → P S) {pc kd b : Nat} {v0 : Int} {ins : Instr} (hI : s_okI cc o (pc, 1, 33, kd, 1, b, v0, ins) = true) {q ad n : Nat} {f : Nat → Value} {h : g_H} (hget : g_get h q = some (ad, true, 1, n, f)) {j : Int32} (hj : vp_in j n) {x : Int64} {Ls : g_L} {rest : List Value} {c s : Nat} (k : P (pc + 1, Ls, rest, c, s, h.set q (ad, true, 1, n, g_up f j.toNatClampNeg (.long x)))) : P (pc, Ls, .long x :: .int j :: .ref ad :: rest, c, s, h) := by
  have hd := iv_dec hI (by decide) (by decide)
  obtain ⟨-, hQ, -⟩ := s_okI_eq hI (by decide)
  have hQ1 : (Nat.beq (s_asn ins) 1 && Nat.blt 1 4) = true := hQ
  rw [Bool.and_eq_true, Nat.beq_eq] at hQ1
  have hi : ins = .lastore := by
    rcases s_as_i hQ1.1 (by decide) with ⟨h, -⟩ | ⟨-, h⟩ | ⟨h, -⟩ | ⟨h, -⟩
    · cases h
    · exact h
    · cases h
    · cases h
  subst hi
  exact hcl _ ⟨_, _, hd, Or.inr (Or.inr (Or.inr (Or.inl (Or.inr (Or.inr (Or.inr (Or.inr (Or.inr (Or.inr (Or.inr (Or.inl ⟨q, ad, n, f, j, x, rest, rfl, rfl, rfl, hget, hj, k⟩)))))))))))⟩
theorem iv_goto (hcl : ∀ S, g_pre CALL o nL ini bc bs cc P S → P S) {pc kd a k9 : Nat} {v0 : Int} {ins : Instr} (hI : s_okI cc o (pc, 3, 20, kd, a, k9, v0, ins) = true) {Ls : g_L} {st : List Value} {w : g_W} (k : P (a, Ls, st, w)) : P (pc, Ls, st, w) := by
  have hd := iv_dec hI (by decide) (by decide)
  obtain ⟨-, hQ, -⟩ := s_okI_eq hI (by decide)
  have hQ' : ∃ off, ins = .goto off ∧ (pc : Int) + off = (a : Int) := by
    clear hd
    revert hQ
    cases ins <;> intro hQ <;> first | exact ⟨_, rfl, of_decide_eq_true hQ⟩ | cases hQ
  obtain ⟨off, rfl, ho⟩ := hQ'
  exact hcl _ ⟨_, _, hd, Or.inr (Or.inr (Or.inl (Or.inl ⟨off, a, rfl, rfl, ho, k⟩)))⟩
end T63

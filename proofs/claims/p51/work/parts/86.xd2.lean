-- isFitting of the model is safe
set_option maxRecDepth 20000
theorem xd_subD {L L' : xa_L} {i : Nat} {v : xa_V} (e : xa_find L i = some v) (hv : v.1 = 5) (t : xa_sub L' L) : xa_sub ((i, v) :: L') L := by
  refine ⟨?_, t⟩
  rw [e]
  obtain ⟨k, r⟩ := v
  have hk : k = 5 := hv
  subst hk
  exact rfl
theorem xd_lk1 : ∃ ps, (12, 245, 12, 0, 0, 4607182409792818153, ps) ∈ g_lk := by
  have h : g_lk.any (fun r => Nat.beq r.1 12 && (Nat.beq r.2.1 245 && (Nat.beq r.2.2.1 12 && (Nat.beq r.2.2.2.1 0 && (Nat.beq r.2.2.2.2.1 0 && decide (r.2.2.2.2.2.1 = 4607182409792818153)))))) = true := by decide +kernel
  obtain ⟨q, hm, e⟩ := List.any_eq_true.mp h
  obtain ⟨w1, w2, w3, w4, w5, w6, w7⟩ := q
  simp only [Bool.and_eq_true, Nat.beq_eq, decide_eq_true_eq] at e
  obtain ⟨rfl, rfl, rfl, rfl, rfl, rfl⟩ := e
  exact ⟨w7, hm⟩
theorem xd_lk2 : ∃ ps, (12, 247, 12, 0, 0, 4607182423303617035, ps) ∈ g_lk := by
  have h : g_lk.any (fun r => Nat.beq r.1 12 && (Nat.beq r.2.1 247 && (Nat.beq r.2.2.1 12 && (Nat.beq r.2.2.2.1 0 && (Nat.beq r.2.2.2.2.1 0 && decide (r.2.2.2.2.2.1 = 4607182423303617035)))))) = true := by decide +kernel
  obtain ⟨q, hm, e⟩ := List.any_eq_true.mp h
  obtain ⟨w1, w2, w3, w4, w5, w6, w7⟩ := q
  simp only [Bool.and_eq_true, Nat.beq_eq, decide_eq_true_eq] at e
  obtain ⟨rfl, rfl, rfl, rfl, rfl, rfl⟩ := e
  exact ⟨w7, hm⟩
theorem xm_fd_ok : xm_fd := by
  intro A h0 d M post l u p hI hW hF p0 p1 k
  refine xa_C_asm (fun hM _ => ?_)
  have b11 := xm_f11 hM
  have b32 := xm_f32 hM
  have hpp := hI.2.2.1 p p0 p1
  have hsp : ∀ i, 0 ≤ i → i < M 60 32 → 10 ≤ M 84 i ∧ M 84 i ≤ 400 := fun i i0 i1 => by
    have h1 := xm_way_sp hM hI hW i i0 i1
    have h2 := hF i i0 i1
    have h3 := xm_t84 hM i i0 (by omega)
    omega
  refine xa_C_arg [(2, 60, 0, 0, 0), (0, 0, 0, 7, p)] (xa_svR (xa_svI (fun _ _ _ _ => by omega) xa_sv0)) ?_
  refine xa_C_wk (xd_meth (post := xa_wk post) (Q0 := (10, 2, false, 0, 0, 12)) (by decide +kernel) ⟨rfl, rfl⟩ (full := s_c_242) rfl rfl ?_)
  intro _ _ Q hgo hx
  obtain ⟨hi2d, hdiv, hmul, hcmp, hst, hld, hldc⟩ := hx
  obtain ⟨ps1, hk1⟩ := xd_lk1
  obtain ⟨ps2, hk2⟩ := xd_lk2
  have q97 : Q 97 [(1, (0, 0, 0, 7, p)), (0, (2, 60, 0, 0, 0))] [] M := xm_if97 hM hI (fun i i0 i1 => (hsp i i0 i1).1) p0 p1 k hgo
  have q79 : ∀ x : UInt64, Q 79 [(2, xd_v x), (1, (0, 0, 0, 7, p)), (0, (2, 60, 0, 0, 0))] [] M := by
    intro x
    refine hld 79 _ _ _ _ _ _ _ _ x 2 rfl rfl ?_
    refine hldc 80 _ _ _ _ _ _ _ _ 245 0 0 4607182409792818153 ps1 rfl hk1 (fun m => ?_)
    refine hcmp 83 _ _ _ _ _ _ _ _ x m _ rfl (fun n => ?_)
    refine hgo.1 6 [87] 84 _ _ _ ?_
    refine And.intro ?_ ?_
    · intro _
      show xa_wk post (some (0, 0, 0, 0, 0)) M
      exact xa_wkI 0 rfl (fun _ _ => by omega) (k 0 _ (by omega) (fun _ _ _ _ => rfl))
    · intro _
      show Q 87 [(2, xd_v x), (1, (0, 0, 0, 7, p)), (0, (2, 60, 0, 0, 0))] [] M
      refine hld 87 _ _ _ _ _ _ _ _ x 2 rfl rfl ?_
      refine hldc 88 _ _ _ _ _ _ _ _ 247 0 0 4607182423303617035 ps2 rfl hk2 (fun m => ?_)
      refine hcmp 91 _ _ _ _ _ _ _ _ x m _ rfl (fun n => ?_)
      refine hgo.1 6 [97] 92 _ _ _ ?_
      refine And.intro ?_ ?_
      · intro _
        show Q 97 [(2, xd_v x), (1, (0, 0, 0, 7, p)), (0, (2, 60, 0, 0, 0))] [] M
        exact hgo.2.1 97 _ _ _ _ (xa_subI rfl rfl (fun _ _ _ _ => by omega) (xa_subR rfl xa_sub0)) q97
      · intro _
        show xa_wk post (some (0, 0, 0, 0, 0)) M
        exact xa_wkI 0 rfl (fun _ _ => by omega) (k 0 _ (by omega) (fun _ _ _ _ => rfl))
  have loop : ∀ (n : Nat) (x4 : Int) (x : UInt64), 0 ≤ x4 ∧ x4 ≤ 14 → vf_n64 x → 14 - x4 < (n : Int) → Q 19 [(4, (0, 0, 0, 14, x4)), (2, xd_v x), (1, (0, 0, 0, 7, p)), (0, (2, 60, 0, 0, 0))] [] M := by
    intro n
    induction n with
    | zero => intro x4 x b4 _ hms; omega
    | succ n ih =>
      intro x4 x b4 hx hms
      have h10 := fun h : x4 < M 60 32 => hsp x4 (by omega) h
      refine hgo.1 20 [19, 38, 62, 79] 19 _ _ _ ?_
      refine And.intro ?_ ?_
      · intro _
        show Q 79 [(4, (0, 0, 0, 14, x4)), (2, xd_v x), (1, (0, 0, 0, 7, p)), (0, (2, 60, 0, 0, 0))] [] M
        exact hgo.2.1 79 _ _ _ _ (xd_subD rfl rfl (xa_subI rfl rfl (fun _ _ _ _ => by omega) (xa_subR rfl xa_sub0))) (q79 x)
      · intro (c1 : x4 < M 60 32)
        have h10 := h10 c1
        refine And.intro (show 0 ≤ x4 ∧ x4 < 14 by omega) ?_
        refine And.intro ?_ ?_
        · intro _
          refine And.intro (show 0 ≤ x4 ∧ x4 < 14 by omega) ?_
          refine And.intro ?_ ?_
          · intro _
            show Q 19 [(4, (0, 0, 1, 15, x4 + 1)), (2, xd_v x), (1, (0, 0, 0, 7, p)), (0, (2, 60, 0, 0, 0))] [] M
            refine hgo.2.1 19 _ _ _ _ (xa_subI rfl rfl (fun _ _ _ _ => by omega) (xd_subD rfl rfl (xa_subI rfl rfl (fun _ _ _ _ => by omega) (xa_subR rfl xa_sub0)))) (ih (x4 + 1) x (by omega) hx (by omega))
          · intro _
            show Q 62 [(4, (0, 0, 0, 14, x4)), (2, xd_v x), (1, (0, 0, 0, 7, p)), (0, (2, 60, 0, 0, 0))] [] M
            refine hld 62 _ _ _ _ _ _ _ _ x 2 rfl rfl ?_
            refine hgo.1 8 [70] 63 _ _ _ ?_
            refine And.intro (show 0 ≤ x4 ∧ x4 < 14 by omega) ?_
            show Q 70 [(4, (0, 0, 0, 14, x4)), (2, xd_v x), (1, (0, 0, 0, 7, p)), (0, (2, 60, 0, 0, 0))] [(0, 0, 0, 400, M 84 x4), xd_v x] M
            refine hi2d 70 _ _ _ _ _ _ _ _ _ _ _ _ rfl (fun m hm hm2 => ?_)
            refine hdiv 71 _ _ _ _ _ _ _ _ x m rfl hx (hm2 (by omega) (by omega)) (fun y hy => ?_)
            refine hst 72 _ _ _ _ _ _ _ _ y 2 rfl (show 2 + 1 < 10 by decide) ?_
            refine hgo.1 6 [19] 73 _ _ _ ?_
            show Q 19 [(4, (0, 0, 1, 15, x4 + 1)), (2, xd_v y), (1, (0, 0, 0, 7, p)), (0, (2, 60, 0, 0, 0))] [] M
            refine hgo.2.1 19 _ _ _ _ (xa_subI rfl rfl (fun _ _ _ _ => by omega) (xd_subD rfl rfl (xa_subI rfl rfl (fun _ _ _ _ => by omega) (xa_subR rfl xa_sub0)))) (ih (x4 + 1) y (by omega) hy (by omega))
        · intro _
          show Q 38 [(4, (0, 0, 0, 14, x4)), (2, xd_v x), (1, (0, 0, 0, 7, p)), (0, (2, 60, 0, 0, 0))] [] M
          refine hld 38 _ _ _ _ _ _ _ _ x 2 rfl rfl ?_
          refine hgo.1 8 [46] 39 _ _ _ ?_
          refine And.intro (show 0 ≤ x4 ∧ x4 < 14 by omega) ?_
          show Q 46 [(4, (0, 0, 0, 14, x4)), (2, xd_v x), (1, (0, 0, 0, 7, p)), (0, (2, 60, 0, 0, 0))] [(0, 0, 0, 400, M 84 x4), xd_v x] M
          refine hi2d 46 _ _ _ _ _ _ _ _ _ _ _ _ rfl (fun m hm hm2 => ?_)
          refine hmul 47 _ _ _ _ _ _ _ _ x m rfl hx (hm2 (by omega) (by omega)) (fun y hy => ?_)
          refine hst 48 _ _ _ _ _ _ _ _ y 2 rfl (show 2 + 1 < 10 by decide) ?_
          refine hgo.1 6 [19] 49 _ _ _ ?_
          show Q 19 [(4, (0, 0, 1, 15, x4 + 1)), (2, xd_v y), (1, (0, 0, 0, 7, p)), (0, (2, 60, 0, 0, 0))] [] M
          refine hgo.2.1 19 _ _ _ _ (xa_subI rfl rfl (fun _ _ _ _ => by omega) (xd_subD rfl rfl (xa_subI rfl rfl (fun _ _ _ _ => by omega) (xa_subR rfl xa_sub0)))) (ih (x4 + 1) y (by omega) hy (by omega))
  refine hgo.1 8 [6] 0 _ _ _ ?_
  show Q 6 [(0, (2, 60, 0, 0, 0)), (1, (0, 0, 0, 7, p))] [(0, 0, 0, 2000, M 71 p)] M
  have t70 := xm_t70 hM p p0 (by omega)
  have t71 := xm_t71 hM p p0 (by omega)
  refine hi2d 6 _ _ _ _ _ _ _ _ _ _ _ _ rfl (fun m1 v1 w1 => ?_)
  refine hgo.1 8 [13] 7 _ _ _ ?_
  show Q 13 [(0, (2, 60, 0, 0, 0)), (1, (0, 0, 0, 7, p))] [(0, 0, 0, 2000, M 70 p), xd_v m1] M
  refine hi2d 13 _ _ _ _ _ _ _ _ _ _ _ _ rfl (fun m2 v2 w2 => ?_)
  refine hdiv 14 _ _ _ _ _ _ _ _ m1 m2 rfl v1 (w2 (by omega) (by omega)) (fun y hy => ?_)
  refine hst 15 _ _ _ _ _ _ _ _ y 2 rfl (show 2 + 1 < 10 by decide) ?_
  refine hgo.1 6 [19] 16 _ _ _ ?_
  show Q 19 [(4, (0, 0, 0, 0, 0)), (2, xd_v y), (0, (2, 60, 0, 0, 0)), (1, (0, 0, 0, 7, p))] [] M
  exact hgo.2.1 19 _ _ _ _ (xa_subI rfl rfl (fun _ _ _ _ => by omega) (xd_subD rfl rfl (xa_subI rfl rfl (fun _ _ _ _ => by omega) (xa_subR rfl xa_sub0)))) (loop 15 0 y (by omega) hy (by omega))

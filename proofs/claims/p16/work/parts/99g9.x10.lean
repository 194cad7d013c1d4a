-- the way of a fitting and what fits, told by the reference's numbers (for both sides)
set_option maxRecDepth 20000
/-- what holds of the numbers of wheels and meshes -/
def tk_M (M : xa_M) : Prop := (0 ≤ M 60 0 ∧ M 60 0 ≤ 14) ∧ (0 ≤ M 60 6 ∧ M 60 6 ≤ 16) ∧ (∀ i, 0 ≤ i → i < M 60 6 → (0 ≤ M 66 i ∧ M 66 i < M 60 0) ∧ (0 ≤ M 67 i ∧ M 67 i < M 60 0)) ∧ (∀ w, 0 ≤ w → w < 14 → 0 ≤ M 64 w ∧ M 64 w < 10) ∧ ∀ w, 0 ≤ w → w < M 60 0 → 10 ≤ M 61 w ∧ M 61 w ≤ M 62 w ∧ M 62 w ≤ 400
theorem tk_M_of {M : xa_M} (hM : xa_Mok xm_I M) (hI : xm_Inv M) : tk_M M := by
  have b0 := xm_f0 hM
  have b6 := xm_f6 hM
  refine ⟨b0, b6, fun i i0 i1 => ?_, fun w w0 w1 => ?_, fun w w0 w1 => ?_⟩
  · have h := hI.2.1 i i0 i1
    have t66 := xm_t66 hM i i0 (by omega)
    have t67 := xm_t67 hM i i0 (by omega)
    omega
  · have t := xm_t64 hM w w0 w1
    omega
  · have h := hI.1 w w0 w1
    have t := xm_t62 hM w w0 (by omega)
    omega
theorem tk_AB {M : xa_M} (h : tk_M M) (i : Int) (i0 : 0 ≤ i) (i1 : i < M 60 6) : (0 ≤ M 64 (M 66 i) ∧ M 64 (M 66 i) < 10) ∧ (0 ≤ M 64 (M 67 i) ∧ M 64 (M 67 i) < 10) := by
  obtain ⟨h1, h2, h3, h4, -⟩ := h
  have a := h3 i i0 i1
  exact ⟨h4 _ a.1.1 (by omega), h4 _ a.2.1 (by omega)⟩
def tk_Y (M : xa_M) (X : Int) (F : Int → Int) : Prop := wy_L (M 60 6) (fun i => M 64 (M 66 i)) (fun i => M 64 (M 67 i)) F X ∧ ∀ a, 0 ≤ a → a < 10 → 0 ≤ F a
def tk_D (M : xa_M) (X s : Int) (W R F P Dr Dn : Int → Int) : Prop := tk_Y M X F ∧ F 0 < 99 ∧ wp_Q (M 60 6) (M 64) (M 66) (M 67) F (F 0) P Dr Dn (F 0) ∧ wf_W Dr Dn (M 61) (M 62) (F 0) s W R (fun i => M 61 (W i)) (fun i => M 62 (W i)) (M 60 0)
/-- the list of the wheels of the way, and their roles -/
def tk_L (M : xa_M) (X s : Int) (W R : Int → Int) : Prop := ∃ F P Dr Dn : Int → Int, tk_D M X s W R F P Dr Dn
/-- there is no way -/
def tk_N (M : xa_M) (X : Int) : Prop := ∃ F : Int → Int, tk_Y M X F ∧ 99 ≤ F 0
theorem tk_NL {M : xa_M} {X s : Int} {W R : Int → Int} (hM : tk_M M) (hX : 0 ≤ X ∧ X < 10) (h1 : tk_N M X) (h2 : tk_L M X s W R) : False := by
  obtain ⟨F, ⟨hF, f0⟩, f9⟩ := h1
  obtain ⟨G, P, Dr, Dn, ⟨hG, g0⟩, g9, -⟩ := h2
  have h := (wy_one (a := 0) hX (fun i i0 i1 => tk_AB hM i i0 i1) hF hG (by decide) (by decide) (f0 0 (by decide) (by decide)) (g0 0 (by decide) (by decide))).2 f9
  omega
theorem tk_E {M : xa_M} {X : Int} {F G : Int → Int} (hM : tk_M M) (hX : 0 ≤ X ∧ X < 10) (hF : tk_Y M X F) (hG : tk_Y M X G) : (F 0 < 99 → G 0 = F 0) ∧ wz_E (M 60 6) (M 64) (M 66) (M 67) F (M 64) (M 66) (M 67) G := by
  have one := fun (a : Int) (a0 : 0 ≤ a) (a1 : a < 10) => wy_one (a := a) hX (fun i i0 i1 => tk_AB hM i i0 i1) hF.1 hG.1 a0 a1 (hF.2 a a0 a1) (hG.2 a a0 a1)
  refine ⟨(one 0 (by decide) (by decide)).1, fun i i0 i1 => ⟨rfl, rfl, rfl, rfl⟩, fun i i0 i1 l hl => ?_⟩
  have hab := tk_AB hM i i0 i1
  have key : ∀ a : Int, 0 ≤ a → a < 10 → (G a = l - 1 ↔ F a = l - 1) := fun a a0 a1 => by
    obtain ⟨o1, o2⟩ := one a a0 a1
    by_cases c : F a < 99
    · rw [o1 c]
    · have h9 := o2 (by omega)
      constructor <;> (intro h; omega)
  exact ⟨key _ hab.1.1 hab.1.2, key _ hab.2.1 hab.2.2⟩
theorem tk_dd {M : xa_M} {X s s' : Int} {W R W' R' F P Dr Dn F' P' Dr' Dn' : Int → Int} (hM : tk_M M) (hX : 0 ≤ X ∧ X < 10) (h : tk_D M X s W R F P Dr Dn) (h' : tk_D M X s' W' R' F' P' Dr' Dn') : F' 0 = F 0 ∧ ∀ k : Int, 0 ≤ k → k < F 0 → P' k = P k ∧ Dr' k = Dr k ∧ Dn' k = Dn k := by
  obtain ⟨hF, f9, hQ, -⟩ := h
  obtain ⟨hF', -, hQ', -⟩ := h'
  obtain ⟨e, hE⟩ := tk_E hM hX hF hF'
  have e := e f9
  have hle : F 0 ≤ 10 := (hF.1.1.2.2 0 (by decide) (by decide) f9).1
  rw [e] at hQ'
  have hQ2 := wz_Q hE (by omega) hQ'
  refine ⟨e, fun k k0 k1 => ?_⟩
  exact wz_one hQ2 hQ k.toNat k k0 k1 (by omega)
/-- the list is one -/
theorem tk_one {M : xa_M} {X s s' : Int} {W R W' R' : Int → Int} (hM : tk_M M) (hX : 0 ≤ X ∧ X < 10) (h : tk_L M X s W R) (h' : tk_L M X s' W' R') : s' = s ∧ ∀ i : Int, 0 ≤ i → i < s → W' i = W i ∧ R' i = R i := by
  obtain ⟨F, P, Dr, Dn, h⟩ := h
  obtain ⟨F', P', Dr', Dn', h'⟩ := h'
  obtain ⟨e, hD⟩ := tk_dd hM hX h h'
  obtain ⟨-, -, -, hW⟩ := h
  obtain ⟨-, -, -, hW'⟩ := h'
  rw [e] at hW'
  obtain ⟨e1, -, e2⟩ := wz_W (f := wf_g Dr Dn (F 0)) (g := fun w => wf_b Dr (F 0) w - wf_b Dn (F 0) w) (T := W) (U := R) hM.1.1 hM.1.2 (fun k k0 k1 => (hD k k0 k1).2) hW' (fun w _ _ => ⟨rfl, rfl⟩) hW.1 (fun w w0 w1 w2 => ⟨(hW.2 w w0 w1 w2).1, (hW.2 w w0 w1 w2).2.1⟩)
  exact ⟨e1, fun i i0 i1 => ⟨(e2 i i0 (by omega)).1, (e2 i i0 (by omega)).2.1⟩⟩
theorem tk_dr {M : xa_M} {X s : Int} {W R F P Dr Dn : Int → Int} (hM : tk_M M) (h : tk_D M X s W R F P Dr Dn) (k : Int) (k0 : 0 ≤ k) (k1 : k < F 0) : (0 ≤ Dr k ∧ Dr k < M 60 0) ∧ (0 ≤ Dn k ∧ Dn k < M 60 0) := by
  obtain ⟨-, -, hQ, -⟩ := h
  obtain ⟨p1, -, -, p2⟩ := hQ k k0 k1
  have a := hM.2.2.1 (P k) p1.1 p1.2
  rcases p2 with ⟨-, e1, e2⟩ | ⟨-, e1, e2⟩
  · rw [e1, e2]
    exact a
  · rw [e1, e2]
    exact ⟨a.2, a.1⟩
theorem tk_lst {M : xa_M} {X s : Int} {W R : Int → Int} (hM : tk_M M) (hX : 1 ≤ X ∧ X < 10) (h : tk_L M X s W R) : (1 ≤ s ∧ s ≤ 14) ∧ fb_B R s ∧ ∀ i : Int, 0 ≤ i → i < s → (0 ≤ W i ∧ W i < M 60 0) ∧ (10 ≤ M 61 (W i) ∧ M 61 (W i) ≤ M 62 (W i) ∧ M 62 (W i) ≤ 400) := by
  obtain ⟨F, P, Dr, Dn, h⟩ := h
  have hdr := tk_dr hM h
  obtain ⟨⟨hF, f0⟩, f9, hQ, hW⟩ := h
  have F0 : 1 ≤ F 0 := hF.1.2.1 0 (by decide) (by decide) (by omega)
  have ex : (((M 60 0).toNat : Nat) : Int) = M 60 0 := Int.toNat_of_nonneg hM.1.1
  have d1 : ∀ i j : Int, 0 ≤ i → i < F 0 → 0 ≤ j → j < F 0 → Dr i = Dr j → i = j := fun i j i0 i1 j0 j1 => (wp_inj hQ rfl i0 i1 j0 j1).1
  have d2 : ∀ i j : Int, 0 ≤ i → i < F 0 → 0 ≤ j → j < F 0 → Dn i = Dn j → i = j := fun i j i0 i1 j0 j1 => (wp_inj hQ rfl i0 i1 j0 j1).2
  obtain ⟨-, e2, e3⟩ := wz_W (f := wf_g Dr Dn (F 0)) (g := fun w => wf_b Dr (F 0) w - wf_b Dn (F 0) w) (T := W) (U := R) hM.1.1 hM.1.2 (fun k _ _ => ⟨rfl, rfl⟩) hW (fun w _ _ => ⟨rfl, rfl⟩) hW.1 (fun w w0 w1 w2 => ⟨(hW.2 w w0 w1 w2).1, (hW.2 w w0 w1 w2).2.1⟩)
  have g1 : wf_g Dr Dn (F 0) (Dr 0) = 1 := wf_g1.mpr (Or.inl ((wf_b1 (by omega)).mpr ⟨0, by omega, by omega, rfl⟩))
  have hd0 := hdr 0 (by omega) (by omega)
  have er : (((Dr 0).toNat : Nat) : Int) = Dr 0 := Int.toNat_of_nonneg hd0.1.1
  have q1 : wq_s (wf_g Dr Dn (F 0)) ((Dr 0).toNat + 1) ≤ wq_s (wf_g Dr Dn (F 0)) (M 60 0).toNat := wq_sm _ _ (by omega) (fun i _ _ => by have := wf_g01 (Dr := Dr) (Dn := Dn) (n := F 0) (w := i); omega)
  rw [wq_s1, er, g1] at q1
  have q2 := (wf_sz (Dr := Dr) (Dn := Dn) (n := F 0) (Dr 0).toNat).1
  have hs := hW.1
  refine ⟨⟨by omega, e2.2⟩, fun V m hm hV => wb_B (n := F 0) (x := (M 60 0).toNat) (by omega) (by have := hM.1; omega) (fun k k0 k1 => by have := hdr k k0 k1; omega) d1 d2 (by rw [ex]; exact hW) V m hm hV, fun i i0 i1 => ?_⟩
  have g := e3 i i0 i1
  exact ⟨⟨g.2.2.2.2.1, g.2.2.2.2.2⟩, hM.2.2.2.2 _ g.2.2.2.2.1 g.2.2.2.2.2⟩
theorem tk_inj {M : xa_M} {X s : Int} {W R : Int → Int} (hM : tk_M M) (h : tk_L M X s W R) (i j : Int) (i0 : 0 ≤ i) (i1 : i < s) (j0 : 0 ≤ j) (j1 : j < s) (e : W i = W j) : i = j := by
  obtain ⟨F, P, Dr, Dn, -, -, -, hW⟩ := h
  have hx := hM.1
  have key : ∀ k : Int, 0 ≤ k → k < s → wq_s (wf_g Dr Dn (F 0)) (W k).toNat = k := fun k k0 k1 => by
    rw [hW.1] at k1
    obtain ⟨w, w0, w1, w2, w3⟩ := wz_iv (M 60 0).toNat (fun w _ _ => wf_g01) k k0 k1
    have g := (hW.2 w w0 (by omega) w2).1
    rw [w3] at g
    rw [g]
    exact w3
  have a := key i i0 i1
  have b := key j j0 j1
  rw [e] at a
  omega
-- what the reference finds
theorem tk_L_ref {M M1 : xa_M} {X : Int} (hM : tk_M M) (hMk : xa_Mok xm_I M1) (h : wv_Q M X M1 1) : tk_L M X (M1 60 32) (M1 80) (M1 81) := by
  obtain ⟨hL, h⟩ := h
  rcases h with ⟨-, hD, hW⟩ | ⟨h, -⟩
  · have h0 : ∀ a, 0 ≤ a → a < 10 → 0 ≤ M1 78 a := fun a a0 a1 => (xm_t78 hMk a a0 a1).1
    obtain ⟨Dr, Dn, hQ, hg⟩ := wf_gv hD (h0 0 (by decide) (by decide))
    have hx := hM.1
    refine ⟨M1 78, M1 79, Dr, Dn, ⟨hL, h0⟩, hD.2.1, hQ, ?_, fun w w0 w1 w2 => ?_⟩
    · rw [hW.1]
      exact wq_se _ (fun i i0 i1 => (hg i i0 (by omega)).1)
    · have es : wq_s (wf_g Dr Dn (M1 78 0)) w.toNat = wq_s (M1 83) w.toNat := (wq_se _ (fun i i0 i1 => (hg i i0 (by omega)).1)).symm
      have g := hW.2 w w0 w1 (by rw [(hg w w0 (by omega)).1]; exact w2)
      rw [es]
      refine ⟨g.1, by rw [g.2, (hg w w0 (by omega)).2], ?_, ?_⟩
      · show M 61 (M1 80 (wq_s (M1 83) w.toNat)) = M 61 w
        rw [g.1]
      · show M 62 (M1 80 (wq_s (M1 83) w.toNat)) = M 62 w
        rw [g.1]
  · omega
theorem tk_N_ref {M M1 : xa_M} {X : Int} (hMk : xa_Mok xm_I M1) (h : wv_Q M X M1 0) : tk_N M X := by
  obtain ⟨hL, h⟩ := h
  rcases h with ⟨h, -⟩ | ⟨-, h9⟩
  · omega
  · exact ⟨M1 78, ⟨hL, fun a a0 a1 => (xm_t78 hMk a a0 a1).1⟩, h9⟩
-- what the class finds
/-- the class's numbers are the reference's -/
def tk_R (C M : xa_M) : Prop := C 1 9 = M 60 0 ∧ C 1 10 = M 60 6 ∧ (∀ i, 0 ≤ i → i < 14 → C 2 i = M 61 i ∧ C 3 i = M 62 i ∧ C 5 i = M 64 i ∧ C 6 i = M 65 i) ∧ ∀ i, 0 ≤ i → i < 16 → C 7 i = M 66 i ∧ C 8 i = M 67 i
theorem tk_R_F {C M : xa_M} {X : Int} {F : Int → Int} (hM : tk_M M) (hR : tk_R C M) (hF : tk_Y M X F) : wy_L (C 1 10) (fun i => C 5 (C 7 i)) (fun i => C 5 (C 8 i)) F X := by
  obtain ⟨r1, r2, r3, r4⟩ := hR
  have b0 := hM.1
  have b6 := hM.2.1
  refine wy_L_k r2 (fun i i0 i1 => ?_) hF.1
  obtain ⟨g7, g8⟩ := r4 i i0 (by omega)
  have t := hM.2.2.1 i i0 i1
  refine ⟨?_, ?_⟩
  · show C 5 (C 7 i) = M 64 (M 66 i)
    rw [g7]
    exact (r3 _ t.1.1 (by omega)).2.2.1
  · show C 5 (C 8 i) = M 64 (M 67 i)
    rw [g8]
    exact (r3 _ t.2.1 (by omega)).2.2.1
theorem tk_R_m {C M : xa_M} (hM : tk_M M) (hR : tk_R C M) : (0 ≤ C 1 10 ∧ C 1 10 ≤ 16) ∧ (∀ k, 0 ≤ k → k < C 1 10 → (0 ≤ C 7 k ∧ C 7 k < 14) ∧ (0 ≤ C 8 k ∧ C 8 k < 14)) ∧ (∀ w, 0 ≤ w → w < 14 → 0 ≤ C 5 w ∧ C 5 w < 10) ∧ (0 ≤ C 1 9 ∧ C 1 9 ≤ 14) := by
  obtain ⟨r1, r2, r3, r4⟩ := hR
  have b0 := hM.1
  have b6 := hM.2.1
  refine ⟨by omega, fun k k0 k1 => ?_, fun w w0 w1 => ?_, by omega⟩
  · obtain ⟨g7, g8⟩ := r4 k k0 (by omega)
    have t := hM.2.2.1 k k0 (by omega)
    omega
  · have t := hM.2.2.2.1 w w0 w1
    have g := (r3 w w0 w1).2.2.1
    omega
theorem tk_L_cls {C M : xa_M} {X s : Int} {F P Dr Dn W R L H : Int → Int} (hM : tk_M M) (hR : tk_R C M) (hF : tk_Y M X F) (h9 : F 0 < 99) (hQ : wp_Q (C 1 10) (C 5) (C 7) (C 8) F (F 0) P Dr Dn (F 0)) (hW : wf_W Dr Dn (C 2) (C 3) (F 0) s W R L H (C 1 9)) : tk_L M X s W R ∧ ∀ i : Int, 0 ≤ i → i < s → L i = M 61 (W i) ∧ H i = M 62 (W i) := by
  obtain ⟨r1, r2, r3, r4⟩ := hR
  have b0 := hM.1
  have b6 := hM.2.1
  have hle : F 0 ≤ 10 := (hF.1.1.2.2 0 (by decide) (by decide) h9).1
  rw [r2] at hQ
  rw [r1] at hW
  have hE : wz_E (M 60 6) (M 64) (M 66) (M 67) F (C 5) (C 7) (C 8) F := by
    refine ⟨fun i i0 i1 => ?_, fun i _ _ l _ => ⟨Iff.rfl, Iff.rfl⟩⟩
    obtain ⟨g7, g8⟩ := r4 i i0 (by omega)
    have t := hM.2.2.1 i i0 i1
    exact ⟨g7, g8, (r3 _ t.1.1 (by omega)).2.2.1, (r3 _ t.2.1 (by omega)).2.2.1⟩
  have hQ2 := wz_Q hE (by omega) hQ
  have hW2 : wf_W Dr Dn (M 61) (M 62) (F 0) s W R (fun i => M 61 (W i)) (fun i => M 62 (W i)) (M 60 0) := by
    refine ⟨hW.1, fun w w0 w1 w2 => ?_⟩
    have g := hW.2 w w0 w1 w2
    refine ⟨g.1, g.2.1, ?_, ?_⟩
    · show M 61 (W (wq_s (wf_g Dr Dn (F 0)) w.toNat)) = M 61 w
      rw [g.1]
    · show M 62 (W (wq_s (wf_g Dr Dn (F 0)) w.toNat)) = M 62 w
      rw [g.1]
  refine ⟨⟨F, P, Dr, Dn, hF, h9, hQ2, hW2⟩, fun i i0 i1 => ?_⟩
  obtain ⟨-, -, e3⟩ := wz_W (f := wf_g Dr Dn (F 0)) (g := fun w => wf_b Dr (F 0) w - wf_b Dn (F 0) w) (T := W) (U := R) hM.1.1 hM.1.2 (fun k _ _ => ⟨rfl, rfl⟩) hW (fun w _ _ => ⟨rfl, rfl⟩) hW.1 (fun w w0 w1 w2 => ⟨(hW.2 w w0 w1 w2).1, (hW.2 w w0 w1 w2).2.1⟩)
  obtain ⟨-, -, a, b, c, d⟩ := e3 i i0 i1
  have g := r3 (W i) c (by omega)
  rw [a, b]
  exact ⟨g.1, g.2.1⟩
-- what hangs on the first numbers alone
theorem fs_pr_e {L H L' H' : Int → Int} (n : Nat) : (∀ i : Int, 0 ≤ i → i < n → L' i = L i ∧ H' i = H i) → fs_pr L' H' n = fs_pr L H n := by
  induction n with
  | zero => intro _; rfl
  | succ n ih =>
    intro h
    show fs_pr L' H' n * (H' n - L' n + 1) = fs_pr L H n * (H n - L n + 1)
    rw [ih (fun i i0 i1 => h i i0 (by omega)), (h n (by omega) (by omega)).1, (h n (by omega) (by omega)).2]
theorem fs_rk_e2 {L H L' H' V : Int → Int} (n : Nat) : (∀ i : Int, 0 ≤ i → i < n → L' i = L i ∧ H' i = H i) → fs_rk L' H' V n = fs_rk L H V n := by
  induction n with
  | zero => intro _; rfl
  | succ n ih =>
    intro h
    show fs_rk L' H' V n * (H' n - L' n + 1) + (V n - L' n) = fs_rk L H V n * (H n - L n + 1) + (V n - L n)
    rw [ih (fun i i0 i1 => h i i0 (by omega)), (h n (by omega) (by omega)).1, (h n (by omega) (by omega)).2]
theorem fs_ud_e2 {R R' V : Int → Int} (n : Nat) : (∀ i : Int, 0 ≤ i → i < n → R' i = R i) → fs_u R' V n = fs_u R V n ∧ fs_d R' V n = fs_d R V n := by
  induction n with
  | zero => intro _; exact ⟨rfl, rfl⟩
  | succ n ih =>
    intro h
    have g := ih (fun i i0 i1 => h i i0 (by omega))
    rw [fs_u1, fs_u1, fs_d1, fs_d1, g.1, g.2, h n (by omega) (by omega)]
    exact ⟨rfl, rfl⟩
theorem fs_in_e {L H L' H' V : Int → Int} {n : Nat} (h : ∀ i : Int, 0 ≤ i → i < n → L' i = L i ∧ H' i = H i) (g : fs_in L H V n) : fs_in L' H' V n := fun i i0 i1 => by
  have a := h i i0 i1
  have b := g i i0 i1
  omega
theorem fs_F_i {L H R L' H' R' : Int → Int} {s : Nat} {a b k : Int} (h : ∀ i : Int, 0 ≤ i → i < s → L' i = L i ∧ H' i = H i ∧ R' i = R i) (g : fs_F L H R s a b k) : fs_F L' H' R' s a b k := by
  obtain ⟨V, g1, g2, g3⟩ := g
  obtain ⟨e1, e2⟩ := fs_ud_e2 (R := R) (R' := R') (V := V) s (fun i i0 i1 => (h i i0 i1).2.2)
  exact ⟨V, fs_in_e (fun i i0 i1 => ⟨(h i i0 i1).1, (h i i0 i1).2.1⟩) g1, by rw [fs_rk_e2 s (fun i i0 i1 => ⟨(h i i0 i1).1, (h i i0 i1).2.1⟩)]; exact g2, by rw [e1, e2]; exact g3⟩
theorem fs_F_e {L H R L' H' R' : Int → Int} {s : Nat} {a b : Int} (h : ∀ i : Int, 0 ≤ i → i < s → L' i = L i ∧ H' i = H i ∧ R' i = R i) : fs_F L' H' R' s a b = fs_F L H R s a b := by
  funext k
  refine propext ⟨fs_F_i (fun i i0 i1 => ?_), fs_F_i h⟩
  have g := h i i0 i1
  exact ⟨g.1.symm, g.2.1.symm, g.2.2.symm⟩
theorem fs_F_g {L H R : Int → Int} {s : Nat} {g a b : Int} (hg : g ≠ 0) : fs_F L H R s (g * a) (g * b) = fs_F L H R s a b := by
  funext k
  refine propext ⟨?_, ?_⟩
  · rintro ⟨V, g1, g2, g3⟩
    exact ⟨V, g1, g2, (fs_g hg).mp g3⟩
  · rintro ⟨V, g1, g2, g3⟩
    exact ⟨V, g1, g2, (fs_g hg).mpr g3⟩
-- what fits to a period
def tk_F (M : xa_M) (s : Int) (W R : Int → Int) (p : Int) : Int → Prop := fs_F (fun i => M 61 (W i)) (fun i => M 62 (W i)) R s.toNat (M 71 p) (M 70 p)
def tk_pr (M : xa_M) (s : Int) (W : Int → Int) : Int := fs_pr (fun i => M 61 (W i)) (fun i => M 62 (W i)) s.toNat
def tk_rk (M : xa_M) (s : Int) (W V : Int → Int) : Int := fs_rk (fun i => M 61 (W i)) (fun i => M 62 (W i)) V s.toNat
def tk_in (M : xa_M) (s : Int) (W V : Int → Int) : Prop := fs_in (fun i => M 61 (W i)) (fun i => M 62 (W i)) V s.toNat
theorem tk_e {M : xa_M} {s : Int} {W R W' R' : Int → Int} (h : ∀ i : Int, 0 ≤ i → i < s → W' i = W i ∧ R' i = R i) : (∀ p, tk_F M s W' R' p = tk_F M s W R p) ∧ tk_pr M s W' = tk_pr M s W ∧ (∀ V, tk_rk M s W' V = tk_rk M s W V) ∧ ∀ V, tk_in M s W' V → tk_in M s W V := by
  have e : ∀ i : Int, 0 ≤ i → i < (s.toNat : Int) → M 61 (W' i) = M 61 (W i) ∧ M 62 (W' i) = M 62 (W i) := fun i i0 i1 => by
    rw [(h i i0 (by omega)).1]
    exact ⟨rfl, rfl⟩
  refine ⟨fun p => fs_F_e (fun i i0 i1 => ⟨(e i i0 i1).1, (e i i0 i1).2, (h i i0 (by omega)).2⟩), fs_pr_e _ e, fun V => fs_rk_e2 _ e, fun V g => fs_in_e (fun i i0 i1 => ⟨(e i i0 i1).1.symm, (e i i0 i1).2.symm⟩) g⟩
/-- what stands ahead of a search -/
def tk_S (M : xa_M) (X p r s : Int) (W R : Int → Int) : Prop := (¬ ((1 ≤ X ∧ X ≤ 9) ∧ 0 ≤ p ∧ p < M 60 11) ∧ r = -1) ∨ (((1 ≤ X ∧ X ≤ 9) ∧ 0 ≤ p ∧ p < M 60 11) ∧ ((tk_N M X ∧ r = -2) ∨ (tk_L M X s W R ∧ ((200000 < tk_pr M s W ∧ r = -4) ∨ (tk_pr M s W ≤ 200000 ∧ r = 0)))))
theorem tk_S_one {M : xa_M} {X p r s r' s' : Int} {W R W' R' : Int → Int} (hM : tk_M M) (h : tk_S M X p r s W R) (h' : tk_S M X p r' s' W' R') : r' = r ∧ (r = 0 ∨ r = -4 → s' = s ∧ ∀ i : Int, 0 ≤ i → i < s → W' i = W i ∧ R' i = R i) := by
  rcases h with ⟨n1, e1⟩ | ⟨c1, h⟩
  · rcases h' with ⟨-, e2⟩ | ⟨c2, -⟩
    · exact ⟨by omega, fun h => by omega⟩
    · exact absurd c2 n1
  · rcases h' with ⟨n2, -⟩ | ⟨-, h'⟩
    · exact absurd c1 n2
    · have hX : 0 ≤ X ∧ X < 10 := by omega
      rcases h with ⟨hN, e1⟩ | ⟨hL, h⟩
      · rcases h' with ⟨-, e2⟩ | ⟨hL', -⟩
        · exact ⟨by omega, fun h => by omega⟩
        · exact (tk_NL hM hX hN hL').elim
      · rcases h' with ⟨hN', -⟩ | ⟨hL', h'⟩
        · exact (tk_NL hM hX hN' hL).elim
        · obtain ⟨es, eW⟩ := tk_one hM hX hL hL'
          have es := es.symm
          subst es
          have ep := (tk_e (M := M) eW).2.1
          refine ⟨?_, fun _ => ⟨rfl, eW⟩⟩
          rw [ep] at h'
          omega
/-- what fit leaves of the teeth taken -/
def tk_T (M : xa_M) (X p n r : Int) (T : Int → Int) : Prop := (n < 0 ∧ r = 0 ∧ ∀ w : Int, 0 ≤ w → w < 14 → T w = M 63 w) ∨ (0 ≤ n ∧ ∃ (e s : Int) (W R : Int → Int), tk_S M X p e s W R ∧ ((¬ e = 0 ∧ r = 0 ∧ ∀ w : Int, 0 ≤ w → w < 14 → T w = M 63 w) ∨ (e = 0 ∧ ((r = 0 ∧ fs_c (tk_F M s W R p) (tk_pr M s W).toNat ≤ n ∧ ∀ w : Int, 0 ≤ w → w < 14 → T w = M 63 w) ∨ (r = 1 ∧ ∃ V : Int → Int, tk_in M s W V ∧ tk_F M s W R p (tk_rk M s W V) ∧ fs_c (tk_F M s W R p) (tk_rk M s W V).toNat = n ∧ (∀ j : Int, 0 ≤ j → j < s → T (W j) = V j) ∧ ∀ w : Int, 0 ≤ w → w < 14 → (∀ j : Int, 0 ≤ j → j < s → ¬ W j = w) → T w = M 63 w)))))
theorem tk_end {M : xa_M} {s p n : Int} {W R V : Int → Int} (hin : tk_in M s W V) (hF : tk_F M s W R p (tk_rk M s W V)) (hc : fs_c (tk_F M s W R p) (tk_rk M s W V).toNat = n) (h : fs_c (tk_F M s W R p) (tk_pr M s W).toNat ≤ n) : False := by
  obtain ⟨b0, b1⟩ := fs_rk_b s.toNat hin
  have b0 : 0 ≤ tk_rk M s W V := b0
  have b1 : tk_rk M s W V < tk_pr M s W := b1
  have e : (((tk_rk M s W V).toNat : Nat) : Int) = tk_rk M s W V := Int.toNat_of_nonneg b0
  have g := fs_end (F := tk_F M s W R p) (k := (tk_rk M s W V).toNat) (p := (tk_pr M s W).toNat) (by rw [e]; exact hF) (by omega)
  omega
theorem tk_T_one {M : xa_M} {X p n r r' : Int} {T T' : Int → Int} (hM : tk_M M) (h : tk_T M X p n r T) (h' : tk_T M X p n r' T') : r' = r ∧ ∀ w : Int, 0 ≤ w → w < 14 → T' w = T w := by
  rcases h with ⟨n1, e1, t1⟩ | ⟨n1, h⟩
  · rcases h' with ⟨-, e2, t2⟩ | ⟨n2, -⟩
    · exact ⟨by omega, fun w w0 w1 => by rw [t1 w w0 w1, t2 w w0 w1]⟩
    · omega
  rcases h' with ⟨n2, -⟩ | ⟨-, h'⟩
  · omega
  obtain ⟨e, s, W, R, hS, h⟩ := h
  obtain ⟨e', s', W', R', hS', h'⟩ := h'
  obtain ⟨ee, eL⟩ := tk_S_one hM hS hS'
  subst ee
  rcases h with ⟨n1, e1, t1⟩ | ⟨c1, h⟩
  · rcases h' with ⟨-, e2, t2⟩ | ⟨c2, -⟩
    · exact ⟨by omega, fun w w0 w1 => by rw [t1 w w0 w1, t2 w w0 w1]⟩
    · exact absurd c2 n1
  · rcases h' with ⟨n2, -⟩ | ⟨-, h'⟩
    · exact absurd c1 n2
    · obtain ⟨es, eW⟩ := eL (Or.inl c1)
      have es := es.symm
      subst es
      obtain ⟨eF, ep, er, ei⟩ := tk_e (M := M) eW
      rw [eF, ep] at h'
      rcases h with ⟨e1, f1, t1⟩ | ⟨e1, V, v1, v2, v3, v4, v5⟩
      · rcases h' with ⟨e2, -, t2⟩ | ⟨-, V', u1, u2, u3, -⟩
        · exact ⟨by omega, fun w w0 w1 => by rw [t1 w w0 w1, t2 w w0 w1]⟩
        · rw [er] at u2 u3
          exact (tk_end (ei _ u1) u2 u3 f1).elim
      · rcases h' with ⟨-, f2, -⟩ | ⟨e2, V', u1, u2, u3, u4, u5⟩
        · exact (tk_end v1 v2 v3 f2).elim
        · rw [er] at u2 u3
          have u1 := ei _ u1
          obtain ⟨b0, b1⟩ := fs_rk_b _ v1
          obtain ⟨d0, d1⟩ := fs_rk_b _ u1
          have b0 : 0 ≤ tk_rk M s W V := b0
          have d0 : 0 ≤ tk_rk M s W V' := d0
          have z1 : (((tk_rk M s W V).toNat : Nat) : Int) = tk_rk M s W V := Int.toNat_of_nonneg b0
          have z2 : (((tk_rk M s W V').toNat : Nat) : Int) = tk_rk M s W V' := Int.toNat_of_nonneg d0
          have ek := fs_one (F := tk_F M s W R p) (k := (tk_rk M s W V).toNat) (k' := (tk_rk M s W V').toNat) (by rw [z1]; exact v2) (by rw [z2]; exact u2) (by rw [v3, u3])
          have eV := fs_inj s.toNat v1 u1 (show tk_rk M s W V = tk_rk M s W V' by omega)
          refine ⟨by omega, fun w w0 w1 => ?_⟩
          by_cases c : ∃ j : Int, 0 ≤ j ∧ j < s ∧ W j = w
          · obtain ⟨j, j0, j1, jw⟩ := c
            have a := v4 j j0 j1
            have b := u4 j j0 j1
            rw [(eW j j0 j1).1] at b
            rw [← jw, a, b]
            exact (eV j j0 (by omega)).symm
          · rw [v5 w w0 w1 (fun j j0 j1 jw => c ⟨j, j0, j1, jw⟩), u5 w w0 w1 (fun j j0 j1 jw => c ⟨j, j0, j1, by rw [← (eW j j0 j1).1]; exact jw⟩)]
-- ready and fit of the reference, told
set_option maxRecDepth 20000
theorem fr_pr {M : xa_M} (n : Nat) : xm_pr M n = fs_pr (fr_L M) (fr_H M) n := by
  induction n with
  | zero => rfl
  | succ n ih =>
    show xm_pr M n * xm_sp M n = fs_pr (fr_L M) (fr_H M) n * (fr_H M n - fr_L M n + 1)
    rw [ih]
    rfl
theorem fr_prm {M : xa_M} {a b : Nat} (hab : a ≤ b) (h : ∀ j : Int, 0 ≤ j → j < b → M 61 (M 80 j) ≤ M 62 (M 80 j)) : xm_pr M a ≤ xm_pr M b := by
  rw [fr_pr, fr_pr]
  exact fs_prm hab h
theorem fa_c0 {F : Int → Prop} {a : Int} (h0 : 0 ≤ a) (h : ¬ F a) : fs_c F (a + 1).toNat = fs_c F a.toNat := by
  rw [show (a + 1).toNat = a.toNat + 1 by omega]
  exact fs_c0 (by rw [Int.toNat_of_nonneg h0]; exact h)
theorem wv_Q1 {M M1 : xa_M} {X r x : Int} (h : wv_Q M X M1 r) (e : r = x) : wv_Q M X M1 x := e ▸ h
theorem ct_areTooManyF {A : Nat → Nat} {h0 : g_H} {d : Nat} {M : xa_M} {post : Option xa_V → xa_M → Prop} (hI : xm_Inv M) (hw : xm_way M) (k : ∀ r : Int, (r = 0 ∨ r = 1) → (r = 0 → xm_pr M (M 60 32).toNat ≤ 200000) → (r = 1 → 200000 < xm_pr M (M 60 32).toNat) → post (some (0, 0, 0, 1, r)) M) : xa_C xm_I A h0 (d + 1) 240 [(2, 60, 0, 0, 0)] M post := by
  refine xa_C_wk ?_
  refine xa_meth (Q0 := (5, 2, false, 0, 0, 12)) (by decide +kernel) ⟨rfl, rfl⟩ (full := s_c_240) rfl rfl ?_
  intro hM hv Q hgo
  have loop0 : ∀ (n : Nat) (x3 x1 : Int), 0 ≤ x3 ∧ x3 ≤ 14 → 1 ≤ x1 ∧ x1 ≤ 200000 → x3 ≤ M 60 32 → x1 = xm_pr M x3.toNat → 14 - x3 < (n : Int) → Q 4 [(3, (0, 0, 0, 14, x3)), (1, (1, 0, 1, 200000, x1)), (0, (2, 60, 0, 0, 0))] [] M := by
    intro n
    induction n with
    | zero => intro x3 x1 b3 b1 h32 hpr hms; omega
    | succ n ih0 =>
      intro x3 x1 b3 b1 h32 hpr hms0
      have b32 := xm_f32 hM
      have t80 : x3 < M 60 32 → 0 ≤ M 80 x3 ∧ M 80 x3 ≤ 13 := fun h => xm_t80 hM x3 (by omega) (by omega)
      have hs := fun h : x3 < M 60 32 => xm_way_sp hM hI hw x3 (by omega) h
      have hp : x3 < M 60 32 → 1 ≤ x1 * (M 62 (M 80 x3) - M 61 (M 80 x3) + 1) := fun h => by
        have := Int.mul_pos (show 0 < x1 by omega) (show 0 < M 62 (M 80 x3) - M 61 (M 80 x3) + 1 by have := hs h; omega)
        omega
      refine hgo.1 34 [4] 4 _ _ _ ?_
      refine And.intro ?_ ?_
      · intro (c1 : (M 60 32) ≤ x3)
        show xa_wk post (some (0, 0, 0, 0, 0)) M
        exact xa_wkI 0 rfl (fun _ _ => by omega) (k 0 (by omega) (fun e => by first | (exfalso; omega) | (rw [show M 60 32 = x3 by omega, ← hpr]; omega)) (fun e => absurd e (by decide)))
      · intro (c1 : x3 < (M 60 32))
        refine And.intro (show 0 ≤ x3 ∧ x3 < 14 by omega) ?_
        refine And.intro ?_ ?_
        · intro (c2 : (x1 * (((M 62 (M 80 x3)) - (M 61 (M 80 x3))) + 1)) ≤ 200000)
          show Q 4 [(3, (0, 0, 1, 15, x3 + 1)), (1, (1, 0, (-79800000), 80200000, x1 * (((M 62 (M 80 x3)) - (M 61 (M 80 x3))) + 1))), (4, (0, 0, 0, 13, M 80 x3)), (0, (2, 60, 0, 0, 0))] [] M
          refine hgo.2.1 4 _ [(3, (0, 0, 0, 14, x3 + 1)), (1, (1, 0, 1, 200000, x1 * (((M 62 (M 80 x3)) - (M 61 (M 80 x3))) + 1))), (0, (2, 60, 0, 0, 0))] _ _ (xa_subI rfl rfl (fun _ _ _ _ => by omega) (xa_subL rfl rfl (fun _ _ _ _ => by omega) (xa_subR rfl xa_sub0))) ?_
          exact ih0 (x3 + 1) (x1 * (((M 62 (M 80 x3)) - (M 61 (M 80 x3))) + 1)) (by omega) (by omega) (by have := xm_f32 hM; omega) (xm_prs (by omega) hpr) (by omega)
        · intro (c2 : 200000 < (x1 * (((M 62 (M 80 x3)) - (M 61 (M 80 x3))) + 1)))
          show xa_wk post (some (0, 0, 1, 1, 1)) M
          have hpn := xm_prs (M := M) (x := x3) (y := x1) (by omega) hpr
          have hmn := fr_prm (M := M) (a := (x3 + 1).toNat) (b := (M 60 32).toNat) (by omega) (fun j j0 j1 => (xm_way_sp hM hI hw j j0 (by omega)).2)
          exact xa_wkI 1 rfl (fun _ _ => by omega) (k 1 (by omega) (fun e => absurd e (by decide)) (fun _ => by omega))
  refine hgo.1 9 [4] 0 _ _ _ ?_
  show Q 4 [(3, (0, 0, 0, 0, 0)), (1, (1, 0, 1, 1, 1)), (0, (2, 60, 0, 0, 0))] [] M
  refine hgo.2.1 4 _ [(3, (0, 0, 0, 14, 0)), (1, (1, 0, 1, 200000, 1)), (0, (2, 60, 0, 0, 0))] _ _ (xa_subI rfl rfl (fun _ _ _ _ => by omega) (xa_subL rfl rfl (fun _ _ _ _ => by omega) (xa_subR rfl xa_sub0))) ?_
  exact loop0 15 0 1 (by omega) (by omega) (by have := xm_f32 hM; omega) rfl (by omega)
/-- what ready leaves -/
def rd_Q (M : xa_M) (a b : Int) (M1 : xa_M) (r : Int) : Prop := (¬ ((1 ≤ a ∧ a ≤ 9) ∧ 0 ≤ b ∧ b < M 60 11) ∧ r = -1) ∨ (((1 ≤ a ∧ a ≤ 9) ∧ 0 ≤ b ∧ b < M 60 11) ∧ ((wv_Q M a M1 0 ∧ r = -2) ∨ (wv_Q M a M1 1 ∧ ((200000 < xm_pr M1 (M1 60 32).toNat ∧ r = -4) ∨ (xm_pr M1 (M1 60 32).toNat ≤ 200000 ∧ r = 0)))))
theorem ct_readyF {A : Nat → Nat} {h0 : g_H} {d : Nat} {M : xa_M} {post : Option xa_V → xa_M → Prop} {l1 u1 l2 u2 : Int} {a b : Int} (hI : xm_Inv M) (k : ∀ (r : Int) (M1 : xa_M), (r = 0 ∨ r = -1 ∨ r = -2 ∨ r = -4) → xm_cor M M1 → (r = 0 → xm_way M1 ∧ xm_pr M1 (M1 60 32).toNat ≤ 200000 ∧ 0 ≤ b ∧ b < M 60 11) → rd_Q M a b M1 r → post (some (0, 0, -4, 0, r)) M1) : xa_C xm_I A h0 (d + 3) 238 [(2, 60, 0, 0, 0), (0, 0, l1, u1, a), (0, 0, l2, u2, b)] M post := by
  refine xa_C_arg [(2, 60, 0, 0, 0), (0, 0, (-2147483648), 2147483647, a), (0, 0, (-2147483648), 2147483647, b)] (xa_svR (xa_svI (fun _ _ _ _ => by omega) (xa_svI (fun _ _ _ _ => by omega) xa_sv0))) (xa_C_wk ?_)
  refine xa_meth (Q0 := (3, 1, false, 0, 0, 12)) (by decide +kernel) ⟨rfl, rfl⟩ (full := s_c_238) rfl rfl ?_
  intro hM hv Q hgo
  refine hgo.1 23 [] 0 _ _ _ ?_
  show xa_C xm_I A h0 _ 214 [(0, 0, (-2147483648), 2147483647, a), (0, 0, 1, 1, 1), (0, 0, 9, 9, 9)] M _
  refine ct_in ?_ ?_
  · intro (i1 : 1 ≤ a ∧ a ≤ 9)
    show xa_C xm_I A h0 _ 239 [(2, 60, 0, 0, 0), (0, 0, (-2147483648), 2147483647, b)] M _
    refine ct_isPeriod ?_ ?_
    · intro (i2 : 0 ≤ b ∧ b < (M 60 11))
      show xa_C xm_I A h0 _ 236 [(2, 60, 0, 0, 0), (0, 0, (-2147483648), 2147483647, a)] M _
      refine xa_C_mok (ct_findWayG (xm_Inv_cor xm_cor_r hI) (by omega) (by omega) (fun v3 M3 hv3 hc3 hw3 hq3 hM3 => ?_))
      refine And.intro ?_ ?_
      · intro (c4 : ¬ v3 = 0)
        show xa_C xm_I A h0 _ 240 [(2, 60, 0, 0, 0)] M3 _
        refine ct_areTooManyF (xm_Inv_cor (xm_cor_t xm_cor_r hc3) hI) (hw3 (by omega)) (fun r5 zr5 yr5 yw5 => ?_)
        refine And.intro ?_ ?_
        · intro (c6 : r5 = 0)
          show xa_wk post (some (0, 0, 0, 0, 0)) M3
          exact xa_wkI 0 rfl (fun _ _ => by omega) (k 0 _ (by omega) (xm_cor_t xm_cor_r hc3) (fun e => by first | (exfalso; omega) | exact ⟨hw3 (by omega), yr5 (by omega), by omega, by omega⟩) (Or.inr ⟨⟨by omega, by omega⟩, Or.inr ⟨wv_Q1 hq3 (by omega), Or.inr ⟨yr5 (by omega), rfl⟩⟩⟩))
        · intro (c6 : ¬ r5 = 0)
          show xa_wk post (some (0, 0, (-4), (-4), (-4))) M3
          exact xa_wkI (-4) rfl (fun _ _ => by omega) (k (-4) _ (by omega) (xm_cor_t xm_cor_r hc3) (fun e => by first | (exfalso; omega) | exact ⟨hw3 (by omega), yr5 (by omega), by omega, by omega⟩) (Or.inr ⟨⟨by omega, by omega⟩, Or.inr ⟨wv_Q1 hq3 (by omega), Or.inl ⟨yw5 (by omega), rfl⟩⟩⟩))
      · intro (c4 : v3 = 0)
        show xa_wk post (some (0, 0, (-2), (-2), (-2))) M3
        exact xa_wkI (-2) rfl (fun _ _ => by omega) (k (-2) _ (by omega) (xm_cor_t xm_cor_r hc3) (fun e => absurd e (by decide)) (Or.inr ⟨⟨by omega, by omega⟩, Or.inl ⟨wv_Q1 hq3 (by omega), rfl⟩⟩))
    · intro (i2 : ¬ (0 ≤ b ∧ b < (M 60 11)))
      show xa_wk post (some (0, 0, (-1), (-1), (-1))) M
      exact xa_wkI (-1) rfl (fun _ _ => by omega) (k (-1) _ (by omega) xm_cor_r (fun e => by first | (exfalso; omega) | exact ⟨hw0 (by omega), yr5 (by omega), by omega, by omega⟩) (Or.inl ⟨fun h => by omega, rfl⟩))
  · intro (i1 : ¬ (1 ≤ a ∧ a ≤ 9))
    show xa_wk post (some (0, 0, (-1), (-1), (-1))) M
    exact xa_wkI (-1) rfl (fun _ _ => by omega) (k (-1) _ (by omega) xm_cor_r (fun e => by first | (exfalso; omega) | exact ⟨hw0 (by omega), yr5 (by omega), by omega, by omega⟩) (Or.inl ⟨fun h => by omega, rfl⟩))
theorem tk_ce {M M1 : xa_M} (h : xm_cor M M1) : (M1 60 0 = M 60 0 ∧ M1 60 6 = M 60 6 ∧ M1 60 11 = M 60 11) ∧ M1 61 = M 61 ∧ M1 62 = M 62 ∧ M1 63 = M 63 ∧ M1 64 = M 64 ∧ M1 66 = M 66 ∧ M1 67 = M 67 ∧ M1 70 = M 70 ∧ M1 71 = M 71 :=
  ⟨⟨xm_corf h 0 (by omega), xm_corf h 6 (by omega), xm_corf h 11 (by omega)⟩, funext (xm_corq h 61 rfl), funext (xm_corq h 62 rfl), funext (xm_corq h 63 rfl), funext (xm_corq h 64 rfl), funext (xm_corq h 66 rfl), funext (xm_corq h 67 rfl), funext (xm_corq h 70 rfl), funext (xm_corq h 71 rfl)⟩
theorem tk_M_c {M M1 : xa_M} (h : xm_cor M M1) (hM : tk_M M) : tk_M M1 := by
  obtain ⟨⟨e0, e6, e11⟩, e61, e62, e63, e64, e66, e67, e70, e71⟩ := tk_ce h
  unfold tk_M at hM ⊢
  rw [e0, e6, e61, e62, e64, e66, e67]
  exact hM
theorem tk_S_c {M M1 : xa_M} {X p r s : Int} {W R : Int → Int} (h : xm_cor M M1) (hS : tk_S M1 X p r s W R) : tk_S M X p r s W R := by
  obtain ⟨⟨e0, e6, e11⟩, e61, e62, e63, e64, e66, e67, e70, e71⟩ := tk_ce h
  unfold tk_S tk_N tk_L tk_D tk_Y tk_pr at hS ⊢
  rw [e0, e6, e11, e61, e62, e64, e66, e67] at hS
  exact hS
theorem tk_S_L {M : xa_M} {X p s : Int} {W R : Int → Int} (h : tk_S M X p 0 s W R) : (1 ≤ X ∧ X ≤ 9) ∧ (0 ≤ p ∧ p < M 60 11) ∧ tk_L M X s W R ∧ tk_pr M s W ≤ 200000 := by
  rcases h with ⟨-, h⟩ | ⟨⟨c1, c2⟩, ⟨-, h⟩ | ⟨hL, ⟨-, h⟩ | ⟨hp, -⟩⟩⟩
  · omega
  · omega
  · omega
  · exact ⟨c1, c2, hL, hp⟩
theorem rd_S {M M0 M1 : xa_M} {a b r : Int} (hT : tk_M M) (h0 : xm_cor M M0) (h1 : xm_cor M0 M1) (hMk : xa_Mok xm_I M1) (h : rd_Q M0 a b M1 r) : tk_S M a b r (M1 60 32) (M1 80) (M1 81) := by
  refine tk_S_c h0 ?_
  have hT0 := tk_M_c h0 hT
  obtain ⟨-, e61, e62, -⟩ := tk_ce h1
  have ep : xm_pr M1 (M1 60 32).toNat = tk_pr M0 (M1 60 32) (M1 80) := by
    rw [fr_pr]
    unfold fr_L fr_H tk_pr
    rw [e61, e62]
  rw [rd_Q, ep] at h
  rcases h with h | ⟨c, ⟨hq, e⟩ | ⟨hq, h⟩⟩
  · exact Or.inl h
  · exact Or.inr ⟨c, Or.inl ⟨tk_N_ref hMk hq, e⟩⟩
  · exact Or.inr ⟨c, Or.inr ⟨tk_L_ref hT0 hMk hq, h⟩⟩
theorem fm_e {M Mr : xa_M} {p : Int} (h : xm_cor M Mr) : fr_F Mr p = tk_F M (Mr 60 32) (Mr 80) (Mr 81) p ∧ fs_pr (fr_L Mr) (fr_H Mr) (Mr 60 32).toNat = tk_pr M (Mr 60 32) (Mr 80) ∧ (∀ V, fs_rk (fr_L Mr) (fr_H Mr) V (Mr 60 32).toNat = tk_rk M (Mr 60 32) (Mr 80) V) ∧ ∀ V, fs_in (fr_L Mr) (fr_H Mr) V (Mr 60 32).toNat → tk_in M (Mr 60 32) (Mr 80) V := by
  obtain ⟨-, e61, e62, -, -, -, -, e70, e71⟩ := tk_ce h
  unfold fr_F tk_F tk_pr tk_rk tk_in fr_L fr_H
  rw [e61, e62, e70, e71]
  exact ⟨rfl, rfl, fun _ => rfl, fun _ h => h⟩
theorem fm_pr {Mr M1 : xa_M} (hK : fr_K Mr M1) : xm_pr M1 (M1 60 32).toNat = fs_pr (fr_L Mr) (fr_H Mr) (Mr 60 32).toNat := by
  obtain ⟨eL, eH, -, e32, -, -⟩ := fr_L_k hK
  rw [fr_pr, eL, eH, e32]
theorem fm_firstW {A : Nat → Nat} {h0 : g_H} {d : Nat} {M : xa_M} {post : Option xa_V → xa_M → Prop} (hI : xm_Inv M) (hY : xm_Y M) (k : ∀ (M1 : xa_M), xm_cor M M1 → M1 60 20 = M 60 20 → xm_W M1 0 → fr_K M M1 → fr_r M M1 = 0 → post none M1) : xa_C xm_I A h0 (d + 1) 241 [(2, 60, 0, 0, 0)] M post :=
  xa_C_asm (fun hM _ => ct_firstWay (fun M1 h84 ht => by
    have hw := hY.1
    have hp := hY.2
    have e32 := h84 60 32 (by decide)
    have e0 := h84 60 0 (by decide)
    have b32 := xm_f32 hM
    have hF : xm_fit M1 := fun i i0 i1 => by
      rw [e32] at i1
      rw [h84 80 i (by decide), h84 61 _ (by decide), h84 62 _ (by decide), ht i i0 i1]
      have := xm_way_sp hM hI hw i i0 i1
      omega
    have hb := xm_rkb hF (M1 60 32).toNat (by omega)
    have hp1 : xm_pr M1 (M1 60 32).toNat ≤ 200000 := by
      rw [e32, xm_pr_84 h84]
      exact hp
    refine k M1 (xm_84_c h84) (h84 60 20 (by decide)) ⟨fun i i0 i1 => ?_, hF, hp1, by omega⟩ (fun q j h1 h2 => h84 q j (by omega)) (fs_first _ (fun i i0 i1 => ht i i0 (by omega)))
    rw [e32] at i1
    rw [e0, h84 80 i (by decide)]
    exact hw i i0 i1))
theorem ms_fitF {A : Nat → Nat} {h0 : g_H} {d : Nat} {M : xa_M} {post : Option xa_V → xa_M → Prop} {l1 u1 l2 u2 l3 u3 : Int} {a x2 x3 : Int} (hI : xm_Inv M) (k : ∀ (lo hi r : Int) (M1 : xa_M), tk_T M a x2 x3 r (M1 63) → (∀ (q : Nat) (j : Int), ¬ xm_scr q j → ¬ q = 63 → M1 q j = M q j) → xm_Inv M1 → post (some (0, 0, lo, hi, r)) M1) : xa_C xm_I A h0 (d + 4) 244 [(2, 60, 0, 0, 0), (0, 0, l1, u1, a), (0, 0, l2, u2, x2), (0, 0, l3, u3, x3)] M post := by
  refine xa_C_arg [(2, 60, 0, 0, 0), (0, 0, (-2147483648), 2147483647, a), (0, 0, (-2147483648), 2147483647, x2), (0, 0, (-2147483648), 2147483647, x3)] (xa_svR (xa_svI (fun _ _ _ _ => by omega) (xa_svI (fun _ _ _ _ => by omega) (xa_svI (fun _ _ _ _ => by omega) xa_sv0)))) ?_
  refine xa_meth (Q0 := (6, 2, false, 0, 0, 12)) (by decide +kernel) ⟨rfl, rfl⟩ (full := s_c_244) rfl rfl ?_
  intro hM hv Q hgo
  have hTM := tk_M_of hM hI
  have loopT : ∀ (Mb : xa_M), (∀ i j : Int, 0 ≤ i → i < Mb 60 32 → 0 ≤ j → j < Mb 60 32 → Mb 80 i = Mb 80 j → i = j) → (∀ i, 0 ≤ i → i < Mb 60 32 → 10 ≤ Mb 84 i) → (∀ M1 : xa_M, (∀ (q : Nat) (j : Int), ¬ q = 63 → M1 q j = Mb q j) → (∀ j : Int, 0 ≤ j → j < Mb 60 32 → M1 63 (Mb 80 j) = Mb 84 j) → (∀ w : Int, (∀ j : Int, 0 ≤ j → j < Mb 60 32 → ¬ Mb 80 j = w) → M1 63 w = Mb 63 w) → xm_Inv M1 → post (some (0, 0, 1, 1, 1)) M1) → ∀ (n : Nat) (x5 : Int) (M1 : xa_M), 0 ≤ x5 ∧ x5 ≤ 14 → x5 ≤ Mb 60 32 → xm_Inv M1 → (∀ (q : Nat) (j : Int), ¬ q = 63 → M1 q j = Mb q j) → (∀ j : Int, 0 ≤ j → j < x5 → M1 63 (Mb 80 j) = Mb 84 j) → (∀ w : Int, (∀ j : Int, 0 ≤ j → j < x5 → ¬ Mb 80 j = w) → M1 63 w = Mb 63 w) → 14 - x5 < (n : Int) → Q 47 [(5, (0, 0, 0, 14, x5)), (0, (2, 60, 0, 0, 0))] [] M1 := by
    intro Mb hinj h10 kk n
    induction n with
    | zero => intro x5 M1 h1 h2 hJ hb ht hn hms; omega
    | succ n ih =>
      intro x5 M1 h1 h2 hJ hb ht hn hms
      refine hgo.2.2 _ _ _ _ (fun hM1 _ => ?_)
      have b32 := xm_f32 hM1
      have e32 := hb 60 32 (by decide)
      have e80 := hb 80 x5 (by decide)
      have e84 := hb 84 x5 (by decide)
      have t80 : x5 < 14 → 0 ≤ M1 80 x5 ∧ M1 80 x5 ≤ 13 := fun h => xm_t80 hM1 x5 h1.1 h
      have t84 : x5 < 14 → 0 ≤ M1 84 x5 ∧ M1 84 x5 ≤ 400 := fun h => xm_t84 hM1 x5 h1.1 h
      have t10 : x5 < Mb 60 32 → 10 ≤ M1 84 x5 := fun h => by
        rw [e84]
        exact h10 x5 h1.1 h
      refine hgo.1 22 [27, 47] 47 _ _ _ ?_
      refine And.intro ?_ ?_
      · intro (c1 : (M1 60 32) ≤ x5)
        have ex : x5 = Mb 60 32 := by omega
        show post (some (0, 0, 1, 1, 1)) M1
        exact kk M1 hb (by rw [← ex]; exact ht) (by rw [← ex]; exact hn) hJ
      · intro (c1 : x5 < (M1 60 32))
        refine And.intro (show 0 ≤ x5 ∧ x5 < 14 by omega) ?_
        refine And.intro (show 0 ≤ x5 ∧ x5 < 14 by omega) ?_
        show Q 47 [(5, (0, 0, 1, 15, x5 + 1)), (0, (2, 60, 0, 0, 0))] [] (xa_up M1 63 (M1 80 x5) (M1 84 x5))
        refine hgo.2.1 47 _ [(5, (0, 0, 0, 14, x5 + 1)), (0, (2, 60, 0, 0, 0))] _ _ (xa_subI rfl rfl (fun _ _ _ _ => by omega) (xa_subR rfl xa_sub0)) ?_
        refine ih (x5 + 1) (xa_up M1 63 (M1 80 x5) (M1 84 x5)) (by omega) (by omega) (xm_Inv_63 hJ (t10 (by omega))) (fun q j hq => (xa_up_ne (fun h => hq h.1)).trans (hb q j hq)) (fun j j0 j1 => ?_) (fun w hw => ?_) (by omega)
        · by_cases e : j = x5
          · rw [e, e80, e84]
            exact xa_up_eq
          · rw [e80]
            exact (xa_up_ne (fun h => e (hinj j x5 j0 (by omega) h1.1 (by omega) h.2))).trans (ht j j0 (by omega))
        · rw [e80]
          exact (xa_up_ne (fun h => hw x5 h1.1 (by omega) h.2.symm)).trans (hn w (fun j j0 j1 => hw j j0 (by omega)))
  have loop0 : ∀ (Mr : xa_M), xm_cor M Mr → tk_S M a x2 0 (Mr 60 32) (Mr 80) (Mr 81) → 0 ≤ x3 → 0 ≤ x2 ∧ x2 < M 60 11 → ∀ (n : Nat) (x4 : Int) (M1 : xa_M), xm_cor M M1 → fr_K Mr M1 → xm_W M1 0 → x4 = fs_c (fr_F Mr x2) (fr_r Mr M1).toNat → x4 ≤ x3 → xm_rk M1 (M1 60 32).toNat < (n : Int) → Q 27 [(4, (0, 0, (-2147483648), 2147483647, x4)), (3, (0, 0, (-2147483648), 2147483647, x3)), (2, (0, 0, (-2147483648), 2147483647, x2)), (0, (2, 60, 0, 0, 0))] [] M1 := by
    intro Mr hcr hS hx3 hp n
    obtain ⟨eF, ep, er, ei⟩ := fm_e hcr (p := x2)
    obtain ⟨hX, -, hL, -⟩ := tk_S_L hS
    induction n with
    | zero => intro x4 M1 hc hK hW hx hle hms; exact absurd hms (by have := xm_W_rk hW; omega)
    | succ n ih0 =>
      intro x4 M1 hc hK hW hx hle hms0
      refine hgo.2.2 _ _ _ _ (fun hM1 _ => ?_)
      have e11 := xm_corf hc 11 (by omega)
      have hr0 := fr_r0 hK hW.2.1
      have hcb := fs_cb (F := fr_F Mr x2) (fr_r Mr M1).toNat
      have hpr : fs_pr (fr_L Mr) (fr_H Mr) (Mr 60 32).toNat ≤ 200000 := by
        rw [← fm_pr hK]
        exact hW.2.2.1
      have hrk := xm_W_rk hW
      have hWs := hW.2.2.2
      refine hgo.1 17 [27, 47] 27 _ _ _ ?_
      show xa_C xm_I A h0 _ 242 [(2, 60, 0, 0, 0), (0, 0, (-2147483648), 2147483647, x2)] M1 _
      refine xa_C_mok (fr_isF hK (xm_Inv_cor hc hI) hW (by omega) (by omega) (fun v1 M2 z1 q1 hc1 e1 wF1 rk1 hK2 er2 hM2 => ?_))
      have hc2 := xm_cor_t hc hc1
      refine And.intro ?_ ?_
      · intro (c2 : ¬ v1 = 0)
        have hf : fr_F Mr x2 (fr_r Mr M1) := q1.mp (by omega)
        refine And.intro ?_ ?_
        · intro (c3 : ¬ x4 = x3)
          show xa_C xm_I A h0 _ 243 [(2, 60, 0, 0, 0)] M2 _
          refine xa_C_mok (fr_nextW hK2 wF1 (fun v4 M4 z4 hc4 e4 wN4 rk4 hK4 n4 l4 hM4 => ?_))
          have hc5 := xm_cor_t hc2 hc4
          have hn1 : x4 + 1 = fs_c (fr_F Mr x2) (fr_r Mr M2 + 1).toNat := by rw [er2, fa_c1 hr0.1 hf, ← hx]
          refine And.intro ?_ ?_
          · intro (c5 : ¬ v4 = 0)
            show Q 27 [(4, (0, 0, (-2147483648), 2147483647, xa_w32 (x4 + 1))), (3, (0, 0, (-2147483648), 2147483647, x3)), (2, (0, 0, (-2147483648), 2147483647, x2)), (0, (2, 60, 0, 0, 0))] [] M4
            rw [xa_w32_id (n := x4 + 1) (by omega) (by omega)]
            refine hgo.2.1 27 _ [(4, (0, 0, (-2147483648), 2147483647, x4 + 1)), (3, (0, 0, (-2147483648), 2147483647, x3)), (2, (0, 0, (-2147483648), 2147483647, x2)), (0, (2, 60, 0, 0, 0))] _ _ (xa_subI rfl rfl (fun _ _ _ _ => by omega) (xa_subI rfl rfl (fun _ _ _ _ => by omega) (xa_subI rfl rfl (fun _ _ _ _ => by omega) (xa_subR rfl xa_sub0)))) ?_
            exact ih0 (x4 + 1) M4 hc5 hK4 (wN4 _ (by omega) (by omega)) (by rw [n4 (by omega)]; exact hn1) (by omega) (by omega)
          · intro (c5 : v4 = 0)
            show post (some (0, 0, 0, 0, 0)) M4
            refine k _ _ 0 M4 (Or.inr ⟨hx3, 0, Mr 60 32, Mr 80, Mr 81, hS, Or.inr ⟨rfl, Or.inl ⟨rfl, ?_, fun w _ _ => xm_corq hc5 63 rfl w⟩⟩⟩) (fun q j hq _ => hc5 q j hq) (xm_Inv_cor hc5 hI)
            rw [← eF, ← ep, ← l4 (by omega), ← hn1]
            omega
        · intro (c3 : x4 = x3)
          show Q 47 [(5, (0, 0, 0, 0, 0)), (4, (0, 0, (-2147483648), 2147483647, x4)), (3, (0, 0, (-2147483648), 2147483647, x3)), (2, (0, 0, (-2147483648), 2147483647, x2)), (0, (2, 60, 0, 0, 0))] [] M2
          refine hgo.2.1 47 _ [(5, (0, 0, 0, 14, 0)), (0, (2, 60, 0, 0, 0))] _ _ (xa_subI rfl rfl (fun _ _ _ _ => by omega) (xa_subR rfl xa_sub0)) ?_
          have b32 := xm_f32 hM2
          obtain ⟨-, -, -, e32, -, -⟩ := fr_L_k hK2
          have e80 : M2 80 = Mr 80 := funext (fun j => hK2 80 j (by decide) (fun e => absurd e.1 (by decide)))
          have hI2 := xm_Inv_cor hc2 hI
          have er3 : tk_rk M (Mr 60 32) (Mr 80) (M2 84) = fr_r Mr M1 := (er (M2 84)).symm.trans er2
          refine loopT M2 (fun i j i0 i1 j0 j1 e => ?_) (xm_W10 hM2 hI2 wF1) (fun M3 hb ht hn hI3 => ?_) 15 0 M2 (by omega) (by omega) hI2 (fun _ _ _ => rfl) (fun j j0 j1 => by omega) (fun _ _ => rfl) (by omega)
          · rw [e80] at e
            exact tk_inj hTM hL i j i0 (by omega) j0 (by omega) e
          · refine k _ _ 1 M3 (Or.inr ⟨hx3, 0, Mr 60 32, Mr 80, Mr 81, hS, Or.inr ⟨rfl, Or.inr ⟨rfl, M2 84, ei _ (fr_in hK2 wF1.2.1), ?_, ?_, fun j j0 j1 => ?_, fun w w0 w1 hw => ?_⟩⟩⟩) (fun q j hq h63 => (hb q j h63).trans (hc2 q j hq)) hI3
            · rw [er3, ← eF]
              exact hf
            · rw [er3, ← eF, ← hx]
              exact c3
            · rw [← e80]
              exact ht j j0 (by omega)
            · exact (hn w (fun j j0 j1 => by rw [e80]; exact hw j j0 (by omega))).trans (xm_corq hc2 63 rfl w)
      · intro (c2 : v1 = 0)
        have hf : ¬ fr_F Mr x2 (fr_r Mr M1) := fun h => by
          have := q1.mpr h
          omega
        show xa_C xm_I A h0 _ 243 [(2, 60, 0, 0, 0)] M2 _
        refine xa_C_mok (fr_nextW hK2 wF1 (fun v6 M6 z6 hc6 e6 wN6 rk6 hK6 n6 l6 hM6 => ?_))
        have hc7 := xm_cor_t hc2 hc6
        have hn1 : x4 = fs_c (fr_F Mr x2) (fr_r Mr M2 + 1).toNat := by rw [er2, fa_c0 hr0.1 hf, ← hx]
        refine And.intro ?_ ?_
        · intro (c7 : ¬ v6 = 0)
          show Q 27 [(4, (0, 0, (-2147483648), 2147483647, x4)), (3, (0, 0, (-2147483648), 2147483647, x3)), (2, (0, 0, (-2147483648), 2147483647, x2)), (0, (2, 60, 0, 0, 0))] [] M6
          refine hgo.2.1 27 _ [(4, (0, 0, (-2147483648), 2147483647, x4)), (3, (0, 0, (-2147483648), 2147483647, x3)), (2, (0, 0, (-2147483648), 2147483647, x2)), (0, (2, 60, 0, 0, 0))] _ _ (xa_subI rfl rfl (fun _ _ _ _ => by omega) (xa_subI rfl rfl (fun _ _ _ _ => by omega) (xa_subI rfl rfl (fun _ _ _ _ => by omega) (xa_subR rfl xa_sub0)))) ?_
          exact ih0 x4 M6 hc7 hK6 (wN6 _ (by omega) (by omega)) (by rw [n6 (by omega)]; exact hn1) (by omega) (by omega)
        · intro (c7 : v6 = 0)
          show post (some (0, 0, 0, 0, 0)) M6
          refine k _ _ 0 M6 (Or.inr ⟨hx3, 0, Mr 60 32, Mr 80, Mr 81, hS, Or.inr ⟨rfl, Or.inl ⟨rfl, ?_, fun w _ _ => xm_corq hc7 63 rfl w⟩⟩⟩) (fun q j hq _ => hc7 q j hq) (xm_Inv_cor hc7 hI)
          rw [← eF, ← ep, ← l6 (by omega), ← hn1]
          omega
  have hc0 : xm_cor M (xa_up M 60 21 0) := xm_cor_f (by omega) xm_cor_r
  refine hgo.1 19 [27, 47] 0 _ _ _ ?_
  show xa_C xm_I A h0 _ 238 [(2, 60, 0, 0, 0), (0, 0, (-2147483648), 2147483647, a), (0, 0, (-2147483648), 2147483647, x2)] (xa_up M 60 21 0) _
  refine xa_C_mok (ct_readyF (xm_Inv_cor hc0 hI) (fun v1 M1 z1 hc1 hr1 hq1 hM1 => ?_))
  have hS := rd_S hTM hc0 hc1 hM1 hq1
  have hcM := xm_cor_t hc0 hc1
  refine And.intro ?_ ?_
  · intro (c2 : v1 < 0)
    show post (some (0, 0, 0, 0, 0)) M1
    by_cases c3 : x3 < 0
    · exact k _ _ 0 M1 (Or.inl ⟨c3, rfl, fun w _ _ => xm_corq hcM 63 rfl w⟩) (fun q j hq _ => hcM q j hq) (xm_Inv_cor hcM hI)
    · exact k _ _ 0 M1 (Or.inr ⟨by omega, v1, _, _, _, hS, Or.inl ⟨fun h => by omega, rfl, fun w _ _ => xm_corq hcM 63 rfl w⟩⟩) (fun q j hq _ => hcM q j hq) (xm_Inv_cor hcM hI)
  · intro (c2 : 0 ≤ v1)
    have v0 : v1 = 0 := by omega
    rw [v0] at hS
    refine And.intro ?_ ?_
    · intro (c3 : 0 ≤ x3)
      show xa_C xm_I A h0 _ 241 [(2, 60, 0, 0, 0)] M1 _
      refine xa_C_mok (fm_firstW (xm_Inv_cor hcM hI) ⟨(hr1 (by omega)).1, (hr1 (by omega)).2.1⟩ (fun M4 hc4 e4 wA4 hK4 hr4 hM4 => ?_))
      have w2 := wA4.2.2.2
      show Q 27 [(4, (0, 0, 0, 0, 0)), (0, (2, 60, 0, 0, 0)), (1, (0, 0, (-2147483648), 2147483647, a)), (2, (0, 0, (-2147483648), 2147483647, x2)), (3, (0, 0, (-2147483648), 2147483647, x3))] [] M4
      refine hgo.2.1 27 _ [(4, (0, 0, (-2147483648), 2147483647, 0)), (3, (0, 0, (-2147483648), 2147483647, x3)), (2, (0, 0, (-2147483648), 2147483647, x2)), (0, (2, 60, 0, 0, 0))] _ _ (xa_subI rfl rfl (fun _ _ _ _ => by omega) (xa_subI rfl rfl (fun _ _ _ _ => by omega) (xa_subI rfl rfl (fun _ _ _ _ => by omega) (xa_subR rfl xa_sub0)))) ?_
      exact loop0 M1 hcM hS c3 (tk_S_L hS).2.1 200000 0 M4 (xm_cor_t hcM hc4) hK4 wA4 (by rw [hr4]; rfl) c3 (by omega)
    · intro (c3 : x3 < 0)
      show post (some (0, 0, 0, 0, 0)) M1
      exact k _ _ 0 M1 (Or.inl ⟨c3, rfl, fun w _ _ => xm_corq hcM 63 rfl w⟩) (fun q j hq _ => hcM q j hq) (xm_Inv_cor hcM hI)

-- the way of a fitting and what fits, told by the reference's numbers (for both sides)
set_option maxRecDepth 20000
/-- what holds of the numbers of wheels and meshes -/
def tk_M (M : xa_M) : Prop := (0 ≤ M 60 0 ∧ M 60 0 ≤ 14) ∧ (0 ≤ M 60 6 ∧ M 60 6 ≤ 16) ∧ (∀ i, 0 ≤ i → i < M 60 6 → (0 ≤ M 66 i ∧ M 66 i < M 60 0) ∧ (0 ≤ M 67 i ∧ M 67 i < M 60 0)) ∧ (∀ w, 0 ≤ w → w < 14 → 0 ≤ M 64 w ∧ M 64 w < 10) ∧ ∀ w, 0 ≤ w → w < M 60 0 → 10 ≤ M 61 w ∧ M 61 w ≤ M 62 w ∧ M 62 w ≤ 400
theorem tk_M_of {M : xa_M} (hM : xa_Mok xm_I M) (hI : xm_Inv M) : tk_M M := by
  have b0 := xm_f0 hM
  have b6 := xm_f6 hM
  refine ⟨b0, b6, fun i i0 i1 => ?_, fun w w0 w1 => ?_, fun w w0 w1 => ?_⟩
  · have h := hI.2.1 i i0 i1
    have t66 := xm_t66 hM i i0 (by omega)
    have t67 := xm_t67 hM i i0 (by omega)
    omega
  · have t := xm_t64 hM w w0 w1
    omega
  · have h := hI.1 w w0 w1
    have t := xm_t62 hM w w0 (by omega)
    omega
theorem tk_AB {M : xa_M} (h : tk_M M) (i : Int) (i0 : 0 ≤ i) (i1 : i < M 60 6) : (0 ≤ M 64 (M 66 i) ∧ M 64 (M 66 i) < 10) ∧ (0 ≤ M 64 (M 67 i) ∧ M 64 (M 67 i) < 10) := by
  obtain ⟨h1, h2, h3, h4, -⟩ := h
  have a := h3 i i0 i1
  exact ⟨h4 _ a.1.1 (by omega), h4 _ a.2.1 (by omega)⟩
def tk_Y (M : xa_M) (X : Int) (F : Int → Int) : Prop := wy_L (M 60 6) (fun i => M 64 (M 66 i)) (fun i => M 64 (M 67 i)) F X ∧ ∀ a, 0 ≤ a → a < 10 → 0 ≤ F a
def tk_D (M : xa_M) (X s : Int) (W R F P Dr Dn : Int → Int) : Prop := tk_Y M X F ∧ F 0 < 99 ∧ wp_Q (M 60 6) (M 64) (M 66) (M 67) F (F 0) P Dr Dn (F 0) ∧ wf_W Dr Dn (M 61) (M 62) (F 0) s W R (fun i => M 61 (W i)) (fun i => M 62 (W i)) (M 60 0)
/-- the list of the wheels of the way, and their roles -/
def tk_L (M : xa_M) (X s : Int) (W R : Int → Int) : Prop := ∃ F P Dr Dn : Int → Int, tk_D M X s W R F P Dr Dn
/-- there is no way -/
def tk_N (M : xa_M) (X : Int) : Prop := ∃ F : Int → Int, tk_Y M X F ∧ 99 ≤ F 0
theorem tk_NL {M : xa_M} {X s : Int} {W R : Int → Int} (hM : tk_M M) (hX : 0 ≤ X ∧ X < 10) (h1 : tk_N M X) (h2 : tk_L M X s W R) : False := by
  obtain ⟨F, ⟨hF, f0⟩, f9⟩ := h1
  obtain ⟨G, P, Dr, Dn, ⟨hG, g0⟩, g9, -⟩ := h2
  have h := (wy_one (a := 0) hX (fun i i0 i1 => tk_AB hM i i0 i1) hF hG (by decide) (by decide) (f0 0 (by decide) (by decide)) (g0 0 (by decide) (by decide))).2 f9
  omega
theorem tk_E {M : xa_M} {X : Int} {F G : Int → Int} (hM : tk_M M) (hX : 0 ≤ X ∧ X < 10) (hF : tk_Y M X F) (hG : tk_Y M X G) : (F 0 < 99 → G 0 = F 0) ∧ wz_E (M 60 6) (M 64) (M 66) (M 67) F (M 64) (M 66) (M 67) G := by
  have one := fun (a : Int) (a0 : 0 ≤ a) (a1 : a < 10) => wy_one (a := a) hX (fun i i0 i1 => tk_AB hM i i0 i1) hF.1 hG.1 a0 a1 (hF.2 a a0 a1) (hG.2 a a0 a1)
  refine ⟨(one 0 (by decide) (by decide)).1, fun i i0 i1 => ⟨rfl, rfl, rfl, rfl⟩, fun i i0 i1 l hl => ?_⟩
  have hab := tk_AB hM i i0 i1
  have key : ∀ a : Int, 0 ≤ a → a < 10 → (G a = l - 1 ↔ F a = l - 1) := fun a a0 a1 => by
    obtain ⟨o1, o2⟩ := one a a0 a1
    by_cases c : F a < 99
    · rw [o1 c]
    · have h9 := o2 (by omega)
      constructor <;> (intro h; omega)
  exact ⟨key _ hab.1.1 hab.1.2, key _ hab.2.1 hab.2.2⟩
theorem tk_dd {M : xa_M} {X s s' : Int} {W R W' R' F P Dr Dn F' P' Dr' Dn' : Int → Int} (hM : tk_M M) (hX : 0 ≤ X ∧ X < 10) (h : tk_D M X s W R F P Dr Dn) (h' : tk_D M X s' W' R' F' P' Dr' Dn') : F' 0 = F 0 ∧ ∀ k : Int, 0 ≤ k → k < F 0 → P' k = P k ∧ Dr' k = Dr k ∧ Dn' k = Dn k := by
  obtain ⟨hF, f9, hQ, -⟩ := h
  obtain ⟨hF', -, hQ', -⟩ := h'
  obtain ⟨e, hE⟩ := tk_E hM hX hF hF'
  have e := e f9
  have hle : F 0 ≤ 10 := (hF.1.1.2.2 0 (by decide) (by decide) f9).1
  rw [e] at hQ'
  have hQ2 := wz_Q hE (by omega) hQ'
  refine ⟨e, fun k k0 k1 => ?_⟩
  exact wz_one hQ2 hQ k.toNat k k0 k1 (by omega)
/-- the list is one -/
theorem tk_one {M : xa_M} {X s s' : Int} {W R W' R' : Int → Int} (hM : tk_M M) (hX : 0 ≤ X ∧ X < 10) (h : tk_L M X s W R) (h' : tk_L M X s' W' R') : s' = s ∧ ∀ i : Int, 0 ≤ i → i < s → W' i = W i ∧ R' i = R i := by
  obtain ⟨F, P, Dr, Dn, h⟩ := h
  obtain ⟨F', P', Dr', Dn', h'⟩ := h'
  obtain ⟨e, hD⟩ := tk_dd hM hX h h'
  obtain ⟨-, -, -, hW⟩ := h
  obtain ⟨-, -, -, hW'⟩ := h'
  rw [e] at hW'
  obtain ⟨e1, -, e2⟩ := wz_W (f := wf_g Dr Dn (F 0)) (g := fun w => wf_b Dr (F 0) w - wf_b Dn (F 0) w) (T := W) (U := R) hM.1.1 hM.1.2 (fun k k0 k1 => (hD k k0 k1).2) hW' (fun w _ _ => ⟨rfl, rfl⟩) hW.1 (fun w w0 w1 w2 => ⟨(hW.2 w w0 w1 w2).1, (hW.2 w w0 w1 w2).2.1⟩)
  exact ⟨e1, fun i i0 i1 => ⟨(e2 i i0 (by omega)).1, (e2 i i0 (by omega)).2.1⟩⟩
theorem tk_dr {M : xa_M} {X s : Int} {W R F P Dr Dn : Int → Int} (hM : tk_M M) (h : tk_D M X s W R F P Dr Dn) (k : Int) (k0 : 0 ≤ k) (k1 : k < F 0) : (0 ≤ Dr k ∧ Dr k < M 60 0) ∧ (0 ≤ Dn k ∧ Dn k < M 60 0) := by
  obtain ⟨-, -, hQ, -⟩ := h
  obtain ⟨p1, -, -, p2⟩ := hQ k k0 k1
  have a := hM.2.2.1 (P k) p1.1 p1.2
  rcases p2 with ⟨-, e1, e2⟩ | ⟨-, e1, e2⟩
  · rw [e1, e2]
    exact a
  · rw [e1, e2]
    exact ⟨a.2, a.1⟩
theorem tk_lst {M : xa_M} {X s : Int} {W R : Int → Int} (hM : tk_M M) (hX : 1 ≤ X ∧ X < 10) (h : tk_L M X s W R) : (1 ≤ s ∧ s ≤ 14) ∧ fb_B R s ∧ ∀ i : Int, 0 ≤ i → i < s → (0 ≤ W i ∧ W i < M 60 0) ∧ (10 ≤ M 61 (W i) ∧ M 61 (W i) ≤ M 62 (W i) ∧ M 62 (W i) ≤ 400) := by
  obtain ⟨F, P, Dr, Dn, h⟩ := h
  have hdr := tk_dr hM h
  obtain ⟨⟨hF, f0⟩, f9, hQ, hW⟩ := h
  have F0 : 1 ≤ F 0 := hF.1.2.1 0 (by decide) (by decide) (by omega)
  have ex : (((M 60 0).toNat : Nat) : Int) = M 60 0 := Int.toNat_of_nonneg hM.1.1
  have d1 : ∀ i j : Int, 0 ≤ i → i < F 0 → 0 ≤ j → j < F 0 → Dr i = Dr j → i = j := fun i j i0 i1 j0 j1 => (wp_inj hQ rfl i0 i1 j0 j1).1
  have d2 : ∀ i j : Int, 0 ≤ i → i < F 0 → 0 ≤ j → j < F 0 → Dn i = Dn j → i = j := fun i j i0 i1 j0 j1 => (wp_inj hQ rfl i0 i1 j0 j1).2
  obtain ⟨-, e2, e3⟩ := wz_W (f := wf_g Dr Dn (F 0)) (g := fun w => wf_b Dr (F 0) w - wf_b Dn (F 0) w) (T := W) (U := R) hM.1.1 hM.1.2 (fun k _ _ => ⟨rfl, rfl⟩) hW (fun w _ _ => ⟨rfl, rfl⟩) hW.1 (fun w w0 w1 w2 => ⟨(hW.2 w w0 w1 w2).1, (hW.2 w w0 w1 w2).2.1⟩)
  have g1 : wf_g Dr Dn (F 0) (Dr 0) = 1 := wf_g1.mpr (Or.inl ((wf_b1 (by omega)).mpr ⟨0, by omega, by omega, rfl⟩))
  have hd0 := hdr 0 (by omega) (by omega)
  have er : (((Dr 0).toNat : Nat) : Int) = Dr 0 := Int.toNat_of_nonneg hd0.1.1
  have q1 : wq_s (wf_g Dr Dn (F 0)) ((Dr 0).toNat + 1) ≤ wq_s (wf_g Dr Dn (F 0)) (M 60 0).toNat := wq_sm _ _ (by omega) (fun i _ _ => by have := wf_g01 (Dr := Dr) (Dn := Dn) (n := F 0) (w := i); omega)
  rw [wq_s1, er, g1] at q1
  have q2 := (wf_sz (Dr := Dr) (Dn := Dn) (n := F 0) (Dr 0).toNat).1
  have hs := hW.1
  refine ⟨⟨by omega, e2.2⟩, fun V m hm hV => wb_B (n := F 0) (x := (M 60 0).toNat) (by omega) (by have := hM.1; omega) (fun k k0 k1 => by have := hdr k k0 k1; omega) d1 d2 (by rw [ex]; exact hW) V m hm hV, fun i i0 i1 => ?_⟩
  have g := e3 i i0 i1
  exact ⟨⟨g.2.2.2.2.1, g.2.2.2.2.2⟩, hM.2.2.2.2 _ g.2.2.2.2.1 g.2.2.2.2.2⟩
theorem tk_inj {M : xa_M} {X s : Int} {W R : Int → Int} (hM : tk_M M) (h : tk_L M X s W R) (i j : Int) (i0 : 0 ≤ i) (i1 : i < s) (j0 : 0 ≤ j) (j1 : j < s) (e : W i = W j) : i = j := by
  obtain ⟨F, P, Dr, Dn, -, -, -, hW⟩ := h
  have hx := hM.1
  have key : ∀ k : Int, 0 ≤ k → k < s → wq_s (wf_g Dr Dn (F 0)) (W k).toNat = k := fun k k0 k1 => by
    rw [hW.1] at k1
    obtain ⟨w, w0, w1, w2, w3⟩ := wz_iv (M 60 0).toNat (fun w _ _ => wf_g01) k k0 k1
    have g := (hW.2 w w0 (by omega) w2).1
    rw [w3] at g
    rw [g]
    exact w3
  have a := key i i0 i1
  have b := key j j0 j1
  rw [e] at a
  omega
-- what the reference finds
theorem tk_L_ref {M M1 : xa_M} {X : Int} (hM : tk_M M) (hMk : xa_Mok xm_I M1) (h : wv_Q M X M1 1) : tk_L M X (M1 60 32) (M1 80) (M1 81) := by
  obtain ⟨hL, h⟩ := h
  rcases h with ⟨-, hD, hW⟩ | ⟨h, -⟩
  · have h0 : ∀ a, 0 ≤ a → a < 10 → 0 ≤ M1 78 a := fun a a0 a1 => (xm_t78 hMk a a0 a1).1
    obtain ⟨Dr, Dn, hQ, hg⟩ := wf_gv hD (h0 0 (by decide) (by decide))
    have hx := hM.1
    refine ⟨M1 78, M1 79, Dr, Dn, ⟨hL, h0⟩, hD.2.1, hQ, ?_, fun w w0 w1 w2 => ?_⟩
    · rw [hW.1]
      exact wq_se _ (fun i i0 i1 => (hg i i0 (by omega)).1)
    · have es : wq_s (wf_g Dr Dn (M1 78 0)) w.toNat = wq_s (M1 83) w.toNat := (wq_se _ (fun i i0 i1 => (hg i i0 (by omega)).1)).symm
      have g := hW.2 w w0 w1 (by rw [(hg w w0 (by omega)).1]; exact w2)
      rw [es]
      refine ⟨g.1, by rw [g.2, (hg w w0 (by omega)).2], ?_, ?_⟩
      · show M 61 (M1 80 (wq_s (M1 83) w.toNat)) = M 61 w
        rw [g.1]
      · show M 62 (M1 80 (wq_s (M1 83) w.toNat)) = M 62 w
        rw [g.1]
  · omega
theorem tk_N_ref {M M1 : xa_M} {X : Int} (hMk : xa_Mok xm_I M1) (h : wv_Q M X M1 0) : tk_N M X := by
  obtain ⟨hL, h⟩ := h
  rcases h with ⟨h, -⟩ | ⟨-, h9⟩
  · omega
  · exact ⟨M1 78, ⟨hL, fun a a0 a1 => (xm_t78 hMk a a0 a1).1⟩, h9⟩
-- what the class finds
/-- the class's numbers are the reference's -/
def tk_R (C M : xa_M) : Prop := C 1 9 = M 60 0 ∧ C 1 10 = M 60 6 ∧ (∀ i, 0 ≤ i → i < 14 → C 2 i = M 61 i ∧ C 3 i = M 62 i ∧ C 5 i = M 64 i ∧ C 6 i = M 65 i) ∧ ∀ i, 0 ≤ i → i < 16 → C 7 i = M 66 i ∧ C 8 i = M 67 i
theorem tk_R_F {C M : xa_M} {X : Int} {F : Int → Int} (hM : tk_M M) (hR : tk_R C M) (hF : tk_Y M X F) : wy_L (C 1 10) (fun i => C 5 (C 7 i)) (fun i => C 5 (C 8 i)) F X := by
  obtain ⟨r1, r2, r3, r4⟩ := hR
  have b0 := hM.1
  have b6 := hM.2.1
  refine wy_L_k r2 (fun i i0 i1 => ?_) hF.1
  obtain ⟨g7, g8⟩ := r4 i i0 (by omega)
  have t := hM.2.2.1 i i0 i1
  refine ⟨?_, ?_⟩
  · show C 5 (C 7 i) = M 64 (M 66 i)
    rw [g7]
    exact (r3 _ t.1.1 (by omega)).2.2.1
  · show C 5 (C 8 i) = M 64 (M 67 i)
    rw [g8]
    exact (r3 _ t.2.1 (by omega)).2.2.1
theorem tk_R_m {C M : xa_M} (hM : tk_M M) (hR : tk_R C M) : (0 ≤ C 1 10 ∧ C 1 10 ≤ 16) ∧ (∀ k, 0 ≤ k → k < C 1 10 → (0 ≤ C 7 k ∧ C 7 k < 14) ∧ (0 ≤ C 8 k ∧ C 8 k < 14)) ∧ (∀ w, 0 ≤ w → w < 14 → 0 ≤ C 5 w ∧ C 5 w < 10) ∧ (0 ≤ C 1 9 ∧ C 1 9 ≤ 14) := by
  obtain ⟨r1, r2, r3, r4⟩ := hR
  have b0 := hM.1
  have b6 := hM.2.1
  refine ⟨by omega, fun k k0 k1 => ?_, fun w w0 w1 => ?_, by omega⟩
  · obtain ⟨g7, g8⟩ := r4 k k0 (by omega)
    have t := hM.2.2.1 k k0 (by omega)
    omega
  · have t := hM.2.2.2.1 w w0 w1
    have g := (r3 w w0 w1).2.2.1
    omega
theorem tk_L_cls {C M : xa_M} {X s : Int} {F P Dr Dn W R L H : Int → Int} (hM : tk_M M) (hR : tk_R C M) (hF : tk_Y M X F) (h9 : F 0 < 99) (hQ : wp_Q (C 1 10) (C 5) (C 7) (C 8) F (F 0) P Dr Dn (F 0)) (hW : wf_W Dr Dn (C 2) (C 3) (F 0) s W R L H (C 1 9)) : tk_L M X s W R ∧ ∀ i : Int, 0 ≤ i → i < s → L i = M 61 (W i) ∧ H i = M 62 (W i) := by
  obtain ⟨r1, r2, r3, r4⟩ := hR
  have b0 := hM.1
  have b6 := hM.2.1
  have hle : F 0 ≤ 10 := (hF.1.1.2.2 0 (by decide) (by decide) h9).1
  rw [r2] at hQ
  rw [r1] at hW
  have hE : wz_E (M 60 6) (M 64) (M 66) (M 67) F (C 5) (C 7) (C 8) F := by
    refine ⟨fun i i0 i1 => ?_, fun i _ _ l _ => ⟨Iff.rfl, Iff.rfl⟩⟩
    obtain ⟨g7, g8⟩ := r4 i i0 (by omega)
    have t := hM.2.2.1 i i0 i1
    exact ⟨g7, g8, (r3 _ t.1.1 (by omega)).2.2.1, (r3 _ t.2.1 (by omega)).2.2.1⟩
  have hQ2 := wz_Q hE (by omega) hQ
  have hW2 : wf_W Dr Dn (M 61) (M 62) (F 0) s W R (fun i => M 61 (W i)) (fun i => M 62 (W i)) (M 60 0) := by
    refine ⟨hW.1, fun w w0 w1 w2 => ?_⟩
    have g := hW.2 w w0 w1 w2
    refine ⟨g.1, g.2.1, ?_, ?_⟩
    · show M 61 (W (wq_s (wf_g Dr Dn (F 0)) w.toNat)) = M 61 w
      rw [g.1]
    · show M 62 (W (wq_s (wf_g Dr Dn (F 0)) w.toNat)) = M 62 w
      rw [g.1]
  refine ⟨⟨F, P, Dr, Dn, hF, h9, hQ2, hW2⟩, fun i i0 i1 => ?_⟩
  obtain ⟨-, -, e3⟩ := wz_W (f := wf_g Dr Dn (F 0)) (g := fun w => wf_b Dr (F 0) w - wf_b Dn (F 0) w) (T := W) (U := R) hM.1.1 hM.1.2 (fun k _ _ => ⟨rfl, rfl⟩) hW (fun w _ _ => ⟨rfl, rfl⟩) hW.1 (fun w w0 w1 w2 => ⟨(hW.2 w w0 w1 w2).1, (hW.2 w w0 w1 w2).2.1⟩)
  obtain ⟨-, -, a, b, c, d⟩ := e3 i i0 i1
  have g := r3 (W i) c (by omega)
  rw [a, b]
  exact ⟨g.1, g.2.1⟩
-- what hangs on the first numbers alone
theorem fs_pr_e {L H L' H' : Int → Int} (n : Nat) : (∀ i : Int, 0 ≤ i → i < n → L' i = L i ∧ H' i = H i) → fs_pr L' H' n = fs_pr L H n := by
  induction n with
  | zero => intro _; rfl
  | succ n ih =>
    intro h
    show fs_pr L' H' n * (H' n - L' n + 1) = fs_pr L H n * (H n - L n + 1)
    rw [ih (fun i i0 i1 => h i i0 (by omega)), (h n (by omega) (by omega)).1, (h n (by omega) (by omega)).2]
theorem fs_rk_e2 {L H L' H' V : Int → Int} (n : Nat) : (∀ i : Int, 0 ≤ i → i < n → L' i = L i ∧ H' i = H i) → fs_rk L' H' V n = fs_rk L H V n := by
  induction n with
  | zero => intro _; rfl
  | succ n ih =>
    intro h
    show fs_rk L' H' V n * (H' n - L' n + 1) + (V n - L' n) = fs_rk L H V n * (H n - L n + 1) + (V n - L n)
    rw [ih (fun i i0 i1 => h i i0 (by omega)), (h n (by omega) (by omega)).1, (h n (by omega) (by omega)).2]
theorem fs_ud_e2 {R R' V : Int → Int} (n : Nat) : (∀ i : Int, 0 ≤ i → i < n → R' i = R i) → fs_u R' V n = fs_u R V n ∧ fs_d R' V n = fs_d R V n := by
  induction n with
  | zero => intro _; exact ⟨rfl, rfl⟩
  | succ n ih =>
    intro h
    have g := ih (fun i i0 i1 => h i i0 (by omega))
    rw [fs_u1, fs_u1, fs_d1, fs_d1, g.1, g.2, h n (by omega) (by omega)]
    exact ⟨rfl, rfl⟩
theorem fs_in_e {L H L' H' V : Int → Int} {n : Nat} (h : ∀ i : Int, 0 ≤ i → i < n → L' i = L i ∧ H' i = H i) (g : fs_in L H V n) : fs_in L' H' V n := fun i i0 i1 => by
  have a := h i i0 i1
  have b := g i i0 i1
  omega
theorem fs_F_i {L H R L' H' R' : Int → Int} {s : Nat} {a b k : Int} (h : ∀ i : Int, 0 ≤ i → i < s → L' i = L i ∧ H' i = H i ∧ R' i = R i) (g : fs_F L H R s a b k) : fs_F L' H' R' s a b k := by
  obtain ⟨V, g1, g2, g3⟩ := g
  obtain ⟨e1, e2⟩ := fs_ud_e2 (R := R) (R' := R') (V := V) s (fun i i0 i1 => (h i i0 i1).2.2)
  exact ⟨V, fs_in_e (fun i i0 i1 => ⟨(h i i0 i1).1, (h i i0 i1).2.1⟩) g1, by rw [fs_rk_e2 s (fun i i0 i1 => ⟨(h i i0 i1).1, (h i i0 i1).2.1⟩)]; exact g2, by rw [e1, e2]; exact g3⟩
theorem fs_F_e {L H R L' H' R' : Int → Int} {s : Nat} {a b : Int} (h : ∀ i : Int, 0 ≤ i → i < s → L' i = L i ∧ H' i = H i ∧ R' i = R i) : fs_F L' H' R' s a b = fs_F L H R s a b := by
  funext k
  refine propext ⟨fs_F_i (fun i i0 i1 => ?_), fs_F_i h⟩
  have g := h i i0 i1
  exact ⟨g.1.symm, g.2.1.symm, g.2.2.symm⟩
theorem fs_F_g {L H R : Int → Int} {s : Nat} {g a b : Int} (hg : g ≠ 0) : fs_F L H R s (g * a) (g * b) = fs_F L H R s a b := by
  funext k
  refine propext ⟨?_, ?_⟩
  · rintro ⟨V, g1, g2, g3⟩
    exact ⟨V, g1, g2, (fs_g hg).mp g3⟩
  · rintro ⟨V, g1, g2, g3⟩
    exact ⟨V, g1, g2, (fs_g hg).mpr g3⟩
-- what fits to a period
def tk_F (M : xa_M) (s : Int) (W R : Int → Int) (p : Int) : Int → Prop := fs_F (fun i => M 61 (W i)) (fun i => M 62 (W i)) R s.toNat (M 71 p) (M 70 p)
def tk_pr (M : xa_M) (s : Int) (W : Int → Int) : Int := fs_pr (fun i => M 61 (W i)) (fun i => M 62 (W i)) s.toNat
def tk_rk (M : xa_M) (s : Int) (W V : Int → Int) : Int := fs_rk (fun i => M 61 (W i)) (fun i => M 62 (W i)) V s.toNat
def tk_in (M : xa_M) (s : Int) (W V : Int → Int) : Prop := fs_in (fun i => M 61 (W i)) (fun i => M 62 (W i)) V s.toNat
theorem tk_e {M : xa_M} {s : Int} {W R W' R' : Int → Int} (h : ∀ i : Int, 0 ≤ i → i < s → W' i = W i ∧ R' i = R i) : (∀ p, tk_F M s W' R' p = tk_F M s W R p) ∧ tk_pr M s W' = tk_pr M s W ∧ (∀ V, tk_rk M s W' V = tk_rk M s W V) ∧ ∀ V, tk_in M s W' V → tk_in M s W V := by
  have e : ∀ i : Int, 0 ≤ i → i < (s.toNat : Int) → M 61 (W' i) = M 61 (W i) ∧ M 62 (W' i) = M 62 (W i) := fun i i0 i1 => by
    rw [(h i i0 (by omega)).1]
    exact ⟨rfl, rfl⟩
  refine ⟨fun p => fs_F_e (fun i i0 i1 => ⟨(e i i0 i1).1, (e i i0 i1).2, (h i i0 (by omega)).2⟩), fs_pr_e _ e, fun V => fs_rk_e2 _ e, fun V g => fs_in_e (fun i i0 i1 => ⟨(e i i0 i1).1.symm, (e i i0 i1).2.symm⟩) g⟩
/-- what stands ahead of a search -/
def tk_S (M : xa_M) (X p r s : Int) (W R : Int → Int) : Prop := (¬ ((1 ≤ X ∧ X ≤ 9) ∧ 0 ≤ p ∧ p < M 60 11) ∧ r = -1) ∨ (((1 ≤ X ∧ X ≤ 9) ∧ 0 ≤ p ∧ p < M 60 11) ∧ ((tk_N M X ∧ r = -2) ∨ (tk_L M X s W R ∧ ((200000 < tk_pr M s W ∧ r = -4) ∨ (tk_pr M s W ≤ 200000 ∧ r = 0)))))
theorem tk_S_one {M : xa_M} {X p r s r' s' : Int} {W R W' R' : Int → Int} (hM : tk_M M) (h : tk_S M X p r s W R) (h' : tk_S M X p r' s' W' R') : r' = r ∧ (r = 0 ∨ r = -4 → s' = s ∧ ∀ i : Int, 0 ≤ i → i < s → W' i = W i ∧ R' i = R i) := by
  rcases h with ⟨n1, e1⟩ | ⟨c1, h⟩
  · rcases h' with ⟨-, e2⟩ | ⟨c2, -⟩
    · exact ⟨by omega, fun h => by omega⟩
    · exact absurd c2 n1
  · rcases h' with ⟨n2, -⟩ | ⟨-, h'⟩
    · exact absurd c1 n2
    · have hX : 0 ≤ X ∧ X < 10 := by omega
      rcases h with ⟨hN, e1⟩ | ⟨hL, h⟩
      · rcases h' with ⟨-, e2⟩ | ⟨hL', -⟩
        · exact ⟨by omega, fun h => by omega⟩
        · exact (tk_NL hM hX hN hL').elim
      · rcases h' with ⟨hN', -⟩ | ⟨hL', h'⟩
        · exact (tk_NL hM hX hN' hL).elim
        · obtain ⟨es, eW⟩ := tk_one hM hX hL hL'
          have es := es.symm
          subst es
          have ep := (tk_e (M := M) eW).2.1
          refine ⟨?_, fun _ => ⟨rfl, eW⟩⟩
          rw [ep] at h'
          omega
/-- what fit leaves of the teeth taken -/
def tk_T (M : xa_M) (X p n r : Int) (T : Int → Int) : Prop := (n < 0 ∧ r = 0 ∧ ∀ w : Int, 0 ≤ w → w < 14 → T w = M 63 w) ∨ (0 ≤ n ∧ ∃ (e s : Int) (W R : Int → Int), tk_S M X p e s W R ∧ ((¬ e = 0 ∧ r = 0 ∧ ∀ w : Int, 0 ≤ w → w < 14 → T w = M 63 w) ∨ (e = 0 ∧ ((r = 0 ∧ fs_c (tk_F M s W R p) (tk_pr M s W).toNat ≤ n ∧ ∀ w : Int, 0 ≤ w → w < 14 → T w = M 63 w) ∨ (r = 1 ∧ ∃ V : Int → Int, tk_in M s W V ∧ tk_F M s W R p (tk_rk M s W V) ∧ fs_c (tk_F M s W R p) (tk_rk M s W V).toNat = n ∧ (∀ j : Int, 0 ≤ j → j < s → T (W j) = V j) ∧ ∀ w : Int, 0 ≤ w → w < 14 → (∀ j : Int, 0 ≤ j → j < s → ¬ W j = w) → T w = M 63 w)))))
theorem tk_end {M : xa_M} {s p n : Int} {W R V : Int → Int} (hin : tk_in M s W V) (hF : tk_F M s W R p (tk_rk M s W V)) (hc : fs_c (tk_F M s W R p) (tk_rk M s W V).toNat = n) (h : fs_c (tk_F M s W R p) (tk_pr M s W).toNat ≤ n) : False := by
  obtain ⟨b0, b1⟩ := fs_rk_b s.toNat hin
  have b0 : 0 ≤ tk_rk M s W V := b0
  have b1 : tk_rk M s W V < tk_pr M s W := b1
  have e : (((tk_rk M s W V).toNat : Nat) : Int) = tk_rk M s W V := Int.toNat_of_nonneg b0
  have g := fs_end (F := tk_F M s W R p) (k := (tk_rk M s W V).toNat) (p := (tk_pr M s W).toNat) (by rw [e]; exact hF) (by omega)
  omega
theorem tk_T_one {M : xa_M} {X p n r r' : Int} {T T' : Int → Int} (hM : tk_M M) (h : tk_T M X p n r T) (h' : tk_T M X p n r' T') : r' = r ∧ ∀ w : Int, 0 ≤ w → w < 14 → T' w = T w := by
  rcases h with ⟨n1, e1, t1⟩ | ⟨n1, h⟩
  · rcases h' with ⟨-, e2, t2⟩ | ⟨n2, -⟩
    · exact ⟨by omega, fun w w0 w1 => by rw [t1 w w0 w1, t2 w w0 w1]⟩
    · omega
  rcases h' with ⟨n2, -⟩ | ⟨-, h'⟩
  · omega
  obtain ⟨e, s, W, R, hS, h⟩ := h
  obtain ⟨e', s', W', R', hS', h'⟩ := h'
  obtain ⟨ee, eL⟩ := tk_S_one hM hS hS'
  subst ee
  rcases h with ⟨n1, e1, t1⟩ | ⟨c1, h⟩
  · rcases h' with ⟨-, e2, t2⟩ | ⟨c2, -⟩
    · exact ⟨by omega, fun w w0 w1 => by rw [t1 w w0 w1, t2 w w0 w1]⟩
    · exact absurd c2 n1
  · rcases h' with ⟨n2, -⟩ | ⟨-, h'⟩
    · exact absurd c1 n2
    · obtain ⟨es, eW⟩ := eL (Or.inl c1)
      have es := es.symm
      subst es
      obtain ⟨eF, ep, er, ei⟩ := tk_e (M := M) eW
      rw [eF, ep] at h'
      rcases h with ⟨e1, f1, t1⟩ | ⟨e1, V, v1, v2, v3, v4, v5⟩
      · rcases h' with ⟨e2, -, t2⟩ | ⟨-, V', u1, u2, u3, -⟩
        · exact ⟨by omega, fun w w0 w1 => by rw [t1 w w0 w1, t2 w w0 w1]⟩
        · rw [er] at u2 u3
          exact (tk_end (ei _ u1) u2 u3 f1).elim
      · rcases h' with ⟨-, f2, -⟩ | ⟨e2, V', u1, u2, u3, u4, u5⟩
        · exact (tk_end v1 v2 v3 f2).elim
        · rw [er] at u2 u3
          have u1 := ei _ u1
          obtain ⟨b0, b1⟩ := fs_rk_b _ v1
          obtain ⟨d0, d1⟩ := fs_rk_b _ u1
          have b0 : 0 ≤ tk_rk M s W V := b0
          have d0 : 0 ≤ tk_rk M s W V' := d0
          have z1 : (((tk_rk M s W V).toNat : Nat) : Int) = tk_rk M s W V := Int.toNat_of_nonneg b0
          have z2 : (((tk_rk M s W V').toNat : Nat) : Int) = tk_rk M s W V' := Int.toNat_of_nonneg d0
          have ek := fs_one (F := tk_F M s W R p) (k := (tk_rk M s W V).toNat) (k' := (tk_rk M s W V').toNat) (by rw [z1]; exact v2) (by rw [z2]; exact u2) (by rw [v3, u3])
          have eV := fs_inj s.toNat v1 u1 (show tk_rk M s W V = tk_rk M s W V' by omega)
          refine ⟨by omega, fun w w0 w1 => ?_⟩
          by_cases c : ∃ j : Int, 0 ≤ j ∧ j < s ∧ W j = w
          · obtain ⟨j, j0, j1, jw⟩ := c
            have a := v4 j j0 j1
            have b := u4 j j0 j1
            rw [(eW j j0 j1).1] at b
            rw [← jw, a, b]
            exact (eV j j0 (by omega)).symm
          · rw [v5 w w0 w1 (fun j j0 j1 jw => c ⟨j, j0, j1, jw⟩), u5 w w0 w1 (fun j j0 j1 jw => c ⟨j, j0, j1, by rw [← (eW j j0 j1).1]; exact jw⟩)]
-- ready and fit of the reference, told
set_option maxRecDepth 20000
theorem fr_pr {M : xa_M} (n : Nat) : xm_pr M n = fs_pr (fr_L M) (fr_H M) n := by
  induction n with
  | zero => rfl
  | succ n ih =>
    show xm_pr M n * xm_sp M n = fs_pr (fr_L M) (fr_H M) n * (fr_H M n - fr_L M n + 1)
    rw [ih]
    rfl
theorem fr_prm {M : xa_M} {a b : Nat} (hab : a ≤ b) (h : ∀ j : Int, 0 ≤ j → j < b → M 61 (M 80 j) ≤ M 62 (M 80 j)) : xm_pr M a ≤ xm_pr M b := by
  rw [fr_pr, fr_pr]
  exact fs_prm hab h
theorem fa_c0 {F : Int → Prop} {a : Int} (h0 : 0 ≤ a) (h : ¬ F a) : fs_c F (a + 1).toNat = fs_c F a.toNat := by
  rw [show (a + 1).toNat = a.toNat + 1 by omega]
  exact fs_c0 (by rw [Int.toNat_of_nonneg h0]; exact h)
theorem wv_Q1 {M M1 : xa_M} {X r x : Int} (h : wv_Q M X M1 r) (e : r = x) : wv_Q M X M1 x := e ▸ h
theorem ct_areTooManyF {A : Nat → Nat} {h0 : g_H} {d : Nat} {M : xa_M} {post : Option xa_V → xa_M → Prop} (hI : xm_Inv M) (hw : xm_way M) (k : ∀ r : Int, (r = 0 ∨ r = 1) → (r = 0 → xm_pr M (M 60 32).toNat ≤ 200000) → (r = 1 → 200000 < xm_pr M (M 60 32).toNat) → post (some (0, 0, 0, 1, r)) M) : xa_C xm_I A h0 (d + 1) 240 [(2, 60, 0, 0, 0)] M post := by
  refine xa_C_wk ?_
  refine xa_meth (Q0 := (5, 2, false, 0, 0, 12)) (by decide +kernel) ⟨rfl, rfl⟩ (full := s_c_240) rfl rfl ?_
  intro hM hv Q hgo
  have loop0 : ∀ (n : Nat) (x3 x1 : Int), 0 ≤ x3 ∧ x3 ≤ 14 → 1 ≤ x1 ∧ x1 ≤ 200000 → x3 ≤ M 60 32 → x1 = xm_pr M x3.toNat → 14 - x3 < (n : Int) → Q 4 [(3, (0, 0, 0, 14, x3)), (1, (1, 0, 1, 200000, x1)), (0, (2, 60, 0, 0, 0))] [] M := by
    intro n
    induction n with
    | zero => intro x3 x1 b3 b1 h32 hpr hms; omega
    | succ n ih0 =>
      intro x3 x1 b3 b1 h32 hpr hms0
      have b32 := xm_f32 hM
      have t80 : x3 < M 60 32 → 0 ≤ M 80 x3 ∧ M 80 x3 ≤ 13 := fun h => xm_t80 hM x3 (by omega) (by omega)
      have hs := fun h : x3 < M 60 32 => xm_way_sp hM hI hw x3 (by omega) h
      have hp : x3 < M 60 32 → 1 ≤ x1 * (M 62 (M 80 x3) - M 61 (M 80 x3) + 1) := fun h => by
        have := Int.mul_pos (show 0 < x1 by omega) (show 0 < M 62 (M 80 x3) - M 61 (M 80 x3) + 1 by have := hs h; omega)
        omega
      refine hgo.1 34 [4] 4 _ _ _ ?_
      refine And.intro ?_ ?_
      · intro (c1 : (M 60 32) ≤ x3)
        show xa_wk post (some (0, 0, 0, 0, 0)) M
        exact xa_wkI 0 rfl (fun _ _ => by omega) (k 0 (by omega) (fun e => by first | (exfalso; omega) | (rw [show M 60 32 = x3 by omega, ← hpr]; omega)) (fun e => absurd e (by decide)))
      · intro (c1 : x3 < (M 60 32))
        refine And.intro (show 0 ≤ x3 ∧ x3 < 14 by omega) ?_
        refine And.intro ?_ ?_
        · intro (c2 : (x1 * (((M 62 (M 80 x3)) - (M 61 (M 80 x3))) + 1)) ≤ 200000)
          show Q 4 [(3, (0, 0, 1, 15, x3 + 1)), (1, (1, 0, (-79800000), 80200000, x1 * (((M 62 (M 80 x3)) - (M 61 (M 80 x3))) + 1))), (4, (0, 0, 0, 13, M 80 x3)), (0, (2, 60, 0, 0, 0))] [] M
          refine hgo.2.1 4 _ [(3, (0, 0, 0, 14, x3 + 1)), (1, (1, 0, 1, 200000, x1 * (((M 62 (M 80 x3)) - (M 61 (M 80 x3))) + 1))), (0, (2, 60, 0, 0, 0))] _ _ (xa_subI rfl rfl (fun _ _ _ _ => by omega) (xa_subL rfl rfl (fun _ _ _ _ => by omega) (xa_subR rfl xa_sub0))) ?_
          exact ih0 (x3 + 1) (x1 * (((M 62 (M 80 x3)) - (M 61 (M 80 x3))) + 1)) (by omega) (by omega) (by have := xm_f32 hM; omega) (xm_prs (by omega) hpr) (by omega)
        · intro (c2 : 200000 < (x1 * (((M 62 (M 80 x3)) - (M 61 (M 80 x3))) + 1)))
          show xa_wk post (some (0, 0, 1, 1, 1)) M
          have hpn := xm_prs (M := M) (x := x3) (y := x1) (by omega) hpr
          have hmn := fr_prm (M := M) (a := (x3 + 1).toNat) (b := (M 60 32).toNat) (by omega) (fun j j0 j1 => (xm_way_sp hM hI hw j j0 (by omega)).2)
          exact xa_wkI 1 rfl (fun _ _ => by omega) (k 1 (by omega) (fun e => absurd e (by decide)) (fun _ => by omega))
  refine hgo.1 9 [4] 0 _ _ _ ?_
  show Q 4 [(3, (0, 0, 0, 0, 0)), (1, (1, 0, 1, 1, 1)), (0, (2, 60, 0, 0, 0))] [] M
  refine hgo.2.1 4 _ [(3, (0, 0, 0, 14, 0)), (1, (1, 0, 1, 200000, 1)), (0, (2, 60, 0, 0, 0))] _ _ (xa_subI rfl rfl (fun _ _ _ _ => by omega) (xa_subL rfl rfl (fun _ _ _ _ => by omega) (xa_subR rfl xa_sub0))) ?_
  exact loop0 15 0 1 (by omega) (by omega) (by have := xm_f32 hM; omega) rfl (by omega)
/-- what ready leaves -/
def rd_Q (M : xa_M) (a b : Int) (M1 : xa_M) (r : Int) : Prop := (¬ ((1 ≤ a ∧ a ≤ 9) ∧ 0 ≤ b ∧ b < M 60 11) ∧ r = -1) ∨ (((1 ≤ a ∧ a ≤ 9) ∧ 0 ≤ b ∧ b < M 60 11) ∧ ((wv_Q M a M1 0 ∧ r = -2) ∨ (wv_Q M a M1 1 ∧ ((200000 < xm_pr M1 (M1 60 32).toNat ∧ r = -4) ∨ (xm_pr M1 (M1 60 32).toNat ≤ 200000 ∧ r = 0)))))
theorem tk_ce {M M1 : xa_M} (h : xm_cor M M1) : (M1 60 0 = M 60 0 ∧ M1 60 6 = M 60 6 ∧ M1 60 11 = M 60 11) ∧ M1 61 = M 61 ∧ M1 62 = M 62 ∧ M1 63 = M 63 ∧ M1 64 = M 64 ∧ M1 66 = M 66 ∧ M1 67 = M 67 ∧ M1 70 = M 70 ∧ M1 71 = M 71 :=
  ⟨⟨xm_corf h 0 (by omega), xm_corf h 6 (by omega), xm_corf h 11 (by omega)⟩, funext (xm_corq h 61 rfl), funext (xm_corq h 62 rfl), funext (xm_corq h 63 rfl), funext (xm_corq h 64 rfl), funext (xm_corq h 66 rfl), funext (xm_corq h 67 rfl), funext (xm_corq h 70 rfl), funext (xm_corq h 71 rfl)⟩
theorem tk_M_c {M M1 : xa_M} (h : xm_cor M M1) (hM : tk_M M) : tk_M M1 := by
  obtain ⟨⟨e0, e6, e11⟩, e61, e62, e63, e64, e66, e67, e70, e71⟩ := tk_ce h
  unfold tk_M at hM ⊢
  rw [e0, e6, e61, e62, e64, e66, e67]
  exact hM
theorem tk_S_c {M M1 : xa_M} {X p r s : Int} {W R : Int → Int} (h : xm_cor M M1) (hS : tk_S M1 X p r s W R) : tk_S M X p r s W R := by
  obtain ⟨⟨e0, e6, e11⟩, e61, e62, e63, e64, e66, e67, e70, e71⟩ := tk_ce h
  unfold tk_S tk_N tk_L tk_D tk_Y tk_pr at hS ⊢
  rw [e0, e6, e11, e61, e62, e64, e66, e67] at hS
  exact hS
theorem tk_S_L {M : xa_M} {X p s : Int} {W R : Int → Int} (h : tk_S M X p 0 s W R) : (1 ≤ X ∧ X ≤ 9) ∧ (0 ≤ p ∧ p < M 60 11) ∧ tk_L M X s W R ∧ tk_pr M s W ≤ 200000 := by
  rcases h with ⟨-, h⟩ | ⟨⟨c1, c2⟩, ⟨-, h⟩ | ⟨hL, ⟨-, h⟩ | ⟨hp, -⟩⟩⟩
  · omega
  · omega
  · omega
  · exact ⟨c1, c2, hL, hp⟩
theorem rd_S {M M0 M1 : xa_M} {a b r : Int} (hT : tk_M M) (h0 : xm_cor M M0) (h1 : xm_cor M0 M1) (hMk : xa_Mok xm_I M1) (h : rd_Q M0 a b M1 r) : tk_S M a b r (M1 60 32) (M1 80) (M1 81) := by
  refine tk_S_c h0 ?_
  have hT0 := tk_M_c h0 hT
  obtain ⟨-, e61, e62, -⟩ := tk_ce h1
  have ep : xm_pr M1 (M1 60 32).toNat = tk_pr M0 (M1 60 32) (M1 80) := by
    rw [fr_pr]
    unfold fr_L fr_H tk_pr
    rw [e61, e62]
  rw [rd_Q, ep] at h
  rcases h with h | ⟨c, ⟨hq, e⟩ | ⟨hq, h⟩⟩
  · exact Or.inl h
  · exact Or.inr ⟨c, Or.inl ⟨tk_N_ref hMk hq, e⟩⟩
  · exact Or.inr ⟨c, Or.inr ⟨tk_L_ref hT0 hMk hq, h⟩⟩
theorem fm_e {M Mr : xa_M} {p : Int} (h : xm_cor M Mr) : fr_F Mr p = tk_F M (Mr 60 32) (Mr 80) (Mr 81) p ∧ fs_pr (fr_L Mr) (fr_H Mr) (Mr 60 32).toNat = tk_pr M (Mr 60 32) (Mr 80) ∧ (∀ V, fs_rk (fr_L Mr) (fr_H Mr) V (Mr 60 32).toNat = tk_rk M (Mr 60 32) (Mr 80) V) ∧ ∀ V, fs_in (fr_L Mr) (fr_H Mr) V (Mr 60 32).toNat → tk_in M (Mr 60 32) (Mr 80) V := by
  obtain ⟨-, e61, e62, -, -, -, -, e70, e71⟩ := tk_ce h
  unfold fr_F tk_F tk_pr tk_rk tk_in fr_L fr_H
  rw [e61, e62, e70, e71]
  exact ⟨rfl, rfl, fun _ => rfl, fun _ h => h⟩
theorem fm_pr {Mr M1 : xa_M} (hK : fr_K Mr M1) : xm_pr M1 (M1 60 32).toNat = fs_pr (fr_L Mr) (fr_H Mr) (Mr 60 32).toNat := by
  obtain ⟨eL, eH, -, e32, -, -⟩ := fr_L_k hK
  rw [fr_pr, eL, eH, e32]

-- turns: the gcd's steps, and what class and reference hold of turns
set_option maxRecDepth 20000
def gf : Nat → Int
  | 0 => 0
  | 1 => 1
  | n + 2 => gf (n + 1) + gf n
theorem gf2 (n : Nat) : gf (n + 2) = gf (n + 1) + gf n := rfl
theorem gf_pos (n : Nat) : 0 ≤ gf n ∧ 1 ≤ gf (n + 1) := by
  induction n with
  | zero => exact ⟨Int.le_refl 0, Int.le_refl 1⟩
  | succ n ih =>
    have e := gf2 n
    refine ⟨by omega, ?_⟩
    rw [show n + 1 + 1 = n + 2 from rfl, e]
    omega
/-- the steps of the gcd are so many at most -/
def gst : Nat → Int → Int → Prop
  | 0, _, b => b = 0
  | n + 1, a, b => b = 0 ∨ gst n b (a % b)
theorem gst_s (n : Nat) : ∀ a b : Int, gst n a b → gst (n + 1) a b := by
  induction n with
  | zero => intro a b h; exact Or.inl h
  | succ n ih =>
    intro a b h
    rcases h with h | h
    · exact Or.inl h
    · exact Or.inr (ih _ _ h)
theorem gst_m {n m : Nat} (h : n ≤ m) {a b : Int} (g : gst n a b) : gst m a b := by
  obtain ⟨d, rfl⟩ := Nat.exists_eq_add_of_le h
  induction d with
  | zero => exact g
  | succ d ih => exact gst_s _ _ _ (ih (by omega))
theorem gst_f2 (n : Nat) : (∀ a b : Int, 0 ≤ a → 0 ≤ b → b < gf (n + 1) → gst n a b) ∧ ∀ a b : Int, 0 ≤ a → 0 ≤ b → b < gf (n + 2) → gst (n + 1) a b := by
  induction n with
  | zero =>
    refine ⟨fun a b a0 b0 h => ?_, fun a b a0 b0 h => Or.inl ?_⟩
    · have h : b < 1 := h
      show b = 0
      omega
    · have h : b < 1 := h
      omega
  | succ n ih =>
    refine ⟨ih.2, fun a b a0 b0 h => ?_⟩
    by_cases c : b = 0
    · exact Or.inl c
    · refine Or.inr ?_
      have r0 := Int.emod_nonneg a c
      have r1 := Int.emod_lt_of_pos a (show 0 < b by omega)
      by_cases d : a % b < gf (n + 2)
      · exact ih.2 b (a % b) b0 r0 d
      · have p := gf_pos (n + 1)
        have e := gf2 (n + 1)
        have e2 := gf2 n
        have p2 := gf_pos n
        have p3 : 1 ≤ gf (n + 2) := p.2
        refine Or.inr (ih.1 (a % b) (b % (a % b)) r0 (Int.emod_nonneg b (by omega)) ?_)
        have q := Int.mul_ediv_add_emod b (a % b)
        have q2 : 1 ≤ b / (a % b) := (Int.le_ediv_iff_mul_le (by omega)).mpr (by omega)
        have q3 : (a % b) * 1 ≤ (a % b) * (b / (a % b)) := Int.mul_le_mul_of_nonneg_left q2 r0
        have h : b < gf (n + 1 + 2) := h
        rw [e] at h
        have h : b < gf (n + 2) + gf (n + 1) := h
        omega
theorem gf_93 : gf 93 = 12200160415121876738 := by
  have h0 : gf 0 = 0 := rfl
  have h1 : gf 1 = 1 := rfl
  have h2 : gf 2 = 1 := by rw [gf2 0, h1, h0]; rfl
  have h3 : gf 3 = 2 := by rw [gf2 1, h2, h1]; rfl
  have h4 : gf 4 = 3 := by rw [gf2 2, h3, h2]; rfl
  have h5 : gf 5 = 5 := by rw [gf2 3, h4, h3]; rfl
  have h6 : gf 6 = 8 := by rw [gf2 4, h5, h4]; rfl
  have h7 : gf 7 = 13 := by rw [gf2 5, h6, h5]; rfl
  have h8 : gf 8 = 21 := by rw [gf2 6, h7, h6]; rfl
  have h9 : gf 9 = 34 := by rw [gf2 7, h8, h7]; rfl
  have h10 : gf 10 = 55 := by rw [gf2 8, h9, h8]; rfl
  have h11 : gf 11 = 89 := by rw [gf2 9, h10, h9]; rfl
  have h12 : gf 12 = 144 := by rw [gf2 10, h11, h10]; rfl
  have h13 : gf 13 = 233 := by rw [gf2 11, h12, h11]; rfl
  have h14 : gf 14 = 377 := by rw [gf2 12, h13, h12]; rfl
  have h15 : gf 15 = 610 := by rw [gf2 13, h14, h13]; rfl
  have h16 : gf 16 = 987 := by rw [gf2 14, h15, h14]; rfl
  have h17 : gf 17 = 1597 := by rw [gf2 15, h16, h15]; rfl
  have h18 : gf 18 = 2584 := by rw [gf2 16, h17, h16]; rfl
  have h19 : gf 19 = 4181 := by rw [gf2 17, h18, h17]; rfl
  have h20 : gf 20 = 6765 := by rw [gf2 18, h19, h18]; rfl
  have h21 : gf 21 = 10946 := by rw [gf2 19, h20, h19]; rfl
  have h22 : gf 22 = 17711 := by rw [gf2 20, h21, h20]; rfl
  have h23 : gf 23 = 28657 := by rw [gf2 21, h22, h21]; rfl
  have h24 : gf 24 = 46368 := by rw [gf2 22, h23, h22]; rfl
  have h25 : gf 25 = 75025 := by rw [gf2 23, h24, h23]; rfl
  have h26 : gf 26 = 121393 := by rw [gf2 24, h25, h24]; rfl
  have h27 : gf 27 = 196418 := by rw [gf2 25, h26, h25]; rfl
  have h28 : gf 28 = 317811 := by rw [gf2 26, h27, h26]; rfl
  have h29 : gf 29 = 514229 := by rw [gf2 27, h28, h27]; rfl
  have h30 : gf 30 = 832040 := by rw [gf2 28, h29, h28]; rfl
  have h31 : gf 31 = 1346269 := by rw [gf2 29, h30, h29]; rfl
  have h32 : gf 32 = 2178309 := by rw [gf2 30, h31, h30]; rfl
  have h33 : gf 33 = 3524578 := by rw [gf2 31, h32, h31]; rfl
  have h34 : gf 34 = 5702887 := by rw [gf2 32, h33, h32]; rfl
  have h35 : gf 35 = 9227465 := by rw [gf2 33, h34, h33]; rfl
  have h36 : gf 36 = 14930352 := by rw [gf2 34, h35, h34]; rfl
  have h37 : gf 37 = 24157817 := by rw [gf2 35, h36, h35]; rfl
  have h38 : gf 38 = 39088169 := by rw [gf2 36, h37, h36]; rfl
  have h39 : gf 39 = 63245986 := by rw [gf2 37, h38, h37]; rfl
  have h40 : gf 40 = 102334155 := by rw [gf2 38, h39, h38]; rfl
  have h41 : gf 41 = 165580141 := by rw [gf2 39, h40, h39]; rfl
  have h42 : gf 42 = 267914296 := by rw [gf2 40, h41, h40]; rfl
  have h43 : gf 43 = 433494437 := by rw [gf2 41, h42, h41]; rfl
  have h44 : gf 44 = 701408733 := by rw [gf2 42, h43, h42]; rfl
  have h45 : gf 45 = 1134903170 := by rw [gf2 43, h44, h43]; rfl
  have h46 : gf 46 = 1836311903 := by rw [gf2 44, h45, h44]; rfl
  have h47 : gf 47 = 2971215073 := by rw [gf2 45, h46, h45]; rfl
  have h48 : gf 48 = 4807526976 := by rw [gf2 46, h47, h46]; rfl
  have h49 : gf 49 = 7778742049 := by rw [gf2 47, h48, h47]; rfl
  have h50 : gf 50 = 12586269025 := by rw [gf2 48, h49, h48]; rfl
  have h51 : gf 51 = 20365011074 := by rw [gf2 49, h50, h49]; rfl
  have h52 : gf 52 = 32951280099 := by rw [gf2 50, h51, h50]; rfl
  have h53 : gf 53 = 53316291173 := by rw [gf2 51, h52, h51]; rfl
  have h54 : gf 54 = 86267571272 := by rw [gf2 52, h53, h52]; rfl
  have h55 : gf 55 = 139583862445 := by rw [gf2 53, h54, h53]; rfl
  have h56 : gf 56 = 225851433717 := by rw [gf2 54, h55, h54]; rfl
  have h57 : gf 57 = 365435296162 := by rw [gf2 55, h56, h55]; rfl
  have h58 : gf 58 = 591286729879 := by rw [gf2 56, h57, h56]; rfl
  have h59 : gf 59 = 956722026041 := by rw [gf2 57, h58, h57]; rfl
  have h60 : gf 60 = 1548008755920 := by rw [gf2 58, h59, h58]; rfl
  have h61 : gf 61 = 2504730781961 := by rw [gf2 59, h60, h59]; rfl
  have h62 : gf 62 = 4052739537881 := by rw [gf2 60, h61, h60]; rfl
  have h63 : gf 63 = 6557470319842 := by rw [gf2 61, h62, h61]; rfl
  have h64 : gf 64 = 10610209857723 := by rw [gf2 62, h63, h62]; rfl
  have h65 : gf 65 = 17167680177565 := by rw [gf2 63, h64, h63]; rfl
  have h66 : gf 66 = 27777890035288 := by rw [gf2 64, h65, h64]; rfl
  have h67 : gf 67 = 44945570212853 := by rw [gf2 65, h66, h65]; rfl
  have h68 : gf 68 = 72723460248141 := by rw [gf2 66, h67, h66]; rfl
  have h69 : gf 69 = 117669030460994 := by rw [gf2 67, h68, h67]; rfl
  have h70 : gf 70 = 190392490709135 := by rw [gf2 68, h69, h68]; rfl
  have h71 : gf 71 = 308061521170129 := by rw [gf2 69, h70, h69]; rfl
  have h72 : gf 72 = 498454011879264 := by rw [gf2 70, h71, h70]; rfl
  have h73 : gf 73 = 806515533049393 := by rw [gf2 71, h72, h71]; rfl
  have h74 : gf 74 = 1304969544928657 := by rw [gf2 72, h73, h72]; rfl
  have h75 : gf 75 = 2111485077978050 := by rw [gf2 73, h74, h73]; rfl
  have h76 : gf 76 = 3416454622906707 := by rw [gf2 74, h75, h74]; rfl
  have h77 : gf 77 = 5527939700884757 := by rw [gf2 75, h76, h75]; rfl
  have h78 : gf 78 = 8944394323791464 := by rw [gf2 76, h77, h76]; rfl
  have h79 : gf 79 = 14472334024676221 := by rw [gf2 77, h78, h77]; rfl
  have h80 : gf 80 = 23416728348467685 := by rw [gf2 78, h79, h78]; rfl
  have h81 : gf 81 = 37889062373143906 := by rw [gf2 79, h80, h79]; rfl
  have h82 : gf 82 = 61305790721611591 := by rw [gf2 80, h81, h80]; rfl
  have h83 : gf 83 = 99194853094755497 := by rw [gf2 81, h82, h81]; rfl
  have h84 : gf 84 = 160500643816367088 := by rw [gf2 82, h83, h82]; rfl
  have h85 : gf 85 = 259695496911122585 := by rw [gf2 83, h84, h83]; rfl
  have h86 : gf 86 = 420196140727489673 := by rw [gf2 84, h85, h84]; rfl
  have h87 : gf 87 = 679891637638612258 := by rw [gf2 85, h86, h85]; rfl
  have h88 : gf 88 = 1100087778366101931 := by rw [gf2 86, h87, h86]; rfl
  have h89 : gf 89 = 1779979416004714189 := by rw [gf2 87, h88, h87]; rfl
  have h90 : gf 90 = 2880067194370816120 := by rw [gf2 88, h89, h88]; rfl
  have h91 : gf 91 = 4660046610375530309 := by rw [gf2 89, h90, h89]; rfl
  have h92 : gf 92 = 7540113804746346429 := by rw [gf2 90, h91, h90]; rfl
  have h93 : gf 93 = 12200160415121876738 := by rw [gf2 91, h92, h91]; rfl
  exact h93
theorem gst_L {a b : Int} (a0 : 0 ≤ a) (b0 : 0 ≤ b) (b1 : b ≤ 9223372036854775807) : gst 100 a b := by
  refine gst_m (n := 92) (by decide) ((gst_f2 92).1 a b a0 b0 ?_)
  rw [gf_93]
  omega
/-- the class's turns are those of N -/
def tu_R (C N : xa_M) : Prop := ∀ a, 0 ≤ a → a < 10 → (N 77 a = 0 ∧ C 14 a = 0) ∨ (N 77 a = 1 ∧ (C 13 a = N 75 a ∧ C 14 a = N 76 a) ∧ (-1000000000000000 ≤ N 75 a ∧ N 75 a ≤ 1000000000000000) ∧ (1 ≤ N 76 a ∧ N 76 a ≤ 1000000000000000) ∧ Int.gcd (N 75 a) (N 76 a) = 1)
/-- meshes and teeth (N0: the reference's at the call) -/
def tu_M (N0 : xa_M) : Prop := (0 ≤ N0 60 6 ∧ N0 60 6 ≤ 16) ∧ ∀ m, 0 ≤ m → m < N0 60 6 → (0 ≤ N0 66 m ∧ N0 66 m < 14) ∧ (0 ≤ N0 67 m ∧ N0 67 m < 14) ∧ (0 ≤ N0 64 (N0 66 m) ∧ N0 64 (N0 66 m) < 10) ∧ (0 ≤ N0 64 (N0 67 m) ∧ N0 64 (N0 67 m) < 10) ∧ (10 ≤ N0 63 (N0 66 m) ∧ N0 63 (N0 66 m) ≤ 400) ∧ (10 ≤ N0 63 (N0 67 m) ∧ N0 63 (N0 67 m) ≤ 400)
theorem tu_M_of {M : xa_M} (hM : xa_Mok xm_I M) (hI : xm_Inv M) : tu_M M := by
  refine ⟨xm_f6 hM, fun m m0 m1 => ?_⟩
  have h := xm_msh hM hI m0 m1
  have t1 := xm_t63 hM (M 66 m) h.1.1 (by omega)
  have t2 := xm_t63 hM (M 67 m) h.2.1.1 (by omega)
  omega
/-- the class's core is N0's -/
def tu_C (C N0 : xa_M) : Prop := C 1 10 = N0 60 6 ∧ (∀ m, 0 ≤ m → m < 16 → C 7 m = N0 66 m ∧ C 8 m = N0 67 m) ∧ ∀ w, 0 ≤ w → w < 14 → C 5 w = N0 64 w ∧ C 4 w = N0 63 w
/-- what turns of the reference change -/
def tu_F (N0 N : xa_M) : Prop := ∀ (q : Nat) (j : Int), ¬ (75 ≤ q ∧ q ≤ 77) → ¬ (q = 60 ∧ (j = 25 ∨ j = 26)) → N q j = N0 q j
/-- of the class -/
def tu_G (C0 C : xa_M) : Prop := ∀ (q : Nat) (j : Int), ¬ (12 ≤ q ∧ q ≤ 14) → C q j = C0 q j
/-- a mesh, told on both sides -/
theorem tu_m {C C0 N N0 : xa_M} {m : Int} (hM : tu_M N0) (hC : tu_C C0 N0) (hG : tu_G C0 C) (hF : tu_F N0 N) (m0 : 0 ≤ m) (m1 : m < N0 60 6) : (C 1 10 = N 60 6 ∧ N 60 6 = N0 60 6) ∧ (C 7 m = N 66 m ∧ C 8 m = N 67 m) ∧ (C 5 (C 7 m) = N 64 (N 66 m) ∧ C 4 (C 7 m) = N 63 (N 66 m) ∧ C 5 (C 8 m) = N 64 (N 67 m) ∧ C 4 (C 8 m) = N 63 (N 67 m)) ∧ (0 ≤ C 7 m ∧ C 7 m < 14) ∧ (0 ≤ C 8 m ∧ C 8 m < 14) ∧ (0 ≤ C 5 (C 7 m) ∧ C 5 (C 7 m) < 10) ∧ (0 ≤ C 5 (C 8 m) ∧ C 5 (C 8 m) < 10) ∧ (10 ≤ C 4 (C 7 m) ∧ C 4 (C 7 m) ≤ 400) ∧ (10 ≤ C 4 (C 8 m) ∧ C 4 (C 8 m) ≤ 400) := by
  obtain ⟨hn, hm⟩ := hM
  obtain ⟨c1, c2, c3⟩ := hC
  obtain ⟨a1, a2, a3, a4, a5, a6⟩ := hm m m0 m1
  obtain ⟨d1, d2⟩ := c2 m m0 (by omega)
  obtain ⟨f1, f2⟩ := c3 (N0 66 m) a1.1 a1.2
  obtain ⟨f3, f4⟩ := c3 (N0 67 m) a2.1 a2.2
  have g := fun q j h => hG q j h
  have e66 := hF 66 m (by omega) (by omega)
  have e67 := hF 67 m (by omega) (by omega)
  have e6 := hF 60 6 (by omega) (by omega)
  have e7 : C 7 m = N0 66 m := (hG 7 m (by omega)).trans d1
  have e8 : C 8 m = N0 67 m := (hG 8 m (by omega)).trans d2
  have x1 : C 5 (N0 66 m) = N0 64 (N0 66 m) := (hG 5 _ (by omega)).trans f1
  have x2 : C 4 (N0 66 m) = N0 63 (N0 66 m) := (hG 4 _ (by omega)).trans f2
  have x3 : C 5 (N0 67 m) = N0 64 (N0 67 m) := (hG 5 _ (by omega)).trans f3
  have x4 : C 4 (N0 67 m) = N0 63 (N0 67 m) := (hG 4 _ (by omega)).trans f4
  have y1 := hF 64 (N0 66 m) (by omega) (by omega)
  have y2 := hF 63 (N0 66 m) (by omega) (by omega)
  have y3 := hF 64 (N0 67 m) (by omega) (by omega)
  have y4 := hF 63 (N0 67 m) (by omega) (by omega)
  have z1 := hG 1 10 (by omega)
  rw [e7, e8, e66, e67, x1, x2, x3, x4, y1, y2, y3, y4]
  omega
theorem tu_gp {x y : Int} (hy : 1 ≤ y) : 1 ≤ (Int.gcd x y : Int) := by
  have h : 0 < Int.gcd x y := Int.gcd_pos_of_ne_zero_right _ (by omega)
  omega
/-- a fraction in its least terms -/
theorem tu_low {x y g : Int} (hy : 1 ≤ y) (hg : g = (Int.gcd x y : Int)) : Int.gcd (x.tdiv g) (y / g) = 1 ∧ 1 ≤ y / g := by
  have g1 : 1 ≤ g := by
    rw [hg]
    exact tu_gp hy
  have d1 : g ∣ x := by
    rw [hg]
    exact Int.gcd_dvd_left ..
  have d2 : g ∣ y := by
    rw [hg]
    exact Int.gcd_dvd_right ..
  have e1 : x.tdiv g = x / g := by
    obtain ⟨k, rfl⟩ := d1
    rw [Int.mul_tdiv_cancel_left k (by omega), Int.mul_ediv_cancel_left k (by omega)]
  refine ⟨?_, (Int.le_ediv_iff_mul_le (by omega)).mpr (by rw [Int.one_mul]; exact Int.le_of_dvd (by omega) d2)⟩
  rw [e1, Int.gcd_ediv d1 d2, hg, Int.natAbs_natCast]
  exact Nat.div_self (by have := tu_gp (x := x) hy; omega)
theorem tu_sF {N0 N : xa_M} {t u l : Int} (h : tu_F N0 N) : tu_F N0 (xm_sto N t u l) := fun q j h1 h2 =>
  (xa_up_ne (by omega)).trans ((xa_up_ne (by omega)).trans ((xa_up_ne (by omega)).trans ((xa_up_ne (by omega)).trans ((xa_up_ne (by omega)).trans (h q j h1 h2)))))
theorem tu_sv {N : xa_M} {t u l a : Int} : (xm_sto N t u l) 77 a = (if a = t then 1 else N 77 a) ∧ (xm_sto N t u l) 76 a = (if a = t then l else N 76 a) ∧ (xm_sto N t u l) 75 a = (if a = t then u else N 75 a) := by
  unfold xm_sto
  by_cases e : a = t
  · subst e
    rw [if_pos rfl, if_pos rfl, if_pos rfl]
    exact ⟨xa_up_eq, (xa_up_ne (by omega)).trans xa_up_eq, (xa_up_ne (by omega)).trans ((xa_up_ne (by omega)).trans xa_up_eq)⟩
  · rw [if_neg e, if_neg e, if_neg e]
    exact ⟨(xa_up_ne (by omega)).trans ((xa_up_ne (by omega)).trans ((xa_up_ne (by omega)).trans ((xa_up_ne (by omega)).trans (xa_up_ne (by omega))))), (xa_up_ne (by omega)).trans ((xa_up_ne (by omega)).trans ((xa_up_ne (by omega)).trans ((xa_up_ne (by omega)).trans (xa_up_ne (by omega))))), (xa_up_ne (by omega)).trans ((xa_up_ne (by omega)).trans ((xa_up_ne (by omega)).trans ((xa_up_ne (by omega)).trans (xa_up_ne (by omega)))))⟩
theorem tu_Rs {C C1 N : xa_M} {t u l : Int} (h : tu_R C N) (hu : -1000000000000000 ≤ u ∧ u ≤ 1000000000000000) (hl : 1 ≤ l ∧ l ≤ 1000000000000000) (hg : Int.gcd u l = 1) (e : ∀ a, 0 ≤ a → a < 10 → C1 13 a = (if a = t then u else C 13 a) ∧ C1 14 a = (if a = t then l else C 14 a)) : tu_R C1 (xm_sto N t u l) := by
  intro a a0 a1
  obtain ⟨e1, e2⟩ := e a a0 a1
  obtain ⟨s1, s2, s3⟩ := tu_sv (N := N) (t := t) (u := u) (l := l) (a := a)
  rw [s1, s2, s3, e1, e2]
  by_cases c : a = t
  · rw [if_pos c, if_pos c, if_pos c, if_pos c, if_pos c]
    exact Or.inr ⟨rfl, ⟨rfl, rfl⟩, hu, hl, hg⟩
  · rw [if_neg c, if_neg c, if_neg c, if_neg c, if_neg c]
    exact h a a0 a1
theorem tu_RR {N : xa_M} {t u l : Int} (t0 : 0 ≤ t) (t1 : t < 10) (h : N 77 t = 0) : xm_R (xm_sto N t u l) = xm_R N + 1 := by
  have e : ∀ j, (xm_sto N t u l) 77 j = (xa_up N 77 t 1) 77 j := fun j => by
    rw [(tu_sv (N := N) (t := t) (u := u) (l := l) (a := j)).1]
    by_cases c : j = t
    · rw [if_pos c, c]
      exact xa_up_eq.symm
    · rw [if_neg c]
      exact (xa_up_ne (by omega)).symm
  rw [xm_R_c (M := xa_up N 77 t 1) e]
  exact xm_R_up t0 t1 h
theorem tu_R10 {C N : xa_M} (h : tu_R C N) : xm_R N ≤ 10 := by
  have b : ∀ a, 0 ≤ a → a < 10 → N 77 a ≤ 1 := fun a a0 a1 => by
    rcases h a a0 a1 with ⟨e, -⟩ | ⟨e, -⟩ <;> omega
  have b0 := b 0 (by omega) (by omega)
  have b1 := b 1 (by omega) (by omega)
  have b2 := b 2 (by omega) (by omega)
  have b3 := b 3 (by omega) (by omega)
  have b4 := b 4 (by omega) (by omega)
  have b5 := b 5 (by omega) (by omega)
  have b6 := b 6 (by omega) (by omega)
  have b7 := b 7 (by omega) (by omega)
  have b8 := b 8 (by omega) (by omega)
  have b9 := b 9 (by omega) (by omega)
  unfold xm_R
  omega
/-- reached, told on both sides -/
theorem tu_z {C N : xa_M} {a : Int} (h : tu_R C N) (a0 : 0 ≤ a) (a1 : a < 10) : (C 14 a = 0 ∧ N 77 a = 0) ∨ (¬ C 14 a = 0 ∧ N 77 a = 1) := by
  rcases h a a0 a1 with ⟨e1, e2⟩ | ⟨e1, ⟨-, e2⟩, -, e3, -⟩
  · exact Or.inl ⟨e2, e1⟩
  · exact Or.inr ⟨by omega, e1⟩
/-- a mesh reaches an axle -/
theorem tu_step {C C0 N N0 : xa_M} {m z dr dn g u l but : Int} {n : Nat} (hM : tu_M N0) (hC : tu_C C0 N0) (hG : tu_G C0 C) (hF : tu_F N0 N) (hR : tu_R C N) (m0 : 0 ≤ m) (m1 : m < N0 60 6) (hb : ¬ m = but) (hd : (dr = C 7 m ∧ dn = C 8 m) ∨ (dr = C 8 m ∧ dn = C 7 m)) (h1 : ¬ C 14 (C 5 dr) = 0) (h2 : C 14 (C 5 dn) = 0) (hg : g = (Int.gcd (-(C 13 (C 5 dr)) * C 4 dr) (C 14 (C 5 dr) * C 4 dn) : Int)) (hu : u = (-(C 13 (C 5 dr)) * C 4 dr).tdiv g) (hl : l = (C 14 (C 5 dr) * C 4 dn) / g) : ((1000000000000000 < (u.natAbs : Int) ∨ 1000000000000000 < l) → xm_fC but (n + 1) m z N = none) ∧ (¬ (1000000000000000 < (u.natAbs : Int) ∨ 1000000000000000 < l) → xm_fC but (n + 1) m z N = xm_fC but n (m + 1) 1 (xm_sto N (C 5 dn) u l) ∧ tu_F N0 (xm_sto N (C 5 dn) u l) ∧ xm_R (xm_sto N (C 5 dn) u l) = xm_R N + 1 ∧ ∀ C1 : xa_M, (∀ a, 0 ≤ a → a < 10 → C1 13 a = (if a = C 5 dn then u else C 13 a) ∧ C1 14 a = (if a = C 5 dn then l else C 14 a)) → tu_R C1 (xm_sto N (C 5 dn) u l)) := by
  obtain ⟨⟨k1, k2⟩, ⟨k3, k4⟩, ⟨k5, k6, k7, k8⟩, k9, k10, k11, k12, k13, k14⟩ := tu_m hM hC hG hF m0 m1
  have hm : m < N 60 6 := by omega
  have za := tu_z hR k11.1 k11.2
  have zb := tu_z hR k12.1 k12.2
  rw [k5] at za
  rw [k7] at zb
  -- from the driver's axle
  have key : ∀ a b c t : Int, a = C 5 dr → b = dr → c = dn → t = C 5 dn → ((N 77 (N 64 (N 66 m)) = 0 ∧ a = N 64 (N 67 m) ∧ b = N 67 m ∧ c = N 66 m ∧ t = N 64 (N 66 m)) ∨ (¬ N 77 (N 64 (N 66 m)) = 0 ∧ a = N 64 (N 66 m) ∧ b = N 66 m ∧ c = N 67 m ∧ t = N 64 (N 67 m))) → ¬ (m = but ∨ N 77 (N 64 (N 66 m)) = N 77 (N 64 (N 67 m))) → C 4 dr = N 63 b → C 4 dn = N 63 c → (0 ≤ a ∧ a < 10) → (0 ≤ t ∧ t < 10) → (10 ≤ C 4 dr ∧ C 4 dr ≤ 400) → (10 ≤ C 4 dn ∧ C 4 dn ≤ 400) → ((1000000000000000 < (u.natAbs : Int) ∨ 1000000000000000 < l) → xm_fC but (n + 1) m z N = none) ∧ (¬ (1000000000000000 < (u.natAbs : Int) ∨ 1000000000000000 < l) → xm_fC but (n + 1) m z N = xm_fC but n (m + 1) 1 (xm_sto N (C 5 dn) u l) ∧ tu_F N0 (xm_sto N (C 5 dn) u l) ∧ xm_R (xm_sto N (C 5 dn) u l) = xm_R N + 1 ∧ ∀ C1 : xa_M, (∀ a, 0 ≤ a → a < 10 → C1 13 a = (if a = C 5 dn then u else C 13 a) ∧ C1 14 a = (if a = C 5 dn then l else C 14 a)) → tu_R C1 (xm_sto N (C 5 dn) u l)) := by
    intro a b c t ea eb ec et hs hn t1 t2 ra rt f1 f2
    rw [← ea] at h1 hg hu hl
    rw [← et] at h2 ⊢
    have q1 : C 13 a = N 75 a ∧ C 14 a = N 76 a ∧ 1 ≤ N 76 a := by
      rcases hR a ra.1 ra.2 with ⟨-, e⟩ | ⟨-, e, -, e3, -⟩
      · exact absurd e h1
      · exact ⟨e.1, e.2, e3.1⟩
    have q2 : N 77 t = 0 := by
      rcases hR t rt.1 rt.2 with ⟨e, -⟩ | ⟨-, ⟨-, e⟩, -, e3, -⟩
      · exact e
      · omega
    obtain ⟨lo1, lo2⟩ := tu_low (x := -(C 13 a) * C 4 dr) (y := C 14 a * C 4 dn) (g := g) (by
      have := Int.mul_le_mul (show (1 : Int) ≤ C 14 a by omega) (show (1 : Int) ≤ C 4 dn by omega) (by decide) (by omega)
      omega) hg
    rw [← hu, ← hl] at lo1
    rw [← hl] at lo2
    rw [q1.1, q1.2.1, t1, t2] at hg
    rw [q1.1, t1] at hu
    rw [q1.2.1, t2] at hl
    have hled : xm_led N a b c u l := ⟨g, hg, hu, hl⟩
    refine ⟨fun h3 => xm_fC_no hm hn hs hled h3, fun h3 => ⟨xm_fC_go hm hn hs hled h3, tu_sF hF, tu_RR rt.1 rt.2 q2, fun C1 hC1 => tu_Rs hR (by omega) (by omega) lo1 hC1⟩⟩
  rcases hd with ⟨d1, d2⟩ | ⟨d1, d2⟩
  · rw [d1, k5] at h1
    rw [d2, k7] at h2
    have na : N 77 (N 64 (N 66 m)) = 1 := by omega
    have nb : N 77 (N 64 (N 67 m)) = 0 := by omega
    exact key (N 64 (N 66 m)) (N 66 m) (N 67 m) (N 64 (N 67 m)) (by rw [d1, k5]) (by rw [d1, k3]) (by rw [d2, k4]) (by rw [d2, k7]) (Or.inr ⟨by omega, rfl, rfl, rfl, rfl⟩) (by omega) (by rw [d1, k6]) (by rw [d2, k8]) (by rw [← k5]; exact k11) (by rw [← k7]; exact k12) (by rw [d1]; exact k13) (by rw [d2]; exact k14)
  · rw [d1, k7] at h1
    rw [d2, k5] at h2
    have na : N 77 (N 64 (N 66 m)) = 0 := by omega
    have nb : N 77 (N 64 (N 67 m)) = 1 := by omega
    exact key (N 64 (N 67 m)) (N 67 m) (N 66 m) (N 64 (N 66 m)) (by rw [d1, k7]) (by rw [d1, k4]) (by rw [d2, k3]) (by rw [d2, k5]) (Or.inl ⟨na, rfl, rfl, rfl, rfl⟩) (by omega) (by rw [d1, k8]) (by rw [d2, k6]) (by rw [← k7]; exact k12) (by rw [← k5]; exact k11) (by rw [d1]; exact k14) (by rw [d2]; exact k13)
/-- a mesh that reaches none -/
theorem tu_skip {C C0 N N0 : xa_M} {m z but : Int} {n : Nat} (hM : tu_M N0) (hC : tu_C C0 N0) (hG : tu_G C0 C) (hF : tu_F N0 N) (hR : tu_R C N) (m0 : 0 ≤ m) (m1 : m < N0 60 6) (h : m = but ∨ (¬ C 14 (C 5 (C 7 m)) = 0 ∧ ¬ C 14 (C 5 (C 8 m)) = 0) ∨ (C 14 (C 5 (C 7 m)) = 0 ∧ C 14 (C 5 (C 8 m)) = 0)) : xm_fC but (n + 1) m z N = xm_fC but n (m + 1) z N ∧ (¬ m = but → N 77 (N0 64 (N0 66 m)) = N 77 (N0 64 (N0 67 m))) := by
  obtain ⟨⟨k1, k2⟩, ⟨k3, k4⟩, ⟨k5, k6, k7, k8⟩, k9, k10, k11, k12, k13, k14⟩ := tu_m hM hC hG hF m0 m1
  have za := tu_z hR k11.1 k11.2
  have zb := tu_z hR k12.1 k12.2
  rw [k5] at za h
  rw [k7] at zb h
  have e66 := hF 66 m (by omega) (by omega)
  have e67 := hF 67 m (by omega) (by omega)
  have y1 := hF 64 (N0 66 m) (by omega) (by omega)
  have y3 := hF 64 (N0 67 m) (by omega) (by omega)
  refine ⟨xm_fC_skip (by omega) (by omega), fun hb => ?_⟩
  rw [← y1, ← y3, ← e66, ← e67]
  omega
/-- what a pass leaves -/
def tu_O (N0 N : xa_M) (but : Int) (o : Option (Int × xa_M)) (r : Int) (C1 : xa_M) : Prop := match o with
  | none => C1 12 2 = 1
  | some p => C1 12 2 = 0 ∧ (r = p.1 ∧ (r = 0 ∨ r = 1)) ∧ tu_R C1 p.2 ∧ tu_F N0 p.2 ∧ xm_R N + r ≤ xm_R p.2 ∧ (r = 0 → ∀ m, 0 ≤ m → m < N0 60 6 → ¬ m = but → p.2 77 (N0 64 (N0 66 m)) = p.2 77 (N0 64 (N0 67 m)))
/-- z stays -/
theorem tu_fD1 {but : Int} (n : Nat) : ∀ (m : Int) (z : Int) (N : xa_M), ¬ z = 0 → ¬ (xm_fD but n m z N).1 = 0 := by
  induction n with
  | zero => intro m z N h; exact h
  | succ n ih =>
    intro m z N h
    rw [xm_fD]
    split
    · split
      · exact ih _ _ _ h
      · refine ih _ _ _ ?_
        rw [if_pos (Or.inl h)]
        decide
    · exact h
theorem tu_fDq {but : Int} (n : Nat) : ∀ (m : Int) (z : Int) (N : xa_M), ∀ q j, 75 ≤ q → q ≤ 77 → (xm_fD but n m z N).2 q j = N q j := by
  induction n with
  | zero => intro m z N q j _ _; rfl
  | succ n ih =>
    intro m z N q j h1 h2
    rw [xm_fD]
    split
    · split
      · exact ih _ _ _ q j h1 h2
      · rw [ih _ _ _ q j h1 h2]
        exact (xa_up_ne (by omega)).trans (xa_up_ne (by omega))
    · rfl
theorem tu_Rq {C N N' : xa_M} (h : tu_R C N) (e : ∀ q j, 75 ≤ q → q ≤ 77 → N' q j = N q j) : tu_R C N' := fun a a0 a1 => by
  rw [e 75 a (by decide) (by decide), e 76 a (by decide) (by decide), e 77 a (by decide) (by decide)]
  exact h a a0 a1
theorem tu_ini {N0 : xa_M} : (∀ a, 0 ≤ a → a < 10 → (xm_ini N0) 77 a = if a = 0 then 1 else 0) ∧ (xm_ini N0) 75 0 = 1 ∧ (xm_ini N0) 76 0 = 1 ∧ tu_F N0 (xm_ini N0) ∧ xm_R (xm_ini N0) = 1 := by
  have h : ∀ a, 0 ≤ a → a < 10 → (xm_ini N0) 77 a = if a = 0 then 1 else 0 := fun a a0 a1 => by
    rcases (show a = 0 ∨ a = 1 ∨ a = 2 ∨ a = 3 ∨ a = 4 ∨ a = 5 ∨ a = 6 ∨ a = 7 ∨ a = 8 ∨ a = 9 by omega) with e | e | e | e | e | e | e | e | e | e <;> subst e <;> simp [xm_ini, xm_i77, xa_up]
  refine ⟨h, (xa_up_ne (by omega)).trans xa_up_eq, xa_up_eq, fun q j h1 h2 => ?_, ?_⟩
  · unfold xm_ini
    rw [xa_up_ne (by omega), xa_up_ne (by omega), xm_i77_q _ _ _ _ _ (by omega)]
  · unfold xm_R
    rw [h 0 (by omega) (by omega), h 1 (by omega) (by omega), h 2 (by omega) (by omega), h 3 (by omega) (by omega), h 4 (by omega) (by omega), h 5 (by omega) (by omega), h 6 (by omega) (by omega), h 7 (by omega) (by omega), h 8 (by omega) (by omega), h 9 (by omega) (by omega)]
    decide
theorem tu_iniR {C N0 : xa_M} (h13 : C 13 0 = 1) (h14 : C 14 0 = 1) (hz : ∀ a, 0 < a → a < 10 → C 14 a = 0) : tu_R C (xm_ini N0) := by
  obtain ⟨i1, i2, i3, -, -⟩ := tu_ini (N0 := N0)
  intro a a0 a1
  rw [i1 a a0 a1]
  by_cases e : a = 0
  · rw [if_pos e, e, h13, h14, i2, i3]
    exact Or.inr ⟨rfl, ⟨rfl, rfl⟩, by decide, by decide, by decide⟩
  · rw [if_neg e]
    exact Or.inl ⟨rfl, hz a (by omega) a1⟩
/-- what solve answers, what it leaves -/
def tu_V (but : Int) (N0 : xa_M) (v : Int) (C1 : xa_M) : Prop := ∃ N : xa_M, xm_FT but N0 v N ∧ (¬ v = -5 → tu_R C1 N)
theorem tu_V5 {but : Int} {N0 C1 : xa_M} (h : xm_fB but 23 1 (xm_ini N0) = none) : tu_V but N0 (-5) C1 := by
  refine ⟨N0, ?_, fun h => absurd rfl h⟩
  unfold xm_FT
  rw [h]
  rfl
theorem tu_Vv {but v : Int} {N0 N1 C1 : xa_M} (h : xm_fB but 23 1 (xm_ini N0) = some N1) (hR : tu_R C1 N1) (hv : v = if (xm_fD but 17 0 0 N1).1 = 0 then 0 else -3) : tu_V but N0 v C1 := by
  refine ⟨(xm_fD but 17 0 0 N1).2, ?_, fun _ => tu_Rq hR (tu_fDq _ _ _ _)⟩
  unfold xm_FT
  rw [h]
  exact ⟨hv, rfl⟩
/-- both sides are one -/
theorem tu_one {but v v' : Int} {N0 M' N' C1 : xa_M} (hr : xm_rng N0) (hc : xm_cor N0 M') (h : tu_V but N0 v C1) (h' : xm_FT but M' v' N') : v' = v ∧ (¬ v = -5 → tu_R C1 N') := by
  obtain ⟨N, h1, h2⟩ := h
  obtain ⟨e, ha⟩ := xm_FT_det hc hr h1 h'
  refine ⟨e, fun hv => ?_⟩
  have hR := h2 hv
  have ha := (ha hv).2
  intro a a0 a1
  obtain ⟨b1, b2, b3⟩ := ha a a0 a1
  rcases hR a a0 a1 with ⟨e1, e2⟩ | ⟨e1, e2⟩
  · exact Or.inl ⟨by omega, e2⟩
  · obtain ⟨c1, c2⟩ := b3 e1
    rw [b2, c1, c2]
    exact Or.inr ⟨e1, e2⟩
/-- a mesh agrees with the turns -/
theorem tu_fDg {C C0 N N0 : xa_M} {m but : Int} {n : Nat} (hM : tu_M N0) (hC : tu_C C0 N0) (hG : tu_G C0 C) (hF : tu_F N0 N) (hR : tu_R C N) (m0 : 0 ≤ m) (m1 : m < N0 60 6) (hfix : ¬ m = but → N 77 (N0 64 (N0 66 m)) = N 77 (N0 64 (N0 67 m))) {g u l : Int} (hg : g = (Int.gcd (-(C 13 (C 5 (C 7 m))) * C 4 (C 7 m)) (C 14 (C 5 (C 7 m)) * C 4 (C 8 m)) : Int)) (hu : u = (-(C 13 (C 5 (C 7 m))) * C 4 (C 7 m)).tdiv g) (hl : l = (C 14 (C 5 (C 7 m)) * C 4 (C 8 m)) / g) : (m = but ∨ C 14 (C 5 (C 7 m)) = 0 → xm_fD but (n + 1) m 0 N = xm_fD but n (m + 1) 0 N) ∧ (¬ (m = but ∨ C 14 (C 5 (C 7 m)) = 0) → xm_fD but (n + 1) m 0 N = xm_fD but n (m + 1) (if u = C 13 (C 5 (C 8 m)) ∧ l = C 14 (C 5 (C 8 m)) then 0 else 1) (xa_up (xa_up N 60 25 u) 60 26 l)) := by
  obtain ⟨⟨k1, k2⟩, ⟨k3, k4⟩, ⟨k5, k6, k7, k8⟩, k9, k10, k11, k12, k13, k14⟩ := tu_m hM hC hG hF m0 m1
  have e66 := hF 66 m (by omega) (by omega)
  have e67 := hF 67 m (by omega) (by omega)
  have y1 := hF 64 (N0 66 m) (by omega) (by omega)
  have y3 := hF 64 (N0 67 m) (by omega) (by omega)
  rw [← y1, ← y3, ← e66, ← e67] at hfix
  have za := tu_z hR k11.1 k11.2
  have zb := tu_z hR k12.1 k12.2
  refine ⟨fun h => xm_fD_skip (by omega) ?_, fun h => ?_⟩
  · rw [k5] at za h
    rcases h with h | h
    · exact Or.inl h
    · exact Or.inr (Or.inl (by omega))
  · have n1 : N 77 (N 64 (N 66 m)) = 1 := by
      rw [k5] at za h
      omega
    have n2 : N 77 (N 64 (N 67 m)) = 1 := by
      have := hfix (by omega)
      omega
    have qa : C 13 (C 5 (C 7 m)) = N 75 (N 64 (N 66 m)) ∧ C 14 (C 5 (C 7 m)) = N 76 (N 64 (N 66 m)) := by
      rw [k5]
      rcases hR (N 64 (N 66 m)) (by rw [← k5]; exact k11.1) (by rw [← k5]; exact k11.2) with ⟨e, -⟩ | ⟨-, e, -⟩
      · omega
      · exact e
    have qb : C 13 (C 5 (C 8 m)) = N 75 (N 64 (N 67 m)) ∧ C 14 (C 5 (C 8 m)) = N 76 (N 64 (N 67 m)) := by
      rw [k7]
      rcases hR (N 64 (N 67 m)) (by rw [← k7]; exact k12.1) (by rw [← k7]; exact k12.2) with ⟨e, -⟩ | ⟨-, e, -⟩
      · omega
      · exact e
    rw [qa.1, qa.2, k6, k8] at hg
    rw [qa.1, k6] at hu
    rw [qa.2, k8] at hl
    rw [qb.1, qb.2]
    refine xm_fD_go (by omega) (by omega) ⟨g, hg, hu, hl⟩ ?_
    by_cases c : u = N 75 (N 64 (N 67 m)) ∧ l = N 76 (N 64 (N 67 m))
    · rw [if_pos c, if_neg (by omega)]
    · rw [if_neg c, if_pos (by omega)]
-- turns of the class, told
set_option maxRecDepth 20000
theorem tu_b1 {p q : Int} (h : -1000000000000000 ≤ p ∧ p ≤ 1000000000000000) (h2 : 10 ≤ q ∧ q ≤ 400) : -400000000000000000 ≤ -p * q ∧ -p * q ≤ 400000000000000000 := xa_mul_ok (p := -1000000000000000) (q := 1000000000000000) (r := 0) (s := 400) (by omega) (by omega) (by omega) (by omega)
theorem tu_b2 {p q : Int} (h : 1 ≤ p ∧ p ≤ 1000000000000000) (h2 : 10 ≤ q ∧ q ≤ 400) : 1 ≤ p * q ∧ p * q ≤ 400000000000000000 := by
  have a := xa_mul_ok (p := 0) (q := 1000000000000000) (r := 0) (s := 400) (show 0 ≤ p by omega) h.2 (show 0 ≤ q by omega) h2.2
  have c := Int.mul_le_mul (show (1 : Int) ≤ p by omega) (show (1 : Int) ≤ q by omega) (by decide) (by omega)
  exact ⟨by omega, a.2⟩
theorem tu_w1 {p q : Int} (h : -1000000000000000 ≤ p ∧ p ≤ 1000000000000000) (h2 : 10 ≤ q ∧ q ≤ 400) : xa_w64 ((xa_w64 (-p)) * q) = -p * q := by
  have b := tu_b1 h h2
  rw [xa_w64_id (n := -p) (by omega) (by omega), xa_w64_id (by omega) (by omega)]
theorem tu_w2 {p q : Int} (h : 1 ≤ p ∧ p ≤ 1000000000000000) (h2 : 10 ≤ q ∧ q ≤ 400) : xa_w64 (p * q) = p * q := by
  have b := tu_b2 h h2
  exact xa_w64_id (by omega) (by omega)
theorem tu_td {x g : Int} (hg : 1 ≤ g) : ((x.tdiv g).natAbs : Int) ≤ (x.natAbs : Int) := by
  have e : (x.tdiv g).natAbs = x.natAbs / g.natAbs := Int.natAbs_tdiv x g
  rw [e]
  exact Int.ofNat_le.mpr (Nat.div_le_self _ _)
theorem cx_55g {b : Bool} {A : Nat → Nat} {h0 : g_H} {d : Nat} {M : xa_M} {post : Option xa_V → xa_M → Prop} {l1 u1 l2 u2 x y : Int} (hx : -9223372036854775807 ≤ x ∧ x ≤ 9223372036854775807) (hy : -9223372036854775807 ≤ y ∧ y ≤ 9223372036854775807) (k : ∀ g : Int, g = (Int.gcd x y : Int) → 0 ≤ g → g ≤ 9223372036854775807 → post (some (1, 0, 0, 9223372036854775807, g)) M) : xa_C (xl_I b) A h0 (d + 2) 55 [(1, 0, l1, u1, x), (1, 0, l2, u2, y)] M post := by
  refine xa_C_wk ?_
  refine xa_C_arg [(1, 0, (-9223372036854775808), 9223372036854775807, x), (1, 0, (-9223372036854775808), 9223372036854775807, y)] (xa_svL (fun _ _ _ _ => by omega) (xa_svL (fun _ _ _ _ => by omega) xa_sv0)) ?_
  refine xa_meth (Q0 := (11, 3, false, 0, 0, 11)) (by decide +kernel) ⟨rfl, rfl⟩ (full := s_c_55) rfl rfl ?_
  intro hM hv Q hgo
  have loop : ∀ (f : Nat) (i a b : Int), 0 ≤ i ∧ i ≤ 100 → 0 ≤ a ∧ a ≤ 9223372036854775807 → 0 ≤ b ∧ b ≤ 9223372036854775807 → Int.gcd a b = Int.gcd x y → gst (100 - i).toNat a b → 100 - i < (f : Int) → Q 15 [(8, (0, 0, 0, 100, i)), (4, (1, 0, 0, 9223372036854775807, a)), (6, (1, 0, 0, 9223372036854775807, b))] [] M := by
    intro f
    induction f with
    | zero => intro i a b i1 a1 b1 hg hst hms; omega
    | succ f ih =>
      intro i a b i1 a1 b1 hg hst hms
      refine hgo.1 21 [15] 15 _ _ _ ?_
      refine And.intro ?_ ?_
      · intro (c1 : 100 ≤ i)
        show xa_wk post (some (1, 0, 0, 9223372036854775807, a)) M
        have z : b = 0 := by
          rw [show (100 - i).toNat = 0 by omega] at hst
          exact hst
        rw [z, Int.gcd_zero_right] at hg
        exact xa_wkL a rfl (fun _ _ => by omega) (k a (by rw [← hg]; omega) (by omega) (by omega))
      · intro (c1 : i < 100)
        refine And.intro ?_ ?_
        · intro (c2 : b = 0)
          show xa_wk post (some (1, 0, 0, 9223372036854775807, a)) M
          have z : b = 0 := by omega
          rw [z, Int.gcd_zero_right] at hg
          exact xa_wkL a rfl (fun _ _ => by omega) (k a (by rw [← hg]; omega) (by omega) (by omega))
        · intro (c2 : ¬ b = 0)
          refine And.intro (show 0 < b by omega) ?_
          show Q 15 [(8, (0, 0, 1, 101, i + 1)), (6, (1, 0, 0, 9223372036854775806, a % b)), (4, (1, 0, 0, 9223372036854775807, b)), (9, (1, 0, 0, 9223372036854775806, a % b))] [] M
          have m0 := Int.emod_nonneg a (show b ≠ 0 by omega)
          have m1 := Int.emod_lt_of_pos a (show 0 < b by omega)
          refine hgo.2.1 15 _ [(8, (0, 0, 0, 100, i + 1)), (4, (1, 0, 0, 9223372036854775807, b)), (6, (1, 0, 0, 9223372036854775807, a % b))] _ _ (xa_subI rfl rfl (fun _ _ _ _ => by omega) (xa_subL rfl rfl (fun _ _ _ _ => by omega) (xa_subL rfl rfl (fun _ _ _ _ => by omega) (xa_sub0)))) ?_
          obtain ⟨k9, hk9⟩ : ∃ k, (100 - i).toNat = k + 1 := ⟨(99 - i).toNat, by omega⟩
          rw [hk9] at hst
          rcases hst with hst | hst
          · exact absurd hst (by omega)
          · exact ih (i + 1) b (a % b) (by omega) (by omega) (by omega) (by rw [← hg]; exact xa_gcd_step (by omega) (by omega)) (by rw [show (100 - (i + 1)).toNat = k9 by omega]; exact hst) (by omega)
  refine hgo.1 13 [15] 0 _ _ _ ?_
  show xa_C (xl_I b) A h0 _ 56 [(1, 0, (-9223372036854775808), 9223372036854775807, x)] M _
  refine ct_abs (lo := 0) (hi := 9223372036854775807) (show -9223372036854775808 < x by omega) (fun r101 h102 => ⟨by omega, ?_⟩)
  show xa_C (xl_I b) A h0 _ 56 [(1, 0, (-9223372036854775808), 9223372036854775807, y)] M _
  refine ct_abs (lo := 0) (hi := 9223372036854775807) (show -9223372036854775808 < y by omega) (fun r103 h104 => ⟨by omega, ?_⟩)
  show Q 15 [(8, (0, 0, 0, 0, 0)), (6, (1, 0, 0, 9223372036854775807, r103)), (4, (1, 0, 0, 9223372036854775807, r101)), (0, (1, 0, (-9223372036854775808), 9223372036854775807, x)), (2, (1, 0, (-9223372036854775808), 9223372036854775807, y))] [] M
  refine hgo.2.1 15 _ [(8, (0, 0, 0, 100, 0)), (4, (1, 0, 0, 9223372036854775807, r101)), (6, (1, 0, 0, 9223372036854775807, r103))] _ _ (xa_subI rfl rfl (fun _ _ _ _ => by omega) (xa_subL rfl rfl (fun _ _ _ _ => by omega) (xa_subL rfl rfl (fun _ _ _ _ => by omega) (xa_sub0)))) ?_
  exact loop 101 0 r101 r103 (by omega) (by omega) (by omega) (by rw [h102, h104]; rfl) (gst_L (by omega) (by omega) (by omega)) (by omega)
theorem cx_55x {b : Bool} {A : Nat → Nat} {h0 : g_H} {d : Nat} {M : xa_M} {post : Option xa_V → xa_M → Prop} {l1 u1 l2 u2 x y x' y' : Int} (ex : x = x') (ey : y = y') (hx : -400000000000000000 ≤ x' ∧ x' ≤ 400000000000000000) (hy : 1 ≤ y' ∧ y' ≤ 400000000000000000) (k : ∀ g : Int, g = (Int.gcd x' y' : Int) → 1 ≤ g → g ≤ 400000000000000000 → post (some (1, 0, 0, 9223372036854775807, g)) M) : xa_C (xl_I b) A h0 (d + 2) 55 [(1, 0, l1, u1, x), (1, 0, l2, u2, y)] M post := by
  subst ex
  subst ey
  refine cx_55g (by omega) (by omega) (fun g hg g0 g1 => k g hg (by rw [hg]; exact tu_gp hy.1) ?_)
  have hd : g ∣ y := by
    rw [hg]
    exact Int.gcd_dvd_right ..
  have := Int.le_of_dvd (by omega) hd
  omega
theorem cx_21t {b : Bool} {A : Nat → Nat} {h0 : g_H} {d : Nat} {M : xa_M} {post : Option xa_V → xa_M → Prop} {l1 u1 l2 u2 x x' y : Int} (ex : x = x') (hy : 1 ≤ y ∧ y ≤ 9223372036854775807) (k : post (some (1, 0, -9223372036854775808, 9223372036854775807, x'.tdiv y)) M) : xa_C (xl_I b) A h0 (d + 1) 21 [(1, 0, l1, u1, x), (1, 0, l2, u2, y)] M post := by
  subst ex
  refine xa_C_arg [(1, 0, (-9223372036854775808), 9223372036854775807, x), (1, 0, 0, 9223372036854775807, y)] (xa_svL (fun _ _ _ _ => by omega) (xa_svL (fun _ _ _ _ => by omega) xa_sv0)) ?_
  refine xa_meth (Q0 := (4, 3, false, 0, 0, 11)) (by decide +kernel) ⟨rfl, rfl⟩ (full := s_c_21) rfl rfl ?_
  intro hM hv Q hgo
  refine hgo.1 11 [] 0 _ _ _ ?_
  refine And.intro ?_ ?_
  · intro (c1 : ¬ y = 0)
    refine And.intro (show 0 < y by omega) ?_
    show post (some (1, 0, (-9223372036854775808), 9223372036854775807, x.tdiv y)) M
    exact k
  · intro (c1 : y = 0)
    show post (some (1, 0, 0, 0, 0)) M
    exfalso
    omega
theorem cx_21n {b : Bool} {A : Nat → Nat} {h0 : g_H} {d : Nat} {M : xa_M} {post : Option xa_V → xa_M → Prop} {l1 u1 l2 u2 x x' y : Int} (ex : x = x') (h0' : 0 ≤ x') (hy : 1 ≤ y ∧ y ≤ 9223372036854775807) (k : post (some (1, 0, -9223372036854775808, 9223372036854775807, x' / y)) M) : xa_C (xl_I b) A h0 (d + 1) 21 [(1, 0, l1, u1, x), (1, 0, l2, u2, y)] M post :=
  cx_21t ex hy (by rw [Int.tdiv_eq_ediv_of_nonneg h0']; exact k)
theorem cx_52_13 {b : Bool} {A : Nat → Nat} {h0 : g_H} {d : Nat} {M : xa_M} {post : Option xa_V → xa_M → Prop} {l1 u1 : Int} {i : Int} (h1 : 0 ≤ i ∧ i < 10) (k1 : post (some (1, 0, (-9223372036854775808), 9223372036854775807, M 13 i)) M) : xa_C (xl_I b) A h0 (d + 1) 52 [(2, 13, 0, 0, 0), (0, 0, l1, u1, i)] M post := by
  refine xa_C_arg [(2, 13, 0, 0, 0), (0, 0, (-2147483648), 2147483647, i)] (xa_svR (xa_svI (fun _ _ _ _ => by omega) xa_sv0)) ?_
  refine xa_meth (Q0 := (2, 3, false, 0, 0, 11)) (by decide +kernel) ⟨rfl, rfl⟩ (full := s_c_52) rfl rfl ?_
  intro hM hv Q hgo
  refine hgo.1 15 [] 0 _ _ _ ?_
  refine And.intro ?_ ?_
  · intro (c1 : i < 0)
    show post (some (1, 0, 0, 0, 0)) M
    exact absurd h1 (by omega)
  · intro (c1 : 0 ≤ i)
    refine And.intro ?_ ?_
    · intro (c2 : 10 ≤ i)
      show post (some (1, 0, 0, 0, 0)) M
      exact absurd h1 (by omega)
    · intro (c2 : i < 10)
      refine And.intro (show 0 ≤ i ∧ i < 10 by omega) ?_
      show post (some (1, 0, (-9223372036854775808), 9223372036854775807, M 13 i)) M
      exact k1
theorem cx_54_12 {b : Bool} {A : Nat → Nat} {h0 : g_H} {d : Nat} {M : xa_M} {post : Option xa_V → xa_M → Prop} {l1 u1 : Int} {x1 : Int} (h1 : 0 ≤ x1 ∧ x1 < 10) (k1 : post (some (1, 0, (-9223372036854775808), 9223372036854775807, M 13 x1)) M) : xa_C (xl_I b) A h0 (d + 2) 54 [(2, 12, 0, 0, 0), (0, 0, l1, u1, x1)] M post := by
  refine xa_C_arg [(2, 12, 0, 0, 0), (0, 0, (-2147483648), 2147483647, x1)] (xa_svR (xa_svI (fun _ _ _ _ => by omega) (xa_sv0))) ?_
  refine xa_meth (Q0 := (2, 3, false, 0, 0, 9)) (by decide +kernel) ⟨rfl, rfl⟩ (full := s_c_54) rfl rfl ?_
  intro hM hv Q hgo
  refine hgo.1 9 [] 0 _ _ _ ?_
  show xa_C (xl_I b) A h0 _ 52 [(2, 13, 0, 0, 0), (0, 0, (-2147483648), 2147483647, x1)] M _
  refine cx_52_13 (show 0 ≤ x1 ∧ x1 < 10 by omega) ?_
  show post (some (1, 0, (-9223372036854775808), 9223372036854775807, M 13 x1)) M
  exact k1
theorem cx_23_4 {b : Bool} {A : Nat → Nat} {h0 : g_H} {d : Nat} {M : xa_M} {post : Option xa_V → xa_M → Prop} {l1 u1 : Int} {i : Int} (h1 : 0 ≤ i ∧ i < 14) (k1 : post (some (0, 0, (-2147483648), 2147483647, M 4 i)) M) : xa_C (xl_I b) A h0 (d + 1) 23 [(2, 4, 0, 0, 0), (0, 0, l1, u1, i)] M post := by
  refine xa_C_arg [(2, 4, 0, 0, 0), (0, 0, (-2147483648), 2147483647, i)] (xa_svR (xa_svI (fun _ _ _ _ => by omega) xa_sv0)) ?_
  refine xa_meth (Q0 := (2, 1, false, 0, 0, 11)) (by decide +kernel) ⟨rfl, rfl⟩ (full := s_c_23) rfl rfl ?_
  intro hM hv Q hgo
  refine hgo.1 15 [] 0 _ _ _ ?_
  refine And.intro ?_ ?_
  · intro (c1 : i < 0)
    show post (some (0, 0, 0, 0, 0)) M
    exact absurd h1 (by omega)
  · intro (c1 : 0 ≤ i)
    refine And.intro ?_ ?_
    · intro (c2 : 14 ≤ i)
      show post (some (0, 0, 0, 0, 0)) M
      exact absurd h1 (by omega)
    · intro (c2 : i < 14)
      refine And.intro (show 0 ≤ i ∧ i < 14 by omega) ?_
      show post (some (0, 0, (-2147483648), 2147483647, M 4 i)) M
      exact k1
theorem cx_28_1 {b : Bool} {A : Nat → Nat} {h0 : g_H} {d : Nat} {M : xa_M} {post : Option xa_V → xa_M → Prop} {l1 u1 : Int} {x1 : Int} (h1 : 0 ≤ x1 ∧ x1 < 14) (k1 : post (some (0, 0, (-2147483648), 2147483647, M 4 x1)) M) : xa_C (xl_I b) A h0 (d + 2) 28 [(2, 1, 0, 0, 0), (0, 0, l1, u1, x1)] M post := by
  refine xa_C_arg [(2, 1, 0, 0, 0), (0, 0, (-2147483648), 2147483647, x1)] (xa_svR (xa_svI (fun _ _ _ _ => by omega) (xa_sv0))) ?_
  refine xa_meth (Q0 := (2, 1, false, 0, 0, 1)) (by decide +kernel) ⟨rfl, rfl⟩ (full := s_c_28) rfl rfl ?_
  intro hM hv Q hgo
  refine hgo.1 9 [] 0 _ _ _ ?_
  show xa_C (xl_I b) A h0 _ 23 [(2, 4, 0, 0, 0), (0, 0, (-2147483648), 2147483647, x1)] M _
  refine cx_23_4 (show 0 ≤ x1 ∧ x1 < 14 by omega) ?_
  show post (some (0, 0, (-2147483648), 2147483647, M 4 x1)) M
  exact k1
theorem cx_52_14 {b : Bool} {A : Nat → Nat} {h0 : g_H} {d : Nat} {M : xa_M} {post : Option xa_V → xa_M → Prop} {l1 u1 : Int} {i : Int} (h1 : 0 ≤ i ∧ i < 10) (k1 : post (some (1, 0, (-9223372036854775808), 9223372036854775807, M 14 i)) M) : xa_C (xl_I b) A h0 (d + 1) 52 [(2, 14, 0, 0, 0), (0, 0, l1, u1, i)] M post := by
  refine xa_C_arg [(2, 14, 0, 0, 0), (0, 0, (-2147483648), 2147483647, i)] (xa_svR (xa_svI (fun _ _ _ _ => by omega) xa_sv0)) ?_
  refine xa_meth (Q0 := (2, 3, false, 0, 0, 11)) (by decide +kernel) ⟨rfl, rfl⟩ (full := s_c_52) rfl rfl ?_
  intro hM hv Q hgo
  refine hgo.1 15 [] 0 _ _ _ ?_
  refine And.intro ?_ ?_
  · intro (c1 : i < 0)
    show post (some (1, 0, 0, 0, 0)) M
    exact absurd h1 (by omega)
  · intro (c1 : 0 ≤ i)
    refine And.intro ?_ ?_
    · intro (c2 : 10 ≤ i)
      show post (some (1, 0, 0, 0, 0)) M
      exact absurd h1 (by omega)
    · intro (c2 : i < 10)
      refine And.intro (show 0 ≤ i ∧ i < 10 by omega) ?_
      show post (some (1, 0, (-9223372036854775808), 9223372036854775807, M 14 i)) M
      exact k1
theorem cx_51_12 {b : Bool} {A : Nat → Nat} {h0 : g_H} {d : Nat} {M : xa_M} {post : Option xa_V → xa_M → Prop} {l1 u1 : Int} {x1 : Int} (h1 : 0 ≤ x1 ∧ x1 < 10) (k1 : post (some (1, 0, (-9223372036854775808), 9223372036854775807, M 14 x1)) M) : xa_C (xl_I b) A h0 (d + 2) 51 [(2, 12, 0, 0, 0), (0, 0, l1, u1, x1)] M post := by
  refine xa_C_arg [(2, 12, 0, 0, 0), (0, 0, (-2147483648), 2147483647, x1)] (xa_svR (xa_svI (fun _ _ _ _ => by omega) (xa_sv0))) ?_
  refine xa_meth (Q0 := (2, 3, false, 0, 0, 9)) (by decide +kernel) ⟨rfl, rfl⟩ (full := s_c_51) rfl rfl ?_
  intro hM hv Q hgo
  refine hgo.1 9 [] 0 _ _ _ ?_
  show xa_C (xl_I b) A h0 _ 52 [(2, 14, 0, 0, 0), (0, 0, (-2147483648), 2147483647, x1)] M _
  refine cx_52_14 (show 0 ≤ x1 ∧ x1 < 10 by omega) ?_
  show post (some (1, 0, (-9223372036854775808), 9223372036854775807, M 14 x1)) M
  exact k1
theorem cx_48_13 {b : Bool} {A : Nat → Nat} {h0 : g_H} {d : Nat} {M : xa_M} {post : Option xa_V → xa_M → Prop} {l1 u1 l2 u2 : Int} {i v : Int} (h1 : 0 ≤ i ∧ i < 10) (k1 : post none (xa_up M 13 i v)) : xa_C (xl_I b) A h0 (d + 1) 48 [(2, 13, 0, 0, 0), (0, 0, l1, u1, i), (1, 0, l2, u2, v)] M post := by
  refine xa_C_arg [(2, 13, 0, 0, 0), (0, 0, (-2147483648), 2147483647, i), (1, 0, (-9223372036854775808), 9223372036854775807, v)] (xa_svR (xa_svI (fun _ _ _ _ => by omega) (xa_svL (fun _ _ _ _ => by omega) xa_sv0))) ?_
  refine xa_meth (Q0 := (4, 0, false, 0, 0, 11)) (by decide +kernel) ⟨rfl, rfl⟩ (full := s_c_48) rfl rfl ?_
  intro hM hv Q hgo
  refine hgo.1 15 [] 0 _ _ _ ?_
  refine And.intro ?_ ?_
  · intro (c1 : i < 0)
    show post none M
    exact absurd h1 (by omega)
  · intro (c1 : 0 ≤ i)
    refine And.intro ?_ ?_
    · intro (c2 : 10 ≤ i)
      show post none M
      exact absurd h1 (by omega)
    · intro (c2 : i < 10)
      refine And.intro (show 0 ≤ i ∧ i < 10 by omega) ?_
      show post none (xa_up M 13 i v)
      exact k1
theorem cx_48_14 {b : Bool} {A : Nat → Nat} {h0 : g_H} {d : Nat} {M : xa_M} {post : Option xa_V → xa_M → Prop} {l1 u1 l2 u2 : Int} {i v : Int} (h1 : 0 ≤ i ∧ i < 10) (k1 : post none (xa_up M 14 i v)) : xa_C (xl_I b) A h0 (d + 1) 48 [(2, 14, 0, 0, 0), (0, 0, l1, u1, i), (1, 0, l2, u2, v)] M post := by
  refine xa_C_arg [(2, 14, 0, 0, 0), (0, 0, (-2147483648), 2147483647, i), (1, 0, (-9223372036854775808), 9223372036854775807, v)] (xa_svR (xa_svI (fun _ _ _ _ => by omega) (xa_svL (fun _ _ _ _ => by omega) xa_sv0))) ?_
  refine xa_meth (Q0 := (4, 0, false, 0, 0, 11)) (by decide +kernel) ⟨rfl, rfl⟩ (full := s_c_48) rfl rfl ?_
  intro hM hv Q hgo
  refine hgo.1 15 [] 0 _ _ _ ?_
  refine And.intro ?_ ?_
  · intro (c1 : i < 0)
    show post none M
    exact absurd h1 (by omega)
  · intro (c1 : 0 ≤ i)
    refine And.intro ?_ ?_
    · intro (c2 : 10 ≤ i)
      show post none M
      exact absurd h1 (by omega)
    · intro (c2 : i < 10)
      refine And.intro (show 0 ≤ i ∧ i < 10 by omega) ?_
      show post none (xa_up M 14 i v)
      exact k1
theorem cx_53c {b : Bool} {A : Nat → Nat} {h0 : g_H} {d : Nat} {M : xa_M} {post : Option xa_V → xa_M → Prop} {l1 u1 l2 u2 x1 x2 : Int} (h1 : 0 ≤ x1 ∧ x1 < 14) (h2 : 0 ≤ x2 ∧ x2 < 14) (ha : 0 ≤ M 5 x1 ∧ M 5 x1 < 10) (hb : 0 ≤ M 5 x2 ∧ M 5 x2 < 10) (hp : (-1000000000000000 ≤ M 13 (M 5 x1) ∧ M 13 (M 5 x1) ≤ 1000000000000000)) (hq : (1 ≤ M 14 (M 5 x1) ∧ M 14 (M 5 x1) ≤ 1000000000000000)) (t1 : 10 ≤ M 4 x1 ∧ M 4 x1 ≤ 400) (t2 : 10 ≤ M 4 x2 ∧ M 4 x2 ≤ 400) (k : ∀ g z : Int, g = (Int.gcd (-(M 13 (M 5 x1)) * (M 4 x1)) ((M 14 (M 5 x1)) * (M 4 x2)) : Int) → (z = 0 ∨ z = 1) → (z = 1 ↔ (1000000000000000 < (((-(M 13 (M 5 x1)) * (M 4 x1)).tdiv g).natAbs : Int) ∨ 1000000000000000 < ((M 14 (M 5 x1)) * (M 4 x2)) / g)) → post none (xa_up (xa_up (xa_up M 13 (M 5 x2) ((-(M 13 (M 5 x1)) * (M 4 x1)).tdiv g)) 14 (M 5 x2) (((M 14 (M 5 x1)) * (M 4 x2)) / g)) 12 2 z)) : xa_C (xl_I b) A h0 (d + 3) 53 [(2, 12, 0, 0, 0), (2, 1, 0, 0, 0), (0, 0, l1, u1, x1), (0, 0, l2, u2, x2)] M post := by
  refine xa_C_arg [(2, 12, 0, 0, 0), (2, 1, 0, 0, 0), (0, 0, (-2147483648), 2147483647, x1), (0, 0, (-2147483648), 2147483647, x2)] (xa_svR (xa_svR (xa_svI (fun _ _ _ _ => by omega) (xa_svI (fun _ _ _ _ => by omega) xa_sv0)))) ?_
  refine xa_meth (Q0 := (11, 0, false, 0, 0, 9)) (by decide +kernel) ⟨rfl, rfl⟩ (full := s_c_53) rfl rfl ?_
  intro hM hv Q hgo
  refine hgo.1 65 [] 0 _ _ _ ?_
  show xa_C (xl_I b) A h0 _ 37 [(2, 1, 0, 0, 0), (0, 0, (-2147483648), 2147483647, x1)] M _
  refine cx_37_1 (show 0 ≤ x1 ∧ x1 < 14 by omega) ?_
  show xa_C (xl_I b) A h0 _ 54 [(2, 12, 0, 0, 0), (0, 0, (-2147483648), 2147483647, M 5 x1)] M _
  refine cx_54_12 (show 0 ≤ (M 5 x1) ∧ (M 5 x1) < 10 by omega) ?_
  show xa_C (xl_I b) A h0 _ 28 [(2, 1, 0, 0, 0), (0, 0, (-2147483648), 2147483647, x1)] M _
  refine cx_28_1 (show 0 ≤ x1 ∧ x1 < 14 by omega) ?_
  show xa_C (xl_I b) A h0 _ 51 [(2, 12, 0, 0, 0), (0, 0, (-2147483648), 2147483647, M 5 x1)] M _
  refine cx_51_12 (show 0 ≤ (M 5 x1) ∧ (M 5 x1) < 10 by omega) ?_
  show xa_C (xl_I b) A h0 _ 28 [(2, 1, 0, 0, 0), (0, 0, (-2147483648), 2147483647, x2)] M _
  refine cx_28_1 (show 0 ≤ x2 ∧ x2 < 14 by omega) ?_
  show xa_C (xl_I b) A h0 _ 55 [(1, 0, (-9223372036854775808), 9223372036854775807, xa_w64 ((xa_w64 (-(M 13 (M 5 x1)))) * (M 4 x1))), (1, 0, (-9223372036854775808), 9223372036854775807, xa_w64 ((M 14 (M 5 x1)) * (M 4 x2)))] M _
  refine cx_55x (tu_w1 hp t1) (tu_w2 hq t2) (tu_b1 hp t1) (tu_b2 hq t2) ?_
  intro g101 (i1 : g101 = (Int.gcd (-(M 13 (M 5 x1)) * (M 4 x1)) ((M 14 (M 5 x1)) * (M 4 x2)) : Int)) (i2 : 1 ≤ g101) (i3 : g101 ≤ 400000000000000000)
  show xa_C (xl_I b) A h0 _ 21 [(1, 0, (-9223372036854775808), 9223372036854775807, xa_w64 ((xa_w64 (-(M 13 (M 5 x1)))) * (M 4 x1))), (1, 0, 0, 9223372036854775807, g101)] M _
  refine cx_21t (tu_w1 hp t1) (by omega) ?_
  show xa_C (xl_I b) A h0 _ 21 [(1, 0, (-9223372036854775808), 9223372036854775807, xa_w64 ((M 14 (M 5 x1)) * (M 4 x2))), (1, 0, 0, 9223372036854775807, g101)] M _
  refine cx_21n (tu_w2 hq t2) (show 0 ≤ (M 14 (M 5 x1)) * (M 4 x2) by have := tu_b2 hq t2; omega) (by omega) ?_
  show xa_C (xl_I b) A h0 _ 37 [(2, 1, 0, 0, 0), (0, 0, (-2147483648), 2147483647, x2)] M _
  refine cx_37_1 (show 0 ≤ x2 ∧ x2 < 14 by omega) ?_
  show xa_C (xl_I b) A h0 _ 48 [(2, 13, 0, 0, 0), (0, 0, (-2147483648), 2147483647, M 5 x2), (1, 0, (-9223372036854775808), 9223372036854775807, (-(M 13 (M 5 x1)) * (M 4 x1)).tdiv g101)] M _
  refine cx_48_13 (show 0 ≤ (M 5 x2) ∧ (M 5 x2) < 10 by omega) ?_
  show xa_C (xl_I b) A h0 _ 37 [(2, 1, 0, 0, 0), (0, 0, (-2147483648), 2147483647, x2)] (xa_up M 13 (M 5 x2) ((-(M 13 (M 5 x1)) * (M 4 x1)).tdiv g101)) _
  refine cx_37_1 (show 0 ≤ x2 ∧ x2 < 14 by omega) ?_
  show xa_C (xl_I b) A h0 _ 48 [(2, 14, 0, 0, 0), (0, 0, (-2147483648), 2147483647, M 5 x2), (1, 0, (-9223372036854775808), 9223372036854775807, ((M 14 (M 5 x1)) * (M 4 x2)) / g101)] (xa_up M 13 (M 5 x2) ((-(M 13 (M 5 x1)) * (M 4 x1)).tdiv g101)) _
  refine cx_48_14 (show 0 ≤ (M 5 x2) ∧ (M 5 x2) < 10 by omega) ?_
  show xa_C (xl_I b) A h0 _ 56 [(1, 0, (-9223372036854775808), 9223372036854775807, (-(M 13 (M 5 x1)) * (M 4 x1)).tdiv g101)] (xa_up (xa_up M 13 (M 5 x2) ((-(M 13 (M 5 x1)) * (M 4 x1)).tdiv g101)) 14 (M 5 x2) (((M 14 (M 5 x1)) * (M 4 x2)) / g101)) _
  refine ct_abs (lo := 0) (hi := 400000000000000000) (show -9223372036854775808 < ((-(M 13 (M 5 x1)) * (M 4 x1)).tdiv g101) by have := tu_td (x := -(M 13 (M 5 x1)) * (M 4 x1)) (g := g101) (by omega); have := tu_b1 hp t1; omega) (fun r102 h103 => ⟨by have := tu_td (x := -(M 13 (M 5 x1)) * (M 4 x1)) (g := g101) (by omega); have := tu_b1 hp t1; omega, ?_⟩)
  refine And.intro ?_ ?_
  · intro (c4 : 1000000000000000 < r102)
    show post none (xa_up (xa_up (xa_up M 13 (M 5 x2) ((-(M 13 (M 5 x1)) * (M 4 x1)).tdiv g101)) 14 (M 5 x2) (((M 14 (M 5 x1)) * (M 4 x2)) / g101)) 12 2 1)
    exact k g101 1 i1 (by omega) (by omega)
  · intro (c4 : r102 ≤ 1000000000000000)
    refine And.intro ?_ ?_
    · intro (c5 : (((M 14 (M 5 x1)) * (M 4 x2)) / g101) ≤ 1000000000000000)
      show post none (xa_up (xa_up (xa_up M 13 (M 5 x2) ((-(M 13 (M 5 x1)) * (M 4 x1)).tdiv g101)) 14 (M 5 x2) (((M 14 (M 5 x1)) * (M 4 x2)) / g101)) 12 2 0)
      exact k g101 0 i1 (by omega) (by omega)
    · intro (c5 : 1000000000000000 < (((M 14 (M 5 x1)) * (M 4 x2)) / g101))
      show post none (xa_up (xa_up (xa_up M 13 (M 5 x2) ((-(M 13 (M 5 x1)) * (M 4 x1)).tdiv g101)) 14 (M 5 x2) (((M 14 (M 5 x1)) * (M 4 x2)) / g101)) 12 2 1)
      exact k g101 1 i1 (by omega) (by omega)
theorem cx_50_12 {b : Bool} {A : Nat → Nat} {h0 : g_H} {d : Nat} {M : xa_M} {post : Option xa_V → xa_M → Prop} {l1 u1 : Int} {x1 : Int} (h1 : 0 ≤ x1 ∧ x1 < 10) (k1 : ((M 14 x1) = 0) → post (some (0, 0, 0, 0, 0)) M) (k2 : (¬ (M 14 x1) = 0) → post (some (0, 0, 1, 1, 1)) M) : xa_C (xl_I b) A h0 (d + 3) 50 [(2, 12, 0, 0, 0), (0, 0, l1, u1, x1)] M post := by
  refine xa_C_arg [(2, 12, 0, 0, 0), (0, 0, (-2147483648), 2147483647, x1)] (xa_svR (xa_svI (fun _ _ _ _ => by omega) (xa_sv0))) ?_
  refine xa_meth (Q0 := (2, 2, false, 0, 0, 9)) (by decide +kernel) ⟨rfl, rfl⟩ (full := s_c_50) rfl rfl ?_
  intro hM hv Q hgo
  refine hgo.1 12 [] 0 _ _ _ ?_
  show xa_C (xl_I b) A h0 _ 51 [(2, 12, 0, 0, 0), (0, 0, (-2147483648), 2147483647, x1)] M _
  refine cx_51_12 (show 0 ≤ x1 ∧ x1 < 10 by omega) ?_
  refine And.intro ?_ ?_
  · intro (c1 : (M 14 x1) = 0)
    show post (some (0, 0, 0, 0, 0)) M
    exact k1 c1
  · intro (c1 : ¬ (M 14 x1) = 0)
    show post (some (0, 0, 1, 1, 1)) M
    exact k2 c1
theorem cx_58c {b : Bool} {A : Nat → Nat} {h0 : g_H} {d : Nat} {M : xa_M} {post : Option xa_V → xa_M → Prop} {l1 u1 l2 u2 x1 x2 : Int} (h1 : 0 ≤ x1 ∧ x1 < 14) (h2 : 0 ≤ x2 ∧ x2 < 14) (ha : 0 ≤ M 5 x1 ∧ M 5 x1 < 10) (hb : 0 ≤ M 5 x2 ∧ M 5 x2 < 10) (hpq : ¬ M 14 (M 5 x1) = 0 → (-1000000000000000 ≤ M 13 (M 5 x1) ∧ M 13 (M 5 x1) ≤ 1000000000000000) ∧ (1 ≤ M 14 (M 5 x1) ∧ M 14 (M 5 x1) ≤ 1000000000000000)) (t1 : 10 ≤ M 4 x1 ∧ M 4 x1 ≤ 400) (t2 : 10 ≤ M 4 x2 ∧ M 4 x2 ≤ 400) (k0 : M 14 (M 5 x1) = 0 → post (some (0, 0, 0, 1, 1)) M) (k : ∀ g r : Int, ¬ M 14 (M 5 x1) = 0 → g = (Int.gcd (-(M 13 (M 5 x1)) * (M 4 x1)) ((M 14 (M 5 x1)) * (M 4 x2)) : Int) → (r = 0 ∨ r = 1) → (r = 1 ↔ ((-(M 13 (M 5 x1)) * (M 4 x1)).tdiv g = M 13 (M 5 x2) ∧ ((M 14 (M 5 x1)) * (M 4 x2)) / g = M 14 (M 5 x2))) → post (some (0, 0, 0, 1, r)) M) : xa_C (xl_I b) A h0 (d + 4) 58 [(2, 12, 0, 0, 0), (2, 1, 0, 0, 0), (0, 0, l1, u1, x1), (0, 0, l2, u2, x2)] M post := by
  refine xa_C_wk ?_
  refine xa_C_arg [(2, 12, 0, 0, 0), (2, 1, 0, 0, 0), (0, 0, (-2147483648), 2147483647, x1), (0, 0, (-2147483648), 2147483647, x2)] (xa_svR (xa_svR (xa_svI (fun _ _ _ _ => by omega) (xa_svI (fun _ _ _ _ => by omega) xa_sv0)))) ?_
  refine xa_meth (Q0 := (12, 2, false, 0, 0, 9)) (by decide +kernel) ⟨rfl, rfl⟩ (full := s_c_58) rfl rfl ?_
  intro hM hv Q hgo
  refine hgo.1 56 [] 0 _ _ _ ?_
  show xa_C (xl_I b) A h0 _ 37 [(2, 1, 0, 0, 0), (0, 0, (-2147483648), 2147483647, x1)] M _
  refine cx_37_1 (show 0 ≤ x1 ∧ x1 < 14 by omega) ?_
  show xa_C (xl_I b) A h0 _ 37 [(2, 1, 0, 0, 0), (0, 0, (-2147483648), 2147483647, x2)] M _
  refine cx_37_1 (show 0 ≤ x2 ∧ x2 < 14 by omega) ?_
  show xa_C (xl_I b) A h0 _ 50 [(2, 12, 0, 0, 0), (0, 0, (-2147483648), 2147483647, M 5 x1)] M _
  refine cx_50_12 (show 0 ≤ (M 5 x1) ∧ (M 5 x1) < 10 by omega) ?_ ?_
  · intro (i1 : (M 14 (M 5 x1)) = 0)
    show xa_wk post (some (0, 0, 1, 1, 1)) M
    exact xa_wkI 1 rfl (fun _ _ => by omega) (k0 (by omega))
  · intro (i2 : ¬ (M 14 (M 5 x1)) = 0)
    have hpq := hpq i2
    have hp := hpq.1
    have hq := hpq.2
    show xa_C (xl_I b) A h0 _ 54 [(2, 12, 0, 0, 0), (0, 0, (-2147483648), 2147483647, M 5 x1)] M _
    refine cx_54_12 (show 0 ≤ (M 5 x1) ∧ (M 5 x1) < 10 by omega) ?_
    show xa_C (xl_I b) A h0 _ 28 [(2, 1, 0, 0, 0), (0, 0, (-2147483648), 2147483647, x1)] M _
    refine cx_28_1 (show 0 ≤ x1 ∧ x1 < 14 by omega) ?_
    show xa_C (xl_I b) A h0 _ 51 [(2, 12, 0, 0, 0), (0, 0, (-2147483648), 2147483647, M 5 x1)] M _
    refine cx_51_12 (show 0 ≤ (M 5 x1) ∧ (M 5 x1) < 10 by omega) ?_
    show xa_C (xl_I b) A h0 _ 28 [(2, 1, 0, 0, 0), (0, 0, (-2147483648), 2147483647, x2)] M _
    refine cx_28_1 (show 0 ≤ x2 ∧ x2 < 14 by omega) ?_
    show xa_C (xl_I b) A h0 _ 55 [(1, 0, (-9223372036854775808), 9223372036854775807, xa_w64 ((xa_w64 (-(M 13 (M 5 x1)))) * (M 4 x1))), (1, 0, (-9223372036854775808), 9223372036854775807, xa_w64 ((M 14 (M 5 x1)) * (M 4 x2)))] M _
    refine cx_55x (tu_w1 hp t1) (tu_w2 hq t2) (tu_b1 hp t1) (tu_b2 hq t2) ?_
    intro g101 (i3 : g101 = (Int.gcd (-(M 13 (M 5 x1)) * (M 4 x1)) ((M 14 (M 5 x1)) * (M 4 x2)) : Int)) (i4 : 1 ≤ g101) (i5 : g101 ≤ 400000000000000000)
    show xa_C (xl_I b) A h0 _ 21 [(1, 0, (-9223372036854775808), 9223372036854775807, xa_w64 ((xa_w64 (-(M 13 (M 5 x1)))) * (M 4 x1))), (1, 0, 0, 9223372036854775807, g101)] M _
    refine cx_21t (tu_w1 hp t1) (by omega) ?_
    show xa_C (xl_I b) A h0 _ 54 [(2, 12, 0, 0, 0), (0, 0, (-2147483648), 2147483647, M 5 x2)] M _
    refine cx_54_12 (show 0 ≤ (M 5 x2) ∧ (M 5 x2) < 10 by omega) ?_
    refine And.intro ?_ ?_
    · intro (c6 : ¬ ((-(M 13 (M 5 x1)) * (M 4 x1)).tdiv g101) = (M 13 (M 5 x2)))
      show xa_wk post (some (0, 0, 0, 0, 0)) M
      exact xa_wkI 0 rfl (fun _ _ => by omega) (k g101 0 (by omega) i3 (by omega) (by omega))
    · intro (c6 : ((-(M 13 (M 5 x1)) * (M 4 x1)).tdiv g101) = (M 13 (M 5 x2)))
      show xa_C (xl_I b) A h0 _ 21 [(1, 0, (-9223372036854775808), 9223372036854775807, xa_w64 ((M 14 (M 5 x1)) * (M 4 x2))), (1, 0, 0, 9223372036854775807, g101)] M _
      refine cx_21n (tu_w2 hq t2) (show 0 ≤ (M 14 (M 5 x1)) * (M 4 x2) by have := tu_b2 hq t2; omega) (by omega) ?_
      show xa_C (xl_I b) A h0 _ 51 [(2, 12, 0, 0, 0), (0, 0, (-2147483648), 2147483647, M 5 x2)] M _
      refine cx_51_12 (show 0 ≤ (M 5 x2) ∧ (M 5 x2) < 10 by omega) ?_
      refine And.intro ?_ ?_
      · intro (c7 : ¬ (((M 14 (M 5 x1)) * (M 4 x2)) / g101) = (M 14 (M 5 x2)))
        show xa_wk post (some (0, 0, 0, 0, 0)) M
        exact xa_wkI 0 rfl (fun _ _ => by omega) (k g101 0 (by omega) i3 (by omega) (by omega))
      · intro (c7 : (((M 14 (M 5 x1)) * (M 4 x2)) / g101) = (M 14 (M 5 x2)))
        show xa_wk post (some (0, 0, 1, 1, 1)) M
        exact xa_wkI 1 rfl (fun _ _ => by omega) (k g101 1 (by omega) i3 (by omega) (by omega))
theorem tu_pq {C N : xa_M} {a : Int} (h : tu_R C N) (ha : 0 ≤ a ∧ a < 10) (hn : ¬ C 14 a = 0) : (-1000000000000000 ≤ C 13 a ∧ C 13 a ≤ 1000000000000000) ∧ (1 ≤ C 14 a ∧ C 14 a ≤ 1000000000000000) := by
  rcases h a ha.1 ha.2 with ⟨-, e⟩ | ⟨-, ⟨e1, e2⟩, e3, e4, -⟩
  · exact absurd e hn
  · rw [e1, e2]
    exact ⟨e3, e4⟩
theorem tu_up2 {C : xa_M} {t u l z a : Int} : (xa_up (xa_up (xa_up C 13 t u) 14 t l) 12 2 z) 13 a = (if a = t then u else C 13 a) ∧ (xa_up (xa_up (xa_up C 13 t u) 14 t l) 12 2 z) 14 a = (if a = t then l else C 14 a) := by
  by_cases e : a = t
  · subst e
    rw [if_pos rfl, if_pos rfl]
    exact ⟨(xa_up_ne (by omega)).trans ((xa_up_ne (by omega)).trans xa_up_eq), (xa_up_ne (by omega)).trans xa_up_eq⟩
  · rw [if_neg e, if_neg e]
    exact ⟨(xa_up_ne (by omega)).trans ((xa_up_ne (by omega)).trans (xa_up_ne (by omega))), (xa_up_ne (by omega)).trans ((xa_up_ne (by omega)).trans (xa_up_ne (by omega)))⟩
theorem cx_49t {b : Bool} {A : Nat → Nat} {h0 : g_H} {d : Nat} {M : xa_M} {post : Option xa_V → xa_M → Prop} {l1 u1 but : Int} {N N0 : xa_M} (hM0 : tu_M N0) (hC0 : tu_C M N0) (hF0 : tu_F N0 N) (hR0 : tu_R M N) (h120 : M 12 2 = 0) (k : ∀ (r : Int) (M1 : xa_M), tu_O N0 N but (xm_fC but 17 0 0 N) r M1 → tu_G M M1 → post (some (0, 0, 0, 1, r)) M1) : xa_C (xl_I b) A h0 (d + 4) 49 [(2, 12, 0, 0, 0), (2, 1, 0, 0, 0), (0, 0, l1, u1, but)] M post := by
  refine xa_C_wk ?_
  refine xa_C_arg [(2, 12, 0, 0, 0), (2, 1, 0, 0, 0), (0, 0, (-2147483648), 2147483647, but)] (xa_svR (xa_svR (xa_svI (fun _ _ _ _ => by omega) xa_sv0))) ?_
  refine xa_meth (Q0 := (8, 2, false, 0, 0, 9)) (by decide +kernel) ⟨rfl, rfl⟩ (full := s_c_49) rfl rfl ?_
  intro hM hv Q hgo
  have loop : ∀ (f : Nat) (m z : Int) (M1 N1 : xa_M), 0 ≤ m ∧ m ≤ 16 → (z = 0 ∨ z = 1) → tu_G M M1 → tu_F N0 N1 → ((M1 12 2 = 0 ∧ tu_R M1 N1 ∧ xm_R N + z ≤ xm_R N1 ∧ (z = 0 → ∀ m', 0 ≤ m' → m' < m → ¬ m' = but → N1 77 (N0 64 (N0 66 m')) = N1 77 (N0 64 (N0 67 m'))) ∧ ∀ r C9, tu_O N0 N but (xm_fC but f m z N1) r C9 → tu_O N0 N but (xm_fC but 17 0 0 N) r C9) ∨ (M1 12 2 = 1 ∧ ∀ r C9, C9 12 2 = 1 → tu_O N0 N but (xm_fC but 17 0 0 N) r C9)) → 16 - m < (f : Int) → Q 5 [(4, (0, 0, 0, 16, m)), (3, (0, 0, 0, 1, z)), (0, (2, 12, 0, 0, 0)), (1, (2, 1, 0, 0, 0)), (2, (0, 0, (-2147483648), 2147483647, but))] [] M1 := by
    intro f
    induction f with
    | zero => intro m z M1 N1 m1 zb hG hF hS hms; clear hS; omega
    | succ f ih =>
      intro m z M1 N1 m1 zb hG hF hS hms
      have e10 : M1 1 10 = N0 60 6 := (hG 1 10 (by omega)).trans hC0.1
      have hn6 := hM0.1
      have e6 : N1 60 6 = N0 60 6 := hF 60 6 (by omega) (by omega)
      have kk := fun h : m < N0 60 6 => tu_m hM0 hC0 hG hF m1.1 h
      rcases hS with ⟨h12, hR0, hRz, hfx, hO⟩ | ⟨h12, hO⟩
      · refine hgo.1 51 [5] 5 _ _ _ ?_
        refine And.intro ?_ ?_
        · intro (c1 : (M1 1 10) ≤ m)
          show xa_wk post (some (0, 0, 0, 1, z)) M1
          exact xa_wkI z rfl (fun _ _ => by omega) (k z M1 (hO z M1 (by rw [xm_fC_end (by omega)]; exact ⟨h12, ⟨rfl, zb⟩, hR0, hF, hRz, fun e m' a0 a1 a2 => hfx e m' a0 (by omega) a2⟩)) hG)
        · intro (c1 : m < (M1 1 10))
          have kk := kk (by omega)
          refine And.intro ?_ ?_
          · intro (c2 : ¬ (M1 12 2) = 0)
            show xa_wk post (some (0, 0, 0, 1, z)) M1
            exfalso
            omega
          · intro (c2 : (M1 12 2) = 0)
            show xa_C (xl_I b) A h0 _ 40 [(2, 1, 0, 0, 0), (0, 0, 0, 16, m)] M1 _
            refine cx_40_1 (show 0 ≤ m ∧ m < 16 by omega) ?_
            show xa_C (xl_I b) A h0 _ 41 [(2, 1, 0, 0, 0), (0, 0, 0, 16, m)] M1 _
            refine cx_41_1 (show 0 ≤ m ∧ m < 16 by omega) ?_
            show xa_C (xl_I b) A h0 _ 37 [(2, 1, 0, 0, 0), (0, 0, (-2147483648), 2147483647, M1 7 m)] M1 _
            refine cx_37_1 (show 0 ≤ (M1 7 m) ∧ (M1 7 m) < 14 by omega) ?_
            show xa_C (xl_I b) A h0 _ 50 [(2, 12, 0, 0, 0), (0, 0, (-2147483648), 2147483647, M1 5 (M1 7 m))] M1 _
            refine cx_50_12 (show 0 ≤ (M1 5 (M1 7 m)) ∧ (M1 5 (M1 7 m)) < 10 by omega) ?_ ?_
            · intro (i3 : (M1 14 (M1 5 (M1 7 m))) = 0)
              refine And.intro ?_ ?_
              · intro (c4 : m = but)
                show Q 5 [(4, (0, 0, 1, 17, m + 1)), (7, (0, 0, 0, 0, 0)), (6, (0, 0, (-2147483648), 2147483647, M1 8 m)), (5, (0, 0, (-2147483648), 2147483647, M1 7 m)), (3, (0, 0, 0, 1, z)), (0, (2, 12, 0, 0, 0)), (1, (2, 1, 0, 0, 0)), (2, (0, 0, (-2147483648), 2147483647, but))] [] M1
                have sk := tu_skip (m := m) (but := but) (z := z) (n := f) hM0 hC0 hG hF hR0 (by omega) (by omega) (by omega)
                refine hgo.2.1 5 _ [(4, (0, 0, 0, 16, m + 1)), (3, (0, 0, 0, 1, z)), (0, (2, 12, 0, 0, 0)), (1, (2, 1, 0, 0, 0)), (2, (0, 0, (-2147483648), 2147483647, but))] _ _ (xa_subI rfl rfl (fun _ _ _ _ => by omega) (xa_subI rfl rfl (fun _ _ _ _ => by omega) (xa_subR rfl (xa_subR rfl (xa_subI rfl rfl (fun _ _ _ _ => by omega) (xa_sub0)))))) ?_
                exact ih (m + 1) z M1 N1 (by omega) (by omega) hG hF (Or.inl ⟨h12, hR0, hRz, fun e m' a0 a1 a2 => by
                  by_cases q : m' = m
                  · rw [q] at a2 ⊢
                    exact sk.2 a2
                  · exact hfx e m' a0 (by omega) a2, fun r C9 h9 => hO r C9 (by rw [sk.1]; exact h9)⟩) (by omega)
              · intro (c4 : ¬ m = but)
                show xa_C (xl_I b) A h0 _ 37 [(2, 1, 0, 0, 0), (0, 0, (-2147483648), 2147483647, M1 8 m)] M1 _
                refine cx_37_1 (show 0 ≤ (M1 8 m) ∧ (M1 8 m) < 14 by omega) ?_
                show xa_C (xl_I b) A h0 _ 50 [(2, 12, 0, 0, 0), (0, 0, (-2147483648), 2147483647, M1 5 (M1 8 m))] M1 _
                refine cx_50_12 (show 0 ≤ (M1 5 (M1 8 m)) ∧ (M1 5 (M1 8 m)) < 10 by omega) ?_ ?_
                · intro (i5 : (M1 14 (M1 5 (M1 8 m))) = 0)
                  show Q 5 [(4, (0, 0, 1, 17, m + 1)), (7, (0, 0, 0, 0, 0)), (6, (0, 0, (-2147483648), 2147483647, M1 8 m)), (5, (0, 0, (-2147483648), 2147483647, M1 7 m)), (3, (0, 0, 0, 1, z)), (0, (2, 12, 0, 0, 0)), (1, (2, 1, 0, 0, 0)), (2, (0, 0, (-2147483648), 2147483647, but))] [] M1
                  have sk := tu_skip (m := m) (but := but) (z := z) (n := f) hM0 hC0 hG hF hR0 (by omega) (by omega) (by omega)
                  refine hgo.2.1 5 _ [(4, (0, 0, 0, 16, m + 1)), (3, (0, 0, 0, 1, z)), (0, (2, 12, 0, 0, 0)), (1, (2, 1, 0, 0, 0)), (2, (0, 0, (-2147483648), 2147483647, but))] _ _ (xa_subI rfl rfl (fun _ _ _ _ => by omega) (xa_subI rfl rfl (fun _ _ _ _ => by omega) (xa_subR rfl (xa_subR rfl (xa_subI rfl rfl (fun _ _ _ _ => by omega) (xa_sub0)))))) ?_
                  exact ih (m + 1) z M1 N1 (by omega) (by omega) hG hF (Or.inl ⟨h12, hR0, hRz, fun e m' a0 a1 a2 => by
                    by_cases q : m' = m
                    · rw [q] at a2 ⊢
                      exact sk.2 a2
                    · exact hfx e m' a0 (by omega) a2, fun r C9 h9 => hO r C9 (by rw [sk.1]; exact h9)⟩) (by omega)
                · intro (i6 : ¬ (M1 14 (M1 5 (M1 8 m))) = 0)
                  show xa_C (xl_I b) A h0 _ 53 [(2, 12, 0, 0, 0), (2, 1, 0, 0, 0), (0, 0, (-2147483648), 2147483647, M1 8 m), (0, 0, (-2147483648), 2147483647, M1 7 m)] M1 _
                  refine cx_53c kk.2.2.2.2.1 kk.2.2.2.1 kk.2.2.2.2.2.2.1 kk.2.2.2.2.2.1 (tu_pq hR0 kk.2.2.2.2.2.2.1 (by omega)).1 (tu_pq hR0 kk.2.2.2.2.2.2.1 (by omega)).2 kk.2.2.2.2.2.2.2.2 kk.2.2.2.2.2.2.2.1 ?_
                  intro g101 z102 (i7 : g101 = (Int.gcd (-(M1 13 (M1 5 (M1 8 m))) * (M1 4 (M1 8 m))) ((M1 14 (M1 5 (M1 8 m))) * (M1 4 (M1 7 m))) : Int)) (i8 : z102 = 0 ∨ z102 = 1) (i9 : z102 = 1 ↔ (1000000000000000 < (((-(M1 13 (M1 5 (M1 8 m))) * (M1 4 (M1 8 m))).tdiv g101).natAbs : Int) ∨ 1000000000000000 < ((M1 14 (M1 5 (M1 8 m))) * (M1 4 (M1 7 m))) / g101))
                  show Q 5 [(4, (0, 0, 1, 17, m + 1)), (3, (0, 0, 1, 1, 1)), (7, (0, 0, 0, 0, 0)), (6, (0, 0, (-2147483648), 2147483647, M1 8 m)), (5, (0, 0, (-2147483648), 2147483647, M1 7 m)), (0, (2, 12, 0, 0, 0)), (1, (2, 1, 0, 0, 0)), (2, (0, 0, (-2147483648), 2147483647, but))] [] (xa_up (xa_up (xa_up M1 13 (M1 5 (M1 7 m)) ((-(M1 13 (M1 5 (M1 8 m))) * (M1 4 (M1 8 m))).tdiv g101)) 14 (M1 5 (M1 7 m)) (((M1 14 (M1 5 (M1 8 m))) * (M1 4 (M1 7 m))) / g101)) 12 2 z102)
                  obtain ⟨sn, ss⟩ := tu_step (m := m) (but := but) (z := z) (n := f) (dr := (M1 8 m)) (dn := (M1 7 m)) hM0 hC0 hG hF hR0 (by omega) (by omega) (by omega) (Or.inr ⟨rfl, rfl⟩) (by omega) (by omega) i7 rfl rfl
                  have hG2 : tu_G M (xa_up (xa_up (xa_up M1 13 (M1 5 (M1 7 m)) ((-(M1 13 (M1 5 (M1 8 m))) * (M1 4 (M1 8 m))).tdiv g101)) 14 (M1 5 (M1 7 m)) (((M1 14 (M1 5 (M1 8 m))) * (M1 4 (M1 7 m))) / g101)) 12 2 z102) := fun q j h => (xa_up_ne (by omega)).trans ((xa_up_ne (by omega)).trans ((xa_up_ne (by omega)).trans (hG q j h)))
                  have h122 : (xa_up (xa_up (xa_up M1 13 (M1 5 (M1 7 m)) ((-(M1 13 (M1 5 (M1 8 m))) * (M1 4 (M1 8 m))).tdiv g101)) 14 (M1 5 (M1 7 m)) (((M1 14 (M1 5 (M1 8 m))) * (M1 4 (M1 7 m))) / g101)) 12 2 z102) 12 2 = z102 := xa_up_eq
                  refine hgo.2.1 5 _ [(4, (0, 0, 0, 16, m + 1)), (3, (0, 0, 0, 1, 1)), (0, (2, 12, 0, 0, 0)), (1, (2, 1, 0, 0, 0)), (2, (0, 0, (-2147483648), 2147483647, but))] _ _ (xa_subI rfl rfl (fun _ _ _ _ => by omega) (xa_subI rfl rfl (fun _ _ _ _ => by omega) (xa_subR rfl (xa_subR rfl (xa_subI rfl rfl (fun _ _ _ _ => by omega) (xa_sub0)))))) ?_
                  rcases i8 with z0 | z1
                  · obtain ⟨e1, e2, e3, e4⟩ := ss (fun h => by have := i9.mpr h; omega)
                    exact ih (m + 1) 1 (xa_up (xa_up (xa_up M1 13 (M1 5 (M1 7 m)) ((-(M1 13 (M1 5 (M1 8 m))) * (M1 4 (M1 8 m))).tdiv g101)) 14 (M1 5 (M1 7 m)) (((M1 14 (M1 5 (M1 8 m))) * (M1 4 (M1 7 m))) / g101)) 12 2 z102) _ (by omega) (by omega) hG2 e2 (Or.inl ⟨by rw [h122]; exact z0, e4 _ (fun a a0 a1 => tu_up2), by omega, fun e => absurd e (by decide), fun r C9 h9 => hO r C9 (by rw [e1]; exact h9)⟩) (by omega)
                  · exact ih (m + 1) 1 (xa_up (xa_up (xa_up M1 13 (M1 5 (M1 7 m)) ((-(M1 13 (M1 5 (M1 8 m))) * (M1 4 (M1 8 m))).tdiv g101)) 14 (M1 5 (M1 7 m)) (((M1 14 (M1 5 (M1 8 m))) * (M1 4 (M1 7 m))) / g101)) 12 2 z102) N1 (by omega) (by omega) hG2 hF (Or.inr ⟨by rw [h122]; exact z1, fun r C9 h9 => hO r C9 (by rw [sn (i9.mp z1)]; exact h9)⟩) (by omega)
            · intro (i10 : ¬ (M1 14 (M1 5 (M1 7 m))) = 0)
              refine And.intro ?_ ?_
              · intro (c11 : m = but)
                show Q 5 [(4, (0, 0, 1, 17, m + 1)), (7, (0, 0, 1, 1, 1)), (6, (0, 0, (-2147483648), 2147483647, M1 8 m)), (5, (0, 0, (-2147483648), 2147483647, M1 7 m)), (3, (0, 0, 0, 1, z)), (0, (2, 12, 0, 0, 0)), (1, (2, 1, 0, 0, 0)), (2, (0, 0, (-2147483648), 2147483647, but))] [] M1
                have sk := tu_skip (m := m) (but := but) (z := z) (n := f) hM0 hC0 hG hF hR0 (by omega) (by omega) (by omega)
                refine hgo.2.1 5 _ [(4, (0, 0, 0, 16, m + 1)), (3, (0, 0, 0, 1, z)), (0, (2, 12, 0, 0, 0)), (1, (2, 1, 0, 0, 0)), (2, (0, 0, (-2147483648), 2147483647, but))] _ _ (xa_subI rfl rfl (fun _ _ _ _ => by omega) (xa_subI rfl rfl (fun _ _ _ _ => by omega) (xa_subR rfl (xa_subR rfl (xa_subI rfl rfl (fun _ _ _ _ => by omega) (xa_sub0)))))) ?_
                exact ih (m + 1) z M1 N1 (by omega) (by omega) hG hF (Or.inl ⟨h12, hR0, hRz, fun e m' a0 a1 a2 => by
                  by_cases q : m' = m
                  · rw [q] at a2 ⊢
                    exact sk.2 a2
                  · exact hfx e m' a0 (by omega) a2, fun r C9 h9 => hO r C9 (by rw [sk.1]; exact h9)⟩) (by omega)
              · intro (c11 : ¬ m = but)
                show xa_C (xl_I b) A h0 _ 37 [(2, 1, 0, 0, 0), (0, 0, (-2147483648), 2147483647, M1 8 m)] M1 _
                refine cx_37_1 (show 0 ≤ (M1 8 m) ∧ (M1 8 m) < 14 by omega) ?_
                show xa_C (xl_I b) A h0 _ 50 [(2, 12, 0, 0, 0), (0, 0, (-2147483648), 2147483647, M1 5 (M1 8 m))] M1 _
                refine cx_50_12 (show 0 ≤ (M1 5 (M1 8 m)) ∧ (M1 5 (M1 8 m)) < 10 by omega) ?_ ?_
                · intro (i12 : (M1 14 (M1 5 (M1 8 m))) = 0)
                  show xa_C (xl_I b) A h0 _ 53 [(2, 12, 0, 0, 0), (2, 1, 0, 0, 0), (0, 0, (-2147483648), 2147483647, M1 7 m), (0, 0, (-2147483648), 2147483647, M1 8 m)] M1 _
                  refine cx_53c kk.2.2.2.1 kk.2.2.2.2.1 kk.2.2.2.2.2.1 kk.2.2.2.2.2.2.1 (tu_pq hR0 kk.2.2.2.2.2.1 (by omega)).1 (tu_pq hR0 kk.2.2.2.2.2.1 (by omega)).2 kk.2.2.2.2.2.2.2.1 kk.2.2.2.2.2.2.2.2 ?_
                  intro g103 z104 (i13 : g103 = (Int.gcd (-(M1 13 (M1 5 (M1 7 m))) * (M1 4 (M1 7 m))) ((M1 14 (M1 5 (M1 7 m))) * (M1 4 (M1 8 m))) : Int)) (i14 : z104 = 0 ∨ z104 = 1) (i15 : z104 = 1 ↔ (1000000000000000 < (((-(M1 13 (M1 5 (M1 7 m))) * (M1 4 (M1 7 m))).tdiv g103).natAbs : Int) ∨ 1000000000000000 < ((M1 14 (M1 5 (M1 7 m))) * (M1 4 (M1 8 m))) / g103))
                  show Q 5 [(4, (0, 0, 1, 17, m + 1)), (3, (0, 0, 1, 1, 1)), (7, (0, 0, 1, 1, 1)), (6, (0, 0, (-2147483648), 2147483647, M1 8 m)), (5, (0, 0, (-2147483648), 2147483647, M1 7 m)), (0, (2, 12, 0, 0, 0)), (1, (2, 1, 0, 0, 0)), (2, (0, 0, (-2147483648), 2147483647, but))] [] (xa_up (xa_up (xa_up M1 13 (M1 5 (M1 8 m)) ((-(M1 13 (M1 5 (M1 7 m))) * (M1 4 (M1 7 m))).tdiv g103)) 14 (M1 5 (M1 8 m)) (((M1 14 (M1 5 (M1 7 m))) * (M1 4 (M1 8 m))) / g103)) 12 2 z104)
                  obtain ⟨sn, ss⟩ := tu_step (m := m) (but := but) (z := z) (n := f) (dr := (M1 7 m)) (dn := (M1 8 m)) hM0 hC0 hG hF hR0 (by omega) (by omega) (by omega) (Or.inl ⟨rfl, rfl⟩) (by omega) (by omega) i13 rfl rfl
                  have hG2 : tu_G M (xa_up (xa_up (xa_up M1 13 (M1 5 (M1 8 m)) ((-(M1 13 (M1 5 (M1 7 m))) * (M1 4 (M1 7 m))).tdiv g103)) 14 (M1 5 (M1 8 m)) (((M1 14 (M1 5 (M1 7 m))) * (M1 4 (M1 8 m))) / g103)) 12 2 z104) := fun q j h => (xa_up_ne (by omega)).trans ((xa_up_ne (by omega)).trans ((xa_up_ne (by omega)).trans (hG q j h)))
                  have h122 : (xa_up (xa_up (xa_up M1 13 (M1 5 (M1 8 m)) ((-(M1 13 (M1 5 (M1 7 m))) * (M1 4 (M1 7 m))).tdiv g103)) 14 (M1 5 (M1 8 m)) (((M1 14 (M1 5 (M1 7 m))) * (M1 4 (M1 8 m))) / g103)) 12 2 z104) 12 2 = z104 := xa_up_eq
                  refine hgo.2.1 5 _ [(4, (0, 0, 0, 16, m + 1)), (3, (0, 0, 0, 1, 1)), (0, (2, 12, 0, 0, 0)), (1, (2, 1, 0, 0, 0)), (2, (0, 0, (-2147483648), 2147483647, but))] _ _ (xa_subI rfl rfl (fun _ _ _ _ => by omega) (xa_subI rfl rfl (fun _ _ _ _ => by omega) (xa_subR rfl (xa_subR rfl (xa_subI rfl rfl (fun _ _ _ _ => by omega) (xa_sub0)))))) ?_
                  rcases i14 with z0 | z1
                  · obtain ⟨e1, e2, e3, e4⟩ := ss (fun h => by have := i15.mpr h; omega)
                    exact ih (m + 1) 1 (xa_up (xa_up (xa_up M1 13 (M1 5 (M1 8 m)) ((-(M1 13 (M1 5 (M1 7 m))) * (M1 4 (M1 7 m))).tdiv g103)) 14 (M1 5 (M1 8 m)) (((M1 14 (M1 5 (M1 7 m))) * (M1 4 (M1 8 m))) / g103)) 12 2 z104) _ (by omega) (by omega) hG2 e2 (Or.inl ⟨by rw [h122]; exact z0, e4 _ (fun a a0 a1 => tu_up2), by omega, fun e => absurd e (by decide), fun r C9 h9 => hO r C9 (by rw [e1]; exact h9)⟩) (by omega)
                  · exact ih (m + 1) 1 (xa_up (xa_up (xa_up M1 13 (M1 5 (M1 8 m)) ((-(M1 13 (M1 5 (M1 7 m))) * (M1 4 (M1 7 m))).tdiv g103)) 14 (M1 5 (M1 8 m)) (((M1 14 (M1 5 (M1 7 m))) * (M1 4 (M1 8 m))) / g103)) 12 2 z104) N1 (by omega) (by omega) hG2 hF (Or.inr ⟨by rw [h122]; exact z1, fun r C9 h9 => hO r C9 (by rw [sn (i15.mp z1)]; exact h9)⟩) (by omega)
                · intro (i16 : ¬ (M1 14 (M1 5 (M1 8 m))) = 0)
                  show Q 5 [(4, (0, 0, 1, 17, m + 1)), (7, (0, 0, 1, 1, 1)), (6, (0, 0, (-2147483648), 2147483647, M1 8 m)), (5, (0, 0, (-2147483648), 2147483647, M1 7 m)), (3, (0, 0, 0, 1, z)), (0, (2, 12, 0, 0, 0)), (1, (2, 1, 0, 0, 0)), (2, (0, 0, (-2147483648), 2147483647, but))] [] M1
                  have sk := tu_skip (m := m) (but := but) (z := z) (n := f) hM0 hC0 hG hF hR0 (by omega) (by omega) (by omega)
                  refine hgo.2.1 5 _ [(4, (0, 0, 0, 16, m + 1)), (3, (0, 0, 0, 1, z)), (0, (2, 12, 0, 0, 0)), (1, (2, 1, 0, 0, 0)), (2, (0, 0, (-2147483648), 2147483647, but))] _ _ (xa_subI rfl rfl (fun _ _ _ _ => by omega) (xa_subI rfl rfl (fun _ _ _ _ => by omega) (xa_subR rfl (xa_subR rfl (xa_subI rfl rfl (fun _ _ _ _ => by omega) (xa_sub0)))))) ?_
                  exact ih (m + 1) z M1 N1 (by omega) (by omega) hG hF (Or.inl ⟨h12, hR0, hRz, fun e m' a0 a1 a2 => by
                    by_cases q : m' = m
                    · rw [q] at a2 ⊢
                      exact sk.2 a2
                    · exact hfx e m' a0 (by omega) a2, fun r C9 h9 => hO r C9 (by rw [sk.1]; exact h9)⟩) (by omega)
      · refine hgo.1 51 [5] 5 _ _ _ ?_
        refine And.intro ?_ ?_
        · intro (c1 : (M1 1 10) ≤ m)
          show xa_wk post (some (0, 0, 0, 1, z)) M1
          exact xa_wkI z rfl (fun _ _ => by omega) (k z M1 (hO z M1 h12) hG)
        · intro (c1 : m < (M1 1 10))
          have kk := kk (by omega)
          refine And.intro ?_ ?_
          · intro (c2 : ¬ (M1 12 2) = 0)
            show xa_wk post (some (0, 0, 0, 1, z)) M1
            exact xa_wkI z rfl (fun _ _ => by omega) (k z M1 (hO z M1 h12) hG)
          · intro (c2 : (M1 12 2) = 0)
            exfalso
            omega
  refine hgo.1 9 [5] 0 _ _ _ ?_
  show Q 5 [(4, (0, 0, 0, 0, 0)), (3, (0, 0, 0, 0, 0)), (0, (2, 12, 0, 0, 0)), (1, (2, 1, 0, 0, 0)), (2, (0, 0, (-2147483648), 2147483647, but))] [] M
  refine hgo.2.1 5 _ [(4, (0, 0, 0, 16, 0)), (3, (0, 0, 0, 1, 0)), (0, (2, 12, 0, 0, 0)), (1, (2, 1, 0, 0, 0)), (2, (0, 0, (-2147483648), 2147483647, but))] _ _ (xa_subI rfl rfl (fun _ _ _ _ => by omega) (xa_subI rfl rfl (fun _ _ _ _ => by omega) (xa_subR rfl (xa_subR rfl (xa_subI rfl rfl (fun _ _ _ _ => by omega) (xa_sub0)))))) ?_
  exact loop 17 0 0 M N (by omega) (by omega) (fun _ _ _ => rfl) hF0 (Or.inl ⟨h120, hR0, by omega, fun _ m' a0 a1 => by omega, fun _ _ h => h⟩) (by omega)
-- turns of the class, told to the end
set_option maxRecDepth 20000
theorem tu_C_G {C N0 C1 : xa_M} (h : tu_C C N0) (g : tu_G C C1) : tu_C C1 N0 := ⟨(g 1 10 (by omega)).trans h.1, fun m m0 m1 => ⟨(g 7 m (by omega)).trans (h.2.1 m m0 m1).1, (g 8 m (by omega)).trans (h.2.1 m m0 m1).2⟩, fun w w0 w1 => ⟨(g 5 w (by omega)).trans (h.2.2 w w0 w1).1, (g 4 w (by omega)).trans (h.2.2 w w0 w1).2⟩⟩
theorem tu_G_r {C : xa_M} : tu_G C C := fun _ _ _ => rfl
theorem tu_fB0 {but : Int} {n : Nat} {N : xa_M} (h : 1 ≤ n) : xm_fB but n 0 N = some N := by
  obtain ⟨k, rfl⟩ : ∃ k, n = k + 1 := ⟨n - 1, by omega⟩
  rw [xm_fB, if_pos rfl]
theorem tu_fB1 {but : Int} {n : Nat} {N : xa_M} : xm_fB but (n + 1) 1 N = xm_bd but n (xm_fC but 17 0 0 N) := by
  rw [xm_fB, if_neg (by decide)]
  unfold xm_bd
  rfl
theorem cx_57t {b : Bool} {A : Nat → Nat} {h0 : g_H} {d : Nat} {M : xa_M} {post : Option xa_V → xa_M → Prop} {l1 u1 but : Int} {N N0 : xa_M} (hM0 : tu_M N0) (hC0 : tu_C M N0) (hF0 : tu_F N0 N) (hR0 : tu_R M N) (hfx0 : ∀ m, 0 ≤ m → m < N0 60 6 → ¬ m = but → N 77 (N0 64 (N0 66 m)) = N 77 (N0 64 (N0 67 m))) (k : ∀ r : Int, (r = 0 ∧ (xm_fD but 17 0 0 N).1 = 0) ∨ (r = 1 ∧ ¬ (xm_fD but 17 0 0 N).1 = 0) → post (some (0, 0, 0, 1, r)) M) : xa_C (xl_I b) A h0 (d + 5) 57 [(2, 12, 0, 0, 0), (2, 1, 0, 0, 0), (0, 0, l1, u1, but)] M post := by
  refine xa_C_wk ?_
  refine xa_C_arg [(2, 12, 0, 0, 0), (2, 1, 0, 0, 0), (0, 0, (-2147483648), 2147483647, but)] (xa_svR (xa_svR (xa_svI (fun _ _ _ _ => by omega) xa_sv0))) ?_
  refine xa_meth (Q0 := (4, 2, false, 0, 0, 9)) (by decide +kernel) ⟨rfl, rfl⟩ (full := s_c_57) rfl rfl ?_
  intro hM hv Q hgo
  have e10 : M 1 10 = N0 60 6 := hC0.1
  have hn6 := hM0.1
  have loop : ∀ (f : Nat) (m : Int) (N1 : xa_M), 0 ≤ m ∧ m ≤ 16 → tu_F N0 N1 → tu_R M N1 → (∀ m, 0 ≤ m → m < N0 60 6 → ¬ m = but → N1 77 (N0 64 (N0 66 m)) = N1 77 (N0 64 (N0 67 m))) → (xm_fD but f m 0 N1).1 = (xm_fD but 17 0 0 N).1 → 16 - m < (f : Int) → Q 2 [(3, (0, 0, 0, 16, m)), (0, (2, 12, 0, 0, 0)), (1, (2, 1, 0, 0, 0)), (2, (0, 0, (-2147483648), 2147483647, but))] [] M := by
    intro f
    induction f with
    | zero => intro m N1 m1 hF hR hfx heq hms; clear heq hfx; omega
    | succ f ih =>
      intro m N1 m1 hF hR hfx heq hms
      have e6 : N1 60 6 = N0 60 6 := hF 60 6 (by omega) (by omega)
      have kk := fun h : m < N0 60 6 => tu_m hM0 hC0 tu_G_r hF m1.1 h
      refine hgo.1 24 [2] 2 _ _ _ ?_
      refine And.intro ?_ ?_
      · intro (c1 : (M 1 10) ≤ m)
        show xa_wk post (some (0, 0, 0, 0, 0)) M
        rw [xm_fD_end (by omega)] at heq
        exact xa_wkI 0 rfl (fun _ _ => by omega) (k 0 (Or.inl ⟨rfl, heq.symm⟩))
      · intro (c1 : m < (M 1 10))
        have kk := kk (by omega)
        refine And.intro ?_ ?_
        · intro (c2 : m = but)
          show Q 2 [(3, (0, 0, 1, 17, m + 1)), (0, (2, 12, 0, 0, 0)), (1, (2, 1, 0, 0, 0)), (2, (0, 0, (-2147483648), 2147483647, but))] [] M
          obtain ⟨s1, -⟩ := tu_fDg (n := f) hM0 hC0 tu_G_r hF hR m1.1 (by omega) (hfx m m1.1 (by omega)) rfl rfl rfl
          rw [s1 (by omega)] at heq
          refine hgo.2.1 2 _ [(3, (0, 0, 0, 16, m + 1)), (0, (2, 12, 0, 0, 0)), (1, (2, 1, 0, 0, 0)), (2, (0, 0, (-2147483648), 2147483647, but))] _ _ (xa_subI rfl rfl (fun _ _ _ _ => by omega) (xa_subR rfl (xa_subR rfl (xa_subI rfl rfl (fun _ _ _ _ => by omega) (xa_sub0))))) ?_
          exact ih (m + 1) N1 (by omega) hF hR hfx heq (by omega)
        · intro (c2 : ¬ m = but)
          show xa_C (xl_I b) A h0 _ 40 [(2, 1, 0, 0, 0), (0, 0, 0, 16, m)] M _
          refine cx_40_1 (show 0 ≤ m ∧ m < 16 by omega) ?_
          show xa_C (xl_I b) A h0 _ 41 [(2, 1, 0, 0, 0), (0, 0, 0, 16, m)] M _
          refine cx_41_1 (show 0 ≤ m ∧ m < 16 by omega) ?_
          show xa_C (xl_I b) A h0 _ 58 [(2, 12, 0, 0, 0), (2, 1, 0, 0, 0), (0, 0, (-2147483648), 2147483647, M 7 m), (0, 0, (-2147483648), 2147483647, M 8 m)] M _
          refine cx_58c kk.2.2.2.1 kk.2.2.2.2.1 kk.2.2.2.2.2.1 kk.2.2.2.2.2.2.1 (fun h => tu_pq hR kk.2.2.2.2.2.1 h) kk.2.2.2.2.2.2.2.1 kk.2.2.2.2.2.2.2.2 ?_ ?_
          · intro (i3 : M 14 (M 5 (M 7 m)) = 0)
            refine And.intro ?_ ?_
            · intro (c4 : ¬ 1 = 0)
              show Q 2 [(3, (0, 0, 1, 17, m + 1)), (0, (2, 12, 0, 0, 0)), (1, (2, 1, 0, 0, 0)), (2, (0, 0, (-2147483648), 2147483647, but))] [] M
              obtain ⟨s1, -⟩ := tu_fDg (n := f) hM0 hC0 tu_G_r hF hR m1.1 (by omega) (hfx m m1.1 (by omega)) rfl rfl rfl
              rw [s1 (by omega)] at heq
              refine hgo.2.1 2 _ [(3, (0, 0, 0, 16, m + 1)), (0, (2, 12, 0, 0, 0)), (1, (2, 1, 0, 0, 0)), (2, (0, 0, (-2147483648), 2147483647, but))] _ _ (xa_subI rfl rfl (fun _ _ _ _ => by omega) (xa_subR rfl (xa_subR rfl (xa_subI rfl rfl (fun _ _ _ _ => by omega) (xa_sub0))))) ?_
              exact ih (m + 1) N1 (by omega) hF hR hfx heq (by omega)
            · intro (c4 : 1 = 0)
              exfalso
              omega
          · intro g101 r102 (i5 : ¬ M 14 (M 5 (M 7 m)) = 0) (i6 : g101 = (Int.gcd (-(M 13 (M 5 (M 7 m))) * (M 4 (M 7 m))) ((M 14 (M 5 (M 7 m))) * (M 4 (M 8 m))) : Int)) (i7 : r102 = 0 ∨ r102 = 1) (i8 : r102 = 1 ↔ ((-(M 13 (M 5 (M 7 m))) * (M 4 (M 7 m))).tdiv g101 = M 13 (M 5 (M 8 m)) ∧ ((M 14 (M 5 (M 7 m))) * (M 4 (M 8 m))) / g101 = M 14 (M 5 (M 8 m))))
            refine And.intro ?_ ?_
            · intro (c9 : ¬ r102 = 0)
              show Q 2 [(3, (0, 0, 1, 17, m + 1)), (0, (2, 12, 0, 0, 0)), (1, (2, 1, 0, 0, 0)), (2, (0, 0, (-2147483648), 2147483647, but))] [] M
              obtain ⟨-, s2⟩ := tu_fDg (n := f) hM0 hC0 tu_G_r hF hR m1.1 (by omega) (hfx m m1.1 (by omega)) i6 rfl rfl
              have e := s2 (by omega)
              rw [if_pos (i8.mp (by omega))] at e
              rw [e] at heq
              refine hgo.2.1 2 _ [(3, (0, 0, 0, 16, m + 1)), (0, (2, 12, 0, 0, 0)), (1, (2, 1, 0, 0, 0)), (2, (0, 0, (-2147483648), 2147483647, but))] _ _ (xa_subI rfl rfl (fun _ _ _ _ => by omega) (xa_subR rfl (xa_subR rfl (xa_subI rfl rfl (fun _ _ _ _ => by omega) (xa_sub0))))) ?_
              exact ih (m + 1) _ (by omega) (fun q j h1 h2 => (xa_up_ne (by omega)).trans ((xa_up_ne (by omega)).trans (hF q j h1 h2))) (tu_Rq hR (fun q j h1 h2 => (xa_up_ne (by omega)).trans (xa_up_ne (by omega)))) (fun a a0 a1 a2 => ((xa_up_ne (by omega)).trans (xa_up_ne (by omega))).trans ((hfx a a0 a1 a2).trans ((xa_up_ne (by omega)).trans (xa_up_ne (by omega))).symm)) heq (by omega)
            · intro (c9 : r102 = 0)
              show xa_wk post (some (0, 0, 1, 1, 1)) M
              obtain ⟨-, s2⟩ := tu_fDg (n := f) hM0 hC0 tu_G_r hF hR m1.1 (by omega) (hfx m m1.1 (by omega)) i6 rfl rfl
              have e := s2 (by omega)
              rw [if_neg (fun h => by have := i8.mpr h; omega)] at e
              rw [e] at heq
              exact xa_wkI 1 rfl (fun _ _ => by omega) (k 1 (Or.inr ⟨rfl, by rw [← heq]; exact tu_fD1 f (m + 1) 1 _ (by decide)⟩))
  refine hgo.1 7 [2] 0 _ _ _ ?_
  show Q 2 [(3, (0, 0, 0, 0, 0)), (0, (2, 12, 0, 0, 0)), (1, (2, 1, 0, 0, 0)), (2, (0, 0, (-2147483648), 2147483647, but))] [] M
  refine hgo.2.1 2 _ [(3, (0, 0, 0, 16, 0)), (0, (2, 12, 0, 0, 0)), (1, (2, 1, 0, 0, 0)), (2, (0, 0, (-2147483648), 2147483647, but))] _ _ (xa_subI rfl rfl (fun _ _ _ _ => by omega) (xa_subR rfl (xa_subR rfl (xa_subI rfl rfl (fun _ _ _ _ => by omega) (xa_sub0))))) ?_
  exact loop 17 0 N (by omega) hF0 hR0 hfx0 rfl (by omega)
theorem cx_47t {b : Bool} {A : Nat → Nat} {h0 : g_H} {d : Nat} {M : xa_M} {post : Option xa_V → xa_M → Prop} {l1 u1 but : Int} {N0 : xa_M} (hM0 : tu_M N0) (hC0 : tu_C M N0) (k : ∀ (v : Int) (M1 : xa_M), (v = 0 ∨ v = -3 ∨ v = -5) → tu_V but N0 v M1 → tu_G M M1 → post (some (0, 0, (-5), 0, v)) M1) : xa_C (xl_I b) A h0 (d + 6) 47 [(2, 12, 0, 0, 0), (2, 1, 0, 0, 0), (0, 0, l1, u1, but)] M post := by
  refine xa_C_wk ?_
  refine xa_C_arg [(2, 12, 0, 0, 0), (2, 1, 0, 0, 0), (0, 0, (-2147483648), 2147483647, but)] (xa_svR (xa_svR (xa_svI (fun _ _ _ _ => by omega) xa_sv0))) ?_
  refine xa_meth (Q0 := (5, 1, false, 0, 0, 9)) (by decide +kernel) ⟨rfl, rfl⟩ (full := s_c_47) rfl rfl ?_
  intro hM hv Q hgo
  have loop2 : ∀ (f : Nat) (p z : Int) (M1 N1 : xa_M), 0 ≤ p ∧ p ≤ 10 → tu_G M M1 → tu_F N0 N1 → ((M1 12 2 = 0 ∧ (z = 0 ∨ z = 1) ∧ tu_R M1 N1 ∧ (z = 0 ∨ 1 + p ≤ xm_R N1) ∧ (z = 0 → ∀ m, 0 ≤ m → m < N0 60 6 → ¬ m = but → N1 77 (N0 64 (N0 66 m)) = N1 77 (N0 64 (N0 67 m))) ∧ ∃ n : Nat, (n : Int) = 23 - p ∧ xm_fB but n z N1 = xm_fB but 23 1 (xm_ini N0)) ∨ (M1 12 2 = 1 ∧ xm_fB but 23 1 (xm_ini N0) = none)) → 10 - p < (f : Int) → Q 51 [(4, (0, 0, 0, 10, p)), (3, (0, 0, 0, 1, z)), (0, (2, 12, 0, 0, 0)), (1, (2, 1, 0, 0, 0)), (2, (0, 0, (-2147483648), 2147483647, but))] [] M1 := by
    intro f
    induction f with
    | zero => intro p z M1 N1 p1 hG hF hS hms; clear hS; omega
    | succ f ih =>
      intro p z M1 N1 p1 hG hF hS hms
      rcases hS with ⟨h12, zb, hR, hRz, hfx, nn, hn, hB⟩ | ⟨h12, hB⟩
      · refine hgo.1 20 [51] 51 _ _ _ ?_
        refine And.intro ?_ ?_
        · intro (c1 : 10 ≤ p)
          refine And.intro ?_ ?_
          · intro (c2 : (M1 12 2) = 0)
            show xa_C (xl_I b) A h0 _ 57 [(2, 12, 0, 0, 0), (2, 1, 0, 0, 0), (0, 0, (-2147483648), 2147483647, but)] M1 _
            refine cx_57t hM0 (tu_C_G hC0 hG) hF hR (hfx (by have := tu_R10 hR; omega)) ?_
            intro r101 (i3 : (r101 = 0 ∧ (xm_fD but 17 0 0 N1).1 = 0) ∨ (r101 = 1 ∧ ¬ (xm_fD but 17 0 0 N1).1 = 0))
            refine And.intro ?_ ?_
            · intro (c4 : r101 = 0)
              show xa_wk post (some (0, 0, 0, 0, 0)) M1
              have z0 : z = 0 := by have := tu_R10 hR; omega
              rw [z0, tu_fB0 (by omega)] at hB
              rcases i3 with ⟨e, h⟩ | ⟨e, h⟩
              · exact xa_wkI 0 rfl (fun _ _ => by omega) (k 0 M1 (by omega) (tu_Vv hB.symm hR (by rw [if_pos h])) hG)
              · exfalso
                omega
            · intro (c4 : ¬ r101 = 0)
              show xa_wk post (some (0, 0, (-3), (-3), (-3))) M1
              have z0 : z = 0 := by have := tu_R10 hR; omega
              rw [z0, tu_fB0 (by omega)] at hB
              rcases i3 with ⟨e, h⟩ | ⟨e, h⟩
              · exfalso
                omega
              · exact xa_wkI (-3) rfl (fun _ _ => by omega) (k (-3) M1 (by omega) (tu_Vv hB.symm hR (by rw [if_neg h])) hG)
          · intro (c2 : ¬ (M1 12 2) = 0)
            exfalso
            omega
        · intro (c1 : p < 10)
          refine And.intro ?_ ?_
          · intro (c5 : z = 0)
            refine And.intro ?_ ?_
            · intro (c6 : (M1 12 2) = 0)
              show xa_C (xl_I b) A h0 _ 57 [(2, 12, 0, 0, 0), (2, 1, 0, 0, 0), (0, 0, (-2147483648), 2147483647, but)] M1 _
              refine cx_57t hM0 (tu_C_G hC0 hG) hF hR (hfx (by have := tu_R10 hR; omega)) ?_
              intro r102 (i7 : (r102 = 0 ∧ (xm_fD but 17 0 0 N1).1 = 0) ∨ (r102 = 1 ∧ ¬ (xm_fD but 17 0 0 N1).1 = 0))
              refine And.intro ?_ ?_
              · intro (c8 : r102 = 0)
                show xa_wk post (some (0, 0, 0, 0, 0)) M1
                have z0 : z = 0 := by have := tu_R10 hR; omega
                rw [z0, tu_fB0 (by omega)] at hB
                rcases i7 with ⟨e, h⟩ | ⟨e, h⟩
                · exact xa_wkI 0 rfl (fun _ _ => by omega) (k 0 M1 (by omega) (tu_Vv hB.symm hR (by rw [if_pos h])) hG)
                · exfalso
                  omega
              · intro (c8 : ¬ r102 = 0)
                show xa_wk post (some (0, 0, (-3), (-3), (-3))) M1
                have z0 : z = 0 := by have := tu_R10 hR; omega
                rw [z0, tu_fB0 (by omega)] at hB
                rcases i7 with ⟨e, h⟩ | ⟨e, h⟩
                · exfalso
                  omega
                · exact xa_wkI (-3) rfl (fun _ _ => by omega) (k (-3) M1 (by omega) (tu_Vv hB.symm hR (by rw [if_neg h])) hG)
            · intro (c6 : ¬ (M1 12 2) = 0)
              exfalso
              omega
          · intro (c5 : ¬ z = 0)
            refine And.intro ?_ ?_
            · intro (c9 : ¬ (M1 12 2) = 0)
              exfalso
              omega
            · intro (c9 : (M1 12 2) = 0)
              show xa_C (xl_I b) A h0 _ 49 [(2, 12, 0, 0, 0), (2, 1, 0, 0, 0), (0, 0, (-2147483648), 2147483647, but)] M1 _
              refine cx_49t hM0 (tu_C_G hC0 hG) hF hR h12 ?_
              intro r103 M104 (i10 : tu_O N0 N1 but (xm_fC but 17 0 0 N1) r103 M104) (i11 : tu_G M1 M104)
              show Q 51 [(4, (0, 0, 1, 11, p + 1)), (3, (0, 0, 0, 1, r103)), (0, (2, 12, 0, 0, 0)), (1, (2, 1, 0, 0, 0)), (2, (0, 0, (-2147483648), 2147483647, but))] [] M104
              refine hgo.2.1 51 _ [(4, (0, 0, 0, 10, p + 1)), (3, (0, 0, 0, 1, r103)), (0, (2, 12, 0, 0, 0)), (1, (2, 1, 0, 0, 0)), (2, (0, 0, (-2147483648), 2147483647, but))] _ _ (xa_subI rfl rfl (fun _ _ _ _ => by omega) (xa_subI rfl rfl (fun _ _ _ _ => by omega) (xa_subR rfl (xa_subR rfl (xa_subI rfl rfl (fun _ _ _ _ => by omega) (xa_sub0)))))) ?_
              have z1 : z = 1 := by omega
              have hG2 : tu_G M M104 := fun q j h => (i11 q j h).trans (hG q j h)
              obtain ⟨n', rfl⟩ : ∃ k, nn = k + 1 := ⟨nn - 1, by omega⟩
              rw [z1, tu_fB1] at hB
              generalize xm_fC but 17 0 0 N1 = oo at hB i10
              cases oo with
              | none => exact ih (p + 1) r103 M104 N1 (by omega) hG2 hF (Or.inr ⟨i10, hB.symm⟩) (by omega)
              | some q =>
                obtain ⟨o1, ⟨o2, o3⟩, o4, o5, o6, o7⟩ := i10
                exact ih (p + 1) r103 M104 q.2 (by omega) hG2 o5 (Or.inl ⟨o1, o3, o4, by omega, o7, n', by omega, by rw [o2]; exact hB⟩) (by omega)
      · refine hgo.1 17 [51] 51 _ _ _ ?_
        refine And.intro ?_ ?_
        · intro (c1 : 10 ≤ p)
          refine And.intro ?_ ?_
          · intro (c2 : (M1 12 2) = 0)
            exfalso
            omega
          · intro (c2 : ¬ (M1 12 2) = 0)
            show xa_wk post (some (0, 0, (-5), (-5), (-5))) M1
            exact xa_wkI (-5) rfl (fun _ _ => by omega) (k (-5) M1 (by omega) (tu_V5 hB) hG)
        · intro (c1 : p < 10)
          refine And.intro ?_ ?_
          · intro (c3 : z = 0)
            refine And.intro ?_ ?_
            · intro (c4 : (M1 12 2) = 0)
              exfalso
              omega
            · intro (c4 : ¬ (M1 12 2) = 0)
              show xa_wk post (some (0, 0, (-5), (-5), (-5))) M1
              exact xa_wkI (-5) rfl (fun _ _ => by omega) (k (-5) M1 (by omega) (tu_V5 hB) hG)
          · intro (c3 : ¬ z = 0)
            refine And.intro ?_ ?_
            · intro (c5 : ¬ (M1 12 2) = 0)
              refine And.intro ?_ ?_
              · intro (c6 : (M1 12 2) = 0)
                exfalso
                omega
              · intro (c6 : ¬ (M1 12 2) = 0)
                show xa_wk post (some (0, 0, (-5), (-5), (-5))) M1
                exact xa_wkI (-5) rfl (fun _ _ => by omega) (k (-5) M1 (by omega) (tu_V5 hB) hG)
            · intro (c5 : (M1 12 2) = 0)
              exfalso
              omega
  have loop1 : ∀ (f : Nat) (a : Int) (M1 : xa_M), 0 ≤ a ∧ a ≤ 10 → (∀ (q : Nat) (j : Int), ¬ q = 14 → M1 q j = M q j) → (∀ j, 0 ≤ j → j < a → M1 14 j = 0) → 10 - a < (f : Int) → Q 2 [(3, (0, 0, 0, 10, a)), (0, (2, 12, 0, 0, 0)), (1, (2, 1, 0, 0, 0)), (2, (0, 0, (-2147483648), 2147483647, but))] [] M1 := by
    intro f
    induction f with
    | zero => intro a M1 a1 hk hz hms; omega
    | succ f ih =>
      intro a M1 a1 hk hz hms
      refine hgo.1 25 [2, 51] 2 _ _ _ ?_
      refine And.intro ?_ ?_
      · intro (c1 : 10 ≤ a)
        show xa_C (xl_I b) A h0 _ 48 [(2, 13, 0, 0, 0), (0, 0, 0, 0, 0), (1, 0, 1, 1, 1)] M1 _
        refine cx_48_13 (show 0 ≤ 0 ∧ 0 < 10 by omega) ?_
        show xa_C (xl_I b) A h0 _ 48 [(2, 14, 0, 0, 0), (0, 0, 0, 0, 0), (1, 0, 1, 1, 1)] (xa_up M1 13 0 1) _
        refine cx_48_14 (show 0 ≤ 0 ∧ 0 < 10 by omega) ?_
        show Q 51 [(4, (0, 0, 0, 0, 0)), (3, (0, 0, 1, 1, 1)), (0, (2, 12, 0, 0, 0)), (1, (2, 1, 0, 0, 0)), (2, (0, 0, (-2147483648), 2147483647, but))] [] (xa_up (xa_up (xa_up M1 13 0 1) 14 0 1) 12 2 0)
        refine hgo.2.1 51 _ [(4, (0, 0, 0, 10, 0)), (3, (0, 0, 0, 1, 1)), (0, (2, 12, 0, 0, 0)), (1, (2, 1, 0, 0, 0)), (2, (0, 0, (-2147483648), 2147483647, but))] _ _ (xa_subI rfl rfl (fun _ _ _ _ => by omega) (xa_subI rfl rfl (fun _ _ _ _ => by omega) (xa_subR rfl (xa_subR rfl (xa_subI rfl rfl (fun _ _ _ _ => by omega) (xa_sub0)))))) ?_
        exact loop2 11 0 1 (xa_up (xa_up (xa_up M1 13 0 1) 14 0 1) 12 2 0) (xm_ini N0) (by omega) (fun q j h => (xa_up_ne (by omega)).trans ((xa_up_ne (by omega)).trans ((xa_up_ne (by omega)).trans (hk q j (by omega))))) tu_ini.2.2.2.1 (Or.inl ⟨xa_up_eq, Or.inr rfl, tu_iniR ((xa_up_ne (by omega)).trans ((xa_up_ne (by omega)).trans xa_up_eq)) ((xa_up_ne (by omega)).trans xa_up_eq) (fun a' a0 a1 => (xa_up_ne (by omega)).trans ((xa_up_ne (by omega)).trans ((xa_up_ne (by omega)).trans (hz a' (by omega) (by omega))))), by rw [tu_ini.2.2.2.2]; omega, fun e => absurd e (by decide), 23, by omega, rfl⟩) (by omega)
      · intro (c1 : a < 10)
        show xa_C (xl_I b) A h0 _ 48 [(2, 14, 0, 0, 0), (0, 0, 0, 10, a), (1, 0, 0, 0, 0)] M1 _
        refine cx_48_14 (show 0 ≤ a ∧ a < 10 by omega) ?_
        show Q 2 [(3, (0, 0, 1, 11, a + 1)), (0, (2, 12, 0, 0, 0)), (1, (2, 1, 0, 0, 0)), (2, (0, 0, (-2147483648), 2147483647, but))] [] (xa_up M1 14 a 0)
        refine hgo.2.1 2 _ [(3, (0, 0, 0, 10, a + 1)), (0, (2, 12, 0, 0, 0)), (1, (2, 1, 0, 0, 0)), (2, (0, 0, (-2147483648), 2147483647, but))] _ _ (xa_subI rfl rfl (fun _ _ _ _ => by omega) (xa_subR rfl (xa_subR rfl (xa_subI rfl rfl (fun _ _ _ _ => by omega) (xa_sub0))))) ?_
        exact ih (a + 1) (xa_up M1 14 a 0) (by omega) (fun q j h => (xa_up_ne (by omega)).trans (hk q j h)) (fun j j0 j1 => by
          by_cases e : j = a
          · rw [e]
            exact xa_up_eq
          · exact (xa_up_ne (by omega)).trans (hz j j0 (by omega))) (by omega)
  refine hgo.1 7 [2] 0 _ _ _ ?_
  show Q 2 [(3, (0, 0, 0, 0, 0)), (0, (2, 12, 0, 0, 0)), (1, (2, 1, 0, 0, 0)), (2, (0, 0, (-2147483648), 2147483647, but))] [] M
  refine hgo.2.1 2 _ [(3, (0, 0, 0, 10, 0)), (0, (2, 12, 0, 0, 0)), (1, (2, 1, 0, 0, 0)), (2, (0, 0, (-2147483648), 2147483647, but))] _ _ (xa_subI rfl rfl (fun _ _ _ _ => by omega) (xa_subR rfl (xa_subR rfl (xa_subI rfl rfl (fun _ _ _ _ => by omega) (xa_sub0))))) ?_
  exact loop1 11 0 M (by omega) (fun _ _ _ => rfl) (fun j j0 j1 => by omega) (by omega)
/-- what turned answers -/
def tu_S (N0 : xa_M) (a v : Int) (C1 : xa_M) : Prop := (¬ (0 ≤ a ∧ a ≤ 9) ∧ v = -1) ∨ ((0 ≤ a ∧ a ≤ 9) ∧ ∃ w : Int, (w = 0 ∨ w = -3 ∨ w = -5) ∧ tu_V (-1) N0 w C1 ∧ ((¬ w = 0 ∧ v = w) ∨ (w = 0 ∧ C1 14 a = 0 ∧ v = -2) ∨ (w = 0 ∧ ¬ C1 14 a = 0 ∧ v = 0)))
/-- of an axle that turns -/
theorem tu_S0 {N0 C1 : xa_M} {a : Int} (h : tu_S N0 a 0 C1) : (0 ≤ a ∧ a ≤ 9) ∧ ∃ N, xm_FT (-1) N0 0 N ∧ tu_R C1 N ∧ N 77 a = 1 ∧ (C1 13 a = N 75 a ∧ C1 14 a = N 76 a) ∧ (-1000000000000000 ≤ C1 13 a ∧ C1 13 a ≤ 1000000000000000) ∧ (1 ≤ C1 14 a ∧ C1 14 a ≤ 1000000000000000) ∧ Int.gcd (N 75 a) (N 76 a) = 1 := by
  rcases h with ⟨-, e⟩ | ⟨ha, w, -, ⟨N, h1, h2⟩, h3⟩
  · omega
  · have hw : w = 0 ∧ ¬ C1 14 a = 0 := by omega
    obtain ⟨rfl, h4⟩ := hw
    have hR := h2 (by decide)
    refine ⟨ha, N, h1, hR, ?_⟩
    rcases hR a ha.1 (by omega) with ⟨-, e⟩ | ⟨e1, ⟨e2, e3⟩, e4, e5, e6⟩
    · exact absurd e h4
    · exact ⟨e1, ⟨e2, e3⟩, by rw [e2]; exact e4, by rw [e3]; exact e5, e6⟩
/-- its numbers are too long to show -/
def tu_L (C : xa_M) (a : Int) : Prop := 1000000000 < ((C 13 a).natAbs : Int) ∨ 1000000000 < C 14 a
/-- what the reference's search finds -/
def tw_F (N0 : xa_M) (but w : Int) (N : xa_M) : Prop := ∃ M', xm_cor N0 M' ∧ xm_FT but M' w N
theorem tw_F_det {N0 N N' : xa_M} {but w w' : Int} (hr : xm_rng N0) (h : tw_F N0 but w N) (h' : tw_F N0 but w' N') : w' = w ∧ (¬ w = -5 → xm_ag N N') := by
  obtain ⟨M1, c1, f1⟩ := h
  obtain ⟨M2, c2, f2⟩ := h'
  exact xm_FT_det (fun q j hn => (c2 q j hn).trans (c1 q j hn).symm) (xm_rng_c c1 hr) f1 f2
/-- what an axle is asked, what comes out (T: of an axle that turns, by the search's numbers) -/
def tw_A (N0 : xa_M) (a v : Int) (T : xa_M → Int → Prop) : Prop := (¬ (0 ≤ a ∧ a ≤ 9) ∧ v = -1) ∨ ((0 ≤ a ∧ a ≤ 9) ∧ ∃ (w : Int) (N : xa_M), tw_F N0 (-1) w N ∧ ((¬ w = 0 ∧ v = w) ∨ (w = 0 ∧ N 77 a = 0 ∧ v = -2) ∨ (w = 0 ∧ N 77 a = 1 ∧ T N v)))
theorem tw_A_of {N0 C1 : xa_M} {a v : Int} {T : xa_M → Int → Prop} (h : tu_S N0 a v C1) (hT : v = 0 → ∀ N, xm_FT (-1) N0 0 N → tu_R C1 N → T N v) : tw_A N0 a v T := by
  rcases h with h | ⟨ha, w, hw, ⟨N, h1, h2⟩, h3⟩
  · exact Or.inl h
  · refine Or.inr ⟨ha, w, N, ⟨N0, xm_cor_r, h1⟩, ?_⟩
    rcases h3 with h3 | ⟨rfl, h4, h5⟩ | ⟨rfl, h4, h5⟩
    · exact Or.inl h3
    · have hz := tu_z (h2 (by decide)) ha.1 (by omega)
      exact Or.inr (Or.inl ⟨rfl, by omega, h5⟩)
    · have hz := tu_z (h2 (by decide)) ha.1 (by omega)
      exact Or.inr (Or.inr ⟨rfl, by omega, hT h5 N h1 (h2 (by decide))⟩)
/-- another answer than turned's -/
theorem tw_A_to {N0 C1 : xa_M} {a v : Int} {T : xa_M → Int → Prop} (h : tu_S N0 a 0 C1) (hT : ∀ N, xm_FT (-1) N0 0 N → tu_R C1 N → N 77 a = 1 → (C1 13 a = N 75 a ∧ C1 14 a = N 76 a) → Int.gcd (N 75 a) (N 76 a) = 1 → T N v) : tw_A N0 a v T := by
  obtain ⟨ha, N, h1, hR, h7, h8, -, -, hg⟩ := tu_S0 h
  exact Or.inr ⟨ha, 0, N, ⟨N0, xm_cor_r, h1⟩, Or.inr (Or.inr ⟨rfl, h7, hT N h1 hR h7 h8 hg⟩)⟩
theorem tw_A_one {N0 : xa_M} {a v v' : Int} {T T' : xa_M → Int → Prop} (hr : xm_rng N0) (h : tw_A N0 a v T) (h' : tw_A N0 a v' T') (hT : ∀ N N', xm_cor N N' → (∀ c, 0 ≤ c → c < 10 → N' 77 c = N 77 c ∧ (N 77 c = 1 → N' 75 c = N 75 c ∧ N' 76 c = N 76 c)) → N 77 a = 1 → N' 75 a = N 75 a → N' 76 a = N 76 a → T N v → T' N' v' → v = v') : v = v' := by
  rcases h with ⟨h1, h2⟩ | ⟨h1, w, N, hF, h2⟩
  · rcases h' with ⟨-, h3⟩ | ⟨h3, -⟩
    · omega
    · exact absurd h3 h1
  · rcases h' with ⟨h3, -⟩ | ⟨-, w', N', hF', h3⟩
    · exact absurd h1 h3
    · obtain ⟨rfl, hag⟩ := tw_F_det hr hF hF'
      rcases h2 with ⟨e1, e2⟩ | ⟨rfl, e1, e2⟩ | ⟨rfl, e1, e2⟩
      · rcases h3 with ⟨-, e3⟩ | ⟨e3, -, -⟩ | ⟨e3, -, -⟩
        · omega
        · exact absurd e3 e1
        · exact absurd e3 e1
      · obtain ⟨-, h7⟩ := hag (by decide)
        obtain ⟨-, k2, -⟩ := h7 a h1.1 (by omega)
        rcases h3 with ⟨e3, -⟩ | ⟨-, -, e3⟩ | ⟨-, e3, -⟩
        · exact absurd rfl e3
        · omega
        · omega
      · obtain ⟨hc, h7⟩ := hag (by decide)
        obtain ⟨-, k2, k3⟩ := h7 a h1.1 (by omega)
        rcases h3 with ⟨e3, -⟩ | ⟨-, e3, -⟩ | ⟨-, e3, e4⟩
        · exact absurd rfl e3
        · omega
        · exact hT N N' hc (fun c c0 c1 => ⟨(h7 c c0 c1).2.1, (h7 c c0 c1).2.2⟩) e1 (k3 e1).1 (k3 e1).2 e2 e4
theorem cx_46t {b : Bool} {A : Nat → Nat} {h0 : g_H} {d : Nat} {M : xa_M} {post : Option xa_V → xa_M → Prop} {l1 u1 x1 : Int} {N0 : xa_M} (hM0 : tu_M N0) (hC0 : tu_C M N0) (k : ∀ (v : Int) (M1 : xa_M), tu_S N0 x1 v M1 → tu_G M M1 → post (some (0, 0, (-5), 0, v)) M1) : xa_C (xl_I b) A h0 (d + 7) 46 [(2, 0, 0, 0, 0), (0, 0, l1, u1, x1)] M post := by
  refine xa_C_wk ?_
  refine xa_C_arg [(2, 0, 0, 0, 0), (0, 0, (-2147483648), 2147483647, x1)] (xa_svR (xa_svI (fun _ _ _ _ => by omega) xa_sv0)) ?_
  refine xa_meth (Q0 := (3, 1, false, 0, 0, 11)) (by decide +kernel) ⟨rfl, rfl⟩ (full := s_c_46) rfl rfl ?_
  intro hM hv Q hgo
  refine hgo.1 24 [] 0 _ _ _ ?_
  show xa_C (xl_I b) A h0 _ 14 [(0, 0, (-2147483648), 2147483647, x1)] M _
  refine cx_14 ?_ ?_ ?_
  · intro (i1 : x1 < 0)
    show xa_wk post (some (0, 0, (-1), (-1), (-1))) M
    exact xa_wkI (-1) rfl (fun _ _ => by omega) (k (-1) M (Or.inl ⟨by omega, rfl⟩) tu_G_r)
  · intro (i2 : 0 ≤ x1) (i3 : 10 ≤ x1)
    show xa_wk post (some (0, 0, (-1), (-1), (-1))) M
    exact xa_wkI (-1) rfl (fun _ _ => by omega) (k (-1) M (Or.inl ⟨by omega, rfl⟩) tu_G_r)
  · intro (i4 : 0 ≤ x1) (i5 : x1 < 10)
    show xa_C (xl_I b) A h0 _ 47 [(2, 12, 0, 0, 0), (2, 1, 0, 0, 0), (0, 0, (-1), (-1), (-1))] M _
    refine cx_47t hM0 hC0 ?_
    intro v101 M102 (i6 : v101 = 0 ∨ v101 = -3 ∨ v101 = -5) (i7 : tu_V (-1) N0 v101 M102) (i8 : tu_G M M102)
    refine And.intro ?_ ?_
    · intro (c9 : v101 = 0)
      show xa_C (xl_I b) A h0 _ 50 [(2, 12, 0, 0, 0), (0, 0, (-2147483648), 2147483647, x1)] M102 _
      refine cx_50_12 (show 0 ≤ x1 ∧ x1 < 10 by omega) ?_ ?_
      · intro (i10 : (M102 14 x1) = 0)
        show xa_wk post (some (0, 0, (-2), (-2), (-2))) M102
        exact xa_wkI (-2) rfl (fun _ _ => by omega) (k (-2) M102 (Or.inr ⟨by omega, v101, i6, i7, by omega⟩) i8)
      · intro (i11 : ¬ (M102 14 x1) = 0)
        show xa_wk post (some (0, 0, 0, 0, 0)) M102
        exact xa_wkI 0 rfl (fun _ _ => by omega) (k 0 M102 (Or.inr ⟨by omega, v101, i6, i7, by omega⟩) i8)
    · intro (c9 : ¬ v101 = 0)
      show xa_wk post (some (0, 0, (-5), 0, v101)) M102
      exact xa_wkI v101 rfl (fun _ _ => by omega) (k v101 M102 (Or.inr ⟨by omega, v101, i6, i7, by omega⟩) i8)
theorem cx_69t {b : Bool} {A : Nat → Nat} {h0 : g_H} {d : Nat} {M : xa_M} {post : Option xa_V → xa_M → Prop} {l1 u1 x1 : Int} (ha : 0 ≤ x1 ∧ x1 < 10) (hb : -1000000000000000 ≤ M 13 x1 ∧ M 13 x1 ≤ 1000000000000000) (k : ∀ r : Int, (r = 1 ∧ tu_L M x1) ∨ (r = 0 ∧ ¬ tu_L M x1) → post (some (0, 0, 0, 1, r)) M) : xa_C (xl_I b) A h0 (d + 3) 69 [(2, 12, 0, 0, 0), (0, 0, l1, u1, x1)] M post := by
  refine xa_C_wk ?_
  refine xa_C_arg [(2, 12, 0, 0, 0), (0, 0, (-2147483648), 2147483647, x1)] (xa_svR (xa_svI (fun _ _ _ _ => by omega) xa_sv0)) ?_
  refine xa_meth (Q0 := (2, 2, false, 0, 0, 9)) (by decide +kernel) ⟨rfl, rfl⟩ (full := s_c_69) rfl rfl ?_
  intro hM hv Q hgo
  refine hgo.1 18 [] 0 _ _ _ ?_
  show xa_C (xl_I b) A h0 _ 54 [(2, 12, 0, 0, 0), (0, 0, (-2147483648), 2147483647, x1)] M _
  refine cx_54_12 (show 0 ≤ x1 ∧ x1 < 10 by omega) ?_
  show xa_C (xl_I b) A h0 _ 56 [(1, 0, (-9223372036854775808), 9223372036854775807, M 13 x1)] M _
  refine ct_abs (lo := 0) (hi := 1000000000000000) (show -9223372036854775808 < M 13 x1 by omega) (fun a101 h102 => ⟨by omega, ?_⟩)
  refine And.intro ?_ ?_
  · intro (c1 : 1000000000 < a101)
    show xa_wk post (some (0, 0, 1, 1, 1)) M
    exact xa_wkI 1 rfl (fun _ _ => by omega) (k 1 (by unfold tu_L; omega))
  · intro (c1 : a101 ≤ 1000000000)
    show xa_C (xl_I b) A h0 _ 51 [(2, 12, 0, 0, 0), (0, 0, (-2147483648), 2147483647, x1)] M _
    refine cx_51_12 (show 0 ≤ x1 ∧ x1 < 10 by omega) ?_
    refine And.intro ?_ ?_
    · intro (c2 : (M 14 x1) ≤ 1000000000)
      show xa_wk post (some (0, 0, 0, 0, 0)) M
      exact xa_wkI 0 rfl (fun _ _ => by omega) (k 0 (by unfold tu_L; omega))
    · intro (c2 : 1000000000 < (M 14 x1))
      show xa_wk post (some (0, 0, 1, 1, 1)) M
      exact xa_wkI 1 rfl (fun _ _ => by omega) (k 1 (by unfold tu_L; omega))
/-- what shown answers -/
def tu_H (N0 : xa_M) (a v : Int) (C1 : xa_M) : Prop := (¬ v = 0 ∧ tu_S N0 a v C1) ∨ (tu_S N0 a 0 C1 ∧ ((tu_L C1 a ∧ v = -5) ∨ (¬ tu_L C1 a ∧ v = 0)))
theorem cx_68t {b : Bool} {A : Nat → Nat} {h0 : g_H} {d : Nat} {M : xa_M} {post : Option xa_V → xa_M → Prop} {l1 u1 x1 : Int} {N0 : xa_M} (hM0 : tu_M N0) (hC0 : tu_C M N0) (k : ∀ (v : Int) (M1 : xa_M), tu_H N0 x1 v M1 → tu_G M M1 → post (some (0, 0, (-5), 0, v)) M1) : xa_C (xl_I b) A h0 (d + 8) 68 [(2, 0, 0, 0, 0), (0, 0, l1, u1, x1)] M post := by
  refine xa_C_wk ?_
  refine xa_C_arg [(2, 0, 0, 0, 0), (0, 0, (-2147483648), 2147483647, x1)] (xa_svR (xa_svI (fun _ _ _ _ => by omega) xa_sv0)) ?_
  refine xa_meth (Q0 := (3, 1, false, 0, 0, 11)) (by decide +kernel) ⟨rfl, rfl⟩ (full := s_c_68) rfl rfl ?_
  intro hM hv Q hgo
  refine hgo.1 18 [] 0 _ _ _ ?_
  show xa_C (xl_I b) A h0 _ 46 [(2, 0, 0, 0, 0), (0, 0, (-2147483648), 2147483647, x1)] M _
  refine cx_46t hM0 hC0 ?_
  intro v101 M102 (i1 : tu_S N0 x1 v101 M102) (i2 : tu_G M M102)
  refine And.intro ?_ ?_
  · intro (c3 : v101 = 0)
    have i1 := i1
    rw [c3] at i1
    obtain ⟨ax, n9, t1, t2, t3, t4, t5, t6, t7⟩ := tu_S0 i1
    show xa_C (xl_I b) A h0 _ 69 [(2, 12, 0, 0, 0), (0, 0, (-2147483648), 2147483647, x1)] M102 _
    refine cx_69t (show 0 ≤ x1 ∧ x1 < 10 by omega) t5 ?_
    intro r103 (i4 : (r103 = 1 ∧ tu_L M102 x1) ∨ (r103 = 0 ∧ ¬ tu_L M102 x1))
    refine And.intro ?_ ?_
    · intro (c5 : r103 = 0)
      show xa_wk post (some (0, 0, 0, 0, 0)) M102
      rcases i4 with ⟨e, h⟩ | ⟨e, h⟩
      · exfalso
        omega
      · exact xa_wkI 0 rfl (fun _ _ => by omega) (k 0 M102 (Or.inr ⟨i1, Or.inr ⟨h, rfl⟩⟩) i2)
    · intro (c5 : ¬ r103 = 0)
      show xa_wk post (some (0, 0, (-5), (-5), (-5))) M102
      rcases i4 with ⟨e, h⟩ | ⟨e, h⟩
      · exact xa_wkI (-5) rfl (fun _ _ => by omega) (k (-5) M102 (Or.inr ⟨i1, Or.inl ⟨h, rfl⟩⟩) i2)
      · exfalso
        omega
  · intro (c3 : ¬ v101 = 0)
    show xa_wk post (some (0, 0, (-5), 0, v101)) M102
    exact xa_wkI v101 rfl (fun _ _ => by omega) (k v101 M102 (Or.inl ⟨by omega, i1⟩) i2)
/-- those of the first n that are so (bits) -/
noncomputable def wd_b (P : Int → Prop) : Nat → Int
  | 0 => 0
  | p + 1 => @ite _ (P (p : Int)) (Classical.propDecidable _) (xa_ib 4 (wd_b P p) (xa_ib 6 1 (p : Int))) (wd_b P p)
theorem wd_b1 {P : Int → Prop} {p : Nat} (h : P (p : Int)) : wd_b P (p + 1) = xa_ib 4 (wd_b P p) (xa_ib 6 1 (p : Int)) := by
  rw [wd_b]
  exact if_pos h
theorem wd_b0 {P : Int → Prop} {p : Nat} (h : ¬ P (p : Int)) : wd_b P (p + 1) = wd_b P p := by
  rw [wd_b]
  exact if_neg h
theorem wd_b_e {P P' : Int → Prop} : ∀ n : Nat, (∀ p : Nat, p < n → (P (p : Int) ↔ P' (p : Int))) → wd_b P n = wd_b P' n := by
  intro n
  induction n with
  | zero => intro _; rfl
  | succ k ih =>
    intro h
    by_cases c : P (k : Int)
    · rw [wd_b1 c, wd_b1 ((h k (by omega)).mp c), ih (fun p hp => h p (by omega))]
    · rw [wd_b0 c, wd_b0 (fun c' => c ((h k (by omega)).mpr c')), ih (fun p hp => h p (by omega))]
theorem wd_b_r {P : Int → Prop} : ∀ n : Nat, -2147483648 ≤ wd_b P n ∧ wd_b P n ≤ 2147483647 := by
  intro n
  induction n with
  | zero => exact ⟨by show (-2147483648 : Int) ≤ 0; decide, by show (0 : Int) ≤ 2147483647; decide⟩
  | succ k ih =>
    by_cases h : P (k : Int)
    · rw [wd_b1 h]
      generalize wd_b P k = x
      generalize xa_ib 6 1 (k : Int) = y
      have h1 := Int32.le_toInt (s_fib 4 (Int32.ofInt x) (Int32.ofInt y))
      have h2 := Int32.toInt_lt (s_fib 4 (Int32.ofInt x) (Int32.ofInt y))
      unfold xa_ib
      exact ⟨h1, by omega⟩
    · rw [wd_b0 h]
      exact ih
theorem bk_or0 {a : Int} (h1 : -2147483648 ≤ a) (h2 : a ≤ 2147483647) : xa_ib 4 a 0 = a := by
  show (Int32.ofInt a ||| Int32.ofInt 0).toInt = a
  rw [show Int32.ofInt 0 = 0 from rfl, Int32.or_zero]
  exact Int32.toInt_ofInt_of_le (by omega) (by omega)
/-- the class's book is the reference's -/
def tk_B (pb : Nat) (C N : xa_M) : Prop := C pb 4 = N 60 11 ∧ (0 ≤ N 60 11 ∧ N 60 11 ≤ 8) ∧ ∀ p, 0 ≤ p → p < N 60 11 → (C (pb + 1) p = N 70 p ∧ C (pb + 2) p = N 71 p) ∧ (1 ≤ N 70 p ∧ N 70 p ≤ 2000) ∧ (1 ≤ N 71 p ∧ N 71 p ≤ 2000)
-- turns: what both sides answer
set_option maxRecDepth 20000
theorem cx_60a {b : Bool} {A : Nat → Nat} {h0 : g_H} {d : Nat} {M : xa_M} {post : Option xa_V → xa_M → Prop} {l1 u1 x1 : Int} (h1 : (0 : Int) ≤ M 48 1) (k : ∀ M1 : xa_M, (∀ (q : Nat) (j : Int), ¬ (q = 48 ∨ q = 49) → M1 q j = M q j) → (0 : Int) ≤ M1 48 1 → post none M1) : xa_C (xl_I b) A h0 (d + 2) 60 [(2, 48, 0, 0, 0), (1, 0, l1, u1, x1)] M post :=
  cx_60_48 h1 (fun _ => k M (fun _ _ _ => rfl) h1) (fun h => k _ (fun q j hq => (xa_up_ne (by omega)).trans (xa_up_ne (by omega))) (by
    rw [xa_up_eq, xa_w32_id (by omega) (by omega)]
    omega))
/-- its numbers are too long to show, on the other side -/
def tw_L (N : xa_M) (a : Int) : Prop := 1000000000 < ((N 75 a).natAbs : Int) ∨ 1000000000 < N 76 a
theorem tw_s3 {N : xa_M} {v w a : Int} {T : xa_M → Int → Prop} (hs : (v = w ∧ ¬ w = 0) ∨ (w = 0 ∧ N 77 a = 0 ∧ v = -2) ∨ (w = 0 ∧ N 77 a = 1 ∧ v = 0)) (hv : ¬ v = 0) : (¬ w = 0 ∧ v = w) ∨ (w = 0 ∧ N 77 a = 0 ∧ v = -2) ∨ (w = 0 ∧ N 77 a = 1 ∧ T N v) := by
  rcases hs with ⟨x, y⟩ | ⟨x, y, z⟩ | ⟨-, -, z⟩
  · exact Or.inl ⟨y, x⟩
  · exact Or.inr (Or.inl ⟨x, y, z⟩)
  · exact absurd z hv
/-- the answer that fairState gives -/
def tw_fT (a : Int) (N : xa_M) (v : Int) : Prop := (tw_L N a ∧ v = -5) ∨ (¬ tw_L N a ∧ v = 0)
theorem tw_fT_one {a : Int} {N N' : xa_M} {v v' : Int} (e1 : N' 75 a = N 75 a) (e2 : N' 76 a = N 76 a) (h : tw_fT a N v) (h' : tw_fT a N' v') : v = v' := by
  unfold tw_fT tw_L at h h'
  rw [e1, e2] at h'
  rcases h with ⟨a1, a2⟩ | ⟨a1, a2⟩
  · rcases h' with ⟨-, b2⟩ | ⟨b1, -⟩
    · omega
    · exact absurd a1 b1
  · rcases h' with ⟨b1, -⟩ | ⟨-, b2⟩
    · exact absurd b1 a1
    · omega
theorem tw_f5 {a v : Int} {N : xa_M} (h : tw_fT a N v) (hv : v < 0) : tw_L N a := by
  rcases h with ⟨h, -⟩ | ⟨-, e⟩
  · exact h
  · omega
theorem tw_f0 {a v : Int} {N : xa_M} (h : tw_fT a N v) (hv : 0 ≤ v) : ¬ tw_L N a := by
  rcases h with ⟨-, e⟩ | ⟨h, -⟩
  · omega
  · exact h
theorem tw_s5 {N : xa_M} {v w a : Int} {T : xa_M → Int → Prop} (hs : (v = w ∧ ¬ w = 0) ∨ (w = 0 ∧ N 77 a = 0 ∧ v = -2) ∨ (w = 0 ∧ N 77 a = 1 ∧ T N v)) (hw : w = 0) (h7 : ¬ N 77 a = 0) : T N v := by
  rcases hs with ⟨-, x⟩ | ⟨-, x, -⟩ | ⟨-, -, x⟩
  · exact absurd hw x
  · exact absurd x h7
  · exact x
/-- shown, by the search's numbers -/
theorem tw_H {N0 C1 : xa_M} {a v : Int} (h : tu_H N0 a v C1) : tw_A N0 a v (tw_fT a) := by
  rcases h with ⟨h1, h2⟩ | ⟨h1, h2⟩
  · exact tw_A_of h2 (fun e => absurd e h1)
  · refine tw_A_to h1 (fun N _ _ _ e _ => ?_)
    unfold tw_fT tw_L
    unfold tu_L at h2
    rw [e.1, e.2] at h2
    exact h2
/-- bits of those that are so -/
theorem tw_b1 {P : Int → Prop} {a x : Int} (a0 : 0 ≤ a) (hP : P a) (hx : x = wd_b P a.toNat) : xa_ib 4 x (xa_ib 6 1 a) = wd_b P (a + 1).toNat := by
  have e : ((a.toNat : Nat) : Int) = a := Int.toNat_of_nonneg a0
  rw [show (a + 1).toNat = a.toNat + 1 by omega, wd_b1 (by rw [e]; exact hP), e, hx]
theorem tw_b0 {P : Int → Prop} {a x : Int} (a0 : 0 ≤ a) (hP : ¬ P a) (hx : x = wd_b P a.toNat) : x = wd_b P (a + 1).toNat := by
  have e : ((a.toNat : Nat) : Int) = a := Int.toNat_of_nonneg a0
  rw [show (a + 1).toNat = a.toNat + 1 by omega, wd_b0 (by rw [e]; exact hP), hx]
theorem tw_bz {P : Int → Prop} {a x : Int} (a0 : 0 ≤ a) (hP : ¬ P a) (hx : x = wd_b P a.toNat) : xa_ib 4 x 0 = wd_b P (a + 1).toNat := by
  have r := wd_b_r (P := P) a.toNat
  rw [bk_or0 (by omega) (by omega)]
  exact tw_b0 a0 hP hx
/-- what turning answers -/
def tw_61 (N0 : xa_M) (v : Int) : Prop := ∃ (w : Int) (N : xa_M), tw_F N0 (-1) w N ∧ ((¬ w = 0 ∧ v = w) ∨ (w = 0 ∧ v = wd_b (fun a => ¬ N 77 a = 0) 10))
theorem tw_61_one {N0 : xa_M} {v v' : Int} (hr : xm_rng N0) (h : tw_61 N0 v) (h' : tw_61 N0 v') : v = v' := by
  obtain ⟨w, N, hF, h2⟩ := h
  obtain ⟨w', N', hF', h3⟩ := h'
  obtain ⟨rfl, hag⟩ := tw_F_det hr hF hF'
  rcases h2 with ⟨e1, e2⟩ | ⟨rfl, e2⟩
  · rcases h3 with ⟨-, e3⟩ | ⟨e3, -⟩
    · omega
    · exact absurd e3 e1
  · rcases h3 with ⟨e3, -⟩ | ⟨-, e3⟩
    · exact absurd rfl e3
    · obtain ⟨-, h7⟩ := hag (by decide)
      rw [e2, e3]
      exact wd_b_e 10 (fun p hp => by
        obtain ⟨-, k2, -⟩ := h7 (p : Int) (by omega) (by omega)
        show ¬ N 77 (p : Int) = 0 ↔ ¬ N' 77 (p : Int) = 0
        rw [k2])
theorem tw_61_of {N0 C1 : xa_M} {w v : Int} (hV : tu_V (-1) N0 w C1) (h : (¬ w = 0 ∧ v = w) ∨ (w = 0 ∧ v = wd_b (fun a => ¬ C1 14 a = 0) 10)) : tw_61 N0 v := by
  obtain ⟨N, h1, h2⟩ := hV
  refine ⟨w, N, ⟨N0, xm_cor_r, h1⟩, ?_⟩
  rcases h with h | ⟨rfl, h⟩
  · exact Or.inl h
  · refine Or.inr ⟨rfl, h.trans (wd_b_e 10 (fun p hp => ?_))⟩
    have hz := tu_z (h2 (by decide)) (show (0 : Int) ≤ (p : Int) by omega) (by omega)
    show ¬ C1 14 (p : Int) = 0 ↔ ¬ N 77 (p : Int) = 0
    omega
/-- the meshes below m, each left out -/
def tw_J (N0 : xa_M) (m : Int) (T : Int → Int) : Prop := ∀ j, 0 ≤ j → j < m → (T j = 0 ∨ T j = -3) ∧ ∃ N, tw_F N0 j (T j) N
theorem tw_Js {N0 N : xa_M} {m w : Int} {T : Int → Int} (h : tw_J N0 m T) (hw : w = 0 ∨ w = -3) (hF : tw_F N0 m w N) : ∃ T', tw_J N0 (m + 1) T' ∧ T' m = w ∧ ∀ j, 0 ≤ j → j < m → T' j = T j := by
  refine ⟨fun j => if j = m then w else T j, fun j j0 j1 => ?_, if_pos rfl, fun j j0 j1 => if_neg (by omega)⟩
  by_cases e : j = m
  · subst e
    show ((if j = j then w else T j) = 0 ∨ (if j = j then w else T j) = -3) ∧ ∃ N, tw_F N0 j (if j = j then w else T j) N
    rw [if_pos rfl]
    exact ⟨hw, N, hF⟩
  · show ((if j = m then w else T j) = 0 ∨ (if j = m then w else T j) = -3) ∧ ∃ N, tw_F N0 j (if j = m then w else T j) N
    rw [if_neg e]
    exact h j j0 (by omega)
/-- what jams answers -/
def tw_62 (N0 : xa_M) (v : Int) : Prop := ∃ (w : Int) (N : xa_M), tw_F N0 (-1) w N ∧ ((¬ w = -3 ∧ v = w) ∨ (w = -3 ∧ ∃ (c : Int) (T : Int → Int), 0 ≤ c ∧ c ≤ N0 60 6 ∧ tw_J N0 c T ∧ ((c = N0 60 6 ∧ v = wd_b (fun j => T j = 0) c.toNat) ∨ (c < N0 60 6 ∧ (∃ N, tw_F N0 c (-5) N) ∧ v = -5))))
theorem tw_J_one {N0 : xa_M} {c c' : Int} {T T' : Int → Int} (hr : xm_rng N0) (h : tw_J N0 c T) (h' : tw_J N0 c' T') : ∀ j, 0 ≤ j → j < c → j < c' → T j = T' j := by
  intro j j0 j1 j2
  obtain ⟨-, N, hF⟩ := h j j0 j1
  obtain ⟨-, N', hF'⟩ := h' j j0 j2
  exact (tw_F_det hr hF hF').1.symm
theorem tw_62_one {N0 : xa_M} {v v' : Int} (hr : xm_rng N0) (h : tw_62 N0 v) (h' : tw_62 N0 v') : v = v' := by
  obtain ⟨w, N, hF, h2⟩ := h
  obtain ⟨w', N', hF', h3⟩ := h'
  obtain ⟨rfl, -⟩ := tw_F_det hr hF hF'
  rcases h2 with ⟨e1, e2⟩ | ⟨e1, c, T, c0, c1, hJ, h4⟩
  · rcases h3 with ⟨-, e3⟩ | ⟨e3, -⟩
    · omega
    · exact absurd e3 e1
  · rcases h3 with ⟨e3, -⟩ | ⟨-, c', T', d0, d1, hJ', h5⟩
    · exact absurd e1 e3
    · have hT := tw_J_one hr hJ hJ'
      rcases h4 with ⟨rfl, e2⟩ | ⟨e1, ⟨N1, hN1⟩, e2⟩
      · rcases h5 with ⟨rfl, e3⟩ | ⟨e3, ⟨N2, hN2⟩, -⟩
        · rw [e2, e3]
          exact wd_b_e _ (fun p hp => by
            show T (p : Int) = 0 ↔ T' (p : Int) = 0
            rw [hT (p : Int) (by omega) (by omega) (by omega)])
        · exfalso
          obtain ⟨k1, N3, hN3⟩ := hJ c' d0 e3
          have := (tw_F_det hr hN3 hN2).1
          omega
      · rcases h5 with ⟨rfl, e3⟩ | ⟨-, -, e3⟩
        · exfalso
          obtain ⟨k1, N3, hN3⟩ := hJ' c c0 e1
          have := (tw_F_det hr hN3 hN1).1
          omega
        · omega
theorem ct_stateOfF {A : Nat → Nat} {h0 : g_H} {d : Nat} {M : xa_M} {post : Option xa_V → xa_M → Prop} {l1 u1 : Int} {a : Int} (hI : xm_Inv M) (ha0 : 0 ≤ a) (ha1 : a ≤ 9) (k : ∀ (v w : Int) (M1 : xa_M), xm_cor M M1 → xm_trn M1 → xm_FT (-1) M w M1 → ((w = 0 ∨ w = -3 ∨ w = -5) ∧ v ≤ 0) → (0 ≤ v → w = 0 ∧ M1 77 a = 1 ∧ 1 ≤ M1 76 a) → ((v = w ∧ ¬ w = 0) ∨ (w = 0 ∧ M1 77 a = 0 ∧ v = -2) ∨ (w = 0 ∧ M1 77 a = 1 ∧ v = 0)) → post (some (0, 0, -5, 0, v)) M1) : xa_C xm_I A h0 (d + 5) 226 [(2, 60, 0, 0, 0), (0, 0, l1, u1, a)] M post := by
  refine xa_C_arg [(2, 60, 0, 0, 0), (0, 0, 0, 9, a)] (xa_svR (xa_svI (fun _ _ _ _ => by omega) xa_sv0)) (xa_C_wk ?_)
  refine xa_meth (Q0 := (3, 1, false, 0, 0, 12)) (by decide +kernel) ⟨rfl, rfl⟩ (full := s_c_226) rfl rfl ?_
  intro hM hv Q hgo
  refine hgo.1 18 [] 0 _ _ _ ?_
  show xa_C xm_I A h0 _ 227 [(2, 60, 0, 0, 0), (0, 0, (-1), (-1), (-1))] M _
  refine xa_C_mok (ct_findTurns (xm_Inv_cor xm_cor_r hI) (fun v1 M1 hv1 hc1 hT1 hF1 hM1 => ?_))
  refine And.intro ?_ ?_
  · intro (c2 : 0 ≤ v1)
    refine And.intro ?_ ?_
    · intro (c3 : (M1 77 a) = 0)
      show xa_wk post (some (0, 0, (-2), (-2), (-2))) M1
      have t := xm_t77 hM1 a ha0 (by omega)
      exact xa_wkI (-2) rfl (fun _ _ => by omega) (k (-2) v1 M1 hc1 hT1 hF1 (by omega) (fun _ => ⟨by omega, by omega, by first | exact hT1 a ha0 (by omega) (by omega) | omega⟩) (by omega))
    · intro (c3 : ¬ (M1 77 a) = 0)
      show xa_wk post (some (0, 0, 0, 0, 0)) M1
      have t := xm_t77 hM1 a ha0 (by omega)
      exact xa_wkI 0 rfl (fun _ _ => by omega) (k 0 v1 M1 hc1 hT1 hF1 (by omega) (fun _ => ⟨by omega, by omega, by first | exact hT1 a ha0 (by omega) (by omega) | omega⟩) (by omega))
  · intro (c2 : v1 < 0)
    show xa_wk post (some (0, 0, (-5), 0, v1)) M1
    have t := xm_t77 hM1 a ha0 (by omega)
    exact xa_wkI v1 rfl (fun _ _ => by omega) (k v1 v1 M1 hc1 hT1 hF1 (by omega) (fun _ => ⟨by omega, by omega, by first | exact hT1 a ha0 (by omega) (by omega) | omega⟩) (by omega))

theorem ct_fairStateF {A : Nat → Nat} {h0 : g_H} {d : Nat} {M : xa_M} {post : Option xa_V → xa_M → Prop} {l1 u1 : Int} {a : Int} (hI : xm_Inv M) (ha0 : 0 ≤ a) (ha1 : a ≤ 9) (k : ∀ (v w : Int) (M1 : xa_M), xm_cor M M1 → xm_trn M1 → xm_FT (-1) M w M1 → ((w = 0 ∨ w = -3 ∨ w = -5) ∧ v ≤ 0) → (0 ≤ v → w = 0 ∧ M1 77 a = 1 ∧ 1 ≤ M1 76 a ∧ M1 76 a ≤ 1000000000 ∧ ((M1 75 a).natAbs : Int) ≤ 1000000000) → ((v = w ∧ ¬ w = 0) ∨ (w = 0 ∧ M1 77 a = 0 ∧ v = -2) ∨ (w = 0 ∧ M1 77 a = 1 ∧ tw_fT a M1 v)) → post (some (0, 0, -5, 0, v)) M1) : xa_C xm_I A h0 (d + 6) 273 [(2, 60, 0, 0, 0), (0, 0, l1, u1, a)] M post := by
  refine xa_C_arg [(2, 60, 0, 0, 0), (0, 0, 0, 9, a)] (xa_svR (xa_svI (fun _ _ _ _ => by omega) xa_sv0)) (xa_C_wk ?_)
  refine xa_meth (Q0 := (3, 1, false, 0, 0, 12)) (by decide +kernel) ⟨rfl, rfl⟩ (full := s_c_273) rfl rfl ?_
  intro hM hv Q hgo
  refine hgo.1 26 [] 0 _ _ _ ?_
  show xa_C xm_I A h0 _ 226 [(2, 60, 0, 0, 0), (0, 0, 0, 9, a)] M _
  refine xa_C_mok (ct_stateOfF (xm_Inv_cor xm_cor_r hI) (by omega) (by omega) (fun v1 w1 M1 hc1 hT1 hF1 hw1 hv1 hs1 hM1 => ?_))
  refine And.intro ?_ ?_
  · intro (c2 : 0 ≤ v1)
    show xa_C xm_I A h0 _ 56 [(1, 0, (-1000000000000000), 1000000000000000, M1 75 a)] M1 _
    refine ct_absb 1000000000000000 (by decide) (by decide) (by decide) (fun a3 ea3 => ?_)
    refine And.intro ?_ ?_
    · intro (c4 : 1000000000 < a3)
      show xa_wk post (some (0, 0, (-5), (-5), (-5))) M1
      exact xa_wkI (-5) rfl (fun _ _ => by omega) (k (-5) w1 M1 hc1 hT1 hF1 (by omega) (fun _ => ⟨by omega, by omega, by omega, by omega, by omega⟩) (by unfold tw_fT tw_L; omega))
    · intro (c4 : a3 ≤ 1000000000)
      refine And.intro ?_ ?_
      · intro (c5 : (M1 76 a) ≤ 1000000000)
        show xa_wk post (some (0, 0, 0, 0, 0)) M1
        exact xa_wkI 0 rfl (fun _ _ => by omega) (k 0 w1 M1 hc1 hT1 hF1 (by omega) (fun _ => ⟨by omega, by omega, by omega, by omega, by omega⟩) (by unfold tw_fT tw_L; omega))
      · intro (c5 : 1000000000 < (M1 76 a))
        show xa_wk post (some (0, 0, (-5), (-5), (-5))) M1
        exact xa_wkI (-5) rfl (fun _ _ => by omega) (k (-5) w1 M1 hc1 hT1 hF1 (by omega) (fun _ => ⟨by omega, by omega, by omega, by omega, by omega⟩) (by unfold tw_fT tw_L; omega))
  · intro (c2 : v1 < 0)
    show xa_wk post (some (0, 0, (-5), 0, v1)) M1
    exact xa_wkI v1 rfl (fun _ _ => by omega) (k v1 w1 M1 hc1 hT1 hF1 (by omega) (fun _ => ⟨by omega, by omega, by omega, by omega, by omega⟩) (by unfold tw_fT tw_L; omega))

theorem ms_turnV {A : Nat → Nat} {h0 : g_H} {d : Nat} {M : xa_M} {post : Option xa_V → xa_M → Prop} {l1 u1 : Int} {a : Int} (hI : xm_Inv M) (k : ∀ (o : Option xa_V) (M1 : xa_M), (∃ lo hi n, o = some (0, 0, lo, hi, n) ∧ tw_A M a n (fun _ v => v = 0)) → xm_cor M M1 → post o M1) : xa_C xm_I A h0 (d + 6) 225 [(2, 60, 0, 0, 0), (0, 0, l1, u1, a)] M post := by
  refine xa_C_arg [(2, 60, 0, 0, 0), (0, 0, (-2147483648), 2147483647, a)] (xa_svR (xa_svI (fun _ _ _ _ => by omega) xa_sv0)) ?_
  refine xa_meth (Q0 := (3, 1, false, 0, 0, 12)) (by decide +kernel) ⟨rfl, rfl⟩ (full := s_c_225) rfl rfl ?_
  intro hM hv Q hgo
  refine hgo.1 31 [] 0 _ _ _ ?_
  show xa_C xm_I A h0 _ 215 [(0, 0, (-2147483648), 2147483647, a)] (xa_up M 60 21 0) _
  refine ct_isAxle ?_ ?_
  · intro (i1 : 0 ≤ a ∧ a ≤ 9)
    show xa_C xm_I A h0 _ 226 [(2, 60, 0, 0, 0), (0, 0, (-2147483648), 2147483647, a)] (xa_up M 60 21 0) _
    refine xa_C_mok (ct_stateOfF (xm_Inv_cor (xm_cor_f (by omega) xm_cor_r) hI) (by omega) (by omega) (fun v2 w2 M2 hc2 hT2 hF2 hw2 hv2 hs2 hM2 => ?_))
    refine And.intro ?_ ?_
    · intro (c3 : 0 ≤ v2)
      refine And.intro (show 0 ≤ a ∧ a < 10 by omega) ?_
      refine And.intro (show 0 ≤ a ∧ a < 10 by omega) ?_
      show xa_C xm_I A h0 _ 230 [(2, 60, 0, 0, 0), (1, 0, (-1000000000000000), 1000000000000000, M2 75 a), (1, 0, 0, 1000000000000000, M2 76 a)] (xa_up M2 60 20 0) _
      refine ct_tellPart (n := 0) (by first | rfl | (simp [xa_up]; done)) (by decide) (by decide) (by decide) (by omega) (fun g4 eg4 pg4 qg4 => ?_)
      show post (some (0, 0, 0, 0, 0)) (xa_up (xa_up (xa_up (xa_up (xa_up M2 60 20 0) 74 0 ((M2 75 a).tdiv g4)) 60 20 1) 74 1 ((M2 76 a).tdiv g4)) 60 20 2)
      exact k _ _ ⟨_, _, _, rfl, Or.inr ⟨i1, w2, M2, ⟨_, xm_cor_f (by omega) xm_cor_r, hF2⟩, Or.inr (Or.inr ⟨by omega, by omega, rfl⟩)⟩⟩ (xm_cor_f (by omega) (xm_cor_a rfl (xm_cor_f (by omega) (xm_cor_a rfl (xm_cor_f (by omega) (xm_cor_t (xm_cor_f (by omega) xm_cor_r) hc2))))))
    · intro (c3 : v2 < 0)
      show post (some (0, 0, (-5), 0, v2)) M2
      exact k _ _ ⟨_, _, _, rfl, Or.inr ⟨i1, w2, M2, ⟨_, xm_cor_f (by omega) xm_cor_r, hF2⟩, tw_s3 hs2 (by omega)⟩⟩ (xm_cor_t (xm_cor_f (by omega) xm_cor_r) hc2)
  · intro (i1 : ¬ (0 ≤ a ∧ a ≤ 9))
    show post (some (0, 0, (-1), (-1), (-1))) (xa_up M 60 21 0)
    exact k _ _ ⟨_, _, _, rfl, Or.inl ⟨i1, rfl⟩⟩ (xm_cor_f (by omega) xm_cor_r)

theorem ms_turningV {A : Nat → Nat} {h0 : g_H} {d : Nat} {M : xa_M} {post : Option xa_V → xa_M → Prop} (hI : xm_Inv M) (k : ∀ (o : Option xa_V) (M1 : xa_M), (∃ lo hi n, o = some (0, 0, lo, hi, n) ∧ tw_61 M n) → xm_cor M M1 → post o M1) : xa_C xm_I A h0 (d + 5) 232 [(2, 60, 0, 0, 0)] M post := by
  refine xa_meth (Q0 := (5, 1, false, 0, 0, 12)) (by decide +kernel) ⟨rfl, rfl⟩ (full := s_c_232) rfl rfl ?_
  intro hM hv Q hgo
  have loop : ∀ (n : Nat) (a b c : Int) (M1 : xa_M), 0 ≤ a → a ≤ 10 → xm_cor M M1 → b = wd_b (fun a => ¬ M1 77 a = 0) a.toNat → (∀ v, v = wd_b (fun a => ¬ M1 77 a = 0) 10 → tw_61 M v) → 10 - a < (n : Int) → Q 24 [(4, (0, 0, 0, 10, a)), (3, (0, 0, (-2147483648), 2147483647, c)), (2, (0, 0, (-2147483648), 2147483647, b)), (0, (2, 60, 0, 0, 0))] [] M1 := by
    intro n
    induction n with
    | zero => intro a b c M1 h1 h2 hc hb hS hms; clear hb hS; omega
    | succ n ih =>
      intro a b c M1 h1 h2 hc hb hS hms
      refine hgo.1 40 [24] 24 _ _ _ ?_
      refine And.intro ?_ ?_
      · intro (c1 : 10 ≤ a)
        show xa_C xm_I A h0 _ 231 [(2, 60, 0, 0, 0), (1, 0, (-2147483648), 2147483647, c)] (xa_up M1 60 20 0) _
        refine ct_tell (n := 0) (by first | rfl | (simp [xa_up]; done) | omega) (by omega) (by omega) ?_
        show post (some (0, 0, (-2147483648), 2147483647, b)) (xa_up (xa_up (xa_up M1 60 20 0) 74 0 c) 60 20 1)
        exact k _ _ ⟨_, _, _, rfl, hS _ (by rw [hb, show a.toNat = 10 by omega])⟩ (xm_cor_f (by omega) (xm_cor_a rfl (xm_cor_f (by omega) hc)))
      · intro (c1 : a < 10)
        refine And.intro (show 0 ≤ a ∧ a < 10 by omega) ?_
        refine And.intro ?_ ?_
        · intro (c2 : (M1 77 a) = 0)
          refine And.intro (show 0 ≤ a ∧ a < 10 by omega) ?_
          refine And.intro ?_ ?_
          · intro (c3 : (M1 77 a) = 0)
            show Q 24 [(4, (0, 0, 1, 11, a + 1)), (3, (0, 0, (-2147483648), 2147483647, xa_ib 4 c 0)), (2, (0, 0, (-2147483648), 2147483647, xa_ib 4 b 0)), (0, (2, 60, 0, 0, 0))] [] M1
            refine hgo.2.1 24 _ [(4, (0, 0, 0, 10, a + 1)), (3, (0, 0, (-2147483648), 2147483647, xa_ib 4 c 0)), (2, (0, 0, (-2147483648), 2147483647, xa_ib 4 b 0)), (0, (2, 60, 0, 0, 0))] _ _ (xa_subI rfl rfl (fun _ _ _ _ => by omega) (xa_subI rfl rfl (fun _ _ _ _ => by omega) (xa_subI rfl rfl (fun _ _ _ _ => by omega) (xa_subR rfl xa_sub0)))) ?_
            exact ih (a + 1) (xa_ib 4 b 0) (xa_ib 4 c 0) M1 (by omega) (by omega) hc (tw_bz h1 (fun h => h c2) hb) hS (by omega)
          · intro (c3 : ¬ (M1 77 a) = 0)
            refine And.intro (show 0 ≤ a ∧ a < 10 by omega) ?_
            refine And.intro ?_ ?_
            · intro (c4 : (M1 75 a) ≤ 0)
              show Q 24 [(4, (0, 0, 1, 11, a + 1)), (3, (0, 0, (-2147483648), 2147483647, xa_ib 4 c 0)), (2, (0, 0, (-2147483648), 2147483647, xa_ib 4 b 0)), (0, (2, 60, 0, 0, 0))] [] M1
              refine hgo.2.1 24 _ [(4, (0, 0, 0, 10, a + 1)), (3, (0, 0, (-2147483648), 2147483647, xa_ib 4 c 0)), (2, (0, 0, (-2147483648), 2147483647, xa_ib 4 b 0)), (0, (2, 60, 0, 0, 0))] _ _ (xa_subI rfl rfl (fun _ _ _ _ => by omega) (xa_subI rfl rfl (fun _ _ _ _ => by omega) (xa_subI rfl rfl (fun _ _ _ _ => by omega) (xa_subR rfl xa_sub0)))) ?_
              exact ih (a + 1) (xa_ib 4 b 0) (xa_ib 4 c 0) M1 (by omega) (by omega) hc (tw_bz h1 (fun h => h c2) hb) hS (by omega)
            · intro (c4 : 0 < (M1 75 a))
              show Q 24 [(4, (0, 0, 1, 11, a + 1)), (3, (0, 0, (-2147483648), 2147483647, xa_ib 4 c (xa_ib 6 1 a))), (2, (0, 0, (-2147483648), 2147483647, xa_ib 4 b 0)), (0, (2, 60, 0, 0, 0))] [] M1
              refine hgo.2.1 24 _ [(4, (0, 0, 0, 10, a + 1)), (3, (0, 0, (-2147483648), 2147483647, xa_ib 4 c (xa_ib 6 1 a))), (2, (0, 0, (-2147483648), 2147483647, xa_ib 4 b 0)), (0, (2, 60, 0, 0, 0))] _ _ (xa_subI rfl rfl (fun _ _ _ _ => by omega) (xa_subI rfl rfl (fun _ _ _ _ => by omega) (xa_subI rfl rfl (fun _ _ _ _ => by omega) (xa_subR rfl xa_sub0)))) ?_
              exact ih (a + 1) (xa_ib 4 b 0) (xa_ib 4 c (xa_ib 6 1 a)) M1 (by omega) (by omega) hc (tw_bz h1 (fun h => h c2) hb) hS (by omega)
        · intro (c2 : ¬ (M1 77 a) = 0)
          refine And.intro (show 0 ≤ a ∧ a < 10 by omega) ?_
          refine And.intro ?_ ?_
          · intro (c5 : (M1 77 a) = 0)
            show Q 24 [(4, (0, 0, 1, 11, a + 1)), (3, (0, 0, (-2147483648), 2147483647, xa_ib 4 c 0)), (2, (0, 0, (-2147483648), 2147483647, xa_ib 4 b (xa_ib 6 1 a))), (0, (2, 60, 0, 0, 0))] [] M1
            refine hgo.2.1 24 _ [(4, (0, 0, 0, 10, a + 1)), (3, (0, 0, (-2147483648), 2147483647, xa_ib 4 c 0)), (2, (0, 0, (-2147483648), 2147483647, xa_ib 4 b (xa_ib 6 1 a))), (0, (2, 60, 0, 0, 0))] _ _ (xa_subI rfl rfl (fun _ _ _ _ => by omega) (xa_subI rfl rfl (fun _ _ _ _ => by omega) (xa_subI rfl rfl (fun _ _ _ _ => by omega) (xa_subR rfl xa_sub0)))) ?_
            exact ih (a + 1) (xa_ib 4 b (xa_ib 6 1 a)) (xa_ib 4 c 0) M1 (by omega) (by omega) hc (tw_b1 h1 c2 hb) hS (by omega)
          · intro (c5 : ¬ (M1 77 a) = 0)
            refine And.intro (show 0 ≤ a ∧ a < 10 by omega) ?_
            refine And.intro ?_ ?_
            · intro (c6 : (M1 75 a) ≤ 0)
              show Q 24 [(4, (0, 0, 1, 11, a + 1)), (3, (0, 0, (-2147483648), 2147483647, xa_ib 4 c 0)), (2, (0, 0, (-2147483648), 2147483647, xa_ib 4 b (xa_ib 6 1 a))), (0, (2, 60, 0, 0, 0))] [] M1
              refine hgo.2.1 24 _ [(4, (0, 0, 0, 10, a + 1)), (3, (0, 0, (-2147483648), 2147483647, xa_ib 4 c 0)), (2, (0, 0, (-2147483648), 2147483647, xa_ib 4 b (xa_ib 6 1 a))), (0, (2, 60, 0, 0, 0))] _ _ (xa_subI rfl rfl (fun _ _ _ _ => by omega) (xa_subI rfl rfl (fun _ _ _ _ => by omega) (xa_subI rfl rfl (fun _ _ _ _ => by omega) (xa_subR rfl xa_sub0)))) ?_
              exact ih (a + 1) (xa_ib 4 b (xa_ib 6 1 a)) (xa_ib 4 c 0) M1 (by omega) (by omega) hc (tw_b1 h1 c2 hb) hS (by omega)
            · intro (c6 : 0 < (M1 75 a))
              show Q 24 [(4, (0, 0, 1, 11, a + 1)), (3, (0, 0, (-2147483648), 2147483647, xa_ib 4 c (xa_ib 6 1 a))), (2, (0, 0, (-2147483648), 2147483647, xa_ib 4 b (xa_ib 6 1 a))), (0, (2, 60, 0, 0, 0))] [] M1
              refine hgo.2.1 24 _ [(4, (0, 0, 0, 10, a + 1)), (3, (0, 0, (-2147483648), 2147483647, xa_ib 4 c (xa_ib 6 1 a))), (2, (0, 0, (-2147483648), 2147483647, xa_ib 4 b (xa_ib 6 1 a))), (0, (2, 60, 0, 0, 0))] _ _ (xa_subI rfl rfl (fun _ _ _ _ => by omega) (xa_subI rfl rfl (fun _ _ _ _ => by omega) (xa_subI rfl rfl (fun _ _ _ _ => by omega) (xa_subR rfl xa_sub0)))) ?_
              exact ih (a + 1) (xa_ib 4 b (xa_ib 6 1 a)) (xa_ib 4 c (xa_ib 6 1 a)) M1 (by omega) (by omega) hc (tw_b1 h1 c2 hb) hS (by omega)
  refine hgo.1 20 [24] 0 _ _ _ ?_
  show xa_C xm_I A h0 _ 227 [(2, 60, 0, 0, 0), (0, 0, (-1), (-1), (-1))] (xa_up M 60 21 0) _
  refine xa_C_mok (ct_findTurns (xm_Inv_cor (xm_cor_f (by omega) xm_cor_r) hI) (fun v1 M1 hv1 hc1 hT1 hF1 hM1 => ?_))
  refine And.intro ?_ ?_
  · intro (c2 : 0 ≤ v1)
    show Q 24 [(4, (0, 0, 0, 0, 0)), (3, (0, 0, 0, 0, 0)), (2, (0, 0, 0, 0, 0)), (1, (0, 0, (-5), 0, v1)), (0, (2, 60, 0, 0, 0))] [] M1
    refine hgo.2.1 24 _ [(4, (0, 0, 0, 10, 0)), (3, (0, 0, (-2147483648), 2147483647, 0)), (2, (0, 0, (-2147483648), 2147483647, 0)), (0, (2, 60, 0, 0, 0))] _ _ (xa_subI rfl rfl (fun _ _ _ _ => by omega) (xa_subI rfl rfl (fun _ _ _ _ => by omega) (xa_subI rfl rfl (fun _ _ _ _ => by omega) (xa_subR rfl xa_sub0)))) ?_
    exact loop 11 0 0 0 M1 (by omega) (by omega) (xm_cor_t (xm_cor_f (by omega) xm_cor_r) hc1) rfl (fun v e => ⟨v1, M1, ⟨_, xm_cor_f (by omega) xm_cor_r, hF1⟩, Or.inr ⟨by omega, e⟩⟩) (by omega)
  · intro (c2 : v1 < 0)
    show post (some (0, 0, (-5), 0, v1)) M1
    exact k _ _ ⟨_, _, _, rfl, ⟨v1, M1, ⟨_, xm_cor_f (by omega) xm_cor_r, hF1⟩, Or.inl ⟨by omega, rfl⟩⟩⟩ (xm_cor_t (xm_cor_f (by omega) xm_cor_r) hc1)

theorem ms_jamsV {A : Nat → Nat} {h0 : g_H} {d : Nat} {M : xa_M} {post : Option xa_V → xa_M → Prop} (hI : xm_Inv M) (k : ∀ (o : Option xa_V) (M1 : xa_M), (∃ lo hi n, o = some (0, 0, lo, hi, n) ∧ tw_62 M n) → xm_cor M M1 → post o M1) : xa_C xm_I A h0 (d + 5) 233 [(2, 60, 0, 0, 0)] M post := by
  refine xa_meth (Q0 := (5, 1, false, 0, 0, 12)) (by decide +kernel) ⟨rfl, rfl⟩ (full := s_c_233) rfl rfl ?_
  intro hM hv Q hgo
  have b6 := xm_f6 hM
  have loop : ∀ (w : Int) (Nw : xa_M), w = -3 → tw_F M (-1) w Nw → ∀ (n : Nat) (m b : Int) (M1 : xa_M) (T : Int → Int), 0 ≤ m → m ≤ 16 → m ≤ M 60 6 → xm_cor M M1 → tw_J M m T → b = wd_b (fun j => T j = 0) m.toNat → 16 - m < (n : Int) → Q 31 [(3, (0, 0, 0, 16, m)), (2, (0, 0, (-2147483648), 2147483647, b)), (0, (2, 60, 0, 0, 0))] [] M1 := by
    intro w Nw hw3 hFw n
    induction n with
    | zero => intro m b M1 T h1 h2 hn hc hJ hb hms; clear hJ hb; omega
    | succ n ih =>
      intro m b M1 T h1 h2 hn hc hJ hb hms
      have e6 := xm_corf hc 6 (by omega)
      refine hgo.1 27 [31] 31 _ _ _ ?_
      refine And.intro ?_ ?_
      · intro (c1 : (M1 60 6) ≤ m)
        show post (some (0, 0, (-2147483648), 2147483647, b)) M1
        exact k _ _ ⟨_, _, _, rfl, ⟨w, Nw, hFw, Or.inr ⟨hw3, m, T, h1, hn, hJ, Or.inl ⟨by omega, hb⟩⟩⟩⟩ hc
      · intro (c1 : m < (M1 60 6))
        show xa_C xm_I A h0 _ 227 [(2, 60, 0, 0, 0), (0, 0, 0, 16, m)] M1 _
        refine xa_C_mok (ct_findTurns (xm_Inv_cor hc hI) (fun v2 M2 hv2 hc2 hT2 hF2 hM2 => ?_))
        refine And.intro ?_ ?_
        · intro (c3 : ¬ v2 = (-5))
          refine And.intro ?_ ?_
          · intro (c4 : ¬ v2 = 0)
            show Q 31 [(3, (0, 0, 1, 17, m + 1)), (2, (0, 0, (-2147483648), 2147483647, xa_ib 4 b 0)), (4, (0, 0, (-5), 0, v2)), (0, (2, 60, 0, 0, 0))] [] M2
            refine hgo.2.1 31 _ [(3, (0, 0, 0, 16, m + 1)), (2, (0, 0, (-2147483648), 2147483647, xa_ib 4 b 0)), (0, (2, 60, 0, 0, 0))] _ _ (xa_subI rfl rfl (fun _ _ _ _ => by omega) (xa_subI rfl rfl (fun _ _ _ _ => by omega) (xa_subR rfl xa_sub0))) ?_
            have hv : v2 = -3 := by omega
            rw [hv] at hF2
            obtain ⟨T', t1, t2, t3⟩ := tw_Js hJ (by omega) ⟨M1, hc, hF2⟩
            exact ih (m + 1) (xa_ib 4 b 0) _ T' (by omega) (by omega) (by omega) (xm_cor_t hc hc2) t1 (tw_bz h1 (fun h => by have : T' m = 0 := h; omega) (hb.trans (wd_b_e _ (fun p hp => by show T (p : Int) = 0 ↔ T' (p : Int) = 0; rw [t3 (p : Int) (by omega) (by omega)])))) (by omega)
          · intro (c4 : v2 = 0)
            show Q 31 [(3, (0, 0, 1, 17, m + 1)), (2, (0, 0, (-2147483648), 2147483647, xa_ib 4 b (xa_ib 6 1 m))), (4, (0, 0, (-5), 0, v2)), (0, (2, 60, 0, 0, 0))] [] M2
            refine hgo.2.1 31 _ [(3, (0, 0, 0, 16, m + 1)), (2, (0, 0, (-2147483648), 2147483647, xa_ib 4 b (xa_ib 6 1 m))), (0, (2, 60, 0, 0, 0))] _ _ (xa_subI rfl rfl (fun _ _ _ _ => by omega) (xa_subI rfl rfl (fun _ _ _ _ => by omega) (xa_subR rfl xa_sub0))) ?_
            have hv : v2 = 0 := by omega
            rw [hv] at hF2
            obtain ⟨T', t1, t2, t3⟩ := tw_Js hJ (by omega) ⟨M1, hc, hF2⟩
            exact ih (m + 1) (xa_ib 4 b (xa_ib 6 1 m)) _ T' (by omega) (by omega) (by omega) (xm_cor_t hc hc2) t1 (tw_b1 h1 t2 (hb.trans (wd_b_e _ (fun p hp => by show T (p : Int) = 0 ↔ T' (p : Int) = 0; rw [t3 (p : Int) (by omega) (by omega)])))) (by omega)
        · intro (c3 : v2 = (-5))
          show post (some (0, 0, (-5), 0, v2)) M2
          exact k _ _ ⟨_, _, _, rfl, ⟨w, Nw, hFw, Or.inr ⟨hw3, m, T, h1, hn, hJ, Or.inr ⟨by omega, ⟨_, M1, hc, (by rw [← c3]; exact hF2)⟩, c3⟩⟩⟩⟩ (xm_cor_t hc hc2)
  refine hgo.1 22 [31] 0 _ _ _ ?_
  show xa_C xm_I A h0 _ 227 [(2, 60, 0, 0, 0), (0, 0, (-1), (-1), (-1))] (xa_up M 60 21 0) _
  refine xa_C_mok (ct_findTurns (xm_Inv_cor (xm_cor_f (by omega) xm_cor_r) hI) (fun v1 M1 hv1 hc1 hT1 hF1 hM1 => ?_))
  refine And.intro ?_ ?_
  · intro (c2 : v1 ≤ (-3))
    refine And.intro ?_ ?_
    · intro (c3 : ¬ v1 = (-5))
      show Q 31 [(3, (0, 0, 0, 0, 0)), (2, (0, 0, 0, 0, 0)), (1, (0, 0, (-5), 0, v1)), (0, (2, 60, 0, 0, 0))] [] M1
      refine hgo.2.1 31 _ [(3, (0, 0, 0, 16, 0)), (2, (0, 0, (-2147483648), 2147483647, 0)), (0, (2, 60, 0, 0, 0))] _ _ (xa_subI rfl rfl (fun _ _ _ _ => by omega) (xa_subI rfl rfl (fun _ _ _ _ => by omega) (xa_subR rfl xa_sub0))) ?_
      exact loop v1 M1 (by omega) ⟨_, xm_cor_f (by omega) xm_cor_r, hF1⟩ 17 0 0 _ (fun _ => 0) (by omega) (by omega) (by omega) (xm_cor_t (xm_cor_f (by omega) xm_cor_r) hc1) (fun j j0 j1 => by omega) rfl (by omega)
    · intro (c3 : v1 = (-5))
      show post (some (0, 0, (-5), 0, v1)) M1
      exact k _ _ ⟨_, _, _, rfl, ⟨v1, M1, ⟨_, xm_cor_f (by omega) xm_cor_r, hF1⟩, Or.inl ⟨by omega, by omega⟩⟩⟩ (xm_cor_t (xm_cor_f (by omega) xm_cor_r) hc1)
  · intro (c2 : (-3) < v1)
    show post (some (0, 0, 0, 0, 0)) M1
    exact k _ _ ⟨_, _, _, rfl, ⟨v1, M1, ⟨_, xm_cor_f (by omega) xm_cor_r, hF1⟩, Or.inl ⟨by omega, by omega⟩⟩⟩ (xm_cor_t (xm_cor_f (by omega) xm_cor_r) hc1)

/-- where more is asked than of an axle -/
def tw_P (P : Prop) (N0 : xa_M) (a v : Int) (T : xa_M → Int → Prop) : Prop := (¬ P ∧ v = -1) ∨ (P ∧ tw_A N0 a v T)
theorem tw_Pn {P : Prop} {N0 : xa_M} {a : Int} {T : xa_M → Int → Prop} (h : ¬ (0 ≤ a ∧ a ≤ 9)) : tw_P P N0 a (-1) T := by
  by_cases c : P
  · exact Or.inr ⟨c, Or.inl ⟨h, rfl⟩⟩
  · exact Or.inl ⟨c, rfl⟩
theorem tw_P_one {P : Prop} {N0 : xa_M} {a v v' : Int} {T T' : xa_M → Int → Prop} (hr : xm_rng N0) (h : tw_P P N0 a v T) (h' : tw_P P N0 a v' T') (hT : ∀ N N', xm_cor N N' → (∀ c, 0 ≤ c → c < 10 → N' 77 c = N 77 c ∧ (N 77 c = 1 → N' 75 c = N 75 c ∧ N' 76 c = N 76 c)) → N 77 a = 1 → N' 75 a = N 75 a → N' 76 a = N 76 a → T N v → T' N' v' → v = v') : v = v' := by
  rcases h with ⟨h1, h2⟩ | ⟨h1, h2⟩
  · rcases h' with ⟨-, h3⟩ | ⟨h3, -⟩
    · omega
    · exact absurd h3 h1
  · rcases h' with ⟨h3, -⟩ | ⟨-, h3⟩
    · exact absurd h1 h3
    · exact tw_A_one hr h2 h3 hT
/-- what show answers -/
def tw_66 (N0 : xa_M) (a y v : Int) : Prop := tw_P (0 ≤ y ∧ y ≤ 2000) N0 a v (tw_fT a)
theorem tw_66_one {N0 : xa_M} {a y v v' : Int} (hr : xm_rng N0) (h : tw_66 N0 a y v) (h' : tw_66 N0 a y v') : v = v' := tw_P_one hr h h' (fun _ _ _ _ _ e1 e2 t t' => tw_fT_one e1 e2 t t')
theorem tw_s4 {N : xa_M} {v v' w a : Int} {T : xa_M → Int → Prop} (hs : (v = w ∧ ¬ w = 0) ∨ (w = 0 ∧ N 77 a = 0 ∧ v = -2) ∨ (w = 0 ∧ N 77 a = 1 ∧ T N v)) (hv : v' = v) : (¬ w = 0 ∧ v' = w) ∨ (w = 0 ∧ N 77 a = 0 ∧ v' = -2) ∨ (w = 0 ∧ N 77 a = 1 ∧ T N v') := by
  subst hv
  rcases hs with ⟨x, y⟩ | h
  · exact Or.inl ⟨y, x⟩
  · exact Or.inr h
theorem ms_showV {A : Nat → Nat} {h0 : g_H} {d : Nat} {M : xa_M} {post : Option xa_V → xa_M → Prop} {l1 u1 l2 u2 : Int} {a b : Int} (hI : xm_Inv M) (k : ∀ (o : Option xa_V) (M1 : xa_M), (∃ lo hi n, o = some (0, 0, lo, hi, n) ∧ tw_66 M a b n) → xm_cor M M1 → post o M1) : xa_C xm_I A h0 (d + 7) 272 [(2, 60, 0, 0, 0), (0, 0, l1, u1, a), (0, 0, l2, u2, b)] M post := by
  refine xa_C_arg [(2, 60, 0, 0, 0), (0, 0, (-2147483648), 2147483647, a), (0, 0, (-2147483648), 2147483647, b)] (xa_svR (xa_svI (fun _ _ _ _ => by omega) (xa_svI (fun _ _ _ _ => by omega) xa_sv0))) ?_
  refine xa_meth (Q0 := (4, 1, false, 0, 0, 12)) (by decide +kernel) ⟨rfl, rfl⟩ (full := s_c_272) rfl rfl ?_
  intro hM hv Q hgo
  refine hgo.1 17 [25] 0 _ _ _ ?_
  show xa_C xm_I A h0 _ 215 [(0, 0, (-2147483648), 2147483647, a)] (xa_up M 60 21 0) _
  refine ct_isAxle ?_ ?_
  · intro (i1 : 0 ≤ a ∧ a ≤ 9)
    show xa_C xm_I A h0 _ 214 [(0, 0, (-2147483648), 2147483647, b), (0, 0, 0, 0, 0), (0, 0, 2000, 2000, 2000)] (xa_up M 60 21 0) _
    refine ct_in ?_ ?_
    · intro (i2 : 0 ≤ b ∧ b ≤ 2000)
      show Q 25 [(0, (2, 60, 0, 0, 0)), (1, (0, 0, (-2147483648), 2147483647, a)), (2, (0, 0, (-2147483648), 2147483647, b))] [] (xa_up M 60 21 0)
      refine hgo.2.1 25 _ [(0, (2, 60, 0, 0, 0)), (1, (0, 0, 0, 9, a)), (2, (0, 0, 0, 2000, b))] _ _ (xa_subR rfl (xa_subI rfl rfl (fun _ _ _ _ => by omega) (xa_subI rfl rfl (fun _ _ _ _ => by omega) xa_sub0))) ?_
      refine hgo.1 34 [] 25 _ _ _ ?_
      show xa_C xm_I A h0 _ 273 [(2, 60, 0, 0, 0), (0, 0, 0, 9, a)] (xa_up M 60 21 0) _
      refine xa_C_mok (ct_fairStateF (xm_Inv_cor (xm_cor_f (by omega) xm_cor_r) hI) (by omega) (by omega) (fun v103 w103 M103 hc103 hT103 hF103 hw103 hv103 hs103 hM103 => ?_))
      refine And.intro ?_ ?_
      · intro (c104 : 0 ≤ v103)
        show xa_C xm_I A h0 _ 56 [(1, 0, (-1000000000000000), 1000000000000000, M103 75 a)] (xa_up M103 60 20 0) _
        refine ct_absb 1000000000000000 (by decide) (by decide) (by decide) (fun a105 ea105 => ?_)
        refine And.intro (show 0 < (M103 76 a) by omega) ?_
        show xa_C xm_I A h0 _ 230 [(2, 60, 0, 0, 0), (1, 0, 0, 999999999999999, (a105 * b) % (M103 76 a)), (1, 0, 0, 1000000000000000, M103 76 a)] (xa_up M103 60 20 0) _
        refine ct_tellPart (n := 0) (by first | rfl | (simp [xa_up]; done)) (by decide) (by decide) (by decide) (by omega) (fun g106 eg106 pg106 qg106 => ?_)
        show post (some (0, 0, 0, 0, 0)) (xa_up (xa_up (xa_up (xa_up (xa_up M103 60 20 0) 74 0 (((a105 * b) % (M103 76 a)).tdiv g106)) 60 20 1) 74 1 ((M103 76 a).tdiv g106)) 60 20 2)
        exact k _ _ ⟨_, _, _, rfl, Or.inr ⟨i2, Or.inr ⟨i1, w103, M103, ⟨_, xm_cor_f (by omega) xm_cor_r, hF103⟩, tw_s4 (v := v103) hs103 (by omega)⟩⟩⟩ (xm_cor_f (by omega) (xm_cor_a rfl (xm_cor_f (by omega) (xm_cor_a rfl (xm_cor_f (by omega) (xm_cor_t (xm_cor_f (by omega) xm_cor_r) hc103))))))
      · intro (c104 : v103 < 0)
        show post (some (0, 0, (-5), 0, v103)) M103
        exact k _ _ ⟨_, _, _, rfl, Or.inr ⟨i2, Or.inr ⟨i1, w103, M103, ⟨_, xm_cor_f (by omega) xm_cor_r, hF103⟩, tw_s4 hs103 rfl⟩⟩⟩ (xm_cor_t (xm_cor_f (by omega) xm_cor_r) hc103)
    · intro (i2 : ¬ (0 ≤ b ∧ b ≤ 2000))
      show post (some (0, 0, (-1), (-1), (-1))) (xa_up M 60 21 0)
      exact k _ _ ⟨_, _, _, rfl, Or.inl ⟨i2, rfl⟩⟩ (xm_cor_f (by omega) xm_cor_r)
  · intro (i1 : ¬ (0 ≤ a ∧ a ≤ 9))
    show post (some (0, 0, (-1), (-1), (-1))) (xa_up M 60 21 0)
    exact k _ _ ⟨_, _, _, rfl, tw_Pn i1⟩ (xm_cor_f (by omega) xm_cor_r)

theorem cx_45v {b : Bool} {A : Nat → Nat} {h0 : g_H} {d : Nat} {M : xa_M} {post : Option xa_V → xa_M → Prop} {l1 u1 x1 : Int} {N0 : xa_M} (hM0 : tu_M N0) (hC0 : tu_C M N0) (k : ∀ (lo hi v : Int) (M1 : xa_M), tw_A N0 x1 v (fun _ v => v = 0) → (∀ (q : Nat) (j : Int), ¬ (12 ≤ q ∧ q ≤ 14) → ¬ (q = 48 ∨ q = 49) → M1 q j = M q j) → post (some (0, 0, lo, hi, v)) M1) : xa_C (xl_I b) A h0 (d + 8) 45 [(2, 0, 0, 0, 0), (0, 0, l1, u1, x1)] M post := by
  refine xa_C_arg [(2, 0, 0, 0, 0), (0, 0, (-2147483648), 2147483647, x1)] (xa_svR (xa_svI (fun _ _ _ _ => by omega) (xa_sv0))) ?_
  refine xa_meth (Q0 := (3, 1, false, 0, 0, 11)) (by decide +kernel) ⟨rfl, rfl⟩ (full := s_c_45) rfl rfl ?_
  intro hM hv Q hgo
  refine hgo.1 29 [] 0 _ _ _ ?_
  show xa_C (xl_I b) A h0 _ 46 [(2, 0, 0, 0, 0), (0, 0, (-2147483648), 2147483647, x1)] M _
  refine cx_46t hM0 hC0 ?_
  intro v101 M102 (i1 : tu_S N0 x1 v101 M102) (i2 : tu_G M M102)
  refine And.intro ?_ ?_
  · intro (c3 : v101 = 0)
    rw [c3] at i1
    have ax := (tu_S0 i1).1
    show xa_C (xl_I b) A h0 _ 59 [(2, 48, 0, 0, 0)] M102 _
    refine cx_59_48 ?_
    show xa_C (xl_I b) A h0 _ 54 [(2, 12, 0, 0, 0), (0, 0, (-2147483648), 2147483647, x1)] (xa_up M102 48 1 0) _
    refine cx_54_12 (show 0 ≤ x1 ∧ x1 < 10 by omega) ?_
    show xa_C (xl_I b) A h0 _ 60 [(2, 48, 0, 0, 0), (1, 0, (-9223372036854775808), 9223372036854775807, M102 13 x1)] (xa_up M102 48 1 0) _
    refine cx_60a (by show (0 : Int) ≤ 0; omega) ?_
    intro M103 (i4 : ∀ (q : Nat) (j : Int), ¬ (q = 48 ∨ q = 49) → M103 q j = (xa_up M102 48 1 0) q j) (i5 : (0 : Int) ≤ M103 48 1)
    show xa_C (xl_I b) A h0 _ 51 [(2, 12, 0, 0, 0), (0, 0, (-2147483648), 2147483647, x1)] M103 _
    refine cx_51_12 (show 0 ≤ x1 ∧ x1 < 10 by omega) ?_
    show xa_C (xl_I b) A h0 _ 60 [(2, 48, 0, 0, 0), (1, 0, (-9223372036854775808), 9223372036854775807, M103 14 x1)] M103 _
    refine cx_60a (by show (0 : Int) ≤ M103 48 1; omega) ?_
    intro M104 (i6 : ∀ (q : Nat) (j : Int), ¬ (q = 48 ∨ q = 49) → M104 q j = M103 q j) (i7 : (0 : Int) ≤ M104 48 1)
    show post (some (0, 0, 0, 0, 0)) M104
    exact k _ _ _ _ (tw_A_of i1 (fun e _ _ _ => e)) (fun q j h1 h2 => (i6 q j h2).trans ((i4 q j h2).trans ((xa_up_ne (by omega)).trans (i2 q j h1))))
  · intro (c3 : ¬ v101 = 0)
    show post (some (0, 0, (-5), 0, v101)) M102
    exact k _ _ _ _ (tw_A_of i1 (fun e _ _ _ => e)) (fun q j h1 h2 => i2 q j h1)
theorem cx_61v {b : Bool} {A : Nat → Nat} {h0 : g_H} {d : Nat} {M : xa_M} {post : Option xa_V → xa_M → Prop} {N0 : xa_M} (hM0 : tu_M N0) (hC0 : tu_C M N0) (k : ∀ (lo hi v : Int) (M1 : xa_M), tw_61 N0 v → (∀ (q : Nat) (j : Int), ¬ (12 ≤ q ∧ q ≤ 14) → ¬ (q = 48 ∨ q = 49) → M1 q j = M q j) → post (some (0, 0, lo, hi, v)) M1) : xa_C (xl_I b) A h0 (d + 7) 61 [(2, 0, 0, 0, 0)] M post := by
  refine xa_meth (Q0 := (5, 1, false, 0, 0, 11)) (by decide +kernel) ⟨rfl, rfl⟩ (full := s_c_61) rfl rfl ?_
  intro hM hv Q hgo
  have loop : ∀ (f : Nat) (a x y : Int) (M1 : xa_M), 0 ≤ a ∧ a ≤ 10 → tu_G M M1 → x = wd_b (fun a => ¬ M1 14 a = 0) a.toNat → (∀ v, v = wd_b (fun a => ¬ M1 14 a = 0) 10 → tw_61 N0 v) → 10 - a < (f : Int) → Q 26 [(4, (0, 0, 0, 10, a)), (3, (0, 0, (-2147483648), 2147483647, y)), (2, (0, 0, (-2147483648), 2147483647, x)), (0, (2, 0, 0, 0, 0))] [] M1 := by
    intro f
    induction f with
    | zero => intro a x y M1 a1 hG hb hS hms; clear hb hS; omega
    | succ f ih =>
      intro a x y M1 a1 hG hb hS hms
      refine hgo.1 34 [26] 26 _ _ _ ?_
      refine And.intro ?_ ?_
      · intro (c1 : 10 ≤ a)
        show xa_C (xl_I b) A h0 _ 59 [(2, 48, 0, 0, 0)] M1 _
        refine cx_59_48 ?_
        show xa_C (xl_I b) A h0 _ 60 [(2, 48, 0, 0, 0), (1, 0, (-2147483648), 2147483647, y)] (xa_up M1 48 1 0) _
        refine cx_60a (by show (0 : Int) ≤ 0; omega) ?_
        intro M101 (i2 : ∀ (q : Nat) (j : Int), ¬ (q = 48 ∨ q = 49) → M101 q j = (xa_up M1 48 1 0) q j) (i3 : (0 : Int) ≤ M101 48 1)
        show post (some (0, 0, (-2147483648), 2147483647, x)) M101
        exact k _ _ _ _ (hS _ (by rw [hb, show a.toNat = 10 by omega])) (fun q j h1 h2 => (i2 q j h2).trans ((xa_up_ne (by omega)).trans (hG q j h1)))
      · intro (c1 : a < 10)
        show xa_C (xl_I b) A h0 _ 50 [(2, 12, 0, 0, 0), (0, 0, 0, 10, a)] M1 _
        refine cx_50_12 (show 0 ≤ a ∧ a < 10 by omega) ?_ ?_
        · intro (i4 : (M1 14 a) = 0)
          show Q 26 [(4, (0, 0, 1, 11, a + 1)), (3, (0, 0, (-2147483648), 2147483647, y)), (2, (0, 0, (-2147483648), 2147483647, x)), (0, (2, 0, 0, 0, 0))] [] M1
          refine hgo.2.1 26 _ [(4, (0, 0, 0, 10, a + 1)), (3, (0, 0, (-2147483648), 2147483647, y)), (2, (0, 0, (-2147483648), 2147483647, x)), (0, (2, 0, 0, 0, 0))] _ _ (xa_subI rfl rfl (fun _ _ _ _ => by omega) (xa_subI rfl rfl (fun _ _ _ _ => by omega) (xa_subI rfl rfl (fun _ _ _ _ => by omega) (xa_subR rfl (xa_sub0))))) ?_
          exact ih (a + 1) x y M1 (by omega) hG (tw_b0 a1.1 (fun h => h i4) hb) hS (by omega)
        · intro (i5 : ¬ (M1 14 a) = 0)
          show xa_C (xl_I b) A h0 _ 54 [(2, 12, 0, 0, 0), (0, 0, 0, 10, a)] M1 _
          refine cx_54_12 (show 0 ≤ a ∧ a < 10 by omega) ?_
          refine And.intro ?_ ?_
          · intro (c6 : (M1 13 a) ≤ 0)
            show Q 26 [(4, (0, 0, 1, 11, a + 1)), (3, (0, 0, (-2147483648), 2147483647, xa_ib 4 y 0)), (2, (0, 0, (-2147483648), 2147483647, xa_ib 4 x (xa_ib 6 1 a))), (0, (2, 0, 0, 0, 0))] [] M1
            refine hgo.2.1 26 _ [(4, (0, 0, 0, 10, a + 1)), (3, (0, 0, (-2147483648), 2147483647, xa_ib 4 y 0)), (2, (0, 0, (-2147483648), 2147483647, xa_ib 4 x (xa_ib 6 1 a))), (0, (2, 0, 0, 0, 0))] _ _ (xa_subI rfl rfl (fun _ _ _ _ => by omega) (xa_subI rfl rfl (fun _ _ _ _ => by omega) (xa_subI rfl rfl (fun _ _ _ _ => by omega) (xa_subR rfl (xa_sub0))))) ?_
            exact ih (a + 1) (xa_ib 4 x (xa_ib 6 1 a)) (xa_ib 4 y 0) M1 (by omega) hG (tw_b1 a1.1 i5 hb) hS (by omega)
          · intro (c6 : 0 < (M1 13 a))
            show Q 26 [(4, (0, 0, 1, 11, a + 1)), (3, (0, 0, (-2147483648), 2147483647, xa_ib 4 y (xa_ib 6 1 a))), (2, (0, 0, (-2147483648), 2147483647, xa_ib 4 x (xa_ib 6 1 a))), (0, (2, 0, 0, 0, 0))] [] M1
            refine hgo.2.1 26 _ [(4, (0, 0, 0, 10, a + 1)), (3, (0, 0, (-2147483648), 2147483647, xa_ib 4 y (xa_ib 6 1 a))), (2, (0, 0, (-2147483648), 2147483647, xa_ib 4 x (xa_ib 6 1 a))), (0, (2, 0, 0, 0, 0))] _ _ (xa_subI rfl rfl (fun _ _ _ _ => by omega) (xa_subI rfl rfl (fun _ _ _ _ => by omega) (xa_subI rfl rfl (fun _ _ _ _ => by omega) (xa_subR rfl (xa_sub0))))) ?_
            exact ih (a + 1) (xa_ib 4 x (xa_ib 6 1 a)) (xa_ib 4 y (xa_ib 6 1 a)) M1 (by omega) hG (tw_b1 a1.1 i5 hb) hS (by omega)
  refine hgo.1 20 [26] 0 _ _ _ ?_
  show xa_C (xl_I b) A h0 _ 47 [(2, 12, 0, 0, 0), (2, 1, 0, 0, 0), (0, 0, (-1), (-1), (-1))] M _
  refine cx_47t hM0 hC0 ?_
  intro v102 M103 (i1 : v102 = 0 ∨ v102 = -3 ∨ v102 = -5) (i2 : tu_V (-1) N0 v102 M103) (i3 : tu_G M M103)
  refine And.intro ?_ ?_
  · intro (c4 : v102 = 0)
    show Q 26 [(4, (0, 0, 0, 0, 0)), (3, (0, 0, 0, 0, 0)), (2, (0, 0, 0, 0, 0)), (1, (0, 0, (-5), 0, v102)), (0, (2, 0, 0, 0, 0))] [] M103
    refine hgo.2.1 26 _ [(4, (0, 0, 0, 10, 0)), (3, (0, 0, (-2147483648), 2147483647, 0)), (2, (0, 0, (-2147483648), 2147483647, 0)), (0, (2, 0, 0, 0, 0))] _ _ (xa_subI rfl rfl (fun _ _ _ _ => by omega) (xa_subI rfl rfl (fun _ _ _ _ => by omega) (xa_subI rfl rfl (fun _ _ _ _ => by omega) (xa_subR rfl (xa_sub0))))) ?_
    exact loop 11 0 0 0 M103 (by omega) i3 rfl (fun v e => tw_61_of i2 (Or.inr ⟨by omega, e⟩)) (by omega)
  · intro (c4 : ¬ v102 = 0)
    show post (some (0, 0, (-5), 0, v102)) M103
    exact k _ _ _ _ (tw_61_of i2 (Or.inl ⟨by omega, rfl⟩)) (fun q j h1 h2 => i3 q j h1)
theorem cx_62v {b : Bool} {A : Nat → Nat} {h0 : g_H} {d : Nat} {M : xa_M} {post : Option xa_V → xa_M → Prop} {N0 : xa_M} (hM0 : tu_M N0) (hC0 : tu_C M N0) (k : ∀ (lo hi v : Int) (M1 : xa_M), tw_62 N0 v → (∀ (q : Nat) (j : Int), ¬ (12 ≤ q ∧ q ≤ 14) → ¬ (q = 48 ∨ q = 49) → M1 q j = M q j) → post (some (0, 0, lo, hi, v)) M1) : xa_C (xl_I b) A h0 (d + 7) 62 [(2, 0, 0, 0, 0)] M post := by
  refine xa_meth (Q0 := (5, 1, false, 0, 0, 11)) (by decide +kernel) ⟨rfl, rfl⟩ (full := s_c_62) rfl rfl ?_
  intro hM hv Q hgo
  have hn6 := hM0.1
  have loop : ∀ (w : Int) (Nw : xa_M), w = -3 → tw_F N0 (-1) w Nw → ∀ (f : Nat) (m x : Int) (M1 : xa_M) (T : Int → Int), 0 ≤ m ∧ m ≤ 16 → m ≤ N0 60 6 → tu_G M M1 → tw_J N0 m T → x = wd_b (fun j => T j = 0) m.toNat → 16 - m < (f : Int) → Q 25 [(3, (0, 0, 0, 16, m)), (2, (0, 0, (-2147483648), 2147483647, x)), (0, (2, 0, 0, 0, 0))] [] M1 := by
    intro w Nw hw3 hFw f
    induction f with
    | zero => intro m x M1 T m1 hn hG hJ hb hms; clear hJ hb; omega
    | succ f ih =>
      intro m x M1 T m1 hn hG hJ hb hms
      have e10 : M1 1 10 = N0 60 6 := (hG 1 10 (by omega)).trans hC0.1
      refine hgo.1 31 [25] 25 _ _ _ ?_
      refine And.intro ?_ ?_
      · intro (c1 : (M1 1 10) ≤ m)
        show post (some (0, 0, (-2147483648), 2147483647, x)) M1
        exact k _ _ _ _ ⟨w, Nw, hFw, Or.inr ⟨hw3, m, T, m1.1, hn, hJ, Or.inl ⟨by omega, hb⟩⟩⟩ (fun q j h1 h2 => hG q j h1)
      · intro (c1 : m < (M1 1 10))
        show xa_C (xl_I b) A h0 _ 47 [(2, 12, 0, 0, 0), (2, 1, 0, 0, 0), (0, 0, 0, 16, m)] M1 _
        refine cx_47t hM0 (tu_C_G hC0 hG) ?_
        intro v101 M102 (i2 : v101 = 0 ∨ v101 = -3 ∨ v101 = -5) (i3 : tu_V m N0 v101 M102) (i4 : tu_G M1 M102)
        refine And.intro ?_ ?_
        · intro (c5 : ¬ v101 = (-5))
          refine And.intro ?_ ?_
          · intro (c6 : ¬ v101 = (-3))
            show Q 25 [(3, (0, 0, 1, 17, m + 1)), (2, (0, 0, (-2147483648), 2147483647, xa_ib 4 x (xa_ib 6 1 m))), (4, (0, 0, (-5), 0, v101)), (0, (2, 0, 0, 0, 0))] [] M102
            refine hgo.2.1 25 _ [(3, (0, 0, 0, 16, m + 1)), (2, (0, 0, (-2147483648), 2147483647, xa_ib 4 x (xa_ib 6 1 m))), (0, (2, 0, 0, 0, 0))] _ _ (xa_subI rfl rfl (fun _ _ _ _ => by omega) (xa_subI rfl rfl (fun _ _ _ _ => by omega) (xa_subR rfl (xa_sub0)))) ?_
            have hv : v101 = 0 := by omega
            rw [hv] at i3
            obtain ⟨N9, hN9, -⟩ := i3
            obtain ⟨T', t1, t2, t3⟩ := tw_Js hJ (by omega) ⟨N0, xm_cor_r, hN9⟩
            exact ih (m + 1) (xa_ib 4 x (xa_ib 6 1 m)) M102 T' (by omega) (by omega) (fun q j h => (i4 q j h).trans (hG q j h)) t1 (tw_b1 m1.1 t2 (hb.trans (wd_b_e _ (fun p hp => by show T (p : Int) = 0 ↔ T' (p : Int) = 0; rw [t3 (p : Int) (by omega) (by omega)])))) (by omega)
          · intro (c6 : v101 = (-3))
            show Q 25 [(3, (0, 0, 1, 17, m + 1)), (2, (0, 0, (-2147483648), 2147483647, xa_ib 4 x 0)), (4, (0, 0, (-5), 0, v101)), (0, (2, 0, 0, 0, 0))] [] M102
            refine hgo.2.1 25 _ [(3, (0, 0, 0, 16, m + 1)), (2, (0, 0, (-2147483648), 2147483647, xa_ib 4 x 0)), (0, (2, 0, 0, 0, 0))] _ _ (xa_subI rfl rfl (fun _ _ _ _ => by omega) (xa_subI rfl rfl (fun _ _ _ _ => by omega) (xa_subR rfl (xa_sub0)))) ?_
            have hv : v101 = -3 := by omega
            rw [hv] at i3
            obtain ⟨N9, hN9, -⟩ := i3
            obtain ⟨T', t1, t2, t3⟩ := tw_Js hJ (by omega) ⟨N0, xm_cor_r, hN9⟩
            exact ih (m + 1) (xa_ib 4 x 0) M102 T' (by omega) (by omega) (fun q j h => (i4 q j h).trans (hG q j h)) t1 (tw_bz m1.1 (fun h => by have : T' m = 0 := h; omega) (hb.trans (wd_b_e _ (fun p hp => by show T (p : Int) = 0 ↔ T' (p : Int) = 0; rw [t3 (p : Int) (by omega) (by omega)])))) (by omega)
        · intro (c5 : v101 = (-5))
          show post (some (0, 0, (-5), (-5), (-5))) M102
          have hv : v101 = -5 := by omega
          rw [hv] at i3
          obtain ⟨N9, hN9, -⟩ := i3
          exact k _ _ _ _ ⟨w, Nw, hFw, Or.inr ⟨hw3, m, T, m1.1, hn, hJ, Or.inr ⟨by omega, ⟨N9, N0, xm_cor_r, hN9⟩, rfl⟩⟩⟩ (fun q j h1 h2 => (fun q j h => (i4 q j h).trans (hG q j h)) q j h1)
  refine hgo.1 19 [25] 0 _ _ _ ?_
  show xa_C (xl_I b) A h0 _ 47 [(2, 12, 0, 0, 0), (2, 1, 0, 0, 0), (0, 0, (-1), (-1), (-1))] M _
  refine cx_47t hM0 hC0 ?_
  intro v103 M104 (i1 : v103 = 0 ∨ v103 = -3 ∨ v103 = -5) (i2 : tu_V (-1) N0 v103 M104) (i3 : tu_G M M104)
  refine And.intro ?_ ?_
  · intro (c4 : v103 = (-3))
    show Q 25 [(3, (0, 0, 0, 0, 0)), (2, (0, 0, 0, 0, 0)), (1, (0, 0, (-5), 0, v103)), (0, (2, 0, 0, 0, 0))] [] M104
    refine hgo.2.1 25 _ [(3, (0, 0, 0, 16, 0)), (2, (0, 0, (-2147483648), 2147483647, 0)), (0, (2, 0, 0, 0, 0))] _ _ (xa_subI rfl rfl (fun _ _ _ _ => by omega) (xa_subI rfl rfl (fun _ _ _ _ => by omega) (xa_subR rfl (xa_sub0)))) ?_
    obtain ⟨N9, hN9, -⟩ := i2
    exact loop v103 N9 (by omega) ⟨N0, xm_cor_r, hN9⟩ 17 0 0 M104 (fun _ => 0) (by omega) (by omega) i3 (fun j j0 j1 => by omega) rfl (by omega)
  · intro (c4 : ¬ v103 = (-3))
    show post (some (0, 0, (-5), 0, v103)) M104
    obtain ⟨N9, hN9, -⟩ := i2
    exact k _ _ _ _ ⟨_, N9, ⟨N0, xm_cor_r, hN9⟩, Or.inl ⟨by omega, rfl⟩⟩ (fun q j h1 h2 => i3 q j h1)
theorem cx_55y {b : Bool} {A : Nat → Nat} {h0 : g_H} {d : Nat} {M : xa_M} {post : Option xa_V → xa_M → Prop} {l1 u1 l2 u2 x y : Int} (hx : -9223372036854775807 ≤ x ∧ x ≤ 9223372036854775807) (hy : 1 ≤ y ∧ y ≤ 9223372036854775807) (k : ∀ g : Int, g = (Int.gcd x y : Int) → 1 ≤ g → g ≤ 9223372036854775807 → post (some (1, 0, 0, 9223372036854775807, g)) M) : xa_C (xl_I b) A h0 (d + 2) 55 [(1, 0, l1, u1, x), (1, 0, l2, u2, y)] M post :=
  cx_55g hx (by omega) (fun g hg _ g1 => k g hg (by rw [hg]; exact tu_gp hy.1) g1)
/-- shown has said 0 -/
theorem tu_H0 {N0 C1 : xa_M} {a : Int} (h : tu_H N0 a 0 C1) : tu_S N0 a 0 C1 ∧ ¬ tu_L C1 a := by
  rcases h with ⟨h1, -⟩ | ⟨h1, ⟨-, e⟩ | ⟨e, -⟩⟩
  · exact absurd rfl h1
  · omega
  · exact ⟨h1, e⟩
theorem tw_tm {x y : Int} (h : 1 ≤ y) : -y < x.tmod y ∧ x.tmod y < y := by
  have a := Int.tmod_lt_of_pos x (show 0 < y by omega)
  have b := Int.lt_tmod_of_pos x (show 0 < y by omega)
  omega
theorem cx_70r {b : Bool} {A : Nat → Nat} {h0 : g_H} {d : Nat} {M : xa_M} {post : Option xa_V → xa_M → Prop} {l1 u1 l2 u2 x y : Int} (h1 : 1 ≤ y) (k : ∀ r : Int, -y < r ∧ r < y → post (some (1, 0, -9223372036854775808, 9223372036854775807, r)) M) : xa_C (xl_I b) A h0 (d + 1) 70 [(1, 0, l1, u1, x), (1, 0, l2, u2, y)] M post := by
  refine xa_C_wk ?_
  refine xa_C_arg [(1, 0, (-9223372036854775808), 9223372036854775807, x), (1, 0, 1, 9223372036854775807, y)] (xa_svL (fun _ _ _ _ => by omega) (xa_svL (fun _ _ _ _ => by omega) xa_sv0)) ?_
  refine xa_meth (Q0 := (4, 3, false, 0, 0, 11)) (by decide +kernel) ⟨rfl, rfl⟩ (full := s_c_70) rfl rfl ?_
  intro hM hv Q hgo
  refine hgo.1 11 [] 0 _ _ _ ?_
  show xa_wk post (some (1, 0, (-9223372036854775808), 9223372036854775807, x.tmod y)) M
  exact xa_wkL _ rfl (fun _ _ => by omega) (k _ (tw_tm h1))
theorem cx_21 {b : Bool} {A : Nat → Nat} {h0 : g_H} {d : Nat} {M : xa_M} {post : Option xa_V → xa_M → Prop} {l0 u0 l1 u1 : Int} {x1 x2 : Int} (k1 : (¬ x2 = 0) → post (some (1, 0, (-9223372036854775808), 9223372036854775807, x1.tdiv x2)) M) (k2 : (x2 = 0) → post (some (1, 0, 0, 0, 0)) M) : xa_C (xl_I b) A h0 (d + 1) 21 [(1, 0, l0, u0, x1), (1, 0, l1, u1, x2)] M post := by
  refine xa_C_arg [(1, 0, (-9223372036854775808), 9223372036854775807, x1), (1, 0, (-9223372036854775808), 9223372036854775807, x2)] (xa_svL (fun _ _ _ _ => by omega) (xa_svL (fun _ _ _ _ => by omega) (xa_sv0))) ?_
  refine xa_meth (Q0 := (4, 3, false, 0, 0, 11)) (by decide +kernel) ⟨rfl, rfl⟩ (full := s_c_21) rfl rfl ?_
  intro hM hv Q hgo
  refine hgo.1 11 [] 0 _ _ _ ?_
  refine And.intro ?_ ?_
  · intro (c1 : ¬ x2 = 0)
    refine And.intro (show 0 < x2 by omega) ?_
    show post (some (1, 0, (-9223372036854775808), 9223372036854775807, x1.tdiv x2)) M
    exact k1 c1
  · intro (c1 : x2 = 0)
    show post (some (1, 0, 0, 0, 0)) M
    exact k2 c1
theorem cx_71a {b : Bool} {A : Nat → Nat} {h0 : g_H} {d : Nat} {M : xa_M} {post : Option xa_V → xa_M → Prop} {l1 u1 l2 u2 x y : Int} (h0' : (0 : Int) ≤ M 48 1) (hx : -9223372036854775807 ≤ x ∧ x ≤ 9223372036854775807) (hy : 1 ≤ y ∧ y ≤ 9223372036854775807) (k : ∀ M1 : xa_M, (∀ (q : Nat) (j : Int), ¬ (q = 48 ∨ q = 49) → M1 q j = M q j) → (0 : Int) ≤ M1 48 1 → post none M1) : xa_C (xl_I b) A h0 (d + 3) 71 [(2, 48, 0, 0, 0), (1, 0, l1, u1, x), (1, 0, l2, u2, y)] M post := by
  refine xa_C_arg [(2, 48, 0, 0, 0), (1, 0, (-9223372036854775808), 9223372036854775807, x), (1, 0, (-9223372036854775808), 9223372036854775807, y)] (xa_svR (xa_svL (fun _ _ _ _ => by omega) (xa_svL (fun _ _ _ _ => by omega) xa_sv0))) ?_
  refine xa_meth (Q0 := (7, 0, false, 0, 0, 6)) (by decide +kernel) ⟨rfl, rfl⟩ (full := s_c_71) rfl rfl ?_
  intro hM hv Q hgo
  refine hgo.1 19 [] 0 _ _ _ ?_
  show xa_C (xl_I b) A h0 _ 55 [(1, 0, (-9223372036854775808), 9223372036854775807, x), (1, 0, (-9223372036854775808), 9223372036854775807, y)] M _
  refine cx_55y (by omega) (by omega) ?_
  intro g101 (i1 : g101 = (Int.gcd (x) (y) : Int)) (i2 : 1 ≤ g101) (i3 : g101 ≤ 9223372036854775807)
  show xa_C (xl_I b) A h0 _ 21 [(1, 0, (-9223372036854775808), 9223372036854775807, x), (1, 0, 0, 9223372036854775807, g101)] M _
  refine cx_21 ?_ ?_
  · intro (i4 : ¬ g101 = 0)
    show xa_C (xl_I b) A h0 _ 60 [(2, 48, 0, 0, 0), (1, 0, (-9223372036854775808), 9223372036854775807, x.tdiv g101)] M _
    refine cx_60a (by show (0 : Int) ≤ M 48 1; omega) ?_
    intro M102 (i5 : ∀ (q : Nat) (j : Int), ¬ (q = 48 ∨ q = 49) → M102 q j = M q j) (i6 : (0 : Int) ≤ M102 48 1)
    show xa_C (xl_I b) A h0 _ 21 [(1, 0, (-9223372036854775808), 9223372036854775807, y), (1, 0, 0, 9223372036854775807, g101)] M102 _
    refine cx_21 ?_ ?_
    · intro (i7 : ¬ g101 = 0)
      show xa_C (xl_I b) A h0 _ 60 [(2, 48, 0, 0, 0), (1, 0, (-9223372036854775808), 9223372036854775807, y.tdiv g101)] M102 _
      refine cx_60a (by show (0 : Int) ≤ M102 48 1; omega) ?_
      intro M103 (i8 : ∀ (q : Nat) (j : Int), ¬ (q = 48 ∨ q = 49) → M103 q j = M102 q j) (i9 : (0 : Int) ≤ M103 48 1)
      show post none M103
      exact k _ (fun q j h2 => (i8 q j h2).trans (i5 q j h2)) i9
    · intro (i10 : g101 = 0)
      exfalso
      omega
  · intro (i11 : g101 = 0)
    exfalso
    omega
theorem cx_67 {b : Bool} {A : Nat → Nat} {h0 : g_H} {d : Nat} {M : xa_M} {post : Option xa_V → xa_M → Prop} {l0 u0 : Int} {x1 : Int} (k1 : (x1 < 0) → post (some (0, 0, 0, 0, 0)) M) (k2 : (0 ≤ x1) → (2000 < x1) → post (some (0, 0, 0, 0, 0)) M) (k3 : (0 ≤ x1) → (x1 ≤ 2000) → post (some (0, 0, 1, 1, 1)) M) : xa_C (xl_I b) A h0 (d + 1) 67 [(0, 0, l0, u0, x1)] M post := by
  refine xa_C_arg [(0, 0, (-2147483648), 2147483647, x1)] (xa_svI (fun _ _ _ _ => by omega) (xa_sv0)) ?_
  refine xa_meth (Q0 := (1, 2, false, 0, 0, 11)) (by decide +kernel) ⟨rfl, rfl⟩ (full := s_c_67) rfl rfl ?_
  intro hM hv Q hgo
  refine hgo.1 12 [] 0 _ _ _ ?_
  refine And.intro ?_ ?_
  · intro (c1 : x1 < 0)
    show post (some (0, 0, 0, 0, 0)) M
    exact k1 c1
  · intro (c1 : 0 ≤ x1)
    refine And.intro ?_ ?_
    · intro (c2 : 2000 < x1)
      show post (some (0, 0, 0, 0, 0)) M
      exact k2 c1 c2
    · intro (c2 : x1 ≤ 2000)
      show post (some (0, 0, 1, 1, 1)) M
      exact k3 c1 c2
theorem cx_66v {b : Bool} {A : Nat → Nat} {h0 : g_H} {d : Nat} {M : xa_M} {post : Option xa_V → xa_M → Prop} {l1 u1 l2 u2 x1 x2 : Int} {N0 : xa_M} (hM0 : tu_M N0) (hC0 : tu_C M N0) (k : ∀ (lo hi v : Int) (M1 : xa_M), tw_66 N0 x1 x2 v → (∀ (q : Nat) (j : Int), ¬ (12 ≤ q ∧ q ≤ 14) → ¬ (q = 48 ∨ q = 49) → M1 q j = M q j) → post (some (0, 0, lo, hi, v)) M1) : xa_C (xl_I b) A h0 (d + 9) 66 [(2, 0, 0, 0, 0), (0, 0, l1, u1, x1), (0, 0, l2, u2, x2)] M post := by
  refine xa_C_arg [(2, 0, 0, 0, 0), (0, 0, (-2147483648), 2147483647, x1), (0, 0, (-2147483648), 2147483647, x2)] (xa_svR (xa_svI (fun _ _ _ _ => by omega) (xa_svI (fun _ _ _ _ => by omega) (xa_sv0)))) ?_
  refine xa_meth (Q0 := (6, 1, false, 0, 0, 11)) (by decide +kernel) ⟨rfl, rfl⟩ (full := s_c_66) rfl rfl ?_
  intro hM hv Q hgo
  refine hgo.1 37 [] 0 _ _ _ ?_
  show xa_C (xl_I b) A h0 _ 67 [(0, 0, (-2147483648), 2147483647, x2)] M _
  refine cx_67 ?_ ?_ ?_
  · intro (i1 : x2 < 0)
    show post (some (0, 0, (-1), (-1), (-1))) M
    exact k _ _ _ _ (Or.inl ⟨by omega, rfl⟩) (fun _ _ _ _ => rfl)
  · intro (i2 : 0 ≤ x2) (i3 : 2000 < x2)
    show post (some (0, 0, (-1), (-1), (-1))) M
    exact k _ _ _ _ (Or.inl ⟨by omega, rfl⟩) (fun _ _ _ _ => rfl)
  · intro (i4 : 0 ≤ x2) (i5 : x2 ≤ 2000)
    show xa_C (xl_I b) A h0 _ 68 [(2, 0, 0, 0, 0), (0, 0, (-2147483648), 2147483647, x1)] M _
    refine cx_68t hM0 hC0 ?_
    intro v101 M102 (i6 : tu_H N0 x1 v101 M102) (i7 : tu_G M M102)
    refine And.intro ?_ ?_
    · intro (c8 : v101 = 0)
      rw [c8] at i6
      obtain ⟨hs0, nL⟩ := tu_H0 i6
      obtain ⟨ax, N9, t1, t2, t3, t4, t5, t6, t7⟩ := tu_S0 hs0
      show xa_C (xl_I b) A h0 _ 51 [(2, 12, 0, 0, 0), (0, 0, (-2147483648), 2147483647, x1)] M102 _
      refine cx_51_12 (show 0 ≤ x1 ∧ x1 < 10 by omega) ?_
      show xa_C (xl_I b) A h0 _ 59 [(2, 48, 0, 0, 0)] M102 _
      refine cx_59_48 ?_
      show xa_C (xl_I b) A h0 _ 54 [(2, 12, 0, 0, 0), (0, 0, (-2147483648), 2147483647, x1)] (xa_up M102 48 1 0) _
      refine cx_54_12 (show 0 ≤ x1 ∧ x1 < 10 by omega) ?_
      show xa_C (xl_I b) A h0 _ 56 [(1, 0, (-9223372036854775808), 9223372036854775807, M102 13 x1)] (xa_up M102 48 1 0) _
      refine ct_abs (lo := 0) (hi := 1000000000000000) (show -9223372036854775808 < (M102 13 x1) by omega) (fun a103 h104 => ⟨by omega, ?_⟩)
      show xa_C (xl_I b) A h0 _ 70 [(1, 0, (-9223372036854775808), 9223372036854775807, xa_w64 (a103 * x2)), (1, 0, (-9223372036854775808), 9223372036854775807, M102 14 x1)] (xa_up M102 48 1 0) _
      refine cx_70r (show 1 ≤ (M102 14 x1) by omega) ?_
      intro r105 (i9 : -(M102 14 x1) < r105 ∧ r105 < (M102 14 x1))
      show xa_C (xl_I b) A h0 _ 71 [(2, 48, 0, 0, 0), (1, 0, (-9223372036854775808), 9223372036854775807, r105), (1, 0, (-9223372036854775808), 9223372036854775807, M102 14 x1)] (xa_up M102 48 1 0) _
      refine cx_71a (by show (0 : Int) ≤ 0; omega) (by omega) (by omega) ?_
      intro M106 (i10 : ∀ (q : Nat) (j : Int), ¬ (q = 48 ∨ q = 49) → M106 q j = (xa_up M102 48 1 0) q j) (i11 : (0 : Int) ≤ M106 48 1)
      show post (some (0, 0, 0, 0, 0)) M106
      exact k _ _ _ _ (Or.inr ⟨by omega, tw_H i6⟩) (fun q j h1 h2 => (i10 q j h2).trans ((xa_up_ne (by omega)).trans (i7 q j h1)))
    · intro (c8 : ¬ v101 = 0)
      show post (some (0, 0, (-5), 0, v101)) M102
      exact k _ _ _ _ (Or.inr ⟨by omega, tw_H i6⟩) (fun q j h1 h2 => i7 q j h1)
/-- when two axles stand together again -/
def tw_y (U D U' D' v : Int) : Prop := (100000 < (D * D').tdiv (Int.gcd (U * D' - U' * D) (D * D') : Int) ∧ v = -6) ∨ ((D * D').tdiv (Int.gcd (U * D' - U' * D) (D * D') : Int) ≤ 100000 ∧ v = (D * D').tdiv (Int.gcd (U * D' - U' * D) (D * D') : Int))
theorem tw_y1 {U D U' D' v v' : Int} (h : tw_y U D U' D' v) (h' : tw_y U D U' D' v') : v = v' := by
  rcases h with ⟨a, b⟩ | ⟨a, b⟩ <;> rcases h' with ⟨c, d⟩ | ⟨c, d⟩ <;> omega
theorem tw_y2 {U D U' D' g : Int} (hD : 1 ≤ D * D') (hg : g = (Int.gcd (U * D' - U' * D) (D * D') : Int)) (h : (D * D').tdiv g ≤ 100000) : tw_y U D U' D' (xa_w32 ((D * D').tdiv g)) := by
  have p : 0 ≤ (D * D').tdiv g := Int.tdiv_nonneg (by omega) (by rw [hg]; exact Int.natCast_nonneg _)
  rw [xa_w32_id (by omega) (by omega)]
  subst hg
  exact Or.inr ⟨h, rfl⟩
theorem tw_y6 {U D U' D' g : Int} (hg : g = (Int.gcd (U * D' - U' * D) (D * D') : Int)) (h : 100000 < (D * D').tdiv g) : tw_y U D U' D' (-6) := by
  subst hg
  exact Or.inl ⟨h, rfl⟩
/-- of an axle that turns -/
def tw_tT (a b : Int) (N : xa_M) (v : Int) : Prop := (N 77 b = 0 ∧ v = -2) ∨ (N 77 b = 1 ∧ (tw_L N a ∨ tw_L N b) ∧ v = -5) ∨ (N 77 b = 1 ∧ ¬ (tw_L N a ∨ tw_L N b) ∧ tw_y (N 75 a) (N 76 a) (N 75 b) (N 76 b) v)
theorem tw_tT_one {a b v v' : Int} {N N' : xa_M} (b0 : 0 ≤ b ∧ b ≤ 9) (h7 : ∀ c, 0 ≤ c → c < 10 → N' 77 c = N 77 c ∧ (N 77 c = 1 → N' 75 c = N 75 c ∧ N' 76 c = N 76 c)) (e1 : N' 75 a = N 75 a) (e2 : N' 76 a = N 76 a) (h : tw_tT a b N v) (h' : tw_tT a b N' v') : v = v' := by
  obtain ⟨k1, k2⟩ := h7 b b0.1 (by omega)
  unfold tw_tT at h h'
  rcases h with ⟨x1, x2⟩ | ⟨x1, x2, x3⟩ | ⟨x1, x2, x3⟩
  · rw [k1] at h'
    omega
  · obtain ⟨k3, k4⟩ := k2 x1
    unfold tw_L at x2 h'
    rw [k1, e1, e2, k3, k4] at h'
    rcases h' with ⟨y1, -⟩ | ⟨-, -, y3⟩ | ⟨-, y2, -⟩
    · omega
    · omega
    · exact absurd x2 y2
  · obtain ⟨k3, k4⟩ := k2 x1
    unfold tw_L at x2 h'
    rw [k1, e1, e2, k3, k4] at h'
    rcases h' with ⟨y1, -⟩ | ⟨-, y2, -⟩ | ⟨-, -, y3⟩
    · omega
    · exact absurd y2 x2
    · exact tw_y1 x3 y3
def tw_72 (N0 : xa_M) (a b v : Int) : Prop := tw_P (0 ≤ b ∧ b ≤ 9) N0 a v (tw_tT a b)
theorem tw_72_one {N0 : xa_M} {a b v v' : Int} (hr : xm_rng N0) (h : tw_72 N0 a b v) (h' : tw_72 N0 a b v') : v = v' := by
  by_cases c : 0 ≤ b ∧ b ≤ 9
  · exact tw_P_one hr h h' (fun _ _ _ h7 _ e1 e2 t t' => tw_tT_one c h7 e1 e2 t t')
  · rcases h with ⟨-, e⟩ | ⟨e, -⟩
    · rcases h' with ⟨-, e'⟩ | ⟨e', -⟩
      · omega
      · exact absurd e' c
    · exact absurd e c
theorem tw_Lc {C N : xa_M} {a : Int} (h : C 13 a = N 75 a ∧ C 14 a = N 76 a) : tu_L C a ↔ tw_L N a := by
  unfold tu_L tw_L
  rw [h.1, h.2]
/-- the words of 64 bits hold it -/
theorem tw_w {C : xa_M} {a b : Int} (ha : ¬ tu_L C a) (hb : ¬ tu_L C b) (a1 : 1 ≤ C 14 a) (b1 : 1 ≤ C 14 b) : (xa_w64 (C 13 a * C 14 b) = C 13 a * C 14 b ∧ xa_w64 (C 13 b * C 14 a) = C 13 b * C 14 a) ∧ xa_w64 (C 14 a * C 14 b) = C 14 a * C 14 b ∧ xa_w64 (xa_w64 (C 13 a * C 14 b) - xa_w64 (C 13 b * C 14 a)) = C 13 a * C 14 b - C 13 b * C 14 a ∧ (1 ≤ C 14 a * C 14 b ∧ C 14 a * C 14 b ≤ 1000000000000000000) ∧ (-2000000000000000000 ≤ C 13 a * C 14 b - C 13 b * C 14 a ∧ C 13 a * C 14 b - C 13 b * C 14 a ≤ 2000000000000000000) := by
  unfold tu_L at ha hb
  have p1 := xm_mul9 (p := C 13 a) (q := C 14 b) (by omega) (by omega) (by omega) (by omega)
  have p2 := xm_mul9 (p := C 13 b) (q := C 14 a) (by omega) (by omega) (by omega) (by omega)
  have p3 := xm_mul9 (p := C 14 a) (q := C 14 b) (by omega) (by omega) (by omega) (by omega)
  have p4 := Int.mul_pos (show 0 < C 14 a by omega) (show 0 < C 14 b by omega)
  have e1 := xa_w64_id (n := C 13 a * C 14 b) (by omega) (by omega)
  have e2 := xa_w64_id (n := C 13 b * C 14 a) (by omega) (by omega)
  exact ⟨⟨e1, e2⟩, xa_w64_id (by omega) (by omega), by rw [e1, e2]; exact xa_w64_id (by omega) (by omega), ⟨by omega, by omega⟩, by omega, by omega⟩
theorem tu_at {C N : xa_M} {a : Int} (h : tu_R C N) (ha : 0 ≤ a ∧ a < 10) (hn : ¬ C 14 a = 0) : N 77 a = 1 ∧ C 13 a = N 75 a ∧ C 14 a = N 76 a := by
  rcases h a ha.1 ha.2 with ⟨-, e⟩ | ⟨e1, e2, -⟩
  · exact absurd e hn
  · exact ⟨e1, e2⟩
theorem ms_togetherV {A : Nat → Nat} {h0 : g_H} {d : Nat} {M : xa_M} {post : Option xa_V → xa_M → Prop} {l1 u1 l2 u2 : Int} {a b : Int} (hI : xm_Inv M) (k : ∀ (o : Option xa_V) (M1 : xa_M), (∃ lo hi n, o = some (0, 0, lo, hi, n) ∧ tw_72 M a b n) → xm_cor M M1 → post o M1) : xa_C xm_I A h0 (d + 7) 274 [(2, 60, 0, 0, 0), (0, 0, l1, u1, a), (0, 0, l2, u2, b)] M post := by
  refine xa_C_arg [(2, 60, 0, 0, 0), (0, 0, (-2147483648), 2147483647, a), (0, 0, (-2147483648), 2147483647, b)] (xa_svR (xa_svI (fun _ _ _ _ => by omega) (xa_svI (fun _ _ _ _ => by omega) xa_sv0))) ?_
  refine xa_meth (Q0 := (10, 1, false, 0, 0, 12)) (by decide +kernel) ⟨rfl, rfl⟩ (full := s_c_274) rfl rfl ?_
  intro hM hv Q hgo
  refine hgo.1 89 [] 0 _ _ _ ?_
  show xa_C xm_I A h0 _ 215 [(0, 0, (-2147483648), 2147483647, a)] (xa_up M 60 21 0) _
  refine ct_isAxle ?_ ?_
  · intro (i1 : 0 ≤ a ∧ a ≤ 9)
    show xa_C xm_I A h0 _ 215 [(0, 0, (-2147483648), 2147483647, b)] (xa_up M 60 21 0) _
    refine ct_isAxle ?_ ?_
    · intro (i2 : 0 ≤ b ∧ b ≤ 9)
      show xa_C xm_I A h0 _ 227 [(2, 60, 0, 0, 0), (0, 0, (-1), (-1), (-1))] (xa_up M 60 21 0) _
      refine xa_C_mok (ct_findTurns (xm_Inv_cor (xm_cor_f (by omega) xm_cor_r) hI) (fun v3 M3 hv3 hc3 hT3 hF3 hM3 => ?_))
      have hr0 := xm_rng_I hM hI
      have F3 : tw_F M (-1) v3 M3 := ⟨_, xm_cor_f (by omega) xm_cor_r, hF3⟩
      have t3a := xm_t77 hM3 a i1.1 (by omega)
      have t3b := xm_t77 hM3 b i2.1 (by omega)
      refine And.intro ?_ ?_
      · intro (c4 : 0 ≤ v3)
        refine And.intro (show 0 ≤ a ∧ a < 10 by omega) ?_
        refine And.intro ?_ ?_
        · intro (c5 : (M3 77 a) = 0)
          show post (some (0, 0, (-2), (-2), (-2))) M3
          exact k _ _ ⟨_, _, _, rfl, Or.inr ⟨i2, Or.inr ⟨i1, v3, M3, F3, Or.inr (Or.inl ⟨by omega, c5, rfl⟩)⟩⟩⟩ (xm_cor_t (xm_cor_f (by omega) xm_cor_r) hc3)
        · intro (c5 : ¬ (M3 77 a) = 0)
          refine And.intro (show 0 ≤ b ∧ b < 10 by omega) ?_
          refine And.intro ?_ ?_
          · intro (c6 : ¬ (M3 77 b) = 0)
            show xa_C xm_I A h0 _ 273 [(2, 60, 0, 0, 0), (0, 0, (-2147483648), 2147483647, a)] M3 _
            refine xa_C_mok (ct_fairStateF (xm_Inv_cor (xm_cor_t (xm_cor_f (by omega) xm_cor_r) hc3) hI) (by omega) (by omega) (fun v7 w7 M7 hc7 hT7 hF7 hw7 hv7 hs7 hM7 => ?_))
            have F7 : tw_F M (-1) w7 M7 := ⟨M3, xm_cor_t (xm_cor_f (by omega) xm_cor_r) hc3, hF7⟩
            obtain ⟨d7, g7⟩ := tw_F_det hr0 F3 F7
            obtain ⟨-, g7⟩ := g7 (by omega)
            obtain ⟨-, a7, -⟩ := g7 a i1.1 (by omega)
            obtain ⟨-, b7, -⟩ := g7 b i2.1 (by omega)
            refine And.intro ?_ ?_
            · intro (c8 : v7 < 0)
              show post (some (0, 0, (-5), (-5), (-5))) M7
              exact k _ _ ⟨_, _, _, rfl, Or.inr ⟨i2, Or.inr ⟨i1, w7, M7, F7, Or.inr (Or.inr ⟨by omega, by omega, Or.inr (Or.inl ⟨by omega, Or.inl (tw_f5 (tw_s5 hs7 (by omega) (by omega)) c8), rfl⟩)⟩)⟩⟩⟩ (xm_cor_t (xm_cor_t (xm_cor_f (by omega) xm_cor_r) hc3) hc7)
            · intro (c8 : 0 ≤ v7)
              show xa_C xm_I A h0 _ 273 [(2, 60, 0, 0, 0), (0, 0, (-2147483648), 2147483647, b)] M7 _
              refine xa_C_mok (ct_fairStateF (xm_Inv_cor (xm_cor_t (xm_cor_t (xm_cor_f (by omega) xm_cor_r) hc3) hc7) hI) (by omega) (by omega) (fun v9 w9 M9 hc9 hT9 hF9 hw9 hv9 hs9 hM9 => ?_))
              have F9 : tw_F M (-1) w9 M9 := ⟨M7, xm_cor_t (xm_cor_t (xm_cor_f (by omega) xm_cor_r) hc3) hc7, hF9⟩
              obtain ⟨d9, g9⟩ := tw_F_det hr0 F3 F9
              obtain ⟨-, g9⟩ := g9 (by omega)
              obtain ⟨-, a9, -⟩ := g9 a i1.1 (by omega)
              obtain ⟨-, b9, -⟩ := g9 b i2.1 (by omega)
              have dt := xm_FT_det hc7 (xm_rng_c (xm_cor_t (xm_cor_f (by omega) xm_cor_r) hc3) (xm_rng_I hM hI)) hF7 hF9
              have y3 : 0 ≤ v7 → 0 ≤ v9 → (M9 75 a = M7 75 a ∧ M9 76 a = M7 76 a) := fun z1 z2 => by
                have y1 := hv7 z1
                have y2 := hv9 z2
                have d3 := (dt.2 (by omega)).2 a (by omega) (by omega)
                exact d3.2.2 y1.2.1
              have w64 : 0 ≤ v7 → 0 ≤ v9 → (xa_w64 (M9 75 a * M9 76 b) = M9 75 a * M9 76 b ∧ xa_w64 (M9 75 b * M9 76 a) = M9 75 b * M9 76 a ∧ xa_w64 (M9 76 a * M9 76 b) = M9 76 a * M9 76 b ∧ xa_w64 (xa_w64 (M9 75 a * M9 76 b) - xa_w64 (M9 75 b * M9 76 a)) = M9 75 a * M9 76 b - M9 75 b * M9 76 a ∧ 1 ≤ M9 76 a * M9 76 b ∧ (-1000000000000000000 ≤ M9 75 a * M9 76 b ∧ M9 75 a * M9 76 b ≤ 1000000000000000000) ∧ (-1000000000000000000 ≤ M9 75 b * M9 76 a ∧ M9 75 b * M9 76 a ≤ 1000000000000000000)) := fun z1 z2 => by
                have y1 := hv7 z1
                have y2 := hv9 z2
                have y3 := y3 z1 z2
                have p1 := xm_mul9 (p := M9 75 a) (q := M9 76 b) (by omega) (by omega) (by omega) (by omega)
                have p2 := xm_mul9 (p := M9 75 b) (q := M9 76 a) (by omega) (by omega) (by omega) (by omega)
                have p3 := xm_mul9 (p := M9 76 a) (q := M9 76 b) (by omega) (by omega) (by omega) (by omega)
                have p4 := Int.mul_pos (show 0 < M9 76 a by omega) (show 0 < M9 76 b by omega)
                exact ⟨xa_w64_id (by omega) (by omega), xa_w64_id (by omega) (by omega), xa_w64_id (by omega) (by omega), by rw [xa_w64_id (n := M9 75 a * M9 76 b) (by omega) (by omega), xa_w64_id (n := M9 75 b * M9 76 a) (by omega) (by omega), xa_w64_id (by omega) (by omega)], by omega, p1, p2⟩
              refine And.intro ?_ ?_
              · intro (c10 : 0 ≤ v9)
                have nL : ¬ (tw_L M9 a ∨ tw_L M9 b) := by
                  obtain ⟨y1, y2⟩ := y3 c8 c10
                  have n7 := tw_f0 (tw_s5 hs7 (by omega) (by omega)) c8
                  have n9 := tw_f0 (tw_s5 hs9 (by omega) (by omega)) c10
                  unfold tw_L at n7 n9 ⊢
                  rw [y1, y2]
                  omega
                refine And.intro (show 0 ≤ a ∧ a < 10 by omega) ?_
                refine And.intro (show 0 ≤ b ∧ b < 10 by omega) ?_
                refine And.intro (show 0 ≤ b ∧ b < 10 by omega) ?_
                refine And.intro (show 0 ≤ a ∧ a < 10 by omega) ?_
                refine And.intro (show 0 ≤ a ∧ a < 10 by omega) ?_
                refine And.intro (show 0 ≤ b ∧ b < 10 by omega) ?_
                show xa_C xm_I A h0 _ 229 [(1, 0, (-9223372036854775808), 9223372036854775807, xa_w64 ((xa_w64 ((M9 75 a) * (M9 76 b))) - (xa_w64 ((M9 75 b) * (M9 76 a))))), (1, 0, (-9223372036854775808), 9223372036854775807, xa_w64 ((M9 76 a) * (M9 76 b)))] M9 _
                refine ct_gcd2 (by omega) (by omega) (fun g11 eg11 pg11 qg11 => ?_)
                refine And.intro ?_ ?_
                · intro (c12 : ((xa_w64 ((M9 76 a) * (M9 76 b))).tdiv g11) ≤ 100000)
                  show xa_C xm_I A h0 _ 231 [(2, 60, 0, 0, 0), (1, 0, (-9223372036854775808), 9223372036854775807, (xa_w64 ((xa_w64 ((M9 75 a) * (M9 76 b))) - (xa_w64 ((M9 75 b) * (M9 76 a))))).tdiv g11)] (xa_up M9 60 20 0) _
                  refine ct_tell (n := 0) (by first | rfl | (simp [xa_up]; done) | omega) (by omega) (by omega) ?_
                  show post (some (0, 0, (-2147483648), 2147483647, xa_w32 ((xa_w64 ((M9 76 a) * (M9 76 b))).tdiv g11))) (xa_up (xa_up (xa_up M9 60 20 0) 74 0 ((xa_w64 ((xa_w64 ((M9 75 a) * (M9 76 b))) - (xa_w64 ((M9 75 b) * (M9 76 a))))).tdiv g11)) 60 20 1)
                  obtain ⟨q1, q2, q3, q4, q5, -⟩ := w64 c8 c10
                  rw [q4, q3] at eg11
                  rw [q3] at c12
                  exact k _ _ ⟨_, _, _, rfl, Or.inr ⟨i2, Or.inr ⟨i1, w9, M9, F9, Or.inr (Or.inr ⟨by omega, by omega, Or.inr (Or.inr ⟨by omega, nL, by rw [q3]; exact tw_y2 q5 eg11 c12⟩)⟩)⟩⟩⟩ (xm_cor_f (by omega) (xm_cor_a rfl (xm_cor_f (by omega) (xm_cor_t (xm_cor_t (xm_cor_t (xm_cor_f (by omega) xm_cor_r) hc3) hc7) hc9))))
                · intro (c12 : 100000 < ((xa_w64 ((M9 76 a) * (M9 76 b))).tdiv g11))
                  show post (some (0, 0, (-6), (-6), (-6))) M9
                  obtain ⟨q1, q2, q3, q4, q5, -⟩ := w64 c8 c10
                  rw [q4, q3] at eg11
                  rw [q3] at c12
                  exact k _ _ ⟨_, _, _, rfl, Or.inr ⟨i2, Or.inr ⟨i1, w9, M9, F9, Or.inr (Or.inr ⟨by omega, by omega, Or.inr (Or.inr ⟨by omega, nL, tw_y6 eg11 c12⟩)⟩)⟩⟩⟩ (xm_cor_t (xm_cor_t (xm_cor_t (xm_cor_f (by omega) xm_cor_r) hc3) hc7) hc9)
              · intro (c10 : v9 < 0)
                show post (some (0, 0, (-5), (-5), (-5))) M9
                exact k _ _ ⟨_, _, _, rfl, Or.inr ⟨i2, Or.inr ⟨i1, w9, M9, F9, Or.inr (Or.inr ⟨by omega, by omega, Or.inr (Or.inl ⟨by omega, Or.inr (tw_f5 (tw_s5 hs9 (by omega) (by omega)) c10), rfl⟩)⟩)⟩⟩⟩ (xm_cor_t (xm_cor_t (xm_cor_t (xm_cor_f (by omega) xm_cor_r) hc3) hc7) hc9)
          · intro (c6 : (M3 77 b) = 0)
            show post (some (0, 0, (-2), (-2), (-2))) M3
            exact k _ _ ⟨_, _, _, rfl, Or.inr ⟨i2, Or.inr ⟨i1, v3, M3, F3, Or.inr (Or.inr ⟨by omega, by omega, Or.inl ⟨c6, rfl⟩⟩)⟩⟩⟩ (xm_cor_t (xm_cor_f (by omega) xm_cor_r) hc3)
      · intro (c4 : v3 < 0)
        show post (some (0, 0, (-5), 0, v3)) M3
        exact k _ _ ⟨_, _, _, rfl, Or.inr ⟨i2, Or.inr ⟨i1, v3, M3, F3, Or.inl ⟨by omega, rfl⟩⟩⟩⟩ (xm_cor_t (xm_cor_f (by omega) xm_cor_r) hc3)
    · intro (i2 : ¬ (0 ≤ b ∧ b ≤ 9))
      show post (some (0, 0, (-1), (-1), (-1))) (xa_up M 60 21 0)
      exact k _ _ ⟨_, _, _, rfl, Or.inl ⟨i2, rfl⟩⟩ (xm_cor_f (by omega) xm_cor_r)
  · intro (i1 : ¬ (0 ≤ a ∧ a ≤ 9))
    show post (some (0, 0, (-1), (-1), (-1))) (xa_up M 60 21 0)
    exact k _ _ ⟨_, _, _, rfl, tw_Pn i1⟩ (xm_cor_f (by omega) xm_cor_r)

theorem cx_72v {b : Bool} {A : Nat → Nat} {h0 : g_H} {d : Nat} {M : xa_M} {post : Option xa_V → xa_M → Prop} {l1 u1 l2 u2 x1 x2 : Int} {N0 : xa_M} (hM0 : tu_M N0) (hC0 : tu_C M N0) (k : ∀ (lo hi v : Int) (M1 : xa_M), tw_72 N0 x1 x2 v → (∀ (q : Nat) (j : Int), ¬ (12 ≤ q ∧ q ≤ 14) → ¬ (q = 48 ∨ q = 49) → M1 q j = M q j) → post (some (0, 0, lo, hi, v)) M1) : xa_C (xl_I b) A h0 (d + 8) 72 [(2, 0, 0, 0, 0), (0, 0, l1, u1, x1), (0, 0, l2, u2, x2)] M post := by
  refine xa_C_arg [(2, 0, 0, 0, 0), (0, 0, (-2147483648), 2147483647, x1), (0, 0, (-2147483648), 2147483647, x2)] (xa_svR (xa_svI (fun _ _ _ _ => by omega) (xa_svI (fun _ _ _ _ => by omega) (xa_sv0)))) ?_
  refine xa_meth (Q0 := (12, 1, false, 0, 0, 11)) (by decide +kernel) ⟨rfl, rfl⟩ (full := s_c_72) rfl rfl ?_
  intro hM hv Q hgo
  refine hgo.1 84 [] 0 _ _ _ ?_
  show xa_C (xl_I b) A h0 _ 14 [(0, 0, (-2147483648), 2147483647, x1)] M _
  refine cx_14 ?_ ?_ ?_
  · intro (i1 : x1 < 0)
    show post (some (0, 0, (-1), (-1), (-1))) M
    exact k _ _ _ _ (tw_Pn (by omega)) (fun _ _ _ _ => rfl)
  · intro (i2 : 0 ≤ x1) (i3 : 10 ≤ x1)
    show post (some (0, 0, (-1), (-1), (-1))) M
    exact k _ _ _ _ (tw_Pn (by omega)) (fun _ _ _ _ => rfl)
  · intro (i4 : 0 ≤ x1) (i5 : x1 < 10)
    show xa_C (xl_I b) A h0 _ 14 [(0, 0, (-2147483648), 2147483647, x2)] M _
    refine cx_14 ?_ ?_ ?_
    · intro (i6 : x2 < 0)
      show post (some (0, 0, (-1), (-1), (-1))) M
      exact k _ _ _ _ (Or.inl ⟨by omega, rfl⟩) (fun _ _ _ _ => rfl)
    · intro (i7 : 0 ≤ x2) (i8 : 10 ≤ x2)
      show post (some (0, 0, (-1), (-1), (-1))) M
      exact k _ _ _ _ (Or.inl ⟨by omega, rfl⟩) (fun _ _ _ _ => rfl)
    · intro (i9 : 0 ≤ x2) (i10 : x2 < 10)
      show xa_C (xl_I b) A h0 _ 46 [(2, 0, 0, 0, 0), (0, 0, (-2147483648), 2147483647, x1)] M _
      refine cx_46t hM0 hC0 ?_
      intro v101 M102 (i11 : tu_S N0 x1 v101 M102) (i12 : tu_G M M102)
      refine And.intro ?_ ?_
      · intro (c13 : v101 = 0)
        rw [c13] at i11
        have ax := (tu_S0 i11).1
        show xa_C (xl_I b) A h0 _ 50 [(2, 12, 0, 0, 0), (0, 0, (-2147483648), 2147483647, x2)] M102 _
        refine cx_50_12 (show 0 ≤ x2 ∧ x2 < 10 by omega) ?_ ?_
        · intro (i14 : (M102 14 x2) = 0)
          show post (some (0, 0, (-2), (-2), (-2))) M102
          refine k _ _ _ _ (Or.inr ⟨by omega, tw_A_to i11 (fun N _ hR h7 h8 _ => ?_)⟩) (fun q j h1 h2 => i12 q j h1)
          have z := tu_z hR (show 0 ≤ x2 by omega) (by omega)
          exact Or.inl ⟨by omega, rfl⟩
        · intro (i15 : ¬ (M102 14 x2) = 0)
          obtain ⟨ax, N9, t1, t2, t3, t4, t5, t6, t7⟩ := tu_S0 i11
          show xa_C (xl_I b) A h0 _ 69 [(2, 12, 0, 0, 0), (0, 0, (-2147483648), 2147483647, x1)] M102 _
          refine cx_69t (show 0 ≤ x1 ∧ x1 < 10 by omega) t5 ?_
          intro r103 (i16 : (r103 = 1 ∧ tu_L M102 x1) ∨ (r103 = 0 ∧ ¬ tu_L M102 x1))
          refine And.intro ?_ ?_
          · intro (c17 : ¬ r103 = 0)
            show post (some (0, 0, (-5), (-5), (-5))) M102
            refine k _ _ _ _ (Or.inr ⟨by omega, tw_A_to i11 (fun N _ hR h7 h8 _ => ?_)⟩) (fun q j h1 h2 => i12 q j h1)
            obtain ⟨b7, b8⟩ := tu_at hR (show 0 ≤ x2 ∧ x2 < 10 by omega) i15
            rcases i16 with ⟨-, e⟩ | ⟨e, -⟩
            · exact Or.inr (Or.inl ⟨b7, Or.inl ((tw_Lc h8).mp e), rfl⟩)
            · exfalso
              omega
          · intro (c17 : r103 = 0)
            have nLa : ¬ tu_L M102 x1 := by
              rcases i16 with ⟨e, -⟩ | ⟨-, e⟩
              · omega
              · exact e
            show xa_C (xl_I b) A h0 _ 69 [(2, 12, 0, 0, 0), (0, 0, (-2147483648), 2147483647, x2)] M102 _
            refine cx_69t (show 0 ≤ x2 ∧ x2 < 10 by omega) (tu_pq t2 (by omega) (by omega)).1 ?_
            intro r104 (i18 : (r104 = 1 ∧ tu_L M102 x2) ∨ (r104 = 0 ∧ ¬ tu_L M102 x2))
            refine And.intro ?_ ?_
            · intro (c19 : r104 = 0)
              have nLb : ¬ tu_L M102 x2 := by
                rcases i18 with ⟨e, -⟩ | ⟨-, e⟩
                · omega
                · exact e
              have pb := (tu_pq t2 (show 0 ≤ x2 ∧ x2 < 10 by omega) i15).2
              have hw := tw_w nLa nLb t6.1 pb.1
              show xa_C (xl_I b) A h0 _ 54 [(2, 12, 0, 0, 0), (0, 0, (-2147483648), 2147483647, x1)] M102 _
              refine cx_54_12 (show 0 ≤ x1 ∧ x1 < 10 by omega) ?_
              show xa_C (xl_I b) A h0 _ 51 [(2, 12, 0, 0, 0), (0, 0, (-2147483648), 2147483647, x2)] M102 _
              refine cx_51_12 (show 0 ≤ x2 ∧ x2 < 10 by omega) ?_
              show xa_C (xl_I b) A h0 _ 54 [(2, 12, 0, 0, 0), (0, 0, (-2147483648), 2147483647, x2)] M102 _
              refine cx_54_12 (show 0 ≤ x2 ∧ x2 < 10 by omega) ?_
              show xa_C (xl_I b) A h0 _ 51 [(2, 12, 0, 0, 0), (0, 0, (-2147483648), 2147483647, x1)] M102 _
              refine cx_51_12 (show 0 ≤ x1 ∧ x1 < 10 by omega) ?_
              show xa_C (xl_I b) A h0 _ 51 [(2, 12, 0, 0, 0), (0, 0, (-2147483648), 2147483647, x1)] M102 _
              refine cx_51_12 (show 0 ≤ x1 ∧ x1 < 10 by omega) ?_
              show xa_C (xl_I b) A h0 _ 51 [(2, 12, 0, 0, 0), (0, 0, (-2147483648), 2147483647, x2)] M102 _
              refine cx_51_12 (show 0 ≤ x2 ∧ x2 < 10 by omega) ?_
              show xa_C (xl_I b) A h0 _ 55 [(1, 0, (-9223372036854775808), 9223372036854775807, xa_w64 ((xa_w64 ((M102 13 x1) * (M102 14 x2))) - (xa_w64 ((M102 13 x2) * (M102 14 x1))))), (1, 0, (-9223372036854775808), 9223372036854775807, xa_w64 ((M102 14 x1) * (M102 14 x2)))] M102 _
              refine cx_55y (by omega) (by omega) ?_
              intro g105 (i20 : g105 = (Int.gcd (xa_w64 ((xa_w64 ((M102 13 x1) * (M102 14 x2))) - (xa_w64 ((M102 13 x2) * (M102 14 x1))))) (xa_w64 ((M102 14 x1) * (M102 14 x2))) : Int)) (i21 : 1 ≤ g105) (i22 : g105 ≤ 9223372036854775807)
              show xa_C (xl_I b) A h0 _ 21 [(1, 0, (-9223372036854775808), 9223372036854775807, xa_w64 ((M102 14 x1) * (M102 14 x2))), (1, 0, 0, 9223372036854775807, g105)] M102 _
              refine cx_21 ?_ ?_
              · intro (i23 : ¬ g105 = 0)
                refine And.intro ?_ ?_
                · intro (c24 : ((xa_w64 ((M102 14 x1) * (M102 14 x2))).tdiv g105) ≤ 100000)
                  show xa_C (xl_I b) A h0 _ 59 [(2, 48, 0, 0, 0)] M102 _
                  refine cx_59_48 ?_
                  show xa_C (xl_I b) A h0 _ 21 [(1, 0, (-9223372036854775808), 9223372036854775807, xa_w64 ((xa_w64 ((M102 13 x1) * (M102 14 x2))) - (xa_w64 ((M102 13 x2) * (M102 14 x1))))), (1, 0, 0, 9223372036854775807, g105)] (xa_up M102 48 1 0) _
                  refine cx_21 ?_ ?_
                  · intro (i25 : ¬ g105 = 0)
                    show xa_C (xl_I b) A h0 _ 60 [(2, 48, 0, 0, 0), (1, 0, (-9223372036854775808), 9223372036854775807, (xa_w64 ((xa_w64 ((M102 13 x1) * (M102 14 x2))) - (xa_w64 ((M102 13 x2) * (M102 14 x1))))).tdiv g105)] (xa_up M102 48 1 0) _
                    refine cx_60a (by show (0 : Int) ≤ 0; omega) ?_
                    intro M106 (i26 : ∀ (q : Nat) (j : Int), ¬ (q = 48 ∨ q = 49) → M106 q j = (xa_up M102 48 1 0) q j) (i27 : (0 : Int) ≤ M106 48 1)
                    show post (some (0, 0, (-2147483648), 2147483647, xa_w32 ((xa_w64 ((M102 14 x1) * (M102 14 x2))).tdiv g105))) M106
                    refine k _ _ _ _ (Or.inr ⟨by omega, tw_A_to i11 (fun N _ hR h7 h8 _ => ?_)⟩) (fun q j h1 h2 => (i26 q j h2).trans ((xa_up_ne (by omega)).trans (i12 q j h1)))
                    obtain ⟨b7, b8⟩ := tu_at hR (show 0 ≤ x2 ∧ x2 < 10 by omega) i15
                    refine Or.inr (Or.inr ⟨b7, fun h => h.elim (fun e => nLa ((tw_Lc h8).mpr e)) (fun e => nLb ((tw_Lc b8).mpr e)), ?_⟩)
                    rw [← h8.1, ← h8.2, ← b8.1, ← b8.2]
                    rw [hw.2.2.1, hw.2.1] at i20
                    rw [hw.2.1] at c24
                    rw [hw.2.1]
                    exact tw_y2 hw.2.2.2.1.1 i20 c24
                  · intro (i28 : g105 = 0)
                    exfalso
                    omega
                · intro (c24 : 100000 < ((xa_w64 ((M102 14 x1) * (M102 14 x2))).tdiv g105))
                  show post (some (0, 0, (-6), (-6), (-6))) M102
                  refine k _ _ _ _ (Or.inr ⟨by omega, tw_A_to i11 (fun N _ hR h7 h8 _ => ?_)⟩) (fun q j h1 h2 => i12 q j h1)
                  obtain ⟨b7, b8⟩ := tu_at hR (show 0 ≤ x2 ∧ x2 < 10 by omega) i15
                  refine Or.inr (Or.inr ⟨b7, fun h => h.elim (fun e => nLa ((tw_Lc h8).mpr e)) (fun e => nLb ((tw_Lc b8).mpr e)), ?_⟩)
                  rw [← h8.1, ← h8.2, ← b8.1, ← b8.2]
                  rw [hw.2.2.1, hw.2.1] at i20
                  rw [hw.2.1] at c24
                  exact tw_y6 i20 c24
              · intro (i29 : g105 = 0)
                exfalso
                omega
            · intro (c19 : ¬ r104 = 0)
              show post (some (0, 0, (-5), (-5), (-5))) M102
              refine k _ _ _ _ (Or.inr ⟨by omega, tw_A_to i11 (fun N _ hR h7 h8 _ => ?_)⟩) (fun q j h1 h2 => i12 q j h1)
              obtain ⟨b7, b8⟩ := tu_at hR (show 0 ≤ x2 ∧ x2 < 10 by omega) i15
              rcases i18 with ⟨-, e⟩ | ⟨e, -⟩
              · exact Or.inr (Or.inl ⟨b7, Or.inr ((tw_Lc b8).mp e), rfl⟩)
              · exfalso
                omega
      · intro (c13 : ¬ v101 = 0)
        show post (some (0, 0, (-5), 0, v101)) M102
        exact k _ _ _ _ (Or.inr ⟨by omega, tw_A_of i11 (fun e => absurd e (by omega))⟩) (fun q j h1 h2 => i12 q j h1)
-- gives on both sides
set_option maxRecDepth 20000
/-- the axle turns as the period, in lowest terms -/
def tw_gq (N0 : xa_M) (a : Int) (N : xa_M) (p : Int) : Prop := ((N 75 a).natAbs : Int) = N0 70 p / (Int.gcd (N0 70 p) (N0 71 p) : Int) ∧ N 76 a = N0 71 p / (Int.gcd (N0 70 p) (N0 71 p) : Int)
def tw_gR (N0 : xa_M) (a : Int) (N : xa_M) (v : Int) : Prop := ∃ N1 : xa_M, N1 75 a = N 75 a ∧ N1 76 a = N 76 a ∧ v = wd_b (tw_gq N0 a N1) (N0 60 11).toNat
/-- by products -/
def tw_gC (N0 : xa_M) (a : Int) (N : xa_M) (v : Int) : Prop := Int.gcd (N 75 a) (N 76 a) = 1 ∧ 1 ≤ N 76 a ∧ v = wd_b (fun p => ((N 75 a).natAbs : Int) * N0 71 p = N 76 a * N0 70 p) (N0 60 11).toNat
theorem tw_low {U D u l : Int} (hU : 0 ≤ U) (hD : 1 ≤ D) (hu : 0 ≤ u) (hl : 1 ≤ l) (hg : Int.gcd U D = 1) : U * l = D * u ↔ (U = u / (Int.gcd u l : Int) ∧ D = l / (Int.gcd u l : Int)) := by
  have g1 : 1 ≤ (Int.gcd u l : Int) := tu_gp hl
  obtain ⟨u', eu⟩ : (Int.gcd u l : Int) ∣ u := Int.gcd_dvd_left ..
  obtain ⟨l', el⟩ : (Int.gcd u l : Int) ∣ l := Int.gcd_dvd_right ..
  have du : u / (Int.gcd u l : Int) = u' := by
    conv => lhs; lhs; rw [eu]
    exact Int.mul_ediv_cancel_left u' (by omega)
  have dl : l / (Int.gcd u l : Int) = l' := by
    conv => lhs; lhs; rw [el]
    exact Int.mul_ediv_cancel_left l' (by omega)
  have hc : Int.gcd u' l' = 1 := by
    have := Int.gcd_ediv (i := u) (j := l) (k := (Int.gcd u l : Int)) ⟨u', eu⟩ ⟨l', el⟩
    rw [du, dl, Int.natAbs_natCast] at this
    rw [this]
    exact Nat.div_self (by omega)
  rw [du, dl]
  generalize (Int.gcd u l : Int) = g at g1 eu el du dl
  subst eu
  subst el
  clear du dl
  have l0 : 1 ≤ l' := by
    rcases Int.lt_or_le l' 1 with h | h
    · exfalso
      have := Int.mul_le_mul_of_nonneg_left (show l' ≤ 0 by omega) (show 0 ≤ g by omega)
      omega
    · exact h
  constructor
  · intro h
    have h1 : U * l' = D * u' := by
      have e : g * (U * l') = g * (D * u') := by
        rw [show g * (U * l') = U * (g * l') by ac_rfl, h]
        ac_rfl
      exact Int.eq_of_mul_eq_mul_left (by omega) e
    have d1 : D ∣ l' := by
      have : D ∣ U * l' := ⟨u', h1⟩
      exact Int.dvd_of_dvd_mul_right_of_gcd_one (by rw [Int.mul_comm] at this; exact this) (by rw [Int.gcd_comm]; exact hg)
    have d2 : l' ∣ D := by
      have : l' ∣ D * u' := ⟨U, by rw [← h1]; ac_rfl⟩
      exact Int.dvd_of_dvd_mul_left_of_gcd_one this (by rw [Int.gcd_comm]; exact hc)
    have e1 := Int.le_of_dvd (by omega) d1
    have e2 := Int.le_of_dvd (by omega) d2
    have e3 : D = l' := by omega
    refine ⟨?_, e3⟩
    rw [e3, Int.mul_comm] at h1
    exact Int.eq_of_mul_eq_mul_left (by omega) h1
  · rintro ⟨rfl, rfl⟩
    ac_rfl
theorem tw_g_one {N0 N N' : xa_M} {a v v' : Int} (hb : ∀ p, 0 ≤ p → p < N0 60 11 → 0 ≤ N0 70 p ∧ 1 ≤ N0 71 p) (e1 : N' 75 a = N 75 a) (e2 : N' 76 a = N 76 a) (h : tw_gC N0 a N v) (h' : tw_gR N0 a N' v') : v = v' := by
  obtain ⟨g1, g2, g3⟩ := h
  obtain ⟨N1, f1, f2, g4⟩ := h'
  rw [g3, g4]
  refine wd_b_e _ (fun p hp => ?_)
  have hb := hb (p : Int) (by omega) (by omega)
  show ((N 75 a).natAbs : Int) * N0 71 (p : Int) = N 76 a * N0 70 (p : Int) ↔ tw_gq N0 a N1 (p : Int)
  unfold tw_gq
  rw [f1, f2, e1, e2]
  exact tw_low (by omega) g2 hb.1 hb.2 (by rw [Int.gcd_natAbs_left]; exact g1)
theorem ms_givesV {A : Nat → Nat} {h0 : g_H} {d : Nat} {M : xa_M} {post : Option xa_V → xa_M → Prop} {l1 u1 : Int} {a : Int} (hI : xm_Inv M) (k : ∀ (o : Option xa_V) (M1 : xa_M), (∃ lo hi n, o = some (0, 0, lo, hi, n) ∧ tw_A M a n (tw_gR M a)) → xm_cor M M1 → post o M1) : xa_C xm_I A h0 (d + 6) 234 [(2, 60, 0, 0, 0), (0, 0, l1, u1, a)] M post := by
  refine xa_C_arg [(2, 60, 0, 0, 0), (0, 0, (-2147483648), 2147483647, a)] (xa_svR (xa_svI (fun _ _ _ _ => by omega) xa_sv0)) ?_
  refine xa_meth (Q0 := (6, 1, false, 0, 0, 12)) (by decide +kernel) ⟨rfl, rfl⟩ (full := s_c_234) rfl rfl ?_
  intro hM hv Q hgo
  have loop : ∀ (n : Nat) (p b : Int) (M1 : xa_M), 0 ≤ p → p ≤ 8 → xm_cor M M1 → b = wd_b (tw_gq M a M1) p.toNat → p ≤ M 60 11 → (∀ v, v = wd_b (tw_gq M a M1) (M 60 11).toNat → tw_A M a v (tw_gR M a)) → 8 - p < (n : Int) → 0 ≤ a → a ≤ 9 → Q 31 [(4, (0, 0, 0, 8, p)), (3, (0, 0, (-2147483648), 2147483647, b)), (1, (0, 0, 0, 9, a)), (0, (2, 60, 0, 0, 0))] [] M1 := by
    intro n
    induction n with
    | zero => intro p b M1 h1 h2 hc hb hle hS hms; clear hb hS; omega
    | succ n ih =>
      intro p b M1 h1 h2 hc hb hle hS hms
      intro ha0 ha1
      refine hgo.2.2 _ _ _ _ (fun hM1 _ => ?_)
      have hI1 := xm_Inv_cor hc hI
      have b11 := xm_f11 hM1
      have e11 := xm_corf hc 11 (by omega)
      have e70 := xm_corq hc 70 rfl p
      have e71 := xm_corq hc 71 rfl p
      have t70 : p < M1 60 11 → 0 ≤ M1 70 p ∧ M1 70 p ≤ 2000 := fun h => xm_t70 hM1 p h1 (by omega)
      have t71 : p < M1 60 11 → 0 ≤ M1 71 p ∧ M1 71 p ≤ 2000 := fun h => xm_t71 hM1 p h1 (by omega)
      have hp := hI1.2.2.1 p h1
      refine hgo.1 55 [31] 31 _ _ _ ?_
      refine And.intro ?_ ?_
      · intro (c1 : (M1 60 11) ≤ p)
        refine And.intro ?_ ?_
        · intro (c2 : (M1 75 a) ≤ 0)
          show xa_C xm_I A h0 _ 231 [(2, 60, 0, 0, 0), (1, 0, 0, 0, 0)] (xa_up M1 60 20 0) _
          refine ct_tell (n := 0) (by first | rfl | (simp [xa_up]; done) | omega) (by omega) (by omega) ?_
          show post (some (0, 0, (-2147483648), 2147483647, b)) (xa_up (xa_up (xa_up M1 60 20 0) 74 0 0) 60 20 1)
          exact k _ _ ⟨_, _, _, rfl, hS _ (by rw [hb, show p = M 60 11 by omega])⟩ (xm_cor_f (by omega) (xm_cor_a rfl (xm_cor_f (by omega) hc)))
        · intro (c2 : 0 < (M1 75 a))
          show xa_C xm_I A h0 _ 231 [(2, 60, 0, 0, 0), (1, 0, (-2147483648), 2147483647, b)] (xa_up M1 60 20 0) _
          refine ct_tell (n := 0) (by first | rfl | (simp [xa_up]; done) | omega) (by omega) (by omega) ?_
          show post (some (0, 0, (-2147483648), 2147483647, b)) (xa_up (xa_up (xa_up M1 60 20 0) 74 0 b) 60 20 1)
          exact k _ _ ⟨_, _, _, rfl, hS _ (by rw [hb, show p = M 60 11 by omega])⟩ (xm_cor_f (by omega) (xm_cor_a rfl (xm_cor_f (by omega) hc)))
      · intro (c1 : p < (M1 60 11))
        refine And.intro (show 0 ≤ p ∧ p < 8 by omega) ?_
        refine And.intro (show 0 ≤ p ∧ p < 8 by omega) ?_
        show xa_C xm_I A h0 _ 229 [(1, 0, 0, 2000, M1 70 p), (1, 0, 0, 2000, M1 71 p)] M1 _
        refine ct_gcd1 (by decide) (by decide) (by omega) (fun g3 eg3 pg3 qg3 => ?_)
        have wg3 := xa_w32_id (n := g3) (by omega) (by omega)
        show xa_C xm_I A h0 _ 56 [(1, 0, (-1000000000000000), 1000000000000000, M1 75 a)] M1 _
        refine ct_absb 1000000000000000 (by decide) (by decide) (by decide) (fun a4 ea4 => ?_)
        refine And.intro (show 0 ≤ p ∧ p < 8 by omega) ?_
        refine And.intro (show 0 < (xa_w32 g3) by omega) ?_
        refine And.intro ?_ ?_
        · intro (c5 : ¬ a4 = ((M1 70 p) / (xa_w32 g3)))
          show Q 31 [(4, (0, 0, 1, 9, p + 1)), (5, (0, 0, (-2147483648), 2147483647, xa_w32 g3)), (3, (0, 0, (-2147483648), 2147483647, b)), (1, (0, 0, 0, 9, a)), (0, (2, 60, 0, 0, 0))] [] M1
          refine hgo.2.1 31 _ [(4, (0, 0, 0, 8, p + 1)), (3, (0, 0, (-2147483648), 2147483647, b)), (1, (0, 0, 0, 9, a)), (0, (2, 60, 0, 0, 0))] _ _ (xa_subI rfl rfl (fun _ _ _ _ => by omega) (xa_subI rfl rfl (fun _ _ _ _ => by omega) (xa_subI rfl rfl (fun _ _ _ _ => by omega) (xa_subR rfl xa_sub0)))) ?_
          exact ih (p + 1) b _ (by omega) (by omega) hc (tw_b0 h1 (fun h => by unfold tw_gq at h; rw [← e70, ← e71, ← eg3, ← wg3, ← ea4] at h; exact c5 h.1) hb) (by omega) hS (by omega) ha0 ha1
        · intro (c5 : a4 = ((M1 70 p) / (xa_w32 g3)))
          refine And.intro (show 0 ≤ p ∧ p < 8 by omega) ?_
          refine And.intro (show 0 < (xa_w32 g3) by omega) ?_
          refine And.intro ?_ ?_
          · intro (c6 : ¬ (M1 76 a) = ((M1 71 p) / (xa_w32 g3)))
            show Q 31 [(4, (0, 0, 1, 9, p + 1)), (5, (0, 0, (-2147483648), 2147483647, xa_w32 g3)), (3, (0, 0, (-2147483648), 2147483647, b)), (1, (0, 0, 0, 9, a)), (0, (2, 60, 0, 0, 0))] [] M1
            refine hgo.2.1 31 _ [(4, (0, 0, 0, 8, p + 1)), (3, (0, 0, (-2147483648), 2147483647, b)), (1, (0, 0, 0, 9, a)), (0, (2, 60, 0, 0, 0))] _ _ (xa_subI rfl rfl (fun _ _ _ _ => by omega) (xa_subI rfl rfl (fun _ _ _ _ => by omega) (xa_subI rfl rfl (fun _ _ _ _ => by omega) (xa_subR rfl xa_sub0)))) ?_
            exact ih (p + 1) b _ (by omega) (by omega) hc (tw_b0 h1 (fun h => by unfold tw_gq at h; rw [← e70, ← e71, ← eg3, ← wg3, ← ea4] at h; exact c6 h.2) hb) (by omega) hS (by omega) ha0 ha1
          · intro (c6 : (M1 76 a) = ((M1 71 p) / (xa_w32 g3)))
            show Q 31 [(4, (0, 0, 1, 9, p + 1)), (3, (0, 0, (-2147483648), 2147483647, xa_ib 4 b (xa_ib 6 1 p))), (5, (0, 0, (-2147483648), 2147483647, xa_w32 g3)), (1, (0, 0, 0, 9, a)), (0, (2, 60, 0, 0, 0))] [] M1
            refine hgo.2.1 31 _ [(4, (0, 0, 0, 8, p + 1)), (3, (0, 0, (-2147483648), 2147483647, xa_ib 4 b (xa_ib 6 1 p))), (1, (0, 0, 0, 9, a)), (0, (2, 60, 0, 0, 0))] _ _ (xa_subI rfl rfl (fun _ _ _ _ => by omega) (xa_subI rfl rfl (fun _ _ _ _ => by omega) (xa_subI rfl rfl (fun _ _ _ _ => by omega) (xa_subR rfl xa_sub0)))) ?_
            exact ih (p + 1) (xa_ib 4 b (xa_ib 6 1 p)) _ (by omega) (by omega) hc (tw_b1 h1 (show tw_gq M a M1 p by unfold tw_gq; rw [← e70, ← e71, ← eg3, ← wg3, ← ea4]; exact ⟨c5, c6⟩) hb) (by omega) hS (by omega) ha0 ha1
  refine hgo.1 21 [31] 0 _ _ _ ?_
  show xa_C xm_I A h0 _ 215 [(0, 0, (-2147483648), 2147483647, a)] (xa_up M 60 21 0) _
  refine ct_isAxle ?_ ?_
  · intro (i1 : 0 ≤ a ∧ a ≤ 9)
    show xa_C xm_I A h0 _ 226 [(2, 60, 0, 0, 0), (0, 0, (-2147483648), 2147483647, a)] (xa_up M 60 21 0) _
    refine xa_C_mok (ct_stateOfF (xm_Inv_cor (xm_cor_f (by omega) xm_cor_r) hI) (by omega) (by omega) (fun v2 w2 M2 hc2 hT2 hF2 hw2 hv2 hs2 hM2 => ?_))
    refine And.intro ?_ ?_
    · intro (c3 : 0 ≤ v2)
      show Q 31 [(4, (0, 0, 0, 0, 0)), (3, (0, 0, 0, 0, 0)), (2, (0, 0, (-5), 0, v2)), (0, (2, 60, 0, 0, 0)), (1, (0, 0, (-2147483648), 2147483647, a))] [] M2
      refine hgo.2.1 31 _ [(4, (0, 0, 0, 8, 0)), (3, (0, 0, (-2147483648), 2147483647, 0)), (1, (0, 0, 0, 9, a)), (0, (2, 60, 0, 0, 0))] _ _ (xa_subI rfl rfl (fun _ _ _ _ => by omega) (xa_subI rfl rfl (fun _ _ _ _ => by omega) (xa_subI rfl rfl (fun _ _ _ _ => by omega) (xa_subR rfl xa_sub0)))) ?_
      exact loop 9 0 0 _ (by omega) (by omega) (xm_cor_t (xm_cor_f (by omega) xm_cor_r) hc2) rfl (xm_f11 hM).1 (fun v e => Or.inr ⟨i1, w2, M2, ⟨_, xm_cor_f (by omega) xm_cor_r, hF2⟩, Or.inr (Or.inr ⟨by omega, by omega, M2, rfl, rfl, e⟩)⟩) (by omega) (by omega) (by omega)
    · intro (c3 : v2 < 0)
      show post (some (0, 0, (-5), 0, v2)) M2
      exact k _ _ ⟨_, _, _, rfl, Or.inr ⟨i1, w2, M2, ⟨_, xm_cor_f (by omega) xm_cor_r, hF2⟩, tw_s3 hs2 (by omega)⟩⟩ (xm_cor_t (xm_cor_f (by omega) xm_cor_r) hc2)
  · intro (i1 : ¬ (0 ≤ a ∧ a ≤ 9))
    show post (some (0, 0, (-1), (-1), (-1))) (xa_up M 60 21 0)
    exact k _ _ ⟨_, _, _, rfl, Or.inl ⟨i1, rfl⟩⟩ (xm_cor_f (by omega) xm_cor_r)

theorem cx_23_52 {b : Bool} {A : Nat → Nat} {h0 : g_H} {d : Nat} {M : xa_M} {post : Option xa_V → xa_M → Prop} {l1 u1 : Int} {i : Int} (h1 : 0 ≤ i ∧ i < 8) (k1 : post (some (0, 0, (-2147483648), 2147483647, M 52 i)) M) : xa_C (xl_I b) A h0 (d + 1) 23 [(2, 52, 0, 0, 0), (0, 0, l1, u1, i)] M post := by
  refine xa_C_arg [(2, 52, 0, 0, 0), (0, 0, (-2147483648), 2147483647, i)] (xa_svR (xa_svI (fun _ _ _ _ => by omega) xa_sv0)) ?_
  refine xa_meth (Q0 := (2, 1, false, 0, 0, 11)) (by decide +kernel) ⟨rfl, rfl⟩ (full := s_c_23) rfl rfl ?_
  intro hM hv Q hgo
  refine hgo.1 15 [] 0 _ _ _ ?_
  refine And.intro ?_ ?_
  · intro (c1 : i < 0)
    show post (some (0, 0, 0, 0, 0)) M
    exact absurd h1 (by omega)
  · intro (c1 : 0 ≤ i)
    refine And.intro ?_ ?_
    · intro (c2 : 8 ≤ i)
      show post (some (0, 0, 0, 0, 0)) M
      exact absurd h1 (by omega)
    · intro (c2 : i < 8)
      refine And.intro (show 0 ≤ i ∧ i < 8 by omega) ?_
      show post (some (0, 0, (-2147483648), 2147483647, M 52 i)) M
      exact k1
theorem cx_64_50 {b : Bool} {A : Nat → Nat} {h0 : g_H} {d : Nat} {M : xa_M} {post : Option xa_V → xa_M → Prop} {l1 u1 : Int} {x1 : Int} (h1 : 0 ≤ x1 ∧ x1 < 8) (k1 : post (some (1, 0, (-2147483648), 2147483647, M 52 x1)) M) : xa_C (xl_I b) A h0 (d + 2) 64 [(2, 50, 0, 0, 0), (0, 0, l1, u1, x1)] M post := by
  refine xa_C_arg [(2, 50, 0, 0, 0), (0, 0, (-2147483648), 2147483647, x1)] (xa_svR (xa_svI (fun _ _ _ _ => by omega) (xa_sv0))) ?_
  refine xa_meth (Q0 := (2, 3, false, 0, 0, 0)) (by decide +kernel) ⟨rfl, rfl⟩ (full := s_c_64) rfl rfl ?_
  intro hM hv Q hgo
  refine hgo.1 10 [] 0 _ _ _ ?_
  show xa_C (xl_I _) A h0 _ 23 [(2, 52, 0, 0, 0), (0, 0, (-2147483648), 2147483647, x1)] M _
  refine cx_23_52 (show 0 ≤ x1 ∧ x1 < 8 by omega) ?_
  show post (some (1, 0, (-2147483648), 2147483647, M 52 x1)) M
  exact k1
theorem cx_23_51 {b : Bool} {A : Nat → Nat} {h0 : g_H} {d : Nat} {M : xa_M} {post : Option xa_V → xa_M → Prop} {l1 u1 : Int} {i : Int} (h1 : 0 ≤ i ∧ i < 8) (k1 : post (some (0, 0, (-2147483648), 2147483647, M 51 i)) M) : xa_C (xl_I b) A h0 (d + 1) 23 [(2, 51, 0, 0, 0), (0, 0, l1, u1, i)] M post := by
  refine xa_C_arg [(2, 51, 0, 0, 0), (0, 0, (-2147483648), 2147483647, i)] (xa_svR (xa_svI (fun _ _ _ _ => by omega) xa_sv0)) ?_
  refine xa_meth (Q0 := (2, 1, false, 0, 0, 11)) (by decide +kernel) ⟨rfl, rfl⟩ (full := s_c_23) rfl rfl ?_
  intro hM hv Q hgo
  refine hgo.1 15 [] 0 _ _ _ ?_
  refine And.intro ?_ ?_
  · intro (c1 : i < 0)
    show post (some (0, 0, 0, 0, 0)) M
    exact absurd h1 (by omega)
  · intro (c1 : 0 ≤ i)
    refine And.intro ?_ ?_
    · intro (c2 : 8 ≤ i)
      show post (some (0, 0, 0, 0, 0)) M
      exact absurd h1 (by omega)
    · intro (c2 : i < 8)
      refine And.intro (show 0 ≤ i ∧ i < 8 by omega) ?_
      show post (some (0, 0, (-2147483648), 2147483647, M 51 i)) M
      exact k1
theorem cx_65_50 {b : Bool} {A : Nat → Nat} {h0 : g_H} {d : Nat} {M : xa_M} {post : Option xa_V → xa_M → Prop} {l1 u1 : Int} {x1 : Int} (h1 : 0 ≤ x1 ∧ x1 < 8) (k1 : post (some (1, 0, (-2147483648), 2147483647, M 51 x1)) M) : xa_C (xl_I b) A h0 (d + 2) 65 [(2, 50, 0, 0, 0), (0, 0, l1, u1, x1)] M post := by
  refine xa_C_arg [(2, 50, 0, 0, 0), (0, 0, (-2147483648), 2147483647, x1)] (xa_svR (xa_svI (fun _ _ _ _ => by omega) (xa_sv0))) ?_
  refine xa_meth (Q0 := (2, 3, false, 0, 0, 0)) (by decide +kernel) ⟨rfl, rfl⟩ (full := s_c_65) rfl rfl ?_
  intro hM hv Q hgo
  refine hgo.1 10 [] 0 _ _ _ ?_
  show xa_C (xl_I _) A h0 _ 23 [(2, 51, 0, 0, 0), (0, 0, (-2147483648), 2147483647, x1)] M _
  refine cx_23_51 (show 0 ≤ x1 ∧ x1 < 8 by omega) ?_
  show post (some (1, 0, (-2147483648), 2147483647, M 51 x1)) M
  exact k1
theorem tw_w2 {x u : Int} (h : 0 ≤ x ∧ x ≤ 1000000000000000) (h2 : 0 ≤ u ∧ u ≤ 2000) : xa_w64 (x * u) = x * u := by
  have := xa_mul_ok (p := x) (q := 1000000000000000) (r := u) (s := 2000) h.1 h.2 h2.1 h2.2
  exact xa_w64_id (by omega) (by omega)
theorem tw_gf {pb : Nat} {N0 C C1 : xa_M} {a x p : Int} (hB : tk_B pb C N0) (hG : tu_G C C1) (hs : tu_S N0 a 0 C1) (hp : p = N0 60 11) (hb : x = wd_b (fun p => xa_w64 (((C1 13 a).natAbs : Int) * C1 (pb + 2) p) = xa_w64 (C1 14 a * C1 (pb + 1) p)) p.toNat) (hq : 30 ≤ pb) : tw_A N0 a x (tw_gC N0 a) := by
  obtain ⟨-, -, -, -, -, -, t5, t6, -⟩ := tu_S0 hs
  refine tw_A_to hs (fun N _ _ _ h8 hg => ⟨hg, by rw [← h8.2]; exact t6.1, ?_⟩)
  rw [hb, hp]
  refine wd_b_e _ (fun q hq' => ?_)
  obtain ⟨⟨f1, f2⟩, f3, f4⟩ := hB.2.2 (q : Int) (by omega) (by omega)
  have g1 := hG (pb + 1) (q : Int) (by omega)
  have g2 := hG (pb + 2) (q : Int) (by omega)
  show xa_w64 (((C1 13 a).natAbs : Int) * C1 (pb + 2) (q : Int)) = xa_w64 (C1 14 a * C1 (pb + 1) (q : Int)) ↔ ((N 75 a).natAbs : Int) * N0 71 (q : Int) = N 76 a * N0 70 (q : Int)
  rw [g1, g2, f1, f2, tw_w2 (by omega) (by omega), tw_w2 (by omega) (by omega), h8.1, h8.2]
theorem cx_63v_50 {b : Bool} {A : Nat → Nat} {h0 : g_H} {d : Nat} {M : xa_M} {post : Option xa_V → xa_M → Prop} {l1 u1 x1 : Int} {N0 : xa_M} (hM0 : tu_M N0) (hC0 : tu_C M N0) (hB : tk_B 50 M N0) (k : ∀ (lo hi v : Int) (M1 : xa_M), tw_A N0 x1 v (tw_gC N0 x1) → (∀ (q : Nat) (j : Int), ¬ (12 ≤ q ∧ q ≤ 14) → ¬ (q = 48 ∨ q = 49) → M1 q j = M q j) → post (some (0, 0, lo, hi, v)) M1) : xa_C (xl_I false) A h0 (d + 8) 63 [(2, 0, 0, 0, 0), (0, 0, l1, u1, x1)] M post := by
  refine xa_C_arg [(2, 0, 0, 0, 0), (0, 0, (-2147483648), 2147483647, x1)] (xa_svR (xa_svI (fun _ _ _ _ => by omega) (xa_sv0))) ?_
  refine xa_meth (Q0 := (7, 1, false, 0, 0, 11)) (by decide +kernel) ⟨rfl, rfl⟩ (full := s_c_63) rfl rfl ?_
  intro hM hv Q hgo
  have n11 := hB.2.1
  have loop : ∀ (f : Nat) (p x : Int) (M1 : xa_M), 0 ≤ p ∧ p ≤ 8 → p ≤ N0 60 11 → tu_G M M1 → tu_S N0 x1 0 M1 → x = wd_b (fun p => xa_w64 (((M1 13 x1).natAbs : Int) * M1 52 p) = xa_w64 (M1 14 x1 * M1 51 p)) p.toNat → 8 - p < (f : Int) → Q 17 [(4, (0, 0, 0, 8, p)), (3, (0, 0, (-2147483648), 2147483647, x)), (1, (0, 0, (-2147483648), 2147483647, x1)), (0, (2, 0, 0, 0, 0))] [] M1 := by
    intro f
    induction f with
    | zero => intro p x M1 p1 hle hG hs hb hms; clear hb; omega
    | succ f ih =>
      intro p x M1 p1 hle hG hs hb hms
      have e4 : M1 50 4 = N0 60 11 := (hG 50 4 (by omega)).trans hB.1
      obtain ⟨ax, N9, t1, t2, t3, t4, t5, t6, t7⟩ := tu_S0 hs
      refine hgo.1 41 [17] 17 _ _ _ ?_
      refine And.intro ?_ ?_
      · intro (c1 : (M1 50 4) ≤ p)
        show xa_C (xl_I _) A h0 _ 59 [(2, 48, 0, 0, 0)] M1 _
        refine cx_59_48 ?_
        show xa_C (xl_I _) A h0 _ 54 [(2, 12, 0, 0, 0), (0, 0, (-2147483648), 2147483647, x1)] (xa_up M1 48 1 0) _
        refine cx_54_12 (show 0 ≤ x1 ∧ x1 < 10 by omega) ?_
        refine And.intro ?_ ?_
        · intro (c2 : (M1 13 x1) ≤ 0)
          show xa_C (xl_I _) A h0 _ 60 [(2, 48, 0, 0, 0), (1, 0, 0, 0, 0)] (xa_up M1 48 1 0) _
          refine cx_60a (by show (0 : Int) ≤ 0; omega) ?_
          intro M101 (i3 : ∀ (q : Nat) (j : Int), ¬ (q = 48 ∨ q = 49) → M101 q j = (xa_up M1 48 1 0) q j) (i4 : (0 : Int) ≤ M101 48 1)
          show post (some (0, 0, (-2147483648), 2147483647, x)) M101
          exact k _ _ _ _ (tw_gf hB hG hs (by omega) hb (by decide)) (fun q j h1 h2 => (i3 q j h2).trans ((xa_up_ne (by omega)).trans (hG q j h1)))
        · intro (c2 : 0 < (M1 13 x1))
          show xa_C (xl_I _) A h0 _ 60 [(2, 48, 0, 0, 0), (1, 0, (-2147483648), 2147483647, x)] (xa_up M1 48 1 0) _
          refine cx_60a (by show (0 : Int) ≤ 0; omega) ?_
          intro M102 (i5 : ∀ (q : Nat) (j : Int), ¬ (q = 48 ∨ q = 49) → M102 q j = (xa_up M1 48 1 0) q j) (i6 : (0 : Int) ≤ M102 48 1)
          show post (some (0, 0, (-2147483648), 2147483647, x)) M102
          exact k _ _ _ _ (tw_gf hB hG hs (by omega) hb (by decide)) (fun q j h1 h2 => (i5 q j h2).trans ((xa_up_ne (by omega)).trans (hG q j h1)))
      · intro (c1 : p < (M1 50 4))
        show xa_C (xl_I _) A h0 _ 54 [(2, 12, 0, 0, 0), (0, 0, (-2147483648), 2147483647, x1)] M1 _
        refine cx_54_12 (show 0 ≤ x1 ∧ x1 < 10 by omega) ?_
        show xa_C (xl_I _) A h0 _ 56 [(1, 0, (-9223372036854775808), 9223372036854775807, M1 13 x1)] M1 _
        refine ct_abs (lo := 0) (hi := 1000000000000000) (show -9223372036854775808 < (M1 13 x1) by omega) (fun a103 h104 => ⟨by omega, ?_⟩)
        show xa_C (xl_I _) A h0 _ 64 [(2, 50, 0, 0, 0), (0, 0, 0, 8, p)] M1 _
        refine cx_64_50 (show 0 ≤ p ∧ p < 8 by omega) ?_
        show xa_C (xl_I _) A h0 _ 51 [(2, 12, 0, 0, 0), (0, 0, (-2147483648), 2147483647, x1)] M1 _
        refine cx_51_12 (show 0 ≤ x1 ∧ x1 < 10 by omega) ?_
        show xa_C (xl_I _) A h0 _ 65 [(2, 50, 0, 0, 0), (0, 0, 0, 8, p)] M1 _
        refine cx_65_50 (show 0 ≤ p ∧ p < 8 by omega) ?_
        refine And.intro ?_ ?_
        · intro (c7 : ¬ (xa_w64 (a103 * (M1 52 p))) = (xa_w64 ((M1 14 x1) * (M1 51 p))))
          show Q 17 [(4, (0, 0, 1, 9, p + 1)), (3, (0, 0, (-2147483648), 2147483647, xa_ib 4 x 0)), (5, (1, 0, (-9223372036854775808), 9223372036854775807, xa_w64 (a103 * (M1 52 p)))), (1, (0, 0, (-2147483648), 2147483647, x1)), (0, (2, 0, 0, 0, 0))] [] M1
          refine hgo.2.1 17 _ [(4, (0, 0, 0, 8, p + 1)), (3, (0, 0, (-2147483648), 2147483647, xa_ib 4 x 0)), (1, (0, 0, (-2147483648), 2147483647, x1)), (0, (2, 0, 0, 0, 0))] _ _ (xa_subI rfl rfl (fun _ _ _ _ => by omega) (xa_subI rfl rfl (fun _ _ _ _ => by omega) (xa_subI rfl rfl (fun _ _ _ _ => by omega) (xa_subR rfl (xa_sub0))))) ?_
          have ea := h104
          exact ih (p + 1) (xa_ib 4 x 0) M1 (by omega) (by omega) hG hs (tw_bz p1.1 (fun h => c7 (by rw [ea]; exact h)) hb) (by omega)
        · intro (c7 : (xa_w64 (a103 * (M1 52 p))) = (xa_w64 ((M1 14 x1) * (M1 51 p))))
          show Q 17 [(4, (0, 0, 1, 9, p + 1)), (3, (0, 0, (-2147483648), 2147483647, xa_ib 4 x (xa_ib 6 1 p))), (5, (1, 0, (-9223372036854775808), 9223372036854775807, xa_w64 (a103 * (M1 52 p)))), (1, (0, 0, (-2147483648), 2147483647, x1)), (0, (2, 0, 0, 0, 0))] [] M1
          refine hgo.2.1 17 _ [(4, (0, 0, 0, 8, p + 1)), (3, (0, 0, (-2147483648), 2147483647, xa_ib 4 x (xa_ib 6 1 p))), (1, (0, 0, (-2147483648), 2147483647, x1)), (0, (2, 0, 0, 0, 0))] _ _ (xa_subI rfl rfl (fun _ _ _ _ => by omega) (xa_subI rfl rfl (fun _ _ _ _ => by omega) (xa_subI rfl rfl (fun _ _ _ _ => by omega) (xa_subR rfl (xa_sub0))))) ?_
          have ea := h104
          exact ih (p + 1) (xa_ib 4 x (xa_ib 6 1 p)) M1 (by omega) (by omega) hG hs (tw_b1 p1.1 (by rw [ea] at c7; exact c7) hb) (by omega)
  refine hgo.1 15 [17] 0 _ _ _ ?_
  show xa_C (xl_I _) A h0 _ 46 [(2, 0, 0, 0, 0), (0, 0, (-2147483648), 2147483647, x1)] M _
  refine cx_46t hM0 hC0 ?_
  intro v105 M106 (i1 : tu_S N0 x1 v105 M106) (i2 : tu_G M M106)
  refine And.intro ?_ ?_
  · intro (c3 : v105 = 0)
    rw [c3] at i1
    have ax := (tu_S0 i1).1
    show Q 17 [(4, (0, 0, 0, 0, 0)), (3, (0, 0, 0, 0, 0)), (2, (0, 0, (-5), 0, v105)), (0, (2, 0, 0, 0, 0)), (1, (0, 0, (-2147483648), 2147483647, x1))] [] M106
    refine hgo.2.1 17 _ [(4, (0, 0, 0, 8, 0)), (3, (0, 0, (-2147483648), 2147483647, 0)), (1, (0, 0, (-2147483648), 2147483647, x1)), (0, (2, 0, 0, 0, 0))] _ _ (xa_subI rfl rfl (fun _ _ _ _ => by omega) (xa_subI rfl rfl (fun _ _ _ _ => by omega) (xa_subI rfl rfl (fun _ _ _ _ => by omega) (xa_subR rfl (xa_sub0))))) ?_
    exact loop 9 0 0 M106 (by omega) (by omega) i2 i1 rfl (by omega)
  · intro (c3 : ¬ v105 = 0)
    show post (some (0, 0, (-5), 0, v105)) M106
    exact k _ _ _ _ (tw_A_of i1 (fun e => absurd e (by omega))) (fun q j h1 h2 => i2 q j h1)
theorem cx_23_57 {b : Bool} {A : Nat → Nat} {h0 : g_H} {d : Nat} {M : xa_M} {post : Option xa_V → xa_M → Prop} {l1 u1 : Int} {i : Int} (h1 : 0 ≤ i ∧ i < 8) (k1 : post (some (0, 0, (-2147483648), 2147483647, M 57 i)) M) : xa_C (xl_I b) A h0 (d + 1) 23 [(2, 57, 0, 0, 0), (0, 0, l1, u1, i)] M post := by
  refine xa_C_arg [(2, 57, 0, 0, 0), (0, 0, (-2147483648), 2147483647, i)] (xa_svR (xa_svI (fun _ _ _ _ => by omega) xa_sv0)) ?_
  refine xa_meth (Q0 := (2, 1, false, 0, 0, 11)) (by decide +kernel) ⟨rfl, rfl⟩ (full := s_c_23) rfl rfl ?_
  intro hM hv Q hgo
  refine hgo.1 15 [] 0 _ _ _ ?_
  refine And.intro ?_ ?_
  · intro (c1 : i < 0)
    show post (some (0, 0, 0, 0, 0)) M
    exact absurd h1 (by omega)
  · intro (c1 : 0 ≤ i)
    refine And.intro ?_ ?_
    · intro (c2 : 8 ≤ i)
      show post (some (0, 0, 0, 0, 0)) M
      exact absurd h1 (by omega)
    · intro (c2 : i < 8)
      refine And.intro (show 0 ≤ i ∧ i < 8 by omega) ?_
      show post (some (0, 0, (-2147483648), 2147483647, M 57 i)) M
      exact k1
theorem cx_64_55 {b : Bool} {A : Nat → Nat} {h0 : g_H} {d : Nat} {M : xa_M} {post : Option xa_V → xa_M → Prop} {l1 u1 : Int} {x1 : Int} (h1 : 0 ≤ x1 ∧ x1 < 8) (k1 : post (some (1, 0, (-2147483648), 2147483647, M 57 x1)) M) : xa_C (xl_I b) A h0 (d + 2) 64 [(2, 55, 0, 0, 0), (0, 0, l1, u1, x1)] M post := by
  refine xa_C_arg [(2, 55, 0, 0, 0), (0, 0, (-2147483648), 2147483647, x1)] (xa_svR (xa_svI (fun _ _ _ _ => by omega) (xa_sv0))) ?_
  refine xa_meth (Q0 := (2, 3, false, 0, 0, 0)) (by decide +kernel) ⟨rfl, rfl⟩ (full := s_c_64) rfl rfl ?_
  intro hM hv Q hgo
  refine hgo.1 10 [] 0 _ _ _ ?_
  show xa_C (xl_I _) A h0 _ 23 [(2, 57, 0, 0, 0), (0, 0, (-2147483648), 2147483647, x1)] M _
  refine cx_23_57 (show 0 ≤ x1 ∧ x1 < 8 by omega) ?_
  show post (some (1, 0, (-2147483648), 2147483647, M 57 x1)) M
  exact k1
theorem cx_23_56 {b : Bool} {A : Nat → Nat} {h0 : g_H} {d : Nat} {M : xa_M} {post : Option xa_V → xa_M → Prop} {l1 u1 : Int} {i : Int} (h1 : 0 ≤ i ∧ i < 8) (k1 : post (some (0, 0, (-2147483648), 2147483647, M 56 i)) M) : xa_C (xl_I b) A h0 (d + 1) 23 [(2, 56, 0, 0, 0), (0, 0, l1, u1, i)] M post := by
  refine xa_C_arg [(2, 56, 0, 0, 0), (0, 0, (-2147483648), 2147483647, i)] (xa_svR (xa_svI (fun _ _ _ _ => by omega) xa_sv0)) ?_
  refine xa_meth (Q0 := (2, 1, false, 0, 0, 11)) (by decide +kernel) ⟨rfl, rfl⟩ (full := s_c_23) rfl rfl ?_
  intro hM hv Q hgo
  refine hgo.1 15 [] 0 _ _ _ ?_
  refine And.intro ?_ ?_
  · intro (c1 : i < 0)
    show post (some (0, 0, 0, 0, 0)) M
    exact absurd h1 (by omega)
  · intro (c1 : 0 ≤ i)
    refine And.intro ?_ ?_
    · intro (c2 : 8 ≤ i)
      show post (some (0, 0, 0, 0, 0)) M
      exact absurd h1 (by omega)
    · intro (c2 : i < 8)
      refine And.intro (show 0 ≤ i ∧ i < 8 by omega) ?_
      show post (some (0, 0, (-2147483648), 2147483647, M 56 i)) M
      exact k1
theorem cx_65_55 {b : Bool} {A : Nat → Nat} {h0 : g_H} {d : Nat} {M : xa_M} {post : Option xa_V → xa_M → Prop} {l1 u1 : Int} {x1 : Int} (h1 : 0 ≤ x1 ∧ x1 < 8) (k1 : post (some (1, 0, (-2147483648), 2147483647, M 56 x1)) M) : xa_C (xl_I b) A h0 (d + 2) 65 [(2, 55, 0, 0, 0), (0, 0, l1, u1, x1)] M post := by
  refine xa_C_arg [(2, 55, 0, 0, 0), (0, 0, (-2147483648), 2147483647, x1)] (xa_svR (xa_svI (fun _ _ _ _ => by omega) (xa_sv0))) ?_
  refine xa_meth (Q0 := (2, 3, false, 0, 0, 0)) (by decide +kernel) ⟨rfl, rfl⟩ (full := s_c_65) rfl rfl ?_
  intro hM hv Q hgo
  refine hgo.1 10 [] 0 _ _ _ ?_
  show xa_C (xl_I _) A h0 _ 23 [(2, 56, 0, 0, 0), (0, 0, (-2147483648), 2147483647, x1)] M _
  refine cx_23_56 (show 0 ≤ x1 ∧ x1 < 8 by omega) ?_
  show post (some (1, 0, (-2147483648), 2147483647, M 56 x1)) M
  exact k1
theorem cx_63v_55 {b : Bool} {A : Nat → Nat} {h0 : g_H} {d : Nat} {M : xa_M} {post : Option xa_V → xa_M → Prop} {l1 u1 x1 : Int} {N0 : xa_M} (hM0 : tu_M N0) (hC0 : tu_C M N0) (hB : tk_B 55 M N0) (k : ∀ (lo hi v : Int) (M1 : xa_M), tw_A N0 x1 v (tw_gC N0 x1) → (∀ (q : Nat) (j : Int), ¬ (12 ≤ q ∧ q ≤ 14) → ¬ (q = 48 ∨ q = 49) → M1 q j = M q j) → post (some (0, 0, lo, hi, v)) M1) : xa_C (xl_I true) A h0 (d + 8) 63 [(2, 0, 0, 0, 0), (0, 0, l1, u1, x1)] M post := by
  refine xa_C_arg [(2, 0, 0, 0, 0), (0, 0, (-2147483648), 2147483647, x1)] (xa_svR (xa_svI (fun _ _ _ _ => by omega) (xa_sv0))) ?_
  refine xa_meth (Q0 := (7, 1, false, 0, 0, 11)) (by decide +kernel) ⟨rfl, rfl⟩ (full := s_c_63) rfl rfl ?_
  intro hM hv Q hgo
  have n11 := hB.2.1
  have loop : ∀ (f : Nat) (p x : Int) (M1 : xa_M), 0 ≤ p ∧ p ≤ 8 → p ≤ N0 60 11 → tu_G M M1 → tu_S N0 x1 0 M1 → x = wd_b (fun p => xa_w64 (((M1 13 x1).natAbs : Int) * M1 57 p) = xa_w64 (M1 14 x1 * M1 56 p)) p.toNat → 8 - p < (f : Int) → Q 17 [(4, (0, 0, 0, 8, p)), (3, (0, 0, (-2147483648), 2147483647, x)), (1, (0, 0, (-2147483648), 2147483647, x1)), (0, (2, 0, 0, 0, 0))] [] M1 := by
    intro f
    induction f with
    | zero => intro p x M1 p1 hle hG hs hb hms; clear hb; omega
    | succ f ih =>
      intro p x M1 p1 hle hG hs hb hms
      have e4 : M1 55 4 = N0 60 11 := (hG 55 4 (by omega)).trans hB.1
      obtain ⟨ax, N9, t1, t2, t3, t4, t5, t6, t7⟩ := tu_S0 hs
      refine hgo.1 41 [17] 17 _ _ _ ?_
      refine And.intro ?_ ?_
      · intro (c1 : (M1 55 4) ≤ p)
        show xa_C (xl_I _) A h0 _ 59 [(2, 48, 0, 0, 0)] M1 _
        refine cx_59_48 ?_
        show xa_C (xl_I _) A h0 _ 54 [(2, 12, 0, 0, 0), (0, 0, (-2147483648), 2147483647, x1)] (xa_up M1 48 1 0) _
        refine cx_54_12 (show 0 ≤ x1 ∧ x1 < 10 by omega) ?_
        refine And.intro ?_ ?_
        · intro (c2 : (M1 13 x1) ≤ 0)
          show xa_C (xl_I _) A h0 _ 60 [(2, 48, 0, 0, 0), (1, 0, 0, 0, 0)] (xa_up M1 48 1 0) _
          refine cx_60a (by show (0 : Int) ≤ 0; omega) ?_
          intro M101 (i3 : ∀ (q : Nat) (j : Int), ¬ (q = 48 ∨ q = 49) → M101 q j = (xa_up M1 48 1 0) q j) (i4 : (0 : Int) ≤ M101 48 1)
          show post (some (0, 0, (-2147483648), 2147483647, x)) M101
          exact k _ _ _ _ (tw_gf hB hG hs (by omega) hb (by decide)) (fun q j h1 h2 => (i3 q j h2).trans ((xa_up_ne (by omega)).trans (hG q j h1)))
        · intro (c2 : 0 < (M1 13 x1))
          show xa_C (xl_I _) A h0 _ 60 [(2, 48, 0, 0, 0), (1, 0, (-2147483648), 2147483647, x)] (xa_up M1 48 1 0) _
          refine cx_60a (by show (0 : Int) ≤ 0; omega) ?_
          intro M102 (i5 : ∀ (q : Nat) (j : Int), ¬ (q = 48 ∨ q = 49) → M102 q j = (xa_up M1 48 1 0) q j) (i6 : (0 : Int) ≤ M102 48 1)
          show post (some (0, 0, (-2147483648), 2147483647, x)) M102
          exact k _ _ _ _ (tw_gf hB hG hs (by omega) hb (by decide)) (fun q j h1 h2 => (i5 q j h2).trans ((xa_up_ne (by omega)).trans (hG q j h1)))
      · intro (c1 : p < (M1 55 4))
        show xa_C (xl_I _) A h0 _ 54 [(2, 12, 0, 0, 0), (0, 0, (-2147483648), 2147483647, x1)] M1 _
        refine cx_54_12 (show 0 ≤ x1 ∧ x1 < 10 by omega) ?_
        show xa_C (xl_I _) A h0 _ 56 [(1, 0, (-9223372036854775808), 9223372036854775807, M1 13 x1)] M1 _
        refine ct_abs (lo := 0) (hi := 1000000000000000) (show -9223372036854775808 < (M1 13 x1) by omega) (fun a103 h104 => ⟨by omega, ?_⟩)
        show xa_C (xl_I _) A h0 _ 64 [(2, 55, 0, 0, 0), (0, 0, 0, 8, p)] M1 _
        refine cx_64_55 (show 0 ≤ p ∧ p < 8 by omega) ?_
        show xa_C (xl_I _) A h0 _ 51 [(2, 12, 0, 0, 0), (0, 0, (-2147483648), 2147483647, x1)] M1 _
        refine cx_51_12 (show 0 ≤ x1 ∧ x1 < 10 by omega) ?_
        show xa_C (xl_I _) A h0 _ 65 [(2, 55, 0, 0, 0), (0, 0, 0, 8, p)] M1 _
        refine cx_65_55 (show 0 ≤ p ∧ p < 8 by omega) ?_
        refine And.intro ?_ ?_
        · intro (c7 : ¬ (xa_w64 (a103 * (M1 57 p))) = (xa_w64 ((M1 14 x1) * (M1 56 p))))
          show Q 17 [(4, (0, 0, 1, 9, p + 1)), (3, (0, 0, (-2147483648), 2147483647, xa_ib 4 x 0)), (5, (1, 0, (-9223372036854775808), 9223372036854775807, xa_w64 (a103 * (M1 57 p)))), (1, (0, 0, (-2147483648), 2147483647, x1)), (0, (2, 0, 0, 0, 0))] [] M1
          refine hgo.2.1 17 _ [(4, (0, 0, 0, 8, p + 1)), (3, (0, 0, (-2147483648), 2147483647, xa_ib 4 x 0)), (1, (0, 0, (-2147483648), 2147483647, x1)), (0, (2, 0, 0, 0, 0))] _ _ (xa_subI rfl rfl (fun _ _ _ _ => by omega) (xa_subI rfl rfl (fun _ _ _ _ => by omega) (xa_subI rfl rfl (fun _ _ _ _ => by omega) (xa_subR rfl (xa_sub0))))) ?_
          have ea := h104
          exact ih (p + 1) (xa_ib 4 x 0) M1 (by omega) (by omega) hG hs (tw_bz p1.1 (fun h => c7 (by rw [ea]; exact h)) hb) (by omega)
        · intro (c7 : (xa_w64 (a103 * (M1 57 p))) = (xa_w64 ((M1 14 x1) * (M1 56 p))))
          show Q 17 [(4, (0, 0, 1, 9, p + 1)), (3, (0, 0, (-2147483648), 2147483647, xa_ib 4 x (xa_ib 6 1 p))), (5, (1, 0, (-9223372036854775808), 9223372036854775807, xa_w64 (a103 * (M1 57 p)))), (1, (0, 0, (-2147483648), 2147483647, x1)), (0, (2, 0, 0, 0, 0))] [] M1
          refine hgo.2.1 17 _ [(4, (0, 0, 0, 8, p + 1)), (3, (0, 0, (-2147483648), 2147483647, xa_ib 4 x (xa_ib 6 1 p))), (1, (0, 0, (-2147483648), 2147483647, x1)), (0, (2, 0, 0, 0, 0))] _ _ (xa_subI rfl rfl (fun _ _ _ _ => by omega) (xa_subI rfl rfl (fun _ _ _ _ => by omega) (xa_subI rfl rfl (fun _ _ _ _ => by omega) (xa_subR rfl (xa_sub0))))) ?_
          have ea := h104
          exact ih (p + 1) (xa_ib 4 x (xa_ib 6 1 p)) M1 (by omega) (by omega) hG hs (tw_b1 p1.1 (by rw [ea] at c7; exact c7) hb) (by omega)
  refine hgo.1 15 [17] 0 _ _ _ ?_
  show xa_C (xl_I _) A h0 _ 46 [(2, 0, 0, 0, 0), (0, 0, (-2147483648), 2147483647, x1)] M _
  refine cx_46t hM0 hC0 ?_
  intro v105 M106 (i1 : tu_S N0 x1 v105 M106) (i2 : tu_G M M106)
  refine And.intro ?_ ?_
  · intro (c3 : v105 = 0)
    rw [c3] at i1
    have ax := (tu_S0 i1).1
    show Q 17 [(4, (0, 0, 0, 0, 0)), (3, (0, 0, 0, 0, 0)), (2, (0, 0, (-5), 0, v105)), (0, (2, 0, 0, 0, 0)), (1, (0, 0, (-2147483648), 2147483647, x1))] [] M106
    refine hgo.2.1 17 _ [(4, (0, 0, 0, 8, 0)), (3, (0, 0, (-2147483648), 2147483647, 0)), (1, (0, 0, (-2147483648), 2147483647, x1)), (0, (2, 0, 0, 0, 0))] _ _ (xa_subI rfl rfl (fun _ _ _ _ => by omega) (xa_subI rfl rfl (fun _ _ _ _ => by omega) (xa_subI rfl rfl (fun _ _ _ _ => by omega) (xa_subR rfl (xa_sub0))))) ?_
    exact loop 9 0 0 M106 (by omega) (by omega) i2 i1 rfl (by omega)
  · intro (c3 : ¬ v105 = 0)
    show post (some (0, 0, (-5), 0, v105)) M106
    exact k _ _ _ _ (tw_A_of i1 (fun e => absurd e (by omega))) (fun q j h1 h2 => i2 q j h1)

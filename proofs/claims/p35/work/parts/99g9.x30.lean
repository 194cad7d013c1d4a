-- turns: the gcd's steps, and what class and reference hold of turns
set_option maxRecDepth 20000
def gf : Nat → Int
  | 0 => 0
  | 1 => 1
  | n + 2 => gf (n + 1) + gf n
theorem gf2 (n : Nat) : gf (n + 2) = gf (n + 1) + gf n := rfl
theorem gf_pos (n : Nat) : 0 ≤ gf n ∧ 1 ≤ gf (n + 1) := by
  induction n with
  | zero => exact ⟨Int.le_refl 0, Int.le_refl 1⟩
  | succ n ih =>
    have e := gf2 n
    refine ⟨by omega, ?_⟩
    rw [show n + 1 + 1 = n + 2 from rfl, e]
    omega
/-- the steps of the gcd are so many at most -/
def gst : Nat → Int → Int → Prop
  | 0, _, b => b = 0
  | n + 1, a, b => b = 0 ∨ gst n b (a % b)
theorem gst_s (n : Nat) : ∀ a b : Int, gst n a b → gst (n + 1) a b := by
  induction n with
  | zero => intro a b h; exact Or.inl h
  | succ n ih =>
    intro a b h
    rcases h with h | h
    · exact Or.inl h
    · exact Or.inr (ih _ _ h)
theorem gst_m {n m : Nat} (h : n ≤ m) {a b : Int} (g : gst n a b) : gst m a b := by
  obtain ⟨d, rfl⟩ := Nat.exists_eq_add_of_le h
  induction d with
  | zero => exact g
  | succ d ih => exact gst_s _ _ _ (ih (by omega))
theorem gst_f2 (n : Nat) : (∀ a b : Int, 0 ≤ a → 0 ≤ b → b < gf (n + 1) → gst n a b) ∧ ∀ a b : Int, 0 ≤ a → 0 ≤ b → b < gf (n + 2) → gst (n + 1) a b := by
  induction n with
  | zero =>
    refine ⟨fun a b a0 b0 h => ?_, fun a b a0 b0 h => Or.inl ?_⟩
    · have h : b < 1 := h
      show b = 0
      omega
    · have h : b < 1 := h
      omega
  | succ n ih =>
    refine ⟨ih.2, fun a b a0 b0 h => ?_⟩
    by_cases c : b = 0
    · exact Or.inl c
    · refine Or.inr ?_
      have r0 := Int.emod_nonneg a c
      have r1 := Int.emod_lt_of_pos a (show 0 < b by omega)
      by_cases d : a % b < gf (n + 2)
      · exact ih.2 b (a % b) b0 r0 d
      · have p := gf_pos (n + 1)
        have e := gf2 (n + 1)
        have e2 := gf2 n
        have p2 := gf_pos n
        have p3 : 1 ≤ gf (n + 2) := p.2
        refine Or.inr (ih.1 (a % b) (b % (a % b)) r0 (Int.emod_nonneg b (by omega)) ?_)
        have q := Int.mul_ediv_add_emod b (a % b)
        have q2 : 1 ≤ b / (a % b) := (Int.le_ediv_iff_mul_le (by omega)).mpr (by omega)
        have q3 : (a % b) * 1 ≤ (a % b) * (b / (a % b)) := Int.mul_le_mul_of_nonneg_left q2 r0
        have h : b < gf (n + 1 + 2) := h
        rw [e] at h
        have h : b < gf (n + 2) + gf (n + 1) := h
        omega
theorem gf_93 : gf 93 = 12200160415121876738 := by
  have h0 : gf 0 = 0 := rfl
  have h1 : gf 1 = 1 := rfl
  have h2 : gf 2 = 1 := by rw [gf2 0, h1, h0]; rfl
  have h3 : gf 3 = 2 := by rw [gf2 1, h2, h1]; rfl
  have h4 : gf 4 = 3 := by rw [gf2 2, h3, h2]; rfl
  have h5 : gf 5 = 5 := by rw [gf2 3, h4, h3]; rfl
  have h6 : gf 6 = 8 := by rw [gf2 4, h5, h4]; rfl
  have h7 : gf 7 = 13 := by rw [gf2 5, h6, h5]; rfl
  have h8 : gf 8 = 21 := by rw [gf2 6, h7, h6]; rfl
  have h9 : gf 9 = 34 := by rw [gf2 7, h8, h7]; rfl
  have h10 : gf 10 = 55 := by rw [gf2 8, h9, h8]; rfl
  have h11 : gf 11 = 89 := by rw [gf2 9, h10, h9]; rfl
  have h12 : gf 12 = 144 := by rw [gf2 10, h11, h10]; rfl
  have h13 : gf 13 = 233 := by rw [gf2 11, h12, h11]; rfl
  have h14 : gf 14 = 377 := by rw [gf2 12, h13, h12]; rfl
  have h15 : gf 15 = 610 := by rw [gf2 13, h14, h13]; rfl
  have h16 : gf 16 = 987 := by rw [gf2 14, h15, h14]; rfl
  have h17 : gf 17 = 1597 := by rw [gf2 15, h16, h15]; rfl
  have h18 : gf 18 = 2584 := by rw [gf2 16, h17, h16]; rfl
  have h19 : gf 19 = 4181 := by rw [gf2 17, h18, h17]; rfl
  have h20 : gf 20 = 6765 := by rw [gf2 18, h19, h18]; rfl
  have h21 : gf 21 = 10946 := by rw [gf2 19, h20, h19]; rfl
  have h22 : gf 22 = 17711 := by rw [gf2 20, h21, h20]; rfl
  have h23 : gf 23 = 28657 := by rw [gf2 21, h22, h21]; rfl
  have h24 : gf 24 = 46368 := by rw [gf2 22, h23, h22]; rfl
  have h25 : gf 25 = 75025 := by rw [gf2 23, h24, h23]; rfl
  have h26 : gf 26 = 121393 := by rw [gf2 24, h25, h24]; rfl
  have h27 : gf 27 = 196418 := by rw [gf2 25, h26, h25]; rfl
  have h28 : gf 28 = 317811 := by rw [gf2 26, h27, h26]; rfl
  have h29 : gf 29 = 514229 := by rw [gf2 27, h28, h27]; rfl
  have h30 : gf 30 = 832040 := by rw [gf2 28, h29, h28]; rfl
  have h31 : gf 31 = 1346269 := by rw [gf2 29, h30, h29]; rfl
  have h32 : gf 32 = 2178309 := by rw [gf2 30, h31, h30]; rfl
  have h33 : gf 33 = 3524578 := by rw [gf2 31, h32, h31]; rfl
  have h34 : gf 34 = 5702887 := by rw [gf2 32, h33, h32]; rfl
  have h35 : gf 35 = 9227465 := by rw [gf2 33, h34, h33]; rfl
  have h36 : gf 36 = 14930352 := by rw [gf2 34, h35, h34]; rfl
  have h37 : gf 37 = 24157817 := by rw [gf2 35, h36, h35]; rfl
  have h38 : gf 38 = 39088169 := by rw [gf2 36, h37, h36]; rfl
  have h39 : gf 39 = 63245986 := by rw [gf2 37, h38, h37]; rfl
  have h40 : gf 40 = 102334155 := by rw [gf2 38, h39, h38]; rfl
  have h41 : gf 41 = 165580141 := by rw [gf2 39, h40, h39]; rfl
  have h42 : gf 42 = 267914296 := by rw [gf2 40, h41, h40]; rfl
  have h43 : gf 43 = 433494437 := by rw [gf2 41, h42, h41]; rfl
  have h44 : gf 44 = 701408733 := by rw [gf2 42, h43, h42]; rfl
  have h45 : gf 45 = 1134903170 := by rw [gf2 43, h44, h43]; rfl
  have h46 : gf 46 = 1836311903 := by rw [gf2 44, h45, h44]; rfl
  have h47 : gf 47 = 2971215073 := by rw [gf2 45, h46, h45]; rfl
  have h48 : gf 48 = 4807526976 := by rw [gf2 46, h47, h46]; rfl
  have h49 : gf 49 = 7778742049 := by rw [gf2 47, h48, h47]; rfl
  have h50 : gf 50 = 12586269025 := by rw [gf2 48, h49, h48]; rfl
  have h51 : gf 51 = 20365011074 := by rw [gf2 49, h50, h49]; rfl
  have h52 : gf 52 = 32951280099 := by rw [gf2 50, h51, h50]; rfl
  have h53 : gf 53 = 53316291173 := by rw [gf2 51, h52, h51]; rfl
  have h54 : gf 54 = 86267571272 := by rw [gf2 52, h53, h52]; rfl
  have h55 : gf 55 = 139583862445 := by rw [gf2 53, h54, h53]; rfl
  have h56 : gf 56 = 225851433717 := by rw [gf2 54, h55, h54]; rfl
  have h57 : gf 57 = 365435296162 := by rw [gf2 55, h56, h55]; rfl
  have h58 : gf 58 = 591286729879 := by rw [gf2 56, h57, h56]; rfl
  have h59 : gf 59 = 956722026041 := by rw [gf2 57, h58, h57]; rfl
  have h60 : gf 60 = 1548008755920 := by rw [gf2 58, h59, h58]; rfl
  have h61 : gf 61 = 2504730781961 := by rw [gf2 59, h60, h59]; rfl
  have h62 : gf 62 = 4052739537881 := by rw [gf2 60, h61, h60]; rfl
  have h63 : gf 63 = 6557470319842 := by rw [gf2 61, h62, h61]; rfl
  have h64 : gf 64 = 10610209857723 := by rw [gf2 62, h63, h62]; rfl
  have h65 : gf 65 = 17167680177565 := by rw [gf2 63, h64, h63]; rfl
  have h66 : gf 66 = 27777890035288 := by rw [gf2 64, h65, h64]; rfl
  have h67 : gf 67 = 44945570212853 := by rw [gf2 65, h66, h65]; rfl
  have h68 : gf 68 = 72723460248141 := by rw [gf2 66, h67, h66]; rfl
  have h69 : gf 69 = 117669030460994 := by rw [gf2 67, h68, h67]; rfl
  have h70 : gf 70 = 190392490709135 := by rw [gf2 68, h69, h68]; rfl
  have h71 : gf 71 = 308061521170129 := by rw [gf2 69, h70, h69]; rfl
  have h72 : gf 72 = 498454011879264 := by rw [gf2 70, h71, h70]; rfl
  have h73 : gf 73 = 806515533049393 := by rw [gf2 71, h72, h71]; rfl
  have h74 : gf 74 = 1304969544928657 := by rw [gf2 72, h73, h72]; rfl
  have h75 : gf 75 = 2111485077978050 := by rw [gf2 73, h74, h73]; rfl
  have h76 : gf 76 = 3416454622906707 := by rw [gf2 74, h75, h74]; rfl
  have h77 : gf 77 = 5527939700884757 := by rw [gf2 75, h76, h75]; rfl
  have h78 : gf 78 = 8944394323791464 := by rw [gf2 76, h77, h76]; rfl
  have h79 : gf 79 = 14472334024676221 := by rw [gf2 77, h78, h77]; rfl
  have h80 : gf 80 = 23416728348467685 := by rw [gf2 78, h79, h78]; rfl
  have h81 : gf 81 = 37889062373143906 := by rw [gf2 79, h80, h79]; rfl
  have h82 : gf 82 = 61305790721611591 := by rw [gf2 80, h81, h80]; rfl
  have h83 : gf 83 = 99194853094755497 := by rw [gf2 81, h82, h81]; rfl
  have h84 : gf 84 = 160500643816367088 := by rw [gf2 82, h83, h82]; rfl
  have h85 : gf 85 = 259695496911122585 := by rw [gf2 83, h84, h83]; rfl
  have h86 : gf 86 = 420196140727489673 := by rw [gf2 84, h85, h84]; rfl
  have h87 : gf 87 = 679891637638612258 := by rw [gf2 85, h86, h85]; rfl
  have h88 : gf 88 = 1100087778366101931 := by rw [gf2 86, h87, h86]; rfl
  have h89 : gf 89 = 1779979416004714189 := by rw [gf2 87, h88, h87]; rfl
  have h90 : gf 90 = 2880067194370816120 := by rw [gf2 88, h89, h88]; rfl
  have h91 : gf 91 = 4660046610375530309 := by rw [gf2 89, h90, h89]; rfl
  have h92 : gf 92 = 7540113804746346429 := by rw [gf2 90, h91, h90]; rfl
  have h93 : gf 93 = 12200160415121876738 := by rw [gf2 91, h92, h91]; rfl
  exact h93
theorem gst_L {a b : Int} (a0 : 0 ≤ a) (b0 : 0 ≤ b) (b1 : b ≤ 9223372036854775807) : gst 100 a b := by
  refine gst_m (n := 92) (by decide) ((gst_f2 92).1 a b a0 b0 ?_)
  rw [gf_93]
  omega
/-- the class's turns are those of N -/
def tu_R (C N : xa_M) : Prop := ∀ a, 0 ≤ a → a < 10 → (N 77 a = 0 ∧ C 14 a = 0) ∨ (N 77 a = 1 ∧ (C 13 a = N 75 a ∧ C 14 a = N 76 a) ∧ (-1000000000000000 ≤ N 75 a ∧ N 75 a ≤ 1000000000000000) ∧ (1 ≤ N 76 a ∧ N 76 a ≤ 1000000000000000) ∧ Int.gcd (N 75 a) (N 76 a) = 1)
/-- meshes and teeth (N0: the reference's at the call) -/
def tu_M (N0 : xa_M) : Prop := (0 ≤ N0 60 6 ∧ N0 60 6 ≤ 16) ∧ ∀ m, 0 ≤ m → m < N0 60 6 → (0 ≤ N0 66 m ∧ N0 66 m < 14) ∧ (0 ≤ N0 67 m ∧ N0 67 m < 14) ∧ (0 ≤ N0 64 (N0 66 m) ∧ N0 64 (N0 66 m) < 10) ∧ (0 ≤ N0 64 (N0 67 m) ∧ N0 64 (N0 67 m) < 10) ∧ (10 ≤ N0 63 (N0 66 m) ∧ N0 63 (N0 66 m) ≤ 400) ∧ (10 ≤ N0 63 (N0 67 m) ∧ N0 63 (N0 67 m) ≤ 400)
theorem tu_M_of {M : xa_M} (hM : xa_Mok xm_I M) (hI : xm_Inv M) : tu_M M := by
  refine ⟨xm_f6 hM, fun m m0 m1 => ?_⟩
  have h := xm_msh hM hI m0 m1
  have t1 := xm_t63 hM (M 66 m) h.1.1 (by omega)
  have t2 := xm_t63 hM (M 67 m) h.2.1.1 (by omega)
  omega
/-- the class's core is N0's -/
def tu_C (C N0 : xa_M) : Prop := C 1 10 = N0 60 6 ∧ (∀ m, 0 ≤ m → m < 16 → C 7 m = N0 66 m ∧ C 8 m = N0 67 m) ∧ ∀ w, 0 ≤ w → w < 14 → C 5 w = N0 64 w ∧ C 4 w = N0 63 w
/-- what turns of the reference change -/
def tu_F (N0 N : xa_M) : Prop := ∀ (q : Nat) (j : Int), ¬ (75 ≤ q ∧ q ≤ 77) → ¬ (q = 60 ∧ (j = 25 ∨ j = 26)) → N q j = N0 q j
/-- of the class -/
def tu_G (C0 C : xa_M) : Prop := ∀ (q : Nat) (j : Int), ¬ (12 ≤ q ∧ q ≤ 14) → C q j = C0 q j
/-- a mesh, told on both sides -/
theorem tu_m {C C0 N N0 : xa_M} {m : Int} (hM : tu_M N0) (hC : tu_C C0 N0) (hG : tu_G C0 C) (hF : tu_F N0 N) (m0 : 0 ≤ m) (m1 : m < N0 60 6) : (C 1 10 = N 60 6 ∧ N 60 6 = N0 60 6) ∧ (C 7 m = N 66 m ∧ C 8 m = N 67 m) ∧ (C 5 (C 7 m) = N 64 (N 66 m) ∧ C 4 (C 7 m) = N 63 (N 66 m) ∧ C 5 (C 8 m) = N 64 (N 67 m) ∧ C 4 (C 8 m) = N 63 (N 67 m)) ∧ (0 ≤ C 7 m ∧ C 7 m < 14) ∧ (0 ≤ C 8 m ∧ C 8 m < 14) ∧ (0 ≤ C 5 (C 7 m) ∧ C 5 (C 7 m) < 10) ∧ (0 ≤ C 5 (C 8 m) ∧ C 5 (C 8 m) < 10) ∧ (10 ≤ C 4 (C 7 m) ∧ C 4 (C 7 m) ≤ 400) ∧ (10 ≤ C 4 (C 8 m) ∧ C 4 (C 8 m) ≤ 400) := by
  obtain ⟨hn, hm⟩ := hM
  obtain ⟨c1, c2, c3⟩ := hC
  obtain ⟨a1, a2, a3, a4, a5, a6⟩ := hm m m0 m1
  obtain ⟨d1, d2⟩ := c2 m m0 (by omega)
  obtain ⟨f1, f2⟩ := c3 (N0 66 m) a1.1 a1.2
  obtain ⟨f3, f4⟩ := c3 (N0 67 m) a2.1 a2.2
  have g := fun q j h => hG q j h
  have e66 := hF 66 m (by omega) (by omega)
  have e67 := hF 67 m (by omega) (by omega)
  have e6 := hF 60 6 (by omega) (by omega)
  have e7 : C 7 m = N0 66 m := (hG 7 m (by omega)).trans d1
  have e8 : C 8 m = N0 67 m := (hG 8 m (by omega)).trans d2
  have x1 : C 5 (N0 66 m) = N0 64 (N0 66 m) := (hG 5 _ (by omega)).trans f1
  have x2 : C 4 (N0 66 m) = N0 63 (N0 66 m) := (hG 4 _ (by omega)).trans f2
  have x3 : C 5 (N0 67 m) = N0 64 (N0 67 m) := (hG 5 _ (by omega)).trans f3
  have x4 : C 4 (N0 67 m) = N0 63 (N0 67 m) := (hG 4 _ (by omega)).trans f4
  have y1 := hF 64 (N0 66 m) (by omega) (by omega)
  have y2 := hF 63 (N0 66 m) (by omega) (by omega)
  have y3 := hF 64 (N0 67 m) (by omega) (by omega)
  have y4 := hF 63 (N0 67 m) (by omega) (by omega)
  have z1 := hG 1 10 (by omega)
  rw [e7, e8, e66, e67, x1, x2, x3, x4, y1, y2, y3, y4]
  omega
theorem tu_gp {x y : Int} (hy : 1 ≤ y) : 1 ≤ (Int.gcd x y : Int) := by
  have h : 0 < Int.gcd x y := Int.gcd_pos_of_ne_zero_right _ (by omega)
  omega
/-- a fraction in its least terms -/
theorem tu_low {x y g : Int} (hy : 1 ≤ y) (hg : g = (Int.gcd x y : Int)) : Int.gcd (x.tdiv g) (y / g) = 1 ∧ 1 ≤ y / g := by
  have g1 : 1 ≤ g := by
    rw [hg]
    exact tu_gp hy
  have d1 : g ∣ x := by
    rw [hg]
    exact Int.gcd_dvd_left ..
  have d2 : g ∣ y := by
    rw [hg]
    exact Int.gcd_dvd_right ..
  have e1 : x.tdiv g = x / g := by
    obtain ⟨k, rfl⟩ := d1
    rw [Int.mul_tdiv_cancel_left k (by omega), Int.mul_ediv_cancel_left k (by omega)]
  refine ⟨?_, (Int.le_ediv_iff_mul_le (by omega)).mpr (by rw [Int.one_mul]; exact Int.le_of_dvd (by omega) d2)⟩
  rw [e1, Int.gcd_ediv d1 d2, hg, Int.natAbs_natCast]
  exact Nat.div_self (by have := tu_gp (x := x) hy; omega)
theorem tu_sF {N0 N : xa_M} {t u l : Int} (h : tu_F N0 N) : tu_F N0 (xm_sto N t u l) := fun q j h1 h2 =>
  (xa_up_ne (by omega)).trans ((xa_up_ne (by omega)).trans ((xa_up_ne (by omega)).trans ((xa_up_ne (by omega)).trans ((xa_up_ne (by omega)).trans (h q j h1 h2)))))
theorem tu_sv {N : xa_M} {t u l a : Int} : (xm_sto N t u l) 77 a = (if a = t then 1 else N 77 a) ∧ (xm_sto N t u l) 76 a = (if a = t then l else N 76 a) ∧ (xm_sto N t u l) 75 a = (if a = t then u else N 75 a) := by
  unfold xm_sto
  by_cases e : a = t
  · subst e
    rw [if_pos rfl, if_pos rfl, if_pos rfl]
    exact ⟨xa_up_eq, (xa_up_ne (by omega)).trans xa_up_eq, (xa_up_ne (by omega)).trans ((xa_up_ne (by omega)).trans xa_up_eq)⟩
  · rw [if_neg e, if_neg e, if_neg e]
    exact ⟨(xa_up_ne (by omega)).trans ((xa_up_ne (by omega)).trans ((xa_up_ne (by omega)).trans ((xa_up_ne (by omega)).trans (xa_up_ne (by omega))))), (xa_up_ne (by omega)).trans ((xa_up_ne (by omega)).trans ((xa_up_ne (by omega)).trans ((xa_up_ne (by omega)).trans (xa_up_ne (by omega))))), (xa_up_ne (by omega)).trans ((xa_up_ne (by omega)).trans ((xa_up_ne (by omega)).trans ((xa_up_ne (by omega)).trans (xa_up_ne (by omega)))))⟩
theorem tu_Rs {C C1 N : xa_M} {t u l : Int} (h : tu_R C N) (hu : -1000000000000000 ≤ u ∧ u ≤ 1000000000000000) (hl : 1 ≤ l ∧ l ≤ 1000000000000000) (hg : Int.gcd u l = 1) (e : ∀ a, 0 ≤ a → a < 10 → C1 13 a = (if a = t then u else C 13 a) ∧ C1 14 a = (if a = t then l else C 14 a)) : tu_R C1 (xm_sto N t u l) := by
  intro a a0 a1
  obtain ⟨e1, e2⟩ := e a a0 a1
  obtain ⟨s1, s2, s3⟩ := tu_sv (N := N) (t := t) (u := u) (l := l) (a := a)
  rw [s1, s2, s3, e1, e2]
  by_cases c : a = t
  · rw [if_pos c, if_pos c, if_pos c, if_pos c, if_pos c]
    exact Or.inr ⟨rfl, ⟨rfl, rfl⟩, hu, hl, hg⟩
  · rw [if_neg c, if_neg c, if_neg c, if_neg c, if_neg c]
    exact h a a0 a1
theorem tu_RR {N : xa_M} {t u l : Int} (t0 : 0 ≤ t) (t1 : t < 10) (h : N 77 t = 0) : xm_R (xm_sto N t u l) = xm_R N + 1 := by
  have e : ∀ j, (xm_sto N t u l) 77 j = (xa_up N 77 t 1) 77 j := fun j => by
    rw [(tu_sv (N := N) (t := t) (u := u) (l := l) (a := j)).1]
    by_cases c : j = t
    · rw [if_pos c, c]
      exact xa_up_eq.symm
    · rw [if_neg c]
      exact (xa_up_ne (by omega)).symm
  rw [xm_R_c (M := xa_up N 77 t 1) e]
  exact xm_R_up t0 t1 h
theorem tu_R10 {C N : xa_M} (h : tu_R C N) : xm_R N ≤ 10 := by
  have b : ∀ a, 0 ≤ a → a < 10 → N 77 a ≤ 1 := fun a a0 a1 => by
    rcases h a a0 a1 with ⟨e, -⟩ | ⟨e, -⟩ <;> omega
  have b0 := b 0 (by omega) (by omega)
  have b1 := b 1 (by omega) (by omega)
  have b2 := b 2 (by omega) (by omega)
  have b3 := b 3 (by omega) (by omega)
  have b4 := b 4 (by omega) (by omega)
  have b5 := b 5 (by omega) (by omega)
  have b6 := b 6 (by omega) (by omega)
  have b7 := b 7 (by omega) (by omega)
  have b8 := b 8 (by omega) (by omega)
  have b9 := b 9 (by omega) (by omega)
  unfold xm_R
  omega
/-- reached, told on both sides -/
theorem tu_z {C N : xa_M} {a : Int} (h : tu_R C N) (a0 : 0 ≤ a) (a1 : a < 10) : (C 14 a = 0 ∧ N 77 a = 0) ∨ (¬ C 14 a = 0 ∧ N 77 a = 1) := by
  rcases h a a0 a1 with ⟨e1, e2⟩ | ⟨e1, ⟨-, e2⟩, -, e3, -⟩
  · exact Or.inl ⟨e2, e1⟩
  · exact Or.inr ⟨by omega, e1⟩
/-- a mesh reaches an axle -/
theorem tu_step {C C0 N N0 : xa_M} {m z dr dn g u l but : Int} {n : Nat} (hM : tu_M N0) (hC : tu_C C0 N0) (hG : tu_G C0 C) (hF : tu_F N0 N) (hR : tu_R C N) (m0 : 0 ≤ m) (m1 : m < N0 60 6) (hb : ¬ m = but) (hd : (dr = C 7 m ∧ dn = C 8 m) ∨ (dr = C 8 m ∧ dn = C 7 m)) (h1 : ¬ C 14 (C 5 dr) = 0) (h2 : C 14 (C 5 dn) = 0) (hg : g = (Int.gcd (-(C 13 (C 5 dr)) * C 4 dr) (C 14 (C 5 dr) * C 4 dn) : Int)) (hu : u = (-(C 13 (C 5 dr)) * C 4 dr).tdiv g) (hl : l = (C 14 (C 5 dr) * C 4 dn) / g) : ((1000000000000000 < (u.natAbs : Int) ∨ 1000000000000000 < l) → xm_fC but (n + 1) m z N = none) ∧ (¬ (1000000000000000 < (u.natAbs : Int) ∨ 1000000000000000 < l) → xm_fC but (n + 1) m z N = xm_fC but n (m + 1) 1 (xm_sto N (C 5 dn) u l) ∧ tu_F N0 (xm_sto N (C 5 dn) u l) ∧ xm_R (xm_sto N (C 5 dn) u l) = xm_R N + 1 ∧ ∀ C1 : xa_M, (∀ a, 0 ≤ a → a < 10 → C1 13 a = (if a = C 5 dn then u else C 13 a) ∧ C1 14 a = (if a = C 5 dn then l else C 14 a)) → tu_R C1 (xm_sto N (C 5 dn) u l)) := by
  obtain ⟨⟨k1, k2⟩, ⟨k3, k4⟩, ⟨k5, k6, k7, k8⟩, k9, k10, k11, k12, k13, k14⟩ := tu_m hM hC hG hF m0 m1
  have hm : m < N 60 6 := by omega
  have za := tu_z hR k11.1 k11.2
  have zb := tu_z hR k12.1 k12.2
  rw [k5] at za
  rw [k7] at zb
  -- from the driver's axle
  have key : ∀ a b c t : Int, a = C 5 dr → b = dr → c = dn → t = C 5 dn → ((N 77 (N 64 (N 66 m)) = 0 ∧ a = N 64 (N 67 m) ∧ b = N 67 m ∧ c = N 66 m ∧ t = N 64 (N 66 m)) ∨ (¬ N 77 (N 64 (N 66 m)) = 0 ∧ a = N 64 (N 66 m) ∧ b = N 66 m ∧ c = N 67 m ∧ t = N 64 (N 67 m))) → ¬ (m = but ∨ N 77 (N 64 (N 66 m)) = N 77 (N 64 (N 67 m))) → C 4 dr = N 63 b → C 4 dn = N 63 c → (0 ≤ a ∧ a < 10) → (0 ≤ t ∧ t < 10) → (10 ≤ C 4 dr ∧ C 4 dr ≤ 400) → (10 ≤ C 4 dn ∧ C 4 dn ≤ 400) → ((1000000000000000 < (u.natAbs : Int) ∨ 1000000000000000 < l) → xm_fC but (n + 1) m z N = none) ∧ (¬ (1000000000000000 < (u.natAbs : Int) ∨ 1000000000000000 < l) → xm_fC but (n + 1) m z N = xm_fC but n (m + 1) 1 (xm_sto N (C 5 dn) u l) ∧ tu_F N0 (xm_sto N (C 5 dn) u l) ∧ xm_R (xm_sto N (C 5 dn) u l) = xm_R N + 1 ∧ ∀ C1 : xa_M, (∀ a, 0 ≤ a → a < 10 → C1 13 a = (if a = C 5 dn then u else C 13 a) ∧ C1 14 a = (if a = C 5 dn then l else C 14 a)) → tu_R C1 (xm_sto N (C 5 dn) u l)) := by
    intro a b c t ea eb ec et hs hn t1 t2 ra rt f1 f2
    rw [← ea] at h1 hg hu hl
    rw [← et] at h2 ⊢
    have q1 : C 13 a = N 75 a ∧ C 14 a = N 76 a ∧ 1 ≤ N 76 a := by
      rcases hR a ra.1 ra.2 with ⟨-, e⟩ | ⟨-, e, -, e3, -⟩
      · exact absurd e h1
      · exact ⟨e.1, e.2, e3.1⟩
    have q2 : N 77 t = 0 := by
      rcases hR t rt.1 rt.2 with ⟨e, -⟩ | ⟨-, ⟨-, e⟩, -, e3, -⟩
      · exact e
      · omega
    obtain ⟨lo1, lo2⟩ := tu_low (x := -(C 13 a) * C 4 dr) (y := C 14 a * C 4 dn) (g := g) (by
      have := Int.mul_le_mul (show (1 : Int) ≤ C 14 a by omega) (show (1 : Int) ≤ C 4 dn by omega) (by decide) (by omega)
      omega) hg
    rw [← hu, ← hl] at lo1
    rw [← hl] at lo2
    rw [q1.1, q1.2.1, t1, t2] at hg
    rw [q1.1, t1] at hu
    rw [q1.2.1, t2] at hl
    have hled : xm_led N a b c u l := ⟨g, hg, hu, hl⟩
    refine ⟨fun h3 => xm_fC_no hm hn hs hled h3, fun h3 => ⟨xm_fC_go hm hn hs hled h3, tu_sF hF, tu_RR rt.1 rt.2 q2, fun C1 hC1 => tu_Rs hR (by omega) (by omega) lo1 hC1⟩⟩
  rcases hd with ⟨d1, d2⟩ | ⟨d1, d2⟩
  · rw [d1, k5] at h1
    rw [d2, k7] at h2
    have na : N 77 (N 64 (N 66 m)) = 1 := by omega
    have nb : N 77 (N 64 (N 67 m)) = 0 := by omega
    exact key (N 64 (N 66 m)) (N 66 m) (N 67 m) (N 64 (N 67 m)) (by rw [d1, k5]) (by rw [d1, k3]) (by rw [d2, k4]) (by rw [d2, k7]) (Or.inr ⟨by omega, rfl, rfl, rfl, rfl⟩) (by omega) (by rw [d1, k6]) (by rw [d2, k8]) (by rw [← k5]; exact k11) (by rw [← k7]; exact k12) (by rw [d1]; exact k13) (by rw [d2]; exact k14)
  · rw [d1, k7] at h1
    rw [d2, k5] at h2
    have na : N 77 (N 64 (N 66 m)) = 0 := by omega
    have nb : N 77 (N 64 (N 67 m)) = 1 := by omega
    exact key (N 64 (N 67 m)) (N 67 m) (N 66 m) (N 64 (N 66 m)) (by rw [d1, k7]) (by rw [d1, k4]) (by rw [d2, k3]) (by rw [d2, k5]) (Or.inl ⟨na, rfl, rfl, rfl, rfl⟩) (by omega) (by rw [d1, k8]) (by rw [d2, k6]) (by rw [← k7]; exact k12) (by rw [← k5]; exact k11) (by rw [d1]; exact k14) (by rw [d2]; exact k13)
/-- a mesh that reaches none -/
theorem tu_skip {C C0 N N0 : xa_M} {m z but : Int} {n : Nat} (hM : tu_M N0) (hC : tu_C C0 N0) (hG : tu_G C0 C) (hF : tu_F N0 N) (hR : tu_R C N) (m0 : 0 ≤ m) (m1 : m < N0 60 6) (h : m = but ∨ (¬ C 14 (C 5 (C 7 m)) = 0 ∧ ¬ C 14 (C 5 (C 8 m)) = 0) ∨ (C 14 (C 5 (C 7 m)) = 0 ∧ C 14 (C 5 (C 8 m)) = 0)) : xm_fC but (n + 1) m z N = xm_fC but n (m + 1) z N ∧ (¬ m = but → N 77 (N0 64 (N0 66 m)) = N 77 (N0 64 (N0 67 m))) := by
  obtain ⟨⟨k1, k2⟩, ⟨k3, k4⟩, ⟨k5, k6, k7, k8⟩, k9, k10, k11, k12, k13, k14⟩ := tu_m hM hC hG hF m0 m1
  have za := tu_z hR k11.1 k11.2
  have zb := tu_z hR k12.1 k12.2
  rw [k5] at za h
  rw [k7] at zb h
  have e66 := hF 66 m (by omega) (by omega)
  have e67 := hF 67 m (by omega) (by omega)
  have y1 := hF 64 (N0 66 m) (by omega) (by omega)
  have y3 := hF 64 (N0 67 m) (by omega) (by omega)
  refine ⟨xm_fC_skip (by omega) (by omega), fun hb => ?_⟩
  rw [← y1, ← y3, ← e66, ← e67]
  omega
/-- what a pass leaves -/
def tu_O (N0 N : xa_M) (but : Int) (o : Option (Int × xa_M)) (r : Int) (C1 : xa_M) : Prop := match o with
  | none => C1 12 2 = 1
  | some p => C1 12 2 = 0 ∧ (r = p.1 ∧ (r = 0 ∨ r = 1)) ∧ tu_R C1 p.2 ∧ tu_F N0 p.2 ∧ xm_R N + r ≤ xm_R p.2 ∧ (r = 0 → ∀ m, 0 ≤ m → m < N0 60 6 → ¬ m = but → p.2 77 (N0 64 (N0 66 m)) = p.2 77 (N0 64 (N0 67 m)))
/-- z stays -/
theorem tu_fD1 {but : Int} (n : Nat) : ∀ (m : Int) (z : Int) (N : xa_M), ¬ z = 0 → ¬ (xm_fD but n m z N).1 = 0 := by
  induction n with
  | zero => intro m z N h; exact h
  | succ n ih =>
    intro m z N h
    rw [xm_fD]
    split
    · split
      · exact ih _ _ _ h
      · refine ih _ _ _ ?_
        rw [if_pos (Or.inl h)]
        decide
    · exact h
theorem tu_fDq {but : Int} (n : Nat) : ∀ (m : Int) (z : Int) (N : xa_M), ∀ q j, 75 ≤ q → q ≤ 77 → (xm_fD but n m z N).2 q j = N q j := by
  induction n with
  | zero => intro m z N q j _ _; rfl
  | succ n ih =>
    intro m z N q j h1 h2
    rw [xm_fD]
    split
    · split
      · exact ih _ _ _ q j h1 h2
      · rw [ih _ _ _ q j h1 h2]
        exact (xa_up_ne (by omega)).trans (xa_up_ne (by omega))
    · rfl
theorem tu_Rq {C N N' : xa_M} (h : tu_R C N) (e : ∀ q j, 75 ≤ q → q ≤ 77 → N' q j = N q j) : tu_R C N' := fun a a0 a1 => by
  rw [e 75 a (by decide) (by decide), e 76 a (by decide) (by decide), e 77 a (by decide) (by decide)]
  exact h a a0 a1
theorem tu_ini {N0 : xa_M} : (∀ a, 0 ≤ a → a < 10 → (xm_ini N0) 77 a = if a = 0 then 1 else 0) ∧ (xm_ini N0) 75 0 = 1 ∧ (xm_ini N0) 76 0 = 1 ∧ tu_F N0 (xm_ini N0) ∧ xm_R (xm_ini N0) = 1 := by
  have h : ∀ a, 0 ≤ a → a < 10 → (xm_ini N0) 77 a = if a = 0 then 1 else 0 := fun a a0 a1 => by
    rcases (show a = 0 ∨ a = 1 ∨ a = 2 ∨ a = 3 ∨ a = 4 ∨ a = 5 ∨ a = 6 ∨ a = 7 ∨ a = 8 ∨ a = 9 by omega) with e | e | e | e | e | e | e | e | e | e <;> subst e <;> simp [xm_ini, xm_i77, xa_up]
  refine ⟨h, (xa_up_ne (by omega)).trans xa_up_eq, xa_up_eq, fun q j h1 h2 => ?_, ?_⟩
  · unfold xm_ini
    rw [xa_up_ne (by omega), xa_up_ne (by omega), xm_i77_q _ _ _ _ _ (by omega)]
  · unfold xm_R
    rw [h 0 (by omega) (by omega), h 1 (by omega) (by omega), h 2 (by omega) (by omega), h 3 (by omega) (by omega), h 4 (by omega) (by omega), h 5 (by omega) (by omega), h 6 (by omega) (by omega), h 7 (by omega) (by omega), h 8 (by omega) (by omega), h 9 (by omega) (by omega)]
    decide
theorem tu_iniR {C N0 : xa_M} (h13 : C 13 0 = 1) (h14 : C 14 0 = 1) (hz : ∀ a, 0 < a → a < 10 → C 14 a = 0) : tu_R C (xm_ini N0) := by
  obtain ⟨i1, i2, i3, -, -⟩ := tu_ini (N0 := N0)
  intro a a0 a1
  rw [i1 a a0 a1]
  by_cases e : a = 0
  · rw [if_pos e, e, h13, h14, i2, i3]
    exact Or.inr ⟨rfl, ⟨rfl, rfl⟩, by decide, by decide, by decide⟩
  · rw [if_neg e]
    exact Or.inl ⟨rfl, hz a (by omega) a1⟩
/-- what solve answers, what it leaves -/
def tu_V (but : Int) (N0 : xa_M) (v : Int) (C1 : xa_M) : Prop := ∃ N : xa_M, xm_FT but N0 v N ∧ (¬ v = -5 → tu_R C1 N)
theorem tu_V5 {but : Int} {N0 C1 : xa_M} (h : xm_fB but 23 1 (xm_ini N0) = none) : tu_V but N0 (-5) C1 := by
  refine ⟨N0, ?_, fun h => absurd rfl h⟩
  unfold xm_FT
  rw [h]
  rfl
theorem tu_Vv {but v : Int} {N0 N1 C1 : xa_M} (h : xm_fB but 23 1 (xm_ini N0) = some N1) (hR : tu_R C1 N1) (hv : v = if (xm_fD but 17 0 0 N1).1 = 0 then 0 else -3) : tu_V but N0 v C1 := by
  refine ⟨(xm_fD but 17 0 0 N1).2, ?_, fun _ => tu_Rq hR (tu_fDq _ _ _ _)⟩
  unfold xm_FT
  rw [h]
  exact ⟨hv, rfl⟩
/-- a mesh agrees with the turns -/
theorem tu_fDg {C C0 N N0 : xa_M} {m but : Int} {n : Nat} (hM : tu_M N0) (hC : tu_C C0 N0) (hG : tu_G C0 C) (hF : tu_F N0 N) (hR : tu_R C N) (m0 : 0 ≤ m) (m1 : m < N0 60 6) (hfix : ¬ m = but → N 77 (N0 64 (N0 66 m)) = N 77 (N0 64 (N0 67 m))) {g u l : Int} (hg : g = (Int.gcd (-(C 13 (C 5 (C 7 m))) * C 4 (C 7 m)) (C 14 (C 5 (C 7 m)) * C 4 (C 8 m)) : Int)) (hu : u = (-(C 13 (C 5 (C 7 m))) * C 4 (C 7 m)).tdiv g) (hl : l = (C 14 (C 5 (C 7 m)) * C 4 (C 8 m)) / g) : (m = but ∨ C 14 (C 5 (C 7 m)) = 0 → xm_fD but (n + 1) m 0 N = xm_fD but n (m + 1) 0 N) ∧ (¬ (m = but ∨ C 14 (C 5 (C 7 m)) = 0) → xm_fD but (n + 1) m 0 N = xm_fD but n (m + 1) (if u = C 13 (C 5 (C 8 m)) ∧ l = C 14 (C 5 (C 8 m)) then 0 else 1) (xa_up (xa_up N 60 25 u) 60 26 l)) := by
  obtain ⟨⟨k1, k2⟩, ⟨k3, k4⟩, ⟨k5, k6, k7, k8⟩, k9, k10, k11, k12, k13, k14⟩ := tu_m hM hC hG hF m0 m1
  have e66 := hF 66 m (by omega) (by omega)
  have e67 := hF 67 m (by omega) (by omega)
  have y1 := hF 64 (N0 66 m) (by omega) (by omega)
  have y3 := hF 64 (N0 67 m) (by omega) (by omega)
  rw [← y1, ← y3, ← e66, ← e67] at hfix
  have za := tu_z hR k11.1 k11.2
  have zb := tu_z hR k12.1 k12.2
  refine ⟨fun h => xm_fD_skip (by omega) ?_, fun h => ?_⟩
  · rw [k5] at za h
    rcases h with h | h
    · exact Or.inl h
    · exact Or.inr (Or.inl (by omega))
  · have n1 : N 77 (N 64 (N 66 m)) = 1 := by
      rw [k5] at za h
      omega
    have n2 : N 77 (N 64 (N 67 m)) = 1 := by
      have := hfix (by omega)
      omega
    have qa : C 13 (C 5 (C 7 m)) = N 75 (N 64 (N 66 m)) ∧ C 14 (C 5 (C 7 m)) = N 76 (N 64 (N 66 m)) := by
      rw [k5]
      rcases hR (N 64 (N 66 m)) (by rw [← k5]; exact k11.1) (by rw [← k5]; exact k11.2) with ⟨e, -⟩ | ⟨-, e, -⟩
      · omega
      · exact e
    have qb : C 13 (C 5 (C 8 m)) = N 75 (N 64 (N 67 m)) ∧ C 14 (C 5 (C 8 m)) = N 76 (N 64 (N 67 m)) := by
      rw [k7]
      rcases hR (N 64 (N 67 m)) (by rw [← k7]; exact k12.1) (by rw [← k7]; exact k12.2) with ⟨e, -⟩ | ⟨-, e, -⟩
      · omega
      · exact e
    rw [qa.1, qa.2, k6, k8] at hg
    rw [qa.1, k6] at hu
    rw [qa.2, k8] at hl
    rw [qb.1, qb.2]
    refine xm_fD_go (by omega) (by omega) ⟨g, hg, hu, hl⟩ ?_
    by_cases c : u = N 75 (N 64 (N 67 m)) ∧ l = N 76 (N 64 (N 67 m))
    · rw [if_pos c, if_neg (by omega)]
    · rw [if_neg c, if_pos (by omega)]
-- turns of the class, told
set_option maxRecDepth 20000
theorem tu_b1 {p q : Int} (h : -1000000000000000 ≤ p ∧ p ≤ 1000000000000000) (h2 : 10 ≤ q ∧ q ≤ 400) : -400000000000000000 ≤ -p * q ∧ -p * q ≤ 400000000000000000 := xa_mul_ok (p := -1000000000000000) (q := 1000000000000000) (r := 0) (s := 400) (by omega) (by omega) (by omega) (by omega)
theorem tu_b2 {p q : Int} (h : 1 ≤ p ∧ p ≤ 1000000000000000) (h2 : 10 ≤ q ∧ q ≤ 400) : 1 ≤ p * q ∧ p * q ≤ 400000000000000000 := by
  have a := xa_mul_ok (p := 0) (q := 1000000000000000) (r := 0) (s := 400) (show 0 ≤ p by omega) h.2 (show 0 ≤ q by omega) h2.2
  have c := Int.mul_le_mul (show (1 : Int) ≤ p by omega) (show (1 : Int) ≤ q by omega) (by decide) (by omega)
  exact ⟨by omega, a.2⟩
theorem tu_w1 {p q : Int} (h : -1000000000000000 ≤ p ∧ p ≤ 1000000000000000) (h2 : 10 ≤ q ∧ q ≤ 400) : xa_w64 ((xa_w64 (-p)) * q) = -p * q := by
  have b := tu_b1 h h2
  rw [xa_w64_id (n := -p) (by omega) (by omega), xa_w64_id (by omega) (by omega)]
theorem tu_w2 {p q : Int} (h : 1 ≤ p ∧ p ≤ 1000000000000000) (h2 : 10 ≤ q ∧ q ≤ 400) : xa_w64 (p * q) = p * q := by
  have b := tu_b2 h h2
  exact xa_w64_id (by omega) (by omega)
theorem tu_td {x g : Int} (hg : 1 ≤ g) : ((x.tdiv g).natAbs : Int) ≤ (x.natAbs : Int) := by
  have e : (x.tdiv g).natAbs = x.natAbs / g.natAbs := Int.natAbs_tdiv x g
  rw [e]
  exact Int.ofNat_le.mpr (Nat.div_le_self _ _)
theorem cx_55g {b : Bool} {A : Nat → Nat} {h0 : g_H} {d : Nat} {M : xa_M} {post : Option xa_V → xa_M → Prop} {l1 u1 l2 u2 x y : Int} (hx : -9223372036854775807 ≤ x ∧ x ≤ 9223372036854775807) (hy : -9223372036854775807 ≤ y ∧ y ≤ 9223372036854775807) (k : ∀ g : Int, g = (Int.gcd x y : Int) → 0 ≤ g → g ≤ 9223372036854775807 → post (some (1, 0, 0, 9223372036854775807, g)) M) : xa_C (xl_I b) A h0 (d + 2) 55 [(1, 0, l1, u1, x), (1, 0, l2, u2, y)] M post := by
  refine xa_C_wk ?_
  refine xa_C_arg [(1, 0, (-9223372036854775808), 9223372036854775807, x), (1, 0, (-9223372036854775808), 9223372036854775807, y)] (xa_svL (fun _ _ _ _ => by omega) (xa_svL (fun _ _ _ _ => by omega) xa_sv0)) ?_
  refine xa_meth (Q0 := (11, 3, false, 0, 0, 11)) (by decide +kernel) ⟨rfl, rfl⟩ (full := s_c_55) rfl rfl ?_
  intro hM hv Q hgo
  have loop : ∀ (f : Nat) (i a b : Int), 0 ≤ i ∧ i ≤ 100 → 0 ≤ a ∧ a ≤ 9223372036854775807 → 0 ≤ b ∧ b ≤ 9223372036854775807 → Int.gcd a b = Int.gcd x y → gst (100 - i).toNat a b → 100 - i < (f : Int) → Q 15 [(8, (0, 0, 0, 100, i)), (4, (1, 0, 0, 9223372036854775807, a)), (6, (1, 0, 0, 9223372036854775807, b))] [] M := by
    intro f
    induction f with
    | zero => intro i a b i1 a1 b1 hg hst hms; omega
    | succ f ih =>
      intro i a b i1 a1 b1 hg hst hms
      refine hgo.1 21 [15] 15 _ _ _ ?_
      refine And.intro ?_ ?_
      · intro (c1 : 100 ≤ i)
        show xa_wk post (some (1, 0, 0, 9223372036854775807, a)) M
        have z : b = 0 := by
          rw [show (100 - i).toNat = 0 by omega] at hst
          exact hst
        rw [z, Int.gcd_zero_right] at hg
        exact xa_wkL a rfl (fun _ _ => by omega) (k a (by rw [← hg]; omega) (by omega) (by omega))
      · intro (c1 : i < 100)
        refine And.intro ?_ ?_
        · intro (c2 : b = 0)
          show xa_wk post (some (1, 0, 0, 9223372036854775807, a)) M
          have z : b = 0 := by omega
          rw [z, Int.gcd_zero_right] at hg
          exact xa_wkL a rfl (fun _ _ => by omega) (k a (by rw [← hg]; omega) (by omega) (by omega))
        · intro (c2 : ¬ b = 0)
          refine And.intro (show 0 < b by omega) ?_
          show Q 15 [(8, (0, 0, 1, 101, i + 1)), (6, (1, 0, 0, 9223372036854775806, a % b)), (4, (1, 0, 0, 9223372036854775807, b)), (9, (1, 0, 0, 9223372036854775806, a % b))] [] M
          have m0 := Int.emod_nonneg a (show b ≠ 0 by omega)
          have m1 := Int.emod_lt_of_pos a (show 0 < b by omega)
          refine hgo.2.1 15 _ [(8, (0, 0, 0, 100, i + 1)), (4, (1, 0, 0, 9223372036854775807, b)), (6, (1, 0, 0, 9223372036854775807, a % b))] _ _ (xa_subI rfl rfl (fun _ _ _ _ => by omega) (xa_subL rfl rfl (fun _ _ _ _ => by omega) (xa_subL rfl rfl (fun _ _ _ _ => by omega) (xa_sub0)))) ?_
          obtain ⟨k9, hk9⟩ : ∃ k, (100 - i).toNat = k + 1 := ⟨(99 - i).toNat, by omega⟩
          rw [hk9] at hst
          rcases hst with hst | hst
          · exact absurd hst (by omega)
          · exact ih (i + 1) b (a % b) (by omega) (by omega) (by omega) (by rw [← hg]; exact xa_gcd_step (by omega) (by omega)) (by rw [show (100 - (i + 1)).toNat = k9 by omega]; exact hst) (by omega)
  refine hgo.1 13 [15] 0 _ _ _ ?_
  show xa_C (xl_I b) A h0 _ 56 [(1, 0, (-9223372036854775808), 9223372036854775807, x)] M _
  refine ct_abs (lo := 0) (hi := 9223372036854775807) (show -9223372036854775808 < x by omega) (fun r101 h102 => ⟨by omega, ?_⟩)
  show xa_C (xl_I b) A h0 _ 56 [(1, 0, (-9223372036854775808), 9223372036854775807, y)] M _
  refine ct_abs (lo := 0) (hi := 9223372036854775807) (show -9223372036854775808 < y by omega) (fun r103 h104 => ⟨by omega, ?_⟩)
  show Q 15 [(8, (0, 0, 0, 0, 0)), (6, (1, 0, 0, 9223372036854775807, r103)), (4, (1, 0, 0, 9223372036854775807, r101)), (0, (1, 0, (-9223372036854775808), 9223372036854775807, x)), (2, (1, 0, (-9223372036854775808), 9223372036854775807, y))] [] M
  refine hgo.2.1 15 _ [(8, (0, 0, 0, 100, 0)), (4, (1, 0, 0, 9223372036854775807, r101)), (6, (1, 0, 0, 9223372036854775807, r103))] _ _ (xa_subI rfl rfl (fun _ _ _ _ => by omega) (xa_subL rfl rfl (fun _ _ _ _ => by omega) (xa_subL rfl rfl (fun _ _ _ _ => by omega) (xa_sub0)))) ?_
  exact loop 101 0 r101 r103 (by omega) (by omega) (by omega) (by rw [h102, h104]; rfl) (gst_L (by omega) (by omega) (by omega)) (by omega)
theorem cx_55x {b : Bool} {A : Nat → Nat} {h0 : g_H} {d : Nat} {M : xa_M} {post : Option xa_V → xa_M → Prop} {l1 u1 l2 u2 x y x' y' : Int} (ex : x = x') (ey : y = y') (hx : -400000000000000000 ≤ x' ∧ x' ≤ 400000000000000000) (hy : 1 ≤ y' ∧ y' ≤ 400000000000000000) (k : ∀ g : Int, g = (Int.gcd x' y' : Int) → 1 ≤ g → g ≤ 400000000000000000 → post (some (1, 0, 0, 9223372036854775807, g)) M) : xa_C (xl_I b) A h0 (d + 2) 55 [(1, 0, l1, u1, x), (1, 0, l2, u2, y)] M post := by
  subst ex
  subst ey
  refine cx_55g (by omega) (by omega) (fun g hg g0 g1 => k g hg (by rw [hg]; exact tu_gp hy.1) ?_)
  have hd : g ∣ y := by
    rw [hg]
    exact Int.gcd_dvd_right ..
  have := Int.le_of_dvd (by omega) hd
  omega
theorem cx_21t {b : Bool} {A : Nat → Nat} {h0 : g_H} {d : Nat} {M : xa_M} {post : Option xa_V → xa_M → Prop} {l1 u1 l2 u2 x x' y : Int} (ex : x = x') (hy : 1 ≤ y ∧ y ≤ 9223372036854775807) (k : post (some (1, 0, -9223372036854775808, 9223372036854775807, x'.tdiv y)) M) : xa_C (xl_I b) A h0 (d + 1) 21 [(1, 0, l1, u1, x), (1, 0, l2, u2, y)] M post := by
  subst ex
  refine xa_C_arg [(1, 0, (-9223372036854775808), 9223372036854775807, x), (1, 0, 0, 9223372036854775807, y)] (xa_svL (fun _ _ _ _ => by omega) (xa_svL (fun _ _ _ _ => by omega) xa_sv0)) ?_
  refine xa_meth (Q0 := (4, 3, false, 0, 0, 11)) (by decide +kernel) ⟨rfl, rfl⟩ (full := s_c_21) rfl rfl ?_
  intro hM hv Q hgo
  refine hgo.1 11 [] 0 _ _ _ ?_
  refine And.intro ?_ ?_
  · intro (c1 : ¬ y = 0)
    refine And.intro (show 0 < y by omega) ?_
    show post (some (1, 0, (-9223372036854775808), 9223372036854775807, x.tdiv y)) M
    exact k
  · intro (c1 : y = 0)
    show post (some (1, 0, 0, 0, 0)) M
    exfalso
    omega
theorem cx_21n {b : Bool} {A : Nat → Nat} {h0 : g_H} {d : Nat} {M : xa_M} {post : Option xa_V → xa_M → Prop} {l1 u1 l2 u2 x x' y : Int} (ex : x = x') (h0' : 0 ≤ x') (hy : 1 ≤ y ∧ y ≤ 9223372036854775807) (k : post (some (1, 0, -9223372036854775808, 9223372036854775807, x' / y)) M) : xa_C (xl_I b) A h0 (d + 1) 21 [(1, 0, l1, u1, x), (1, 0, l2, u2, y)] M post :=
  cx_21t ex hy (by rw [Int.tdiv_eq_ediv_of_nonneg h0']; exact k)
theorem cx_52_13 {b : Bool} {A : Nat → Nat} {h0 : g_H} {d : Nat} {M : xa_M} {post : Option xa_V → xa_M → Prop} {l1 u1 : Int} {i : Int} (h1 : 0 ≤ i ∧ i < 10) (k1 : post (some (1, 0, (-9223372036854775808), 9223372036854775807, M 13 i)) M) : xa_C (xl_I b) A h0 (d + 1) 52 [(2, 13, 0, 0, 0), (0, 0, l1, u1, i)] M post := by
  refine xa_C_arg [(2, 13, 0, 0, 0), (0, 0, (-2147483648), 2147483647, i)] (xa_svR (xa_svI (fun _ _ _ _ => by omega) xa_sv0)) ?_
  refine xa_meth (Q0 := (2, 3, false, 0, 0, 11)) (by decide +kernel) ⟨rfl, rfl⟩ (full := s_c_52) rfl rfl ?_
  intro hM hv Q hgo
  refine hgo.1 15 [] 0 _ _ _ ?_
  refine And.intro ?_ ?_
  · intro (c1 : i < 0)
    show post (some (1, 0, 0, 0, 0)) M
    exact absurd h1 (by omega)
  · intro (c1 : 0 ≤ i)
    refine And.intro ?_ ?_
    · intro (c2 : 10 ≤ i)
      show post (some (1, 0, 0, 0, 0)) M
      exact absurd h1 (by omega)
    · intro (c2 : i < 10)
      refine And.intro (show 0 ≤ i ∧ i < 10 by omega) ?_
      show post (some (1, 0, (-9223372036854775808), 9223372036854775807, M 13 i)) M
      exact k1
theorem cx_54_12 {b : Bool} {A : Nat → Nat} {h0 : g_H} {d : Nat} {M : xa_M} {post : Option xa_V → xa_M → Prop} {l1 u1 : Int} {x1 : Int} (h1 : 0 ≤ x1 ∧ x1 < 10) (k1 : post (some (1, 0, (-9223372036854775808), 9223372036854775807, M 13 x1)) M) : xa_C (xl_I b) A h0 (d + 2) 54 [(2, 12, 0, 0, 0), (0, 0, l1, u1, x1)] M post := by
  refine xa_C_arg [(2, 12, 0, 0, 0), (0, 0, (-2147483648), 2147483647, x1)] (xa_svR (xa_svI (fun _ _ _ _ => by omega) (xa_sv0))) ?_
  refine xa_meth (Q0 := (2, 3, false, 0, 0, 9)) (by decide +kernel) ⟨rfl, rfl⟩ (full := s_c_54) rfl rfl ?_
  intro hM hv Q hgo
  refine hgo.1 9 [] 0 _ _ _ ?_
  show xa_C (xl_I b) A h0 _ 52 [(2, 13, 0, 0, 0), (0, 0, (-2147483648), 2147483647, x1)] M _
  refine cx_52_13 (show 0 ≤ x1 ∧ x1 < 10 by omega) ?_
  show post (some (1, 0, (-9223372036854775808), 9223372036854775807, M 13 x1)) M
  exact k1
theorem cx_52_14 {b : Bool} {A : Nat → Nat} {h0 : g_H} {d : Nat} {M : xa_M} {post : Option xa_V → xa_M → Prop} {l1 u1 : Int} {i : Int} (h1 : 0 ≤ i ∧ i < 10) (k1 : post (some (1, 0, (-9223372036854775808), 9223372036854775807, M 14 i)) M) : xa_C (xl_I b) A h0 (d + 1) 52 [(2, 14, 0, 0, 0), (0, 0, l1, u1, i)] M post := by
  refine xa_C_arg [(2, 14, 0, 0, 0), (0, 0, (-2147483648), 2147483647, i)] (xa_svR (xa_svI (fun _ _ _ _ => by omega) xa_sv0)) ?_
  refine xa_meth (Q0 := (2, 3, false, 0, 0, 11)) (by decide +kernel) ⟨rfl, rfl⟩ (full := s_c_52) rfl rfl ?_
  intro hM hv Q hgo
  refine hgo.1 15 [] 0 _ _ _ ?_
  refine And.intro ?_ ?_
  · intro (c1 : i < 0)
    show post (some (1, 0, 0, 0, 0)) M
    exact absurd h1 (by omega)
  · intro (c1 : 0 ≤ i)
    refine And.intro ?_ ?_
    · intro (c2 : 10 ≤ i)
      show post (some (1, 0, 0, 0, 0)) M
      exact absurd h1 (by omega)
    · intro (c2 : i < 10)
      refine And.intro (show 0 ≤ i ∧ i < 10 by omega) ?_
      show post (some (1, 0, (-9223372036854775808), 9223372036854775807, M 14 i)) M
      exact k1
theorem cx_51_12 {b : Bool} {A : Nat → Nat} {h0 : g_H} {d : Nat} {M : xa_M} {post : Option xa_V → xa_M → Prop} {l1 u1 : Int} {x1 : Int} (h1 : 0 ≤ x1 ∧ x1 < 10) (k1 : post (some (1, 0, (-9223372036854775808), 9223372036854775807, M 14 x1)) M) : xa_C (xl_I b) A h0 (d + 2) 51 [(2, 12, 0, 0, 0), (0, 0, l1, u1, x1)] M post := by
  refine xa_C_arg [(2, 12, 0, 0, 0), (0, 0, (-2147483648), 2147483647, x1)] (xa_svR (xa_svI (fun _ _ _ _ => by omega) (xa_sv0))) ?_
  refine xa_meth (Q0 := (2, 3, false, 0, 0, 9)) (by decide +kernel) ⟨rfl, rfl⟩ (full := s_c_51) rfl rfl ?_
  intro hM hv Q hgo
  refine hgo.1 9 [] 0 _ _ _ ?_
  show xa_C (xl_I b) A h0 _ 52 [(2, 14, 0, 0, 0), (0, 0, (-2147483648), 2147483647, x1)] M _
  refine cx_52_14 (show 0 ≤ x1 ∧ x1 < 10 by omega) ?_
  show post (some (1, 0, (-9223372036854775808), 9223372036854775807, M 14 x1)) M
  exact k1
theorem cx_48_13 {b : Bool} {A : Nat → Nat} {h0 : g_H} {d : Nat} {M : xa_M} {post : Option xa_V → xa_M → Prop} {l1 u1 l2 u2 : Int} {i v : Int} (h1 : 0 ≤ i ∧ i < 10) (k1 : post none (xa_up M 13 i v)) : xa_C (xl_I b) A h0 (d + 1) 48 [(2, 13, 0, 0, 0), (0, 0, l1, u1, i), (1, 0, l2, u2, v)] M post := by
  refine xa_C_arg [(2, 13, 0, 0, 0), (0, 0, (-2147483648), 2147483647, i), (1, 0, (-9223372036854775808), 9223372036854775807, v)] (xa_svR (xa_svI (fun _ _ _ _ => by omega) (xa_svL (fun _ _ _ _ => by omega) xa_sv0))) ?_
  refine xa_meth (Q0 := (4, 0, false, 0, 0, 11)) (by decide +kernel) ⟨rfl, rfl⟩ (full := s_c_48) rfl rfl ?_
  intro hM hv Q hgo
  refine hgo.1 15 [] 0 _ _ _ ?_
  refine And.intro ?_ ?_
  · intro (c1 : i < 0)
    show post none M
    exact absurd h1 (by omega)
  · intro (c1 : 0 ≤ i)
    refine And.intro ?_ ?_
    · intro (c2 : 10 ≤ i)
      show post none M
      exact absurd h1 (by omega)
    · intro (c2 : i < 10)
      refine And.intro (show 0 ≤ i ∧ i < 10 by omega) ?_
      show post none (xa_up M 13 i v)
      exact k1
theorem cx_48_14 {b : Bool} {A : Nat → Nat} {h0 : g_H} {d : Nat} {M : xa_M} {post : Option xa_V → xa_M → Prop} {l1 u1 l2 u2 : Int} {i v : Int} (h1 : 0 ≤ i ∧ i < 10) (k1 : post none (xa_up M 14 i v)) : xa_C (xl_I b) A h0 (d + 1) 48 [(2, 14, 0, 0, 0), (0, 0, l1, u1, i), (1, 0, l2, u2, v)] M post := by
  refine xa_C_arg [(2, 14, 0, 0, 0), (0, 0, (-2147483648), 2147483647, i), (1, 0, (-9223372036854775808), 9223372036854775807, v)] (xa_svR (xa_svI (fun _ _ _ _ => by omega) (xa_svL (fun _ _ _ _ => by omega) xa_sv0))) ?_
  refine xa_meth (Q0 := (4, 0, false, 0, 0, 11)) (by decide +kernel) ⟨rfl, rfl⟩ (full := s_c_48) rfl rfl ?_
  intro hM hv Q hgo
  refine hgo.1 15 [] 0 _ _ _ ?_
  refine And.intro ?_ ?_
  · intro (c1 : i < 0)
    show post none M
    exact absurd h1 (by omega)
  · intro (c1 : 0 ≤ i)
    refine And.intro ?_ ?_
    · intro (c2 : 10 ≤ i)
      show post none M
      exact absurd h1 (by omega)
    · intro (c2 : i < 10)
      refine And.intro (show 0 ≤ i ∧ i < 10 by omega) ?_
      show post none (xa_up M 14 i v)
      exact k1
theorem cx_53c {b : Bool} {A : Nat → Nat} {h0 : g_H} {d : Nat} {M : xa_M} {post : Option xa_V → xa_M → Prop} {l1 u1 l2 u2 x1 x2 : Int} (h1 : 0 ≤ x1 ∧ x1 < 14) (h2 : 0 ≤ x2 ∧ x2 < 14) (ha : 0 ≤ M 5 x1 ∧ M 5 x1 < 10) (hb : 0 ≤ M 5 x2 ∧ M 5 x2 < 10) (hp : (-1000000000000000 ≤ M 13 (M 5 x1) ∧ M 13 (M 5 x1) ≤ 1000000000000000)) (hq : (1 ≤ M 14 (M 5 x1) ∧ M 14 (M 5 x1) ≤ 1000000000000000)) (t1 : 10 ≤ M 4 x1 ∧ M 4 x1 ≤ 400) (t2 : 10 ≤ M 4 x2 ∧ M 4 x2 ≤ 400) (k : ∀ g z : Int, g = (Int.gcd (-(M 13 (M 5 x1)) * (M 4 x1)) ((M 14 (M 5 x1)) * (M 4 x2)) : Int) → (z = 0 ∨ z = 1) → (z = 1 ↔ (1000000000000000 < (((-(M 13 (M 5 x1)) * (M 4 x1)).tdiv g).natAbs : Int) ∨ 1000000000000000 < ((M 14 (M 5 x1)) * (M 4 x2)) / g)) → post none (xa_up (xa_up (xa_up M 13 (M 5 x2) ((-(M 13 (M 5 x1)) * (M 4 x1)).tdiv g)) 14 (M 5 x2) (((M 14 (M 5 x1)) * (M 4 x2)) / g)) 12 2 z)) : xa_C (xl_I b) A h0 (d + 3) 53 [(2, 12, 0, 0, 0), (2, 1, 0, 0, 0), (0, 0, l1, u1, x1), (0, 0, l2, u2, x2)] M post := by
  refine xa_C_arg [(2, 12, 0, 0, 0), (2, 1, 0, 0, 0), (0, 0, (-2147483648), 2147483647, x1), (0, 0, (-2147483648), 2147483647, x2)] (xa_svR (xa_svR (xa_svI (fun _ _ _ _ => by omega) (xa_svI (fun _ _ _ _ => by omega) xa_sv0)))) ?_
  refine xa_meth (Q0 := (11, 0, false, 0, 0, 9)) (by decide +kernel) ⟨rfl, rfl⟩ (full := s_c_53) rfl rfl ?_
  intro hM hv Q hgo
  refine hgo.1 65 [] 0 _ _ _ ?_
  show xa_C (xl_I b) A h0 _ 37 [(2, 1, 0, 0, 0), (0, 0, (-2147483648), 2147483647, x1)] M _
  refine cx_37_1 (show 0 ≤ x1 ∧ x1 < 14 by omega) ?_
  show xa_C (xl_I b) A h0 _ 54 [(2, 12, 0, 0, 0), (0, 0, (-2147483648), 2147483647, M 5 x1)] M _
  refine cx_54_12 (show 0 ≤ (M 5 x1) ∧ (M 5 x1) < 10 by omega) ?_
  show xa_C (xl_I b) A h0 _ 28 [(2, 1, 0, 0, 0), (0, 0, (-2147483648), 2147483647, x1)] M _
  refine cx_28_1 (show 0 ≤ x1 ∧ x1 < 14 by omega) ?_
  show xa_C (xl_I b) A h0 _ 51 [(2, 12, 0, 0, 0), (0, 0, (-2147483648), 2147483647, M 5 x1)] M _
  refine cx_51_12 (show 0 ≤ (M 5 x1) ∧ (M 5 x1) < 10 by omega) ?_
  show xa_C (xl_I b) A h0 _ 28 [(2, 1, 0, 0, 0), (0, 0, (-2147483648), 2147483647, x2)] M _
  refine cx_28_1 (show 0 ≤ x2 ∧ x2 < 14 by omega) ?_
  show xa_C (xl_I b) A h0 _ 55 [(1, 0, (-9223372036854775808), 9223372036854775807, xa_w64 ((xa_w64 (-(M 13 (M 5 x1)))) * (M 4 x1))), (1, 0, (-9223372036854775808), 9223372036854775807, xa_w64 ((M 14 (M 5 x1)) * (M 4 x2)))] M _
  refine cx_55x (tu_w1 hp t1) (tu_w2 hq t2) (tu_b1 hp t1) (tu_b2 hq t2) ?_
  intro g101 (i1 : g101 = (Int.gcd (-(M 13 (M 5 x1)) * (M 4 x1)) ((M 14 (M 5 x1)) * (M 4 x2)) : Int)) (i2 : 1 ≤ g101) (i3 : g101 ≤ 400000000000000000)
  show xa_C (xl_I b) A h0 _ 21 [(1, 0, (-9223372036854775808), 9223372036854775807, xa_w64 ((xa_w64 (-(M 13 (M 5 x1)))) * (M 4 x1))), (1, 0, 0, 9223372036854775807, g101)] M _
  refine cx_21t (tu_w1 hp t1) (by omega) ?_
  show xa_C (xl_I b) A h0 _ 21 [(1, 0, (-9223372036854775808), 9223372036854775807, xa_w64 ((M 14 (M 5 x1)) * (M 4 x2))), (1, 0, 0, 9223372036854775807, g101)] M _
  refine cx_21n (tu_w2 hq t2) (show 0 ≤ (M 14 (M 5 x1)) * (M 4 x2) by have := tu_b2 hq t2; omega) (by omega) ?_
  show xa_C (xl_I b) A h0 _ 37 [(2, 1, 0, 0, 0), (0, 0, (-2147483648), 2147483647, x2)] M _
  refine cx_37_1 (show 0 ≤ x2 ∧ x2 < 14 by omega) ?_
  show xa_C (xl_I b) A h0 _ 48 [(2, 13, 0, 0, 0), (0, 0, (-2147483648), 2147483647, M 5 x2), (1, 0, (-9223372036854775808), 9223372036854775807, (-(M 13 (M 5 x1)) * (M 4 x1)).tdiv g101)] M _
  refine cx_48_13 (show 0 ≤ (M 5 x2) ∧ (M 5 x2) < 10 by omega) ?_
  show xa_C (xl_I b) A h0 _ 37 [(2, 1, 0, 0, 0), (0, 0, (-2147483648), 2147483647, x2)] (xa_up M 13 (M 5 x2) ((-(M 13 (M 5 x1)) * (M 4 x1)).tdiv g101)) _
  refine cx_37_1 (show 0 ≤ x2 ∧ x2 < 14 by omega) ?_
  show xa_C (xl_I b) A h0 _ 48 [(2, 14, 0, 0, 0), (0, 0, (-2147483648), 2147483647, M 5 x2), (1, 0, (-9223372036854775808), 9223372036854775807, ((M 14 (M 5 x1)) * (M 4 x2)) / g101)] (xa_up M 13 (M 5 x2) ((-(M 13 (M 5 x1)) * (M 4 x1)).tdiv g101)) _
  refine cx_48_14 (show 0 ≤ (M 5 x2) ∧ (M 5 x2) < 10 by omega) ?_
  show xa_C (xl_I b) A h0 _ 56 [(1, 0, (-9223372036854775808), 9223372036854775807, (-(M 13 (M 5 x1)) * (M 4 x1)).tdiv g101)] (xa_up (xa_up M 13 (M 5 x2) ((-(M 13 (M 5 x1)) * (M 4 x1)).tdiv g101)) 14 (M 5 x2) (((M 14 (M 5 x1)) * (M 4 x2)) / g101)) _
  refine ct_abs (lo := 0) (hi := 400000000000000000) (show -9223372036854775808 < ((-(M 13 (M 5 x1)) * (M 4 x1)).tdiv g101) by have := tu_td (x := -(M 13 (M 5 x1)) * (M 4 x1)) (g := g101) (by omega); have := tu_b1 hp t1; omega) (fun r102 h103 => ⟨by have := tu_td (x := -(M 13 (M 5 x1)) * (M 4 x1)) (g := g101) (by omega); have := tu_b1 hp t1; omega, ?_⟩)
  refine And.intro ?_ ?_
  · intro (c4 : 1000000000000000 < r102)
    show post none (xa_up (xa_up (xa_up M 13 (M 5 x2) ((-(M 13 (M 5 x1)) * (M 4 x1)).tdiv g101)) 14 (M 5 x2) (((M 14 (M 5 x1)) * (M 4 x2)) / g101)) 12 2 1)
    exact k g101 1 i1 (by omega) (by omega)
  · intro (c4 : r102 ≤ 1000000000000000)
    refine And.intro ?_ ?_
    · intro (c5 : (((M 14 (M 5 x1)) * (M 4 x2)) / g101) ≤ 1000000000000000)
      show post none (xa_up (xa_up (xa_up M 13 (M 5 x2) ((-(M 13 (M 5 x1)) * (M 4 x1)).tdiv g101)) 14 (M 5 x2) (((M 14 (M 5 x1)) * (M 4 x2)) / g101)) 12 2 0)
      exact k g101 0 i1 (by omega) (by omega)
    · intro (c5 : 1000000000000000 < (((M 14 (M 5 x1)) * (M 4 x2)) / g101))
      show post none (xa_up (xa_up (xa_up M 13 (M 5 x2) ((-(M 13 (M 5 x1)) * (M 4 x1)).tdiv g101)) 14 (M 5 x2) (((M 14 (M 5 x1)) * (M 4 x2)) / g101)) 12 2 1)
      exact k g101 1 i1 (by omega) (by omega)
theorem cx_50_12 {b : Bool} {A : Nat → Nat} {h0 : g_H} {d : Nat} {M : xa_M} {post : Option xa_V → xa_M → Prop} {l1 u1 : Int} {x1 : Int} (h1 : 0 ≤ x1 ∧ x1 < 10) (k1 : ((M 14 x1) = 0) → post (some (0, 0, 0, 0, 0)) M) (k2 : (¬ (M 14 x1) = 0) → post (some (0, 0, 1, 1, 1)) M) : xa_C (xl_I b) A h0 (d + 3) 50 [(2, 12, 0, 0, 0), (0, 0, l1, u1, x1)] M post := by
  refine xa_C_arg [(2, 12, 0, 0, 0), (0, 0, (-2147483648), 2147483647, x1)] (xa_svR (xa_svI (fun _ _ _ _ => by omega) (xa_sv0))) ?_
  refine xa_meth (Q0 := (2, 2, false, 0, 0, 9)) (by decide +kernel) ⟨rfl, rfl⟩ (full := s_c_50) rfl rfl ?_
  intro hM hv Q hgo
  refine hgo.1 12 [] 0 _ _ _ ?_
  show xa_C (xl_I b) A h0 _ 51 [(2, 12, 0, 0, 0), (0, 0, (-2147483648), 2147483647, x1)] M _
  refine cx_51_12 (show 0 ≤ x1 ∧ x1 < 10 by omega) ?_
  refine And.intro ?_ ?_
  · intro (c1 : (M 14 x1) = 0)
    show post (some (0, 0, 0, 0, 0)) M
    exact k1 c1
  · intro (c1 : ¬ (M 14 x1) = 0)
    show post (some (0, 0, 1, 1, 1)) M
    exact k2 c1
theorem cx_58c {b : Bool} {A : Nat → Nat} {h0 : g_H} {d : Nat} {M : xa_M} {post : Option xa_V → xa_M → Prop} {l1 u1 l2 u2 x1 x2 : Int} (h1 : 0 ≤ x1 ∧ x1 < 14) (h2 : 0 ≤ x2 ∧ x2 < 14) (ha : 0 ≤ M 5 x1 ∧ M 5 x1 < 10) (hb : 0 ≤ M 5 x2 ∧ M 5 x2 < 10) (hpq : ¬ M 14 (M 5 x1) = 0 → (-1000000000000000 ≤ M 13 (M 5 x1) ∧ M 13 (M 5 x1) ≤ 1000000000000000) ∧ (1 ≤ M 14 (M 5 x1) ∧ M 14 (M 5 x1) ≤ 1000000000000000)) (t1 : 10 ≤ M 4 x1 ∧ M 4 x1 ≤ 400) (t2 : 10 ≤ M 4 x2 ∧ M 4 x2 ≤ 400) (k0 : M 14 (M 5 x1) = 0 → post (some (0, 0, 0, 1, 1)) M) (k : ∀ g r : Int, ¬ M 14 (M 5 x1) = 0 → g = (Int.gcd (-(M 13 (M 5 x1)) * (M 4 x1)) ((M 14 (M 5 x1)) * (M 4 x2)) : Int) → (r = 0 ∨ r = 1) → (r = 1 ↔ ((-(M 13 (M 5 x1)) * (M 4 x1)).tdiv g = M 13 (M 5 x2) ∧ ((M 14 (M 5 x1)) * (M 4 x2)) / g = M 14 (M 5 x2))) → post (some (0, 0, 0, 1, r)) M) : xa_C (xl_I b) A h0 (d + 4) 58 [(2, 12, 0, 0, 0), (2, 1, 0, 0, 0), (0, 0, l1, u1, x1), (0, 0, l2, u2, x2)] M post := by
  refine xa_C_wk ?_
  refine xa_C_arg [(2, 12, 0, 0, 0), (2, 1, 0, 0, 0), (0, 0, (-2147483648), 2147483647, x1), (0, 0, (-2147483648), 2147483647, x2)] (xa_svR (xa_svR (xa_svI (fun _ _ _ _ => by omega) (xa_svI (fun _ _ _ _ => by omega) xa_sv0)))) ?_
  refine xa_meth (Q0 := (12, 2, false, 0, 0, 9)) (by decide +kernel) ⟨rfl, rfl⟩ (full := s_c_58) rfl rfl ?_
  intro hM hv Q hgo
  refine hgo.1 56 [] 0 _ _ _ ?_
  show xa_C (xl_I b) A h0 _ 37 [(2, 1, 0, 0, 0), (0, 0, (-2147483648), 2147483647, x1)] M _
  refine cx_37_1 (show 0 ≤ x1 ∧ x1 < 14 by omega) ?_
  show xa_C (xl_I b) A h0 _ 37 [(2, 1, 0, 0, 0), (0, 0, (-2147483648), 2147483647, x2)] M _
  refine cx_37_1 (show 0 ≤ x2 ∧ x2 < 14 by omega) ?_
  show xa_C (xl_I b) A h0 _ 50 [(2, 12, 0, 0, 0), (0, 0, (-2147483648), 2147483647, M 5 x1)] M _
  refine cx_50_12 (show 0 ≤ (M 5 x1) ∧ (M 5 x1) < 10 by omega) ?_ ?_
  · intro (i1 : (M 14 (M 5 x1)) = 0)
    show xa_wk post (some (0, 0, 1, 1, 1)) M
    exact xa_wkI 1 rfl (fun _ _ => by omega) (k0 (by omega))
  · intro (i2 : ¬ (M 14 (M 5 x1)) = 0)
    have hpq := hpq i2
    have hp := hpq.1
    have hq := hpq.2
    show xa_C (xl_I b) A h0 _ 54 [(2, 12, 0, 0, 0), (0, 0, (-2147483648), 2147483647, M 5 x1)] M _
    refine cx_54_12 (show 0 ≤ (M 5 x1) ∧ (M 5 x1) < 10 by omega) ?_
    show xa_C (xl_I b) A h0 _ 28 [(2, 1, 0, 0, 0), (0, 0, (-2147483648), 2147483647, x1)] M _
    refine cx_28_1 (show 0 ≤ x1 ∧ x1 < 14 by omega) ?_
    show xa_C (xl_I b) A h0 _ 51 [(2, 12, 0, 0, 0), (0, 0, (-2147483648), 2147483647, M 5 x1)] M _
    refine cx_51_12 (show 0 ≤ (M 5 x1) ∧ (M 5 x1) < 10 by omega) ?_
    show xa_C (xl_I b) A h0 _ 28 [(2, 1, 0, 0, 0), (0, 0, (-2147483648), 2147483647, x2)] M _
    refine cx_28_1 (show 0 ≤ x2 ∧ x2 < 14 by omega) ?_
    show xa_C (xl_I b) A h0 _ 55 [(1, 0, (-9223372036854775808), 9223372036854775807, xa_w64 ((xa_w64 (-(M 13 (M 5 x1)))) * (M 4 x1))), (1, 0, (-9223372036854775808), 9223372036854775807, xa_w64 ((M 14 (M 5 x1)) * (M 4 x2)))] M _
    refine cx_55x (tu_w1 hp t1) (tu_w2 hq t2) (tu_b1 hp t1) (tu_b2 hq t2) ?_
    intro g101 (i3 : g101 = (Int.gcd (-(M 13 (M 5 x1)) * (M 4 x1)) ((M 14 (M 5 x1)) * (M 4 x2)) : Int)) (i4 : 1 ≤ g101) (i5 : g101 ≤ 400000000000000000)
    show xa_C (xl_I b) A h0 _ 21 [(1, 0, (-9223372036854775808), 9223372036854775807, xa_w64 ((xa_w64 (-(M 13 (M 5 x1)))) * (M 4 x1))), (1, 0, 0, 9223372036854775807, g101)] M _
    refine cx_21t (tu_w1 hp t1) (by omega) ?_
    show xa_C (xl_I b) A h0 _ 54 [(2, 12, 0, 0, 0), (0, 0, (-2147483648), 2147483647, M 5 x2)] M _
    refine cx_54_12 (show 0 ≤ (M 5 x2) ∧ (M 5 x2) < 10 by omega) ?_
    refine And.intro ?_ ?_
    · intro (c6 : ¬ ((-(M 13 (M 5 x1)) * (M 4 x1)).tdiv g101) = (M 13 (M 5 x2)))
      show xa_wk post (some (0, 0, 0, 0, 0)) M
      exact xa_wkI 0 rfl (fun _ _ => by omega) (k g101 0 (by omega) i3 (by omega) (by omega))
    · intro (c6 : ((-(M 13 (M 5 x1)) * (M 4 x1)).tdiv g101) = (M 13 (M 5 x2)))
      show xa_C (xl_I b) A h0 _ 21 [(1, 0, (-9223372036854775808), 9223372036854775807, xa_w64 ((M 14 (M 5 x1)) * (M 4 x2))), (1, 0, 0, 9223372036854775807, g101)] M _
      refine cx_21n (tu_w2 hq t2) (show 0 ≤ (M 14 (M 5 x1)) * (M 4 x2) by have := tu_b2 hq t2; omega) (by omega) ?_
      show xa_C (xl_I b) A h0 _ 51 [(2, 12, 0, 0, 0), (0, 0, (-2147483648), 2147483647, M 5 x2)] M _
      refine cx_51_12 (show 0 ≤ (M 5 x2) ∧ (M 5 x2) < 10 by omega) ?_
      refine And.intro ?_ ?_
      · intro (c7 : ¬ (((M 14 (M 5 x1)) * (M 4 x2)) / g101) = (M 14 (M 5 x2)))
        show xa_wk post (some (0, 0, 0, 0, 0)) M
        exact xa_wkI 0 rfl (fun _ _ => by omega) (k g101 0 (by omega) i3 (by omega) (by omega))
      · intro (c7 : (((M 14 (M 5 x1)) * (M 4 x2)) / g101) = (M 14 (M 5 x2)))
        show xa_wk post (some (0, 0, 1, 1, 1)) M
        exact xa_wkI 1 rfl (fun _ _ => by omega) (k g101 1 (by omega) i3 (by omega) (by omega))
theorem tu_pq {C N : xa_M} {a : Int} (h : tu_R C N) (ha : 0 ≤ a ∧ a < 10) (hn : ¬ C 14 a = 0) : (-1000000000000000 ≤ C 13 a ∧ C 13 a ≤ 1000000000000000) ∧ (1 ≤ C 14 a ∧ C 14 a ≤ 1000000000000000) := by
  rcases h a ha.1 ha.2 with ⟨-, e⟩ | ⟨-, ⟨e1, e2⟩, e3, e4, -⟩
  · exact absurd e hn
  · rw [e1, e2]
    exact ⟨e3, e4⟩
theorem tu_up2 {C : xa_M} {t u l z a : Int} : (xa_up (xa_up (xa_up C 13 t u) 14 t l) 12 2 z) 13 a = (if a = t then u else C 13 a) ∧ (xa_up (xa_up (xa_up C 13 t u) 14 t l) 12 2 z) 14 a = (if a = t then l else C 14 a) := by
  by_cases e : a = t
  · subst e
    rw [if_pos rfl, if_pos rfl]
    exact ⟨(xa_up_ne (by omega)).trans ((xa_up_ne (by omega)).trans xa_up_eq), (xa_up_ne (by omega)).trans xa_up_eq⟩
  · rw [if_neg e, if_neg e]
    exact ⟨(xa_up_ne (by omega)).trans ((xa_up_ne (by omega)).trans (xa_up_ne (by omega))), (xa_up_ne (by omega)).trans ((xa_up_ne (by omega)).trans (xa_up_ne (by omega)))⟩
theorem cx_49t {b : Bool} {A : Nat → Nat} {h0 : g_H} {d : Nat} {M : xa_M} {post : Option xa_V → xa_M → Prop} {l1 u1 but : Int} {N N0 : xa_M} (hM0 : tu_M N0) (hC0 : tu_C M N0) (hF0 : tu_F N0 N) (hR0 : tu_R M N) (h120 : M 12 2 = 0) (k : ∀ (r : Int) (M1 : xa_M), tu_O N0 N but (xm_fC but 17 0 0 N) r M1 → tu_G M M1 → post (some (0, 0, 0, 1, r)) M1) : xa_C (xl_I b) A h0 (d + 4) 49 [(2, 12, 0, 0, 0), (2, 1, 0, 0, 0), (0, 0, l1, u1, but)] M post := by
  refine xa_C_wk ?_
  refine xa_C_arg [(2, 12, 0, 0, 0), (2, 1, 0, 0, 0), (0, 0, (-2147483648), 2147483647, but)] (xa_svR (xa_svR (xa_svI (fun _ _ _ _ => by omega) xa_sv0))) ?_
  refine xa_meth (Q0 := (8, 2, false, 0, 0, 9)) (by decide +kernel) ⟨rfl, rfl⟩ (full := s_c_49) rfl rfl ?_
  intro hM hv Q hgo
  have loop : ∀ (f : Nat) (m z : Int) (M1 N1 : xa_M), 0 ≤ m ∧ m ≤ 16 → (z = 0 ∨ z = 1) → tu_G M M1 → tu_F N0 N1 → ((M1 12 2 = 0 ∧ tu_R M1 N1 ∧ xm_R N + z ≤ xm_R N1 ∧ (z = 0 → ∀ m', 0 ≤ m' → m' < m → ¬ m' = but → N1 77 (N0 64 (N0 66 m')) = N1 77 (N0 64 (N0 67 m'))) ∧ ∀ r C9, tu_O N0 N but (xm_fC but f m z N1) r C9 → tu_O N0 N but (xm_fC but 17 0 0 N) r C9) ∨ (M1 12 2 = 1 ∧ ∀ r C9, C9 12 2 = 1 → tu_O N0 N but (xm_fC but 17 0 0 N) r C9)) → 16 - m < (f : Int) → Q 5 [(4, (0, 0, 0, 16, m)), (3, (0, 0, 0, 1, z)), (0, (2, 12, 0, 0, 0)), (1, (2, 1, 0, 0, 0)), (2, (0, 0, (-2147483648), 2147483647, but))] [] M1 := by
    intro f
    induction f with
    | zero => intro m z M1 N1 m1 zb hG hF hS hms; clear hS; omega
    | succ f ih =>
      intro m z M1 N1 m1 zb hG hF hS hms
      have e10 : M1 1 10 = N0 60 6 := (hG 1 10 (by omega)).trans hC0.1
      have hn6 := hM0.1
      have e6 : N1 60 6 = N0 60 6 := hF 60 6 (by omega) (by omega)
      have kk := fun h : m < N0 60 6 => tu_m hM0 hC0 hG hF m1.1 h
      rcases hS with ⟨h12, hR0, hRz, hfx, hO⟩ | ⟨h12, hO⟩
      · refine hgo.1 51 [5] 5 _ _ _ ?_
        refine And.intro ?_ ?_
        · intro (c1 : (M1 1 10) ≤ m)
          show xa_wk post (some (0, 0, 0, 1, z)) M1
          exact xa_wkI z rfl (fun _ _ => by omega) (k z M1 (hO z M1 (by rw [xm_fC_end (by omega)]; exact ⟨h12, ⟨rfl, zb⟩, hR0, hF, hRz, fun e m' a0 a1 a2 => hfx e m' a0 (by omega) a2⟩)) hG)
        · intro (c1 : m < (M1 1 10))
          have kk := kk (by omega)
          refine And.intro ?_ ?_
          · intro (c2 : ¬ (M1 12 2) = 0)
            show xa_wk post (some (0, 0, 0, 1, z)) M1
            exfalso
            omega
          · intro (c2 : (M1 12 2) = 0)
            show xa_C (xl_I b) A h0 _ 40 [(2, 1, 0, 0, 0), (0, 0, 0, 16, m)] M1 _
            refine cx_40_1 (show 0 ≤ m ∧ m < 16 by omega) ?_
            show xa_C (xl_I b) A h0 _ 41 [(2, 1, 0, 0, 0), (0, 0, 0, 16, m)] M1 _
            refine cx_41_1 (show 0 ≤ m ∧ m < 16 by omega) ?_
            show xa_C (xl_I b) A h0 _ 37 [(2, 1, 0, 0, 0), (0, 0, (-2147483648), 2147483647, M1 7 m)] M1 _
            refine cx_37_1 (show 0 ≤ (M1 7 m) ∧ (M1 7 m) < 14 by omega) ?_
            show xa_C (xl_I b) A h0 _ 50 [(2, 12, 0, 0, 0), (0, 0, (-2147483648), 2147483647, M1 5 (M1 7 m))] M1 _
            refine cx_50_12 (show 0 ≤ (M1 5 (M1 7 m)) ∧ (M1 5 (M1 7 m)) < 10 by omega) ?_ ?_
            · intro (i3 : (M1 14 (M1 5 (M1 7 m))) = 0)
              refine And.intro ?_ ?_
              · intro (c4 : m = but)
                show Q 5 [(4, (0, 0, 1, 17, m + 1)), (7, (0, 0, 0, 0, 0)), (6, (0, 0, (-2147483648), 2147483647, M1 8 m)), (5, (0, 0, (-2147483648), 2147483647, M1 7 m)), (3, (0, 0, 0, 1, z)), (0, (2, 12, 0, 0, 0)), (1, (2, 1, 0, 0, 0)), (2, (0, 0, (-2147483648), 2147483647, but))] [] M1
                have sk := tu_skip (m := m) (but := but) (z := z) (n := f) hM0 hC0 hG hF hR0 (by omega) (by omega) (by omega)
                refine hgo.2.1 5 _ [(4, (0, 0, 0, 16, m + 1)), (3, (0, 0, 0, 1, z)), (0, (2, 12, 0, 0, 0)), (1, (2, 1, 0, 0, 0)), (2, (0, 0, (-2147483648), 2147483647, but))] _ _ (xa_subI rfl rfl (fun _ _ _ _ => by omega) (xa_subI rfl rfl (fun _ _ _ _ => by omega) (xa_subR rfl (xa_subR rfl (xa_subI rfl rfl (fun _ _ _ _ => by omega) (xa_sub0)))))) ?_
                exact ih (m + 1) z M1 N1 (by omega) (by omega) hG hF (Or.inl ⟨h12, hR0, hRz, fun e m' a0 a1 a2 => by
                  by_cases q : m' = m
                  · rw [q] at a2 ⊢
                    exact sk.2 a2
                  · exact hfx e m' a0 (by omega) a2, fun r C9 h9 => hO r C9 (by rw [sk.1]; exact h9)⟩) (by omega)
              · intro (c4 : ¬ m = but)
                show xa_C (xl_I b) A h0 _ 37 [(2, 1, 0, 0, 0), (0, 0, (-2147483648), 2147483647, M1 8 m)] M1 _
                refine cx_37_1 (show 0 ≤ (M1 8 m) ∧ (M1 8 m) < 14 by omega) ?_
                show xa_C (xl_I b) A h0 _ 50 [(2, 12, 0, 0, 0), (0, 0, (-2147483648), 2147483647, M1 5 (M1 8 m))] M1 _
                refine cx_50_12 (show 0 ≤ (M1 5 (M1 8 m)) ∧ (M1 5 (M1 8 m)) < 10 by omega) ?_ ?_
                · intro (i5 : (M1 14 (M1 5 (M1 8 m))) = 0)
                  show Q 5 [(4, (0, 0, 1, 17, m + 1)), (7, (0, 0, 0, 0, 0)), (6, (0, 0, (-2147483648), 2147483647, M1 8 m)), (5, (0, 0, (-2147483648), 2147483647, M1 7 m)), (3, (0, 0, 0, 1, z)), (0, (2, 12, 0, 0, 0)), (1, (2, 1, 0, 0, 0)), (2, (0, 0, (-2147483648), 2147483647, but))] [] M1
                  have sk := tu_skip (m := m) (but := but) (z := z) (n := f) hM0 hC0 hG hF hR0 (by omega) (by omega) (by omega)
                  refine hgo.2.1 5 _ [(4, (0, 0, 0, 16, m + 1)), (3, (0, 0, 0, 1, z)), (0, (2, 12, 0, 0, 0)), (1, (2, 1, 0, 0, 0)), (2, (0, 0, (-2147483648), 2147483647, but))] _ _ (xa_subI rfl rfl (fun _ _ _ _ => by omega) (xa_subI rfl rfl (fun _ _ _ _ => by omega) (xa_subR rfl (xa_subR rfl (xa_subI rfl rfl (fun _ _ _ _ => by omega) (xa_sub0)))))) ?_
                  exact ih (m + 1) z M1 N1 (by omega) (by omega) hG hF (Or.inl ⟨h12, hR0, hRz, fun e m' a0 a1 a2 => by
                    by_cases q : m' = m
                    · rw [q] at a2 ⊢
                      exact sk.2 a2
                    · exact hfx e m' a0 (by omega) a2, fun r C9 h9 => hO r C9 (by rw [sk.1]; exact h9)⟩) (by omega)
                · intro (i6 : ¬ (M1 14 (M1 5 (M1 8 m))) = 0)
                  show xa_C (xl_I b) A h0 _ 53 [(2, 12, 0, 0, 0), (2, 1, 0, 0, 0), (0, 0, (-2147483648), 2147483647, M1 8 m), (0, 0, (-2147483648), 2147483647, M1 7 m)] M1 _
                  refine cx_53c kk.2.2.2.2.1 kk.2.2.2.1 kk.2.2.2.2.2.2.1 kk.2.2.2.2.2.1 (tu_pq hR0 kk.2.2.2.2.2.2.1 (by omega)).1 (tu_pq hR0 kk.2.2.2.2.2.2.1 (by omega)).2 kk.2.2.2.2.2.2.2.2 kk.2.2.2.2.2.2.2.1 ?_
                  intro g101 z102 (i7 : g101 = (Int.gcd (-(M1 13 (M1 5 (M1 8 m))) * (M1 4 (M1 8 m))) ((M1 14 (M1 5 (M1 8 m))) * (M1 4 (M1 7 m))) : Int)) (i8 : z102 = 0 ∨ z102 = 1) (i9 : z102 = 1 ↔ (1000000000000000 < (((-(M1 13 (M1 5 (M1 8 m))) * (M1 4 (M1 8 m))).tdiv g101).natAbs : Int) ∨ 1000000000000000 < ((M1 14 (M1 5 (M1 8 m))) * (M1 4 (M1 7 m))) / g101))
                  show Q 5 [(4, (0, 0, 1, 17, m + 1)), (3, (0, 0, 1, 1, 1)), (7, (0, 0, 0, 0, 0)), (6, (0, 0, (-2147483648), 2147483647, M1 8 m)), (5, (0, 0, (-2147483648), 2147483647, M1 7 m)), (0, (2, 12, 0, 0, 0)), (1, (2, 1, 0, 0, 0)), (2, (0, 0, (-2147483648), 2147483647, but))] [] (xa_up (xa_up (xa_up M1 13 (M1 5 (M1 7 m)) ((-(M1 13 (M1 5 (M1 8 m))) * (M1 4 (M1 8 m))).tdiv g101)) 14 (M1 5 (M1 7 m)) (((M1 14 (M1 5 (M1 8 m))) * (M1 4 (M1 7 m))) / g101)) 12 2 z102)
                  obtain ⟨sn, ss⟩ := tu_step (m := m) (but := but) (z := z) (n := f) (dr := (M1 8 m)) (dn := (M1 7 m)) hM0 hC0 hG hF hR0 (by omega) (by omega) (by omega) (Or.inr ⟨rfl, rfl⟩) (by omega) (by omega) i7 rfl rfl
                  have hG2 : tu_G M (xa_up (xa_up (xa_up M1 13 (M1 5 (M1 7 m)) ((-(M1 13 (M1 5 (M1 8 m))) * (M1 4 (M1 8 m))).tdiv g101)) 14 (M1 5 (M1 7 m)) (((M1 14 (M1 5 (M1 8 m))) * (M1 4 (M1 7 m))) / g101)) 12 2 z102) := fun q j h => (xa_up_ne (by omega)).trans ((xa_up_ne (by omega)).trans ((xa_up_ne (by omega)).trans (hG q j h)))
                  have h122 : (xa_up (xa_up (xa_up M1 13 (M1 5 (M1 7 m)) ((-(M1 13 (M1 5 (M1 8 m))) * (M1 4 (M1 8 m))).tdiv g101)) 14 (M1 5 (M1 7 m)) (((M1 14 (M1 5 (M1 8 m))) * (M1 4 (M1 7 m))) / g101)) 12 2 z102) 12 2 = z102 := xa_up_eq
                  refine hgo.2.1 5 _ [(4, (0, 0, 0, 16, m + 1)), (3, (0, 0, 0, 1, 1)), (0, (2, 12, 0, 0, 0)), (1, (2, 1, 0, 0, 0)), (2, (0, 0, (-2147483648), 2147483647, but))] _ _ (xa_subI rfl rfl (fun _ _ _ _ => by omega) (xa_subI rfl rfl (fun _ _ _ _ => by omega) (xa_subR rfl (xa_subR rfl (xa_subI rfl rfl (fun _ _ _ _ => by omega) (xa_sub0)))))) ?_
                  rcases i8 with z0 | z1
                  · obtain ⟨e1, e2, e3, e4⟩ := ss (fun h => by have := i9.mpr h; omega)
                    exact ih (m + 1) 1 (xa_up (xa_up (xa_up M1 13 (M1 5 (M1 7 m)) ((-(M1 13 (M1 5 (M1 8 m))) * (M1 4 (M1 8 m))).tdiv g101)) 14 (M1 5 (M1 7 m)) (((M1 14 (M1 5 (M1 8 m))) * (M1 4 (M1 7 m))) / g101)) 12 2 z102) _ (by omega) (by omega) hG2 e2 (Or.inl ⟨by rw [h122]; exact z0, e4 _ (fun a a0 a1 => tu_up2), by omega, fun e => absurd e (by decide), fun r C9 h9 => hO r C9 (by rw [e1]; exact h9)⟩) (by omega)
                  · exact ih (m + 1) 1 (xa_up (xa_up (xa_up M1 13 (M1 5 (M1 7 m)) ((-(M1 13 (M1 5 (M1 8 m))) * (M1 4 (M1 8 m))).tdiv g101)) 14 (M1 5 (M1 7 m)) (((M1 14 (M1 5 (M1 8 m))) * (M1 4 (M1 7 m))) / g101)) 12 2 z102) N1 (by omega) (by omega) hG2 hF (Or.inr ⟨by rw [h122]; exact z1, fun r C9 h9 => hO r C9 (by rw [sn (i9.mp z1)]; exact h9)⟩) (by omega)
            · intro (i10 : ¬ (M1 14 (M1 5 (M1 7 m))) = 0)
              refine And.intro ?_ ?_
              · intro (c11 : m = but)
                show Q 5 [(4, (0, 0, 1, 17, m + 1)), (7, (0, 0, 1, 1, 1)), (6, (0, 0, (-2147483648), 2147483647, M1 8 m)), (5, (0, 0, (-2147483648), 2147483647, M1 7 m)), (3, (0, 0, 0, 1, z)), (0, (2, 12, 0, 0, 0)), (1, (2, 1, 0, 0, 0)), (2, (0, 0, (-2147483648), 2147483647, but))] [] M1
                have sk := tu_skip (m := m) (but := but) (z := z) (n := f) hM0 hC0 hG hF hR0 (by omega) (by omega) (by omega)
                refine hgo.2.1 5 _ [(4, (0, 0, 0, 16, m + 1)), (3, (0, 0, 0, 1, z)), (0, (2, 12, 0, 0, 0)), (1, (2, 1, 0, 0, 0)), (2, (0, 0, (-2147483648), 2147483647, but))] _ _ (xa_subI rfl rfl (fun _ _ _ _ => by omega) (xa_subI rfl rfl (fun _ _ _ _ => by omega) (xa_subR rfl (xa_subR rfl (xa_subI rfl rfl (fun _ _ _ _ => by omega) (xa_sub0)))))) ?_
                exact ih (m + 1) z M1 N1 (by omega) (by omega) hG hF (Or.inl ⟨h12, hR0, hRz, fun e m' a0 a1 a2 => by
                  by_cases q : m' = m
                  · rw [q] at a2 ⊢
                    exact sk.2 a2
                  · exact hfx e m' a0 (by omega) a2, fun r C9 h9 => hO r C9 (by rw [sk.1]; exact h9)⟩) (by omega)
              · intro (c11 : ¬ m = but)
                show xa_C (xl_I b) A h0 _ 37 [(2, 1, 0, 0, 0), (0, 0, (-2147483648), 2147483647, M1 8 m)] M1 _
                refine cx_37_1 (show 0 ≤ (M1 8 m) ∧ (M1 8 m) < 14 by omega) ?_
                show xa_C (xl_I b) A h0 _ 50 [(2, 12, 0, 0, 0), (0, 0, (-2147483648), 2147483647, M1 5 (M1 8 m))] M1 _
                refine cx_50_12 (show 0 ≤ (M1 5 (M1 8 m)) ∧ (M1 5 (M1 8 m)) < 10 by omega) ?_ ?_
                · intro (i12 : (M1 14 (M1 5 (M1 8 m))) = 0)
                  show xa_C (xl_I b) A h0 _ 53 [(2, 12, 0, 0, 0), (2, 1, 0, 0, 0), (0, 0, (-2147483648), 2147483647, M1 7 m), (0, 0, (-2147483648), 2147483647, M1 8 m)] M1 _
                  refine cx_53c kk.2.2.2.1 kk.2.2.2.2.1 kk.2.2.2.2.2.1 kk.2.2.2.2.2.2.1 (tu_pq hR0 kk.2.2.2.2.2.1 (by omega)).1 (tu_pq hR0 kk.2.2.2.2.2.1 (by omega)).2 kk.2.2.2.2.2.2.2.1 kk.2.2.2.2.2.2.2.2 ?_
                  intro g103 z104 (i13 : g103 = (Int.gcd (-(M1 13 (M1 5 (M1 7 m))) * (M1 4 (M1 7 m))) ((M1 14 (M1 5 (M1 7 m))) * (M1 4 (M1 8 m))) : Int)) (i14 : z104 = 0 ∨ z104 = 1) (i15 : z104 = 1 ↔ (1000000000000000 < (((-(M1 13 (M1 5 (M1 7 m))) * (M1 4 (M1 7 m))).tdiv g103).natAbs : Int) ∨ 1000000000000000 < ((M1 14 (M1 5 (M1 7 m))) * (M1 4 (M1 8 m))) / g103))
                  show Q 5 [(4, (0, 0, 1, 17, m + 1)), (3, (0, 0, 1, 1, 1)), (7, (0, 0, 1, 1, 1)), (6, (0, 0, (-2147483648), 2147483647, M1 8 m)), (5, (0, 0, (-2147483648), 2147483647, M1 7 m)), (0, (2, 12, 0, 0, 0)), (1, (2, 1, 0, 0, 0)), (2, (0, 0, (-2147483648), 2147483647, but))] [] (xa_up (xa_up (xa_up M1 13 (M1 5 (M1 8 m)) ((-(M1 13 (M1 5 (M1 7 m))) * (M1 4 (M1 7 m))).tdiv g103)) 14 (M1 5 (M1 8 m)) (((M1 14 (M1 5 (M1 7 m))) * (M1 4 (M1 8 m))) / g103)) 12 2 z104)
                  obtain ⟨sn, ss⟩ := tu_step (m := m) (but := but) (z := z) (n := f) (dr := (M1 7 m)) (dn := (M1 8 m)) hM0 hC0 hG hF hR0 (by omega) (by omega) (by omega) (Or.inl ⟨rfl, rfl⟩) (by omega) (by omega) i13 rfl rfl
                  have hG2 : tu_G M (xa_up (xa_up (xa_up M1 13 (M1 5 (M1 8 m)) ((-(M1 13 (M1 5 (M1 7 m))) * (M1 4 (M1 7 m))).tdiv g103)) 14 (M1 5 (M1 8 m)) (((M1 14 (M1 5 (M1 7 m))) * (M1 4 (M1 8 m))) / g103)) 12 2 z104) := fun q j h => (xa_up_ne (by omega)).trans ((xa_up_ne (by omega)).trans ((xa_up_ne (by omega)).trans (hG q j h)))
                  have h122 : (xa_up (xa_up (xa_up M1 13 (M1 5 (M1 8 m)) ((-(M1 13 (M1 5 (M1 7 m))) * (M1 4 (M1 7 m))).tdiv g103)) 14 (M1 5 (M1 8 m)) (((M1 14 (M1 5 (M1 7 m))) * (M1 4 (M1 8 m))) / g103)) 12 2 z104) 12 2 = z104 := xa_up_eq
                  refine hgo.2.1 5 _ [(4, (0, 0, 0, 16, m + 1)), (3, (0, 0, 0, 1, 1)), (0, (2, 12, 0, 0, 0)), (1, (2, 1, 0, 0, 0)), (2, (0, 0, (-2147483648), 2147483647, but))] _ _ (xa_subI rfl rfl (fun _ _ _ _ => by omega) (xa_subI rfl rfl (fun _ _ _ _ => by omega) (xa_subR rfl (xa_subR rfl (xa_subI rfl rfl (fun _ _ _ _ => by omega) (xa_sub0)))))) ?_
                  rcases i14 with z0 | z1
                  · obtain ⟨e1, e2, e3, e4⟩ := ss (fun h => by have := i15.mpr h; omega)
                    exact ih (m + 1) 1 (xa_up (xa_up (xa_up M1 13 (M1 5 (M1 8 m)) ((-(M1 13 (M1 5 (M1 7 m))) * (M1 4 (M1 7 m))).tdiv g103)) 14 (M1 5 (M1 8 m)) (((M1 14 (M1 5 (M1 7 m))) * (M1 4 (M1 8 m))) / g103)) 12 2 z104) _ (by omega) (by omega) hG2 e2 (Or.inl ⟨by rw [h122]; exact z0, e4 _ (fun a a0 a1 => tu_up2), by omega, fun e => absurd e (by decide), fun r C9 h9 => hO r C9 (by rw [e1]; exact h9)⟩) (by omega)
                  · exact ih (m + 1) 1 (xa_up (xa_up (xa_up M1 13 (M1 5 (M1 8 m)) ((-(M1 13 (M1 5 (M1 7 m))) * (M1 4 (M1 7 m))).tdiv g103)) 14 (M1 5 (M1 8 m)) (((M1 14 (M1 5 (M1 7 m))) * (M1 4 (M1 8 m))) / g103)) 12 2 z104) N1 (by omega) (by omega) hG2 hF (Or.inr ⟨by rw [h122]; exact z1, fun r C9 h9 => hO r C9 (by rw [sn (i15.mp z1)]; exact h9)⟩) (by omega)
                · intro (i16 : ¬ (M1 14 (M1 5 (M1 8 m))) = 0)
                  show Q 5 [(4, (0, 0, 1, 17, m + 1)), (7, (0, 0, 1, 1, 1)), (6, (0, 0, (-2147483648), 2147483647, M1 8 m)), (5, (0, 0, (-2147483648), 2147483647, M1 7 m)), (3, (0, 0, 0, 1, z)), (0, (2, 12, 0, 0, 0)), (1, (2, 1, 0, 0, 0)), (2, (0, 0, (-2147483648), 2147483647, but))] [] M1
                  have sk := tu_skip (m := m) (but := but) (z := z) (n := f) hM0 hC0 hG hF hR0 (by omega) (by omega) (by omega)
                  refine hgo.2.1 5 _ [(4, (0, 0, 0, 16, m + 1)), (3, (0, 0, 0, 1, z)), (0, (2, 12, 0, 0, 0)), (1, (2, 1, 0, 0, 0)), (2, (0, 0, (-2147483648), 2147483647, but))] _ _ (xa_subI rfl rfl (fun _ _ _ _ => by omega) (xa_subI rfl rfl (fun _ _ _ _ => by omega) (xa_subR rfl (xa_subR rfl (xa_subI rfl rfl (fun _ _ _ _ => by omega) (xa_sub0)))))) ?_
                  exact ih (m + 1) z M1 N1 (by omega) (by omega) hG hF (Or.inl ⟨h12, hR0, hRz, fun e m' a0 a1 a2 => by
                    by_cases q : m' = m
                    · rw [q] at a2 ⊢
                      exact sk.2 a2
                    · exact hfx e m' a0 (by omega) a2, fun r C9 h9 => hO r C9 (by rw [sk.1]; exact h9)⟩) (by omega)
      · refine hgo.1 51 [5] 5 _ _ _ ?_
        refine And.intro ?_ ?_
        · intro (c1 : (M1 1 10) ≤ m)
          show xa_wk post (some (0, 0, 0, 1, z)) M1
          exact xa_wkI z rfl (fun _ _ => by omega) (k z M1 (hO z M1 h12) hG)
        · intro (c1 : m < (M1 1 10))
          have kk := kk (by omega)
          refine And.intro ?_ ?_
          · intro (c2 : ¬ (M1 12 2) = 0)
            show xa_wk post (some (0, 0, 0, 1, z)) M1
            exact xa_wkI z rfl (fun _ _ => by omega) (k z M1 (hO z M1 h12) hG)
          · intro (c2 : (M1 12 2) = 0)
            exfalso
            omega
  refine hgo.1 9 [5] 0 _ _ _ ?_
  show Q 5 [(4, (0, 0, 0, 0, 0)), (3, (0, 0, 0, 0, 0)), (0, (2, 12, 0, 0, 0)), (1, (2, 1, 0, 0, 0)), (2, (0, 0, (-2147483648), 2147483647, but))] [] M
  refine hgo.2.1 5 _ [(4, (0, 0, 0, 16, 0)), (3, (0, 0, 0, 1, 0)), (0, (2, 12, 0, 0, 0)), (1, (2, 1, 0, 0, 0)), (2, (0, 0, (-2147483648), 2147483647, but))] _ _ (xa_subI rfl rfl (fun _ _ _ _ => by omega) (xa_subI rfl rfl (fun _ _ _ _ => by omega) (xa_subR rfl (xa_subR rfl (xa_subI rfl rfl (fun _ _ _ _ => by omega) (xa_sub0)))))) ?_
  exact loop 17 0 0 M N (by omega) (by omega) (fun _ _ _ => rfl) hF0 (Or.inl ⟨h120, hR0, by omega, fun _ m' a0 a1 => by omega, fun _ _ h => h⟩) (by omega)

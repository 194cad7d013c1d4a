-- doubles that are not NaN
set_option maxRecDepth 20000
/-- a datum that is none of not a number, and fits -/
def fd_ok : FP.Core.Datum → Prop
  | .nan => False
  | .inf _ => True
  | .fin _ c q => c < 9007199254740992 ∧ -1074 ≤ q ∧ q ≤ 971
theorem fd_asm (s : Bool) (e t : Nat) : FP.Core.assemble FP.Core.b64 s e t = (s.toNat * 2048 + e) * 4503599627370496 + t := rfl
theorem fd_enc {d : FP.Core.Datum} (h : fd_ok d) : FP.Core.encode FP.Core.b64 d < 18446744073709551616 ∧ FP.Core.encode FP.Core.b64 d % 9223372036854775808 ≤ 9218868437227405312 := by
  cases d with
  | nan => exact absurd h id
  | inf s =>
    show FP.Core.assemble FP.Core.b64 s 2047 0 < _ ∧ FP.Core.assemble FP.Core.b64 s 2047 0 % _ ≤ _
    rw [fd_asm]
    cases s <;> decide
  | fin s c q =>
    have e1 : FP.Core.Fmt.qmin FP.Core.b64 = -1074 := by decide
    have e2 : FP.Core.Fmt.tails FP.Core.b64 = 4503599627370496 := by decide
    obtain ⟨h1, h2, h3⟩ := h
    have hs : s.toNat ≤ 1 := by cases s <;> decide
    unfold FP.Core.encode
    simp only [e1, e2]
    split
    · rw [fd_asm]
      omega
    · rw [fd_asm]
      omega
theorem fd_rnd (s : Bool) (num den : Nat) (e : Int) : fd_ok (FP.Core.roundRatio FP.Core.b64 s num den e) := by
  have e1 : FP.Core.Fmt.qmin FP.Core.b64 = -1074 := by decide
  have e2 : FP.Core.Fmt.tails FP.Core.b64 = 4503599627370496 := by decide
  have e3 : FP.Core.Fmt.qmax FP.Core.b64 = 971 := by decide
  have e4 : (2 : Nat) ^ FP.Core.b64.p = 9007199254740992 := by decide
  have hb : ∀ (s : Bool) (c : Nat) (q : Int), c < 9007199254740992 → -1074 ≤ q → fd_ok (FP.Core.bound FP.Core.b64 s c q) := by
    intro s c q hc hq
    unfold FP.Core.bound
    rw [e3]
    split
    · rename_i h
      exact ⟨hc, hq, h⟩
    · exact trivial
  unfold FP.Core.roundRatio
  split
  · rw [e1]
    exact ⟨by decide, by decide, by decide⟩
  · unfold FP.Core.roundAt FP.Core.settle
    have hq : -1074 ≤ FP.Core.quantum FP.Core.b64 num den e := by
      unfold FP.Core.quantum
      rw [e1]
      exact Int.le_max_left _ _
    rw [e4, e2]
    split
    · rename_i h
      exact hb _ _ _ h hq
    · exact hb _ _ _ (by decide) (by omega)
theorem fd_n64 {n : Nat} (h1 : n < 18446744073709551616) (h2 : n % 9223372036854775808 ≤ 9218868437227405312) : vf_n64 (UInt64.ofNat n) := by
  unfold vf_n64
  rw [UInt64.le_iff_toNat_le, UInt64.toNat_and]
  have e : (UInt64.ofNat n).toNat = n := by
    rw [UInt64.toNat_ofNat']
    omega
  rw [e]
  show n &&& (2 ^ 63 - 1) ≤ 9218868437227405312
  rw [Nat.and_two_pow_sub_one_eq_mod]
  exact h2
theorem fd_dec {x : UInt64} (h : vf_n64 x) : FP.Core.decode FP.Core.b64 x.toNat ≠ .nan := by
  unfold vf_n64 at h
  rw [UInt64.le_iff_toNat_le, UInt64.toNat_and] at h
  have h : x.toNat &&& (2 ^ 63 - 1) ≤ 9218868437227405312 := h
  rw [Nat.and_two_pow_sub_one_eq_mod] at h
  have hE : FP.Core.fieldE FP.Core.b64 x.toNat = x.toNat / 4503599627370496 % 2048 := rfl
  have hT : FP.Core.fieldT FP.Core.b64 x.toNat = x.toNat % 4503599627370496 := rfl
  unfold FP.Core.decode
  split
  · rename_i c
    rw [hE] at c
    have c : x.toNat / 4503599627370496 % 2048 = 2047 := c
    split
    · simp
    · rename_i c2
      rw [hT] at c2
      omega
  · split <;> simp
theorem fd_mul {x y : UInt64} {t : Bool} {d : Nat} {r : Int} (hx : vf_n64 x) (hy : FP.Core.decode FP.Core.b64 y.toNat = .fin t d r) (hd : d ≠ 0) : vf_n64 (FP.dmul x y) := by
  have hx := fd_dec hx
  have k : fd_ok (FP.Core.round FP.Core.b64 (FP.Core.exactProduct (FP.Core.decode FP.Core.b64 x.toNat) (FP.Core.decode FP.Core.b64 y.toNat))) := by
    rw [hy]
    cases e : FP.Core.decode FP.Core.b64 x.toNat with
    | nan => exact absurd e hx
    | inf s =>
      show fd_ok (FP.Core.round FP.Core.b64 (if d = 0 then .nan else .inf (s != t)))
      rw [if_neg hd]
      exact trivial
    | fin s c q => exact fd_rnd _ _ _ _
  exact fd_n64 (fd_enc k).1 (fd_enc k).2
theorem fd_div {x y : UInt64} {t : Bool} {d : Nat} {r : Int} (hx : vf_n64 x) (hy : FP.Core.decode FP.Core.b64 y.toNat = .fin t d r) (hd : d ≠ 0) : vf_n64 (FP.ddiv x y) := by
  have hx := fd_dec hx
  have k : fd_ok (FP.Core.quotient FP.Core.b64 (FP.Core.decode FP.Core.b64 x.toNat) (FP.Core.decode FP.Core.b64 y.toNat)) := by
    rw [hy]
    cases e : FP.Core.decode FP.Core.b64 x.toNat with
    | nan => exact absurd e hx
    | inf s => exact trivial
    | fin s c q =>
      show fd_ok (if d = 0 then (if c = 0 then .nan else .inf (s != t)) else FP.Core.roundRatio FP.Core.b64 (s != t) c d (q - r))
      rw [if_neg hd]
      exact fd_rnd _ _ _ _
  exact fd_n64 (fd_enc k).1 (fd_enc k).2
theorem fd_i2d (a : Int32) : vf_n64 (FP.i2d a) := by
  have k : fd_ok (FP.Core.round FP.Core.b64 (FP.Core.ofInt a.toInt)) := fd_rnd _ _ _ _
  exact fd_n64 (fd_enc k).1 (fd_enc k).2
def fd_chk (n : Nat) : Bool := Nat.beq n 0 || (match FP.Core.decode FP.Core.b64 (UInt64.ofNat (FP.Core.fromInt FP.Core.b64 (n : Int))).toNat with
  | .fin _ d _ => !(Nat.beq d 0)
  | _ => false)
theorem fd_chk_all : (List.range 2001).all fd_chk = true := by decide +kernel
theorem fd_int {a : Int32} (h1 : 1 ≤ a.toInt) (h2 : a.toInt ≤ 2000) : ∃ t d r, FP.Core.decode FP.Core.b64 (FP.i2d a).toNat = .fin t d r ∧ d ≠ 0 := by
  have hm : a.toInt.toNat ∈ List.range 2001 := List.mem_range.2 (by omega)
  have h := List.all_eq_true.1 fd_chk_all _ hm
  unfold fd_chk at h
  rw [Bool.or_eq_true] at h
  rcases h with h | h
  · have := Nat.eq_of_beq_eq_true h
    omega
  · rw [show ((a.toInt.toNat : Nat) : Int) = a.toInt from Int.toNat_of_nonneg (by omega)] at h
    have h : (match FP.Core.decode FP.Core.b64 (FP.i2d a).toNat with
      | .fin _ d _ => !(Nat.beq d 0)
      | _ => false) = true := h
    cases e : FP.Core.decode FP.Core.b64 (FP.i2d a).toNat with
    | nan =>
      rw [e] at h
      exact absurd h (by decide)
    | inf s =>
      rw [e] at h
      exact absurd h (by simp)
    | fin s d r =>
      rw [e] at h
      refine ⟨s, d, r, rfl, fun z => ?_⟩
      subst z
      have h : (false : Bool) = true := h
      exact absurd h (by decide)

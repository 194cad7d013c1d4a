set_option maxRecDepth 20000
/-- layers of the wheels: valid; least from w on -/
def rw_va (n : Int) (W : Int → Int → Prop) (al : (Int → Int) → Prop) (k : Int) (f : Int → Int) : Prop := (∀ v, 0 ≤ v → v < n → 0 ≤ f v ∧ f v < k) ∧ al f ∧ ∀ v u, 0 ≤ v → v < u → u < n → W v u → ¬ f v = f u
def rw_ls (n : Int) (W : Int → Int → Prop) (al : (Int → Int) → Prop) (k w : Int) (P : Int → Int) : Prop := ∀ x, w ≤ x → x < n → ∀ f, rw_va n W al k f → (∀ v, 0 ≤ v → v < x → f v = P v) → P x ≤ f x
def rw_al (n : Int) (z f : Int → Int) : Prop := ∀ v u, 0 ≤ v → v < n → 0 ≤ u → u < n → z v = z u → f v = f u
def rw_am (a b : Int → Int) (mm : Int) (f : Int → Int) : Prop := ∀ m, 0 ≤ m → m < mm → f (a m) = f (b m)
def rw_s151 (n : Int) (W : Int → Int → Prop) (a b : Int → Int) (mm k : Int) (V : Int → Int) : Prop := rw_va n W (rw_am a b mm) k V ∧ rw_ls n W (rw_am a b mm) k 0 V
theorem rw_va_e {n n' k k' : Int} {W W' : Int → Int → Prop} {al al' : (Int → Int) → Prop} {f : Int → Int} (en : n = n') (ek : k = k') (eW : ∀ v u, 0 ≤ v → v < n → 0 ≤ u → u < n → (W v u ↔ W' v u)) (ea : ∀ f, al f ↔ al' f) : rw_va n W al k f ↔ rw_va n' W' al' k' f := by
  subst en
  subst ek
  constructor
  · intro ⟨h1, h2, h3⟩
    exact ⟨h1, (ea f).mp h2, fun v u v0 vu u1 w => h3 v u v0 vu u1 ((eW v u v0 (by omega) (by omega) u1).mpr w)⟩
  · intro ⟨h1, h2, h3⟩
    exact ⟨h1, (ea f).mpr h2, fun v u v0 vu u1 w => h3 v u v0 vu u1 ((eW v u v0 (by omega) (by omega) u1).mp w)⟩
theorem rw_ls_e {n n' k k' w : Int} {W W' : Int → Int → Prop} {al al' : (Int → Int) → Prop} {P : Int → Int} (en : n = n') (ek : k = k') (eW : ∀ v u, 0 ≤ v → v < n → 0 ≤ u → u < n → (W v u ↔ W' v u)) (ea : ∀ f, al f ↔ al' f) (h : rw_ls n W al k w P) : rw_ls n' W' al' k' w P := fun x x0 x1 f hf hv => h x x0 (by omega) f ((rw_va_e en ek eW ea).mpr hf) hv
theorem rw_s151_e {n n' mm mm' k k' : Int} {W W' : Int → Int → Prop} {a b a' b' V : Int → Int} (en : n = n') (em : mm = mm') (ek : k = k') (eW : ∀ v u, 0 ≤ v → v < n → 0 ≤ u → u < n → (W v u ↔ W' v u)) (e1 : ∀ m, 0 ≤ m → m < mm → a m = a' m) (e2 : ∀ m, 0 ≤ m → m < mm → b m = b' m) (h : rw_s151 n W a b mm k V) : rw_s151 n' W' a' b' mm' k' V := by
  have ea : ∀ f, rw_am a b mm f ↔ rw_am a' b' mm' f := fun f => by
    subst em
    constructor
    · intro h m m0 m1
      rw [← e1 m m0 m1, ← e2 m m0 m1]
      exact h m m0 m1
    · intro h m m0 m1
      rw [e1 m m0 m1, e2 m m0 m1]
      exact h m m0 m1
  exact ⟨(rw_va_e en ek eW ea).mp h.1, rw_ls_e en ek eW ea h.2⟩
theorem rw_s151_one {n mm k : Int} {W : Int → Int → Prop} {a b V V' : Int → Int} (h : rw_s151 n W a b mm k V) (h' : rw_s151 n W a b mm k V') : ∀ i, 0 ≤ i → i < n → V i = V' i := by
  have key : ∀ x : Nat, ∀ i, 0 ≤ i → i < (x : Int) → i < n → V i = V' i := by
    intro x
    induction x with
    | zero =>
      intro i i0 i1 i2
      exfalso
      omega
    | succ x ih =>
      intro i i0 i1 i2
      by_cases c : i < (x : Int)
      · exact ih i i0 c i2
      · have a := h.2 i i0 i2 V' h'.1 (fun v v0 v1 => (ih v v0 (by omega) (by omega)).symm)
        have b := h'.2 i i0 i2 V h.1 (fun v v0 v1 => ih v v0 (by omega) (by omega))
        omega
  exact fun i i0 i1 => key (i.toNat + 1) i i0 (by omega) i1
theorem rw_alm {n mm : Int} {a b z : Int → Int} (hab : xk_ab n mm a b) (z1 : ∀ m, 0 ≤ m → m < mm → z (a m) = z (b m)) (z2 : ∀ R : Int → Prop, dq_i a b mm R → ∀ w, 0 ≤ w → w < n → (R w ↔ R (z w))) (f : Int → Int) : rw_al n z f ↔ rw_am a b mm f := by
  constructor
  · intro h m m0 m1
    obtain ⟨⟨a0, a1⟩, b0, b1⟩ := hab m m0 m1
    exact h _ _ a0 a1 b0 b1 (z1 m m0 m1)
  · intro h v u v0 v1 u0 u1 e
    have hi : ∀ c, dq_i a b mm (fun x => f x = c) := fun c m m0 m1 => by
      show f (a m) = c ↔ f (b m) = c
      rw [h m m0 m1]
    have p : f (z v) = f v := (z2 (fun x => f x = f v) (hi (f v)) v v0 v1).mp rfl
    have q : f (z u) = f u := (z2 (fun x => f x = f u) (hi (f u)) u u0 u1).mp rfl
    rw [← p, ← q, e]
/-- the reference's recursion tells: valid, and least from w on -/
def rw_pt (M : xa_M) (w m : Int) (P : Int → Int) : Prop := rw_va (M 60 0) (xm_inw M) (rw_al (M 60 0) (M 93)) m P ∧ rw_ls (M 60 0) (xm_inw M) (rw_al (M 60 0) (M 93)) m w P
theorem rw_pt_V {M : xa_M} {w u m : Int} (hw : w = M 60 0) (hV : dp_V M w u m) : rw_pt M w m (M 94) := by
  subst hw
  exact ⟨⟨fun v v0 v1 => by have := hV.1 v v0 v1; omega, fun v x v0 v1 x0 x1 e => hV.2.1 v x v0 v1 x0 x1 e, fun v x v0 vx x1 hi => hV.2.2 v x v0 vx x1 hi⟩, fun x x0 x1 => by
    exfalso
    omega⟩
theorem rw_pt_m {M M1 : xa_M} {w m x : Int} {P : Int → Int} (h : xm_94 w M M1) (hp : rw_pt M1 x m P) : rw_pt M x m P := by
  unfold rw_pt at hp
  rw [h 60 0 (by omega), show M1 93 = M 93 from funext (fun v => h 93 v (by omega)), show xm_inw M1 = xm_inw M from funext (fun a => funext (fun b => propext (xm_inw_c (xm_94_c h))))] at hp
  exact hp
theorem rw_pt_1 {M : xa_M} {w m d : Int} {P : Int → Int} (w0 : 0 ≤ w) (w1 : w < M 60 0) (hz : 0 ≤ M 93 w ∧ M 93 (M 93 w) = M 93 w) (hno : ∀ d', 0 ≤ d' → d' < d → ¬ dp_Z M w m d') (hP : ∀ v, 0 ≤ v → v < w → P v = M 94 v) (hPw : P w = d) (h : rw_pt M (w + 1) m P) : rw_pt M w m P := by
  refine ⟨h.1, fun x x0 x1 f hf hv => ?_⟩
  by_cases c : x = w
  · rw [c] at hv ⊢
    rw [hPw]
    refine Classical.byContradiction (fun g => ?_)
    obtain ⟨f1, f2, f3⟩ := hf
    refine hno (f w) (f1 w w0 w1).1 (by omega) ⟨fun hzw => ?_, fun v v0 vw e hi => ?_, fun P' hP' hPw' => ⟨f, f1, f2, f3, fun v v0 v1 => ?_⟩⟩
    · rw [← hP _ hz.1 hzw, ← hv _ hz.1 hzw]
      exact f2 _ _ hz.1 (by omega) w0 w1 hz.2
    · refine f3 v w v0 vw w1 hi ?_
      rw [hv v v0 vw, hP v v0 vw, e]
    · by_cases ev : v = w
      · rw [ev, hPw']
      · rw [hv v v0 (by omega), hP v v0 (by omega), hP' v v0 (by omega)]
  · exact h.2 x (by omega) x1 f hf hv
/-- what a class's call keeps that doesn't tell -/
def rw_Kd (N M : xa_M) : Prop := dp_K N M ∧ ∀ j : Int, M 48 j = N 48 j ∧ M 49 j = N 49 j
theorem rw_Kr {M : xa_M} : rw_Kd M M := ⟨dp_Kr, fun _ => ⟨rfl, rfl⟩⟩
theorem rw_Kt {N M M1 : xa_M} (h : rw_Kd N M) (h1 : rw_Kd M M1) : rw_Kd N M1 := ⟨dp_Kt h.1 h1.1, fun j => ⟨(h1.2 j).1.trans (h.2 j).1, (h1.2 j).2.trans (h.2 j).2⟩⟩
theorem rw_Kq {M M1 : xa_M} {q0 : Nat} (hq : 35 ≤ q0 ∧ q0 ≤ 37) (h : ∀ (q : Nat) (j : Int), ¬ q = q0 → M1 q j = M q j) : rw_Kd M M1 := ⟨dp_Kq (Or.inl hq) h, fun j => ⟨h 48 j (by omega), h 49 j (by omega)⟩⟩
theorem rw_Ku {N M : xa_M} {q0 : Nat} {i v : Int} (hq : (35 ≤ q0 ∧ q0 ≤ 37) ∨ (q0 = 34 ∧ i = 3)) (h : rw_Kd N M) : rw_Kd N (xa_up M q0 i v) := ⟨dp_Ku (by omega) h.1, fun j => ⟨(xa_up_ne (by omega)).trans (h.2 j).1, (xa_up_ne (by omega)).trans (h.2 j).2⟩⟩
/-- the class's groups are numbered as they come -/
def rw_Oq (n : Int) (p : Int → Int) : Prop := ∀ v g, 0 ≤ v → v < n → 0 ≤ g → g < p v → ∃ u, (0 ≤ u ∧ u < v) ∧ p u = g
def rw_P (n mm : Int) (a b p : Int → Int) (G w : Int) : Prop := dp_P n mm a b p G w ∧ (∀ g, 0 ≤ g → g < G → ∃ u, (0 ≤ u ∧ u < w) ∧ p u = g) ∧ rw_Oq n p
theorem rw_P0 {n mm : Int} {a b p : Int → Int} (hn : n ≤ 14) (hab : xk_ab n mm a b) (h : ∀ t, 0 ≤ t → t < 14 → p t = -1) : rw_P n mm a b p 0 0 := ⟨dp_P0 hn hab h, fun g g0 g1 => by
  exfalso
  omega, fun v g v0 v1 g0 g1 => by
  rw [h v v0 (by omega)] at g1
  exfalso
  omega⟩
theorem rw_Ps {n mm w : Int} {a b p : Int → Int} {G : Int} (hP : rw_P n mm a b p G w) (h : ¬ p w = -1) : rw_P n mm a b p G (w + 1) := ⟨dp_Ps hP.1 h, fun g g0 g1 => by
  obtain ⟨u, hu, e⟩ := hP.2.1 g g0 g1
  exact ⟨u, by omega, e⟩, hP.2.2⟩
theorem rw_Pn {n mm w B : Int} {a b p p' : Int → Int} {G : Int} (hn : n ≤ 14) (hab : xk_ab n mm a b) (hP : rw_P n mm a b p G w) (w0 : 0 ≤ w) (w1 : w < n) (hw : p w = -1) (hb : bt B w = 1) (hcl : dp_cls mm a b B) (hsd : dp_sd mm a b w B) (hp : ∀ t, 0 ≤ t → t < n → (bt B t = 1 → p' t = G) ∧ (¬ bt B t = 1 → p' t = p t)) : rw_P n mm a b p' (G + 1) (w + 1) := by
  obtain ⟨hP, h1, h2⟩ := hP
  have q3 := hP.2.2.2.1
  have q2 := hP.2.2.1
  have un : ∀ t, 0 ≤ t → t < n → bt B t = 1 → p t = -1 := fun t t0 t1 h => hsd (fun x => p x = -1) (dq_ic q3) hw t t0 (by omega) h
  have old : ∀ u, 0 ≤ u → u < n → ¬ p u = -1 → p' u = p u := fun u u0 u1 h => (hp u u0 u1).2 (fun e => h (un u u0 u1 e))
  refine ⟨dp_Pn hn hab hP w0 w1 hw hb hcl hsd hp, fun g g0 g1 => ?_, fun v g v0 v1 g0 g1 => ?_⟩
  · by_cases c : g = G
    · exact ⟨w, by omega, by rw [c]; exact (hp w w0 w1).1 hb⟩
    · obtain ⟨u, hu, e⟩ := h1 g g0 (by omega)
      exact ⟨u, by omega, (old u hu.1 (by omega) (by omega)).trans e⟩
  · by_cases c : bt B v = 1
    · have e := (hp v v0 v1).1 c
      have ev := un v v0 v1 c
      have hv : w ≤ v := by
        refine Classical.byContradiction (fun x => ?_)
        exact q2 v v0 (by omega) ev
      obtain ⟨u, hu, e2⟩ := h1 g g0 (by omega)
      exact ⟨u, by omega, (old u hu.1 (by omega) (by omega)).trans e2⟩
    · rw [(hp v v0 v1).2 c] at g1
      obtain ⟨u, hu, e2⟩ := h2 v g v0 v1 g0 g1
      exact ⟨u, hu, (old u hu.1 (by omega) (by omega)).trans e2⟩
def rw_gq (n mm : Int) (a b p : Int → Int) (G : Int) : Prop := dq_g n mm a b p G ∧ rw_Oq n p
/-- layers of the groups: valid; the first g are the least that go on -/
def rw_gv (G : Int) (C : Int → Int → Prop) (k : Int) (F : Int → Int) : Prop := (∀ t, 0 ≤ t → t < G → 0 ≤ F t ∧ F t < k) ∧ ∀ s t, 0 ≤ s → s < G → 0 ≤ t → t < G → C s t → ¬ F s = F t
def rw_gi (G : Int) (C : Int → Int → Prop) (k g : Int) (L : Int → Int) : Prop := (∃ F, rw_gv G C k F ∧ ∀ s, 0 ≤ s → s < g → F s = L s) ∧ ∀ t, 0 ≤ t → t < g → ∀ F, rw_gv G C k F → (∀ s, 0 ≤ s → s < t → F s = L s) → L t ≤ F t
theorem rw_gi0 {G k : Int} {C : Int → Int → Prop} {L : Int → Int} (h : dq_X G C (fun _ => True) (fun _ => -1) k) : rw_gi G C k 0 L := by
  obtain ⟨f, f1, f2, -⟩ := h
  exact ⟨⟨f, ⟨fun t t0 t1 => f1 t t0 t1 trivial, fun s t s0 s1 t0 t1 c => f2 s t s0 s1 t0 t1 trivial trivial c⟩, fun s s0 s1 => by
    exfalso
    omega⟩, fun t t0 t1 => by
    exfalso
    omega⟩
/-- in the search for group g's layer: those below c are refused, or one is found -/
def rw_gs (G : Int) (C : Int → Int → Prop) (k g c set : Int) (Lb L : Int → Int) : Prop := (∀ s, ¬ s = g → L s = Lb s) ∧ ((set = 0 ∧ ∀ F, rw_gv G C k F → (∀ s, 0 ≤ s → s < g → F s = Lb s) → c ≤ F g) ∨ (set = 1 ∧ rw_gi G C k (g + 1) L))
theorem rw_gs0 {G k g : Int} {C : Int → Int → Prop} {L : Int → Int} (hg : 0 ≤ g ∧ g < G) : rw_gs G C k g 0 0 L L := ⟨fun _ _ => rfl, Or.inl ⟨rfl, fun F hF _ => (hF.1 g hg.1 hg.2).1⟩⟩
theorem rw_gs_y {G k g c set : Int} {C : Int → Int → Prop} {Lb L : Int → Int} (hs : ¬ set = 0) (h : rw_gs G C k g c set Lb L) : rw_gi G C k (g + 1) L := by
  rcases h.2 with ⟨e, -⟩ | ⟨-, e⟩
  · exact absurd e hs
  · exact e
theorem rw_gs_end {G k g c set : Int} {C : Int → Int → Prop} {Lb L : Int → Int} (hg : 0 ≤ g ∧ g < G) (hk : k ≤ c) (hi : rw_gi G C k g Lb) (h : rw_gs G C k g c set Lb L) : rw_gi G C k (g + 1) L := by
  rcases h.2 with ⟨-, e⟩ | ⟨-, e⟩
  · exfalso
    obtain ⟨⟨F, f1, f2⟩, -⟩ := hi
    have a := e F f1 f2
    have b := (f1.1 g hg.1 hg.2).2
    omega
  · exact e
/-- a layer that isn't open -/
theorem rw_gs_n {G k g c o : Int} {C : Int → Int → Prop} {Lb L : Int → Int} (hsC : dq_s G C) (hg : 0 ≤ g ∧ g < G) (c0 : 0 ≤ c ∧ c < 14) (ck : c < k) (hn : ∀ t, g ≤ t → t < G → Lb t = -1) (ho : dp_o G C Lb g k o) (hb : ¬ bt o c = 1) (hi : rw_gi G C k g Lb) (h : rw_gs G C k g c 0 Lb L) : rw_gs G C k g (c + 1) 0 Lb L := by
  refine ⟨h.1, Or.inl ⟨rfl, fun F hF hs => ?_⟩⟩
  rcases h.2 with ⟨-, e⟩ | ⟨e, -⟩
  · have a := e F hF hs
    refine Classical.byContradiction (fun x => ?_)
    have ec : F g = c := by omega
    obtain ⟨-, U, U0, hU, hx⟩ := ho
    have nk : ∀ t, 0 ≤ t → t < G → Lb t = c → ¬ C g t := fun t t0 t1 et hC => by
      have tg : t < g := by
        refine Classical.byContradiction (fun y => ?_)
        rw [hn t (by omega) t1] at et
        omega
      exact hF.2 g t hg.1 hg.2 t0 t1 hC (by rw [ec, hs t t0 tg, et])
    by_cases cU : c ≤ U
    · exact hb ((hx c c0.1 c0.2).mpr ⟨cU, ck, nk⟩)
    · have hX : dq_X G C (fun t => g ≤ t) Lb k := ⟨F, fun t t0 t1 _ => hF.1 t t0 t1, fun s t s0 s1 t0 t1 _ _ hC => hF.2 s t s0 s1 t0 t1 hC, fun s t s0 s1 t0 t1 sg tn hC => by
        have tg : t < g := by
          refine Classical.byContradiction (fun y => ?_)
          exact tn (hn t (by omega) t1)
        rw [← hs t t0 tg]
        exact hF.2 s t s0 s1 t0 t1 hC⟩
      obtain ⟨c', d0, dU, dk, dn, dX⟩ := dq_Xe (S := fun t => g ≤ t) hg.1 hg.2 (Int.le_refl g) U0 hU hX
      obtain ⟨F', f1, f2, f3⟩ := dX (fun x => if x = g then c' else Lb x) (fun t => g < t) (fun x x0 x1 hx => ⟨Int.le_of_lt hx, fun e => by have h9 : g < x := hx; omega⟩) (if_pos rfl) (fun x hx => if_neg hx)
      have f1 : ∀ t, 0 ≤ t → t < G → g < t → 0 ≤ F' t ∧ F' t < k := f1
      have f2 : ∀ s t, 0 ≤ s → s < G → 0 ≤ t → t < G → g < s → g < t → C s t → ¬ F' s = F' t := f2
      have f3 : ∀ s t, 0 ≤ s → s < G → 0 ≤ t → t < G → g < s → ¬ (if t = g then c' else Lb t) = -1 → C s t → ¬ F' s = (if t = g then c' else Lb t) := f3
      have e1 : ∀ x, ¬ x = g → (if x = g then c' else Lb x) = Lb x := fun x hx => if_neg hx
      have e2 : (if g = g then c' else Lb g) = c' := if_pos rfl
      have hF2 : rw_gv G C k (fun t => if t < g then F t else if t = g then c' else F' t) := by
        refine ⟨fun t t0 t1 => ?_, fun s t s0 s1 t0 t1 hC => ?_⟩
        · show 0 ≤ (if t < g then F t else if t = g then c' else F' t) ∧ (if t < g then F t else if t = g then c' else F' t) < k
          by_cases p : t < g
          · rw [if_pos p]
            exact hF.1 t t0 t1
          · rw [if_neg p]
            by_cases q : t = g
            · rw [if_pos q]
              exact ⟨d0, dk⟩
            · rw [if_neg q]
              exact f1 t t0 t1 (by omega)
        · show ¬ (if s < g then F s else if s = g then c' else F' s) = (if t < g then F t else if t = g then c' else F' t)
          have hC' := hsC.1 s t s0 s1 t0 t1 hC
          by_cases p : s < g
          · rw [if_pos p]
            by_cases p' : t < g
            · rw [if_pos p']
              exact hF.2 s t s0 s1 t0 t1 hC
            · rw [if_neg p']
              by_cases q' : t = g
              · rw [if_pos q', hs s s0 p]
                subst q'
                exact fun e => dn s s0 s1 e hC'
              · rw [if_neg q', hs s s0 p]
                have z := f3 t s t0 t1 s0 s1 (by omega) (by rw [e1 s (by omega), ← hs s s0 p]; have := (hF.1 s s0 s1).1; omega) hC'
                rw [e1 s (by omega)] at z
                exact fun e => z e.symm
          · rw [if_neg p]
            by_cases q : s = g
            · rw [if_pos q]
              subst q
              by_cases p' : t < s
              · rw [if_pos p', hs t t0 p']
                exact fun e => dn t t0 t1 e.symm hC
              · rw [if_neg p']
                by_cases q' : t = s
                · subst q'
                  exact absurd hC (hsC.2 t t0 t1)
                · rw [if_neg q']
                  have z := f3 t s t0 t1 s0 s1 (by omega) (by rw [e2]; omega) hC'
                  rw [e2] at z
                  exact fun e => z e.symm
            · rw [if_neg q]
              by_cases p' : t < g
              · rw [if_pos p', hs t t0 p']
                have z := f3 s t s0 s1 t0 t1 (by omega) (by rw [e1 t (by omega), ← hs t t0 p']; have := (hF.1 t t0 t1).1; omega) hC
                rw [e1 t (by omega)] at z
                exact z
              · rw [if_neg p']
                by_cases q' : t = g
                · rw [if_pos q']
                  subst q'
                  have z := f3 s t s0 s1 t0 t1 (by omega) (by rw [e2]; omega) hC
                  rw [e2] at z
                  exact z
                · rw [if_neg q']
                  exact f2 s t s0 s1 t0 t1 (by omega) (by omega) hC
      have a2 : c ≤ (if g < g then F g else if g = g then c' else F' g) := e _ hF2 (fun s s0 s1 => by
        show (if s < g then F s else if s = g then c' else F' s) = Lb s
        rw [if_pos s1]
        exact hs s s0 s1)
      rw [show (if g < g then F g else if g = g then c' else F' g) = c' by rw [if_neg (by omega), if_pos rfl]] at a2
      omega
  · exact absurd e (by decide)
/-- an open layer is tried -/
theorem rw_gs_t {G k g c o r bh : Int} {C : Int → Int → Prop} {Lb L L1 : Int → Int} (hsC : dq_s G C) (g14 : G ≤ 14) (hg : 0 ≤ g ∧ g < G) (c0 : 0 ≤ c ∧ c < 14) (ck : c < k) (hn : ∀ t, g ≤ t → t < G → Lb t = -1) (ho : dp_o G C Lb g k o) (hb : bt o c = 1) (hB : ∀ t, 0 ≤ t → t < 14 → (bt bh t = 1 ↔ g < t ∧ t < G)) (hi : rw_gi G C k g Lb) (hL1 : L1 g = c ∧ ∀ s, ¬ s = g → L1 s = L s) (hr : (r = 0 ∨ r = 1) ∧ (r = 1 ↔ dq_X G C (fun t => bt bh t = 1) L1 k)) (h : rw_gs G C k g c 0 Lb L) : rw_gs G C k g (c + 1) r Lb L1 := by
  have eL : ∀ s, ¬ s = g → L1 s = Lb s := fun s hs => (hL1.2 s hs).trans (h.1 s hs)
  refine ⟨eL, ?_⟩
  rcases h.2 with ⟨-, e⟩ | ⟨e, -⟩
  · rcases hr.1 with r0 | r1
    · refine Or.inl ⟨r0, fun F hF hs => ?_⟩
      have a := e F hF hs
      refine Classical.byContradiction (fun x => ?_)
      have ec : F g = c := by omega
      have hX : dq_X G C (fun t => bt bh t = 1) L1 k := ⟨F, fun t t0 t1 _ => hF.1 t t0 t1, fun s t s0 s1 t0 t1 _ _ hC => hF.2 s t s0 s1 t0 t1 hC, fun s t s0 s1 t0 t1 sg tn hC => by
        by_cases q : t = g
        · rw [q] at hC ⊢
          rw [hL1.1, ← ec]
          exact hF.2 s g s0 s1 hg.1 hg.2 hC
        · rw [eL t q] at tn ⊢
          have tg : t < g := by
            refine Classical.byContradiction (fun y => ?_)
            exact tn (hn t (by omega) t1)
          rw [← hs t t0 tg]
          exact hF.2 s t s0 s1 t0 t1 hC⟩
      have := hr.2.mpr hX
      omega
    · refine Or.inr ⟨r1, ?_⟩
      obtain ⟨F', f1, f2, f3⟩ := hr.2.mp r1
      have f1 : ∀ t, 0 ≤ t → t < G → bt bh t = 1 → 0 ≤ F' t ∧ F' t < k := f1
      have f2 : ∀ s t, 0 ≤ s → s < G → 0 ≤ t → t < G → bt bh s = 1 → bt bh t = 1 → C s t → ¬ F' s = F' t := f2
      have f3 : ∀ s t, 0 ≤ s → s < G → 0 ≤ t → t < G → bt bh s = 1 → ¬ L1 t = -1 → C s t → ¬ F' s = L1 t := f3
      obtain ⟨⟨F, hF, hs⟩, hl⟩ := hi
      obtain ⟨-, U, U0, hU, hx⟩ := ho
      obtain ⟨-, -, dn⟩ := (hx c c0.1 c0.2).mp hb
      have up : ∀ t, 0 ≤ t → t < G → g < t → bt bh t = 1 := fun t t0 t1 h => (hB t t0 (by omega)).mpr ⟨h, t1⟩
      have hF2 : rw_gv G C k (fun t => if t < g then F t else if t = g then c else F' t) := by
        refine ⟨fun t t0 t1 => ?_, fun s t s0 s1 t0 t1 hC => ?_⟩
        · show 0 ≤ (if t < g then F t else if t = g then c else F' t) ∧ (if t < g then F t else if t = g then c else F' t) < k
          by_cases p : t < g
          · rw [if_pos p]
            exact hF.1 t t0 t1
          · rw [if_neg p]
            by_cases q : t = g
            · rw [if_pos q]
              exact ⟨c0.1, ck⟩
            · rw [if_neg q]
              exact f1 t t0 t1 (up t t0 t1 (by omega))
        · show ¬ (if s < g then F s else if s = g then c else F' s) = (if t < g then F t else if t = g then c else F' t)
          have hC' := hsC.1 s t s0 s1 t0 t1 hC
          by_cases p : s < g
          · rw [if_pos p]
            by_cases p' : t < g
            · rw [if_pos p']
              exact hF.2 s t s0 s1 t0 t1 hC
            · rw [if_neg p']
              by_cases q' : t = g
              · rw [if_pos q', hs s s0 p]
                subst q'
                exact fun e => dn s s0 s1 e hC'
              · rw [if_neg q', hs s s0 p]
                have z := f3 t s t0 t1 s0 s1 (up t t0 t1 (by omega)) (by rw [eL s (by omega), ← hs s s0 p]; have := (hF.1 s s0 s1).1; omega) hC'
                rw [eL s (by omega)] at z
                exact fun e => z e.symm
          · rw [if_neg p]
            by_cases q : s = g
            · rw [if_pos q]
              subst q
              by_cases p' : t < s
              · rw [if_pos p', hs t t0 p']
                exact fun e => dn t t0 t1 e.symm hC
              · rw [if_neg p']
                by_cases q' : t = s
                · subst q'
                  exact absurd hC (hsC.2 t t0 t1)
                · rw [if_neg q']
                  have z := f3 t s t0 t1 s0 s1 (up t t0 t1 (by omega)) (by rw [hL1.1]; omega) hC'
                  rw [hL1.1] at z
                  exact fun e => z e.symm
            · rw [if_neg q]
              by_cases p' : t < g
              · rw [if_pos p', hs t t0 p']
                have z := f3 s t s0 s1 t0 t1 (up s s0 s1 (by omega)) (by rw [eL t (by omega), ← hs t t0 p']; have := (hF.1 t t0 t1).1; omega) hC
                rw [eL t (by omega)] at z
                exact z
              · rw [if_neg p']
                by_cases q' : t = g
                · rw [if_pos q']
                  subst q'
                  have z := f3 s t s0 s1 t0 t1 (up s s0 s1 (by omega)) (by rw [hL1.1]; omega) hC
                  rw [hL1.1] at z
                  exact z
                · rw [if_neg q']
                  exact f2 s t s0 s1 t0 t1 (up s s0 s1 (by omega)) (up t t0 t1 (by omega)) hC
      refine ⟨⟨_, hF2, fun s s0 s1 => ?_⟩, fun t t0 t1 F9 hF9 hs9 => ?_⟩
      · show (if s < g then F s else if s = g then c else F' s) = L1 s
        by_cases p : s < g
        · rw [if_pos p, eL s (by omega)]
          exact hs s s0 p
        · rw [if_neg p, if_pos (by omega), show s = g by omega, hL1.1]
      · by_cases q : t = g
        · rw [q, hL1.1]
          exact e F9 hF9 (fun s s0 s1 => (hs9 s s0 (by omega)).trans (eL s (by omega)))
        · rw [eL t q]
          exact hl t t0 (by omega) F9 hF9 (fun s s0 s1 => (hs9 s s0 s1).trans (eL s (by omega)))
  · exact absurd e (by decide)
/-- layers by groups are layers by wheels -/
theorem rw_gw {n mm G k : Int} {W : Int → Int → Prop} {a b p : Int → Int} {C : Int → Int → Prop} {L V : Int → Int} (hab : xk_ab n mm a b) (hg : dq_g n mm a b p G) (hO : rw_Oq n p) (hc : dq_c n W p G C) (hnC : ∀ x, 0 ≤ x → x < G → ¬ C x x) (h : rw_gi G C k G L) (hV : ∀ w, 0 ≤ w → w < n → V w = L (p w)) : rw_s151 n W a b mm k V := by
  obtain ⟨g1, g2, g3, g4⟩ := hg
  obtain ⟨⟨F, hF, hs⟩, hl⟩ := h
  have hL : rw_gv G C k L := ⟨fun t t0 t1 => by rw [← hs t t0 t1]; exact hF.1 t t0 t1, fun s t s0 s1 t0 t1 hC => by rw [← hs s s0 s1, ← hs t t0 t1]; exact hF.2 s t s0 s1 t0 t1 hC⟩
  refine ⟨⟨fun v v0 v1 => ?_, fun m m0 m1 => ?_, fun v u v0 vu u1 hW => ?_⟩, fun x x0 x1 f hf hv => ?_⟩
  · rw [hV v v0 v1]
    exact hL.1 _ (g3 v v0 v1).1 (g3 v v0 v1).2
  · obtain ⟨⟨a0, a1⟩, b0, b1⟩ := hab m m0 m1
    rw [hV _ a0 a1, hV _ b0 b1, g1 m m0 m1]
  · rw [hV v v0 (by omega), hV u (by omega) u1]
    have pv := g3 v v0 (by omega)
    have pu := g3 u (by omega) u1
    exact hL.2 _ _ pv.1 pv.2 pu.1 pu.2 ((hc _ _ pv.1 pv.2 pu.1 pu.2).mpr ⟨v, u, v0, vu, u1, hW, Or.inl ⟨rfl, rfl⟩⟩)
  · obtain ⟨f1, f2, f3⟩ := hf
    -- f by groups
    have fc : ∀ v u, 0 ≤ v → v < n → 0 ≤ u → u < n → p v = p u → f v = f u := fun v u v0 v1 u0 u1 e => by
      have hi : dq_i a b mm (fun y => f y = f u) := fun m m0 m1 => by
        show f (a m) = f u ↔ f (b m) = f u
        rw [f2 m m0 m1]
      exact (g2 v u v0 v1 u0 u1 e _ hi).mpr rfl
    have hex : ∀ t, 0 ≤ t → t < G → ∃ v, (0 ≤ v ∧ v < n) ∧ p v = t := fun t t0 t1 => by
      obtain ⟨v, v0, v1, e⟩ := g4 t t0 t1
      exact ⟨v, ⟨v0, v1⟩, e⟩
    have hFF : ∃ FF : Int → Int, ∀ v, 0 ≤ v → v < n → FF (p v) = f v := by
      refine ⟨fun t => @dite Int (∃ v, (0 ≤ v ∧ v < n) ∧ p v = t) (Classical.propDecidable _) (fun h => f (Classical.choose h)) (fun _ => 0), fun v v0 v1 => ?_⟩
      have hx : ∃ v', (0 ≤ v' ∧ v' < n) ∧ p v' = p v := ⟨v, ⟨v0, v1⟩, rfl⟩
      show @dite Int (∃ v', (0 ≤ v' ∧ v' < n) ∧ p v' = p v) (Classical.propDecidable _) (fun h => f (Classical.choose h)) (fun _ => 0) = f v
      rw [dif_pos hx]
      have hs := Classical.choose_spec hx
      exact fc _ _ hs.1.1 hs.1.2 v0 v1 hs.2
    obtain ⟨FF, hFF⟩ := hFF
    have px := g3 x x0 x1
    have hv2 : rw_gv G C k FF := by
      refine ⟨fun t t0 t1 => ?_, fun s t s0 s1 t0 t1 hC => ?_⟩
      · obtain ⟨v, hv, e⟩ := hex t t0 t1
        rw [← e, hFF v hv.1 hv.2]
        exact f1 v hv.1 hv.2
      · obtain ⟨v, u, v0, vu, u1, hW, hh⟩ := (hc s t s0 s1 t0 t1).mp hC
        have ne := f3 v u v0 vu u1 hW
        rw [← hFF v v0 (by omega), ← hFF u (by omega) u1] at ne
        rcases hh with ⟨e1, e2⟩ | ⟨e1, e2⟩
        · rw [e1, e2] at ne
          exact ne
        · rw [e1, e2] at ne
          exact fun e => ne e.symm
    rw [hV x x0 x1, ← hFF x x0 x1]
    by_cases c : ∃ u, (0 ≤ u ∧ u < x) ∧ p u = p x
    · obtain ⟨u, hu, e⟩ := c
      have e1 := hv u hu.1 hu.2
      rw [hV u hu.1 (by omega), e, ← hFF u hu.1 (by omega), e] at e1
      omega
    · refine hl (p x) px.1 px.2 FF hv2 (fun s s0 s1 => ?_)
      obtain ⟨u, hu, e⟩ := hO x s x0 x1 s0 s1
      rw [← e, hFF u hu.1 (by omega), hv u hu.1 hu.2, hV u hu.1 (by omega)]
theorem rw_putsF : ∀ (k : Nat) {A : Nat → Nat} {h0 : g_H} {d : Nat} {M : xa_M} {post : Option xa_V → xa_M → Prop} {l1 u1 l2 u2 l3 u3 : Int} {w u m : Int}, M 60 0 - w = (k : Int) → 0 ≤ w → 0 ≤ u → u ≤ 14 → 0 ≤ m → m ≤ 14 → xm_ff M → dp_V M w u m → (∀ (r : Int) (M1 : xa_M), (r = 0 ∨ r = 1) → xm_94 w M M1 → (r = 1 ↔ dq_E (M 60 0) (xm_inw M) (M 93) (M 94) w m) → (r = 1 → rw_pt M w m (M1 94)) → post (some (0, 0, 0, 1, r)) M1) → xa_C xm_I A h0 (d + k + 4) 269 [(2, 60, 0, 0, 0), (0, 0, l1, u1, w), (0, 0, l2, u2, u), (0, 0, l3, u3, m)] M post := by
  intro k
  induction k with
  | zero =>
    intro A h0 d M post l1 u1 l2 u2 l3 u3 w u m hw w0 u0 u14 m0 m14 hff hV kk
    refine xa_C_asm (fun hM _ => ?_)
    have b0 := xm_f0 hM
    refine xa_C_arg [(2, 60, 0, 0, 0), (0, 0, 0, 14, w), (0, 0, 0, 14, u), (0, 0, 0, 14, m)] (xa_svR (xa_svI (fun _ _ _ _ => by omega) (xa_svI (fun _ _ _ _ => by omega) (xa_svI (fun _ _ _ _ => by omega) xa_sv0)))) (xa_C_wk ?_)
    refine xa_meth (Q0 := (7, 2, false, 0, 0, 12)) (by decide +kernel) ⟨rfl, rfl⟩ (full := s_c_269) rfl rfl ?_
    intro _ _ Q hgo
    refine hgo.1 11 [13, 60] 0 _ _ _ ?_
    refine And.intro ?_ ?_
    · intro (c1 : ¬ w = (M 60 0))
      exfalso
      omega
    · intro (c1 : w = (M 60 0))
      show xa_wk post (some (0, 0, 1, 1, 1)) M
      exact xa_wkI 1 rfl (fun _ _ => by omega) (kk 1 _ (by omega) xm_94_r ⟨fun _ => by rw [c1] at hV ⊢; exact dp_VE hV, fun _ => rfl⟩ (fun _ => rw_pt_V c1 hV))
  | succ k ih =>
    intro A h0 d M post l1 u1 l2 u2 l3 u3 w u m hw w0 u0 u14 m0 m14 hff hV kk
    refine xa_C_asm (fun hM _ => ?_)
    have b0 := xm_f0 hM
    have hw1 : w < M 60 0 := by omega
    refine xa_C_arg [(2, 60, 0, 0, 0), (0, 0, 0, 13, w), (0, 0, 0, 14, u), (0, 0, 0, 14, m)] (xa_svR (xa_svI (fun _ _ _ _ => by omega) (xa_svI (fun _ _ _ _ => by omega) (xa_svI (fun _ _ _ _ => by omega) xa_sv0)))) (xa_C_wk ?_)
    refine xa_meth (d := d + k + 4) (Q0 := (7, 2, false, 0, 0, 12)) (by decide +kernel) ⟨rfl, rfl⟩ (full := s_c_269) rfl rfl ?_
    intro _ _ Q hgo
    have hno9 : ∀ x4 : Int, (u < x4 ∨ m ≤ x4) → (∀ d, 0 ≤ d → d < x4 → ¬ dp_Z M w m d) → ¬ dq_E (M 60 0) (xm_inw M) (M 93) (M 94) w m := fun x4 hx hno hE => by
      obtain ⟨d, d0, du, dm, z⟩ := dq_Ec w0 hw1 u0 (fun v v0 v1 => (hV.1 v v0 v1).2.1) ⟨(hff w w0 hw1).1, (hff w w0 hw1).2.2⟩ hE
      exact hno d d0 (by omega) z
    have hfz := hff w w0 hw1
    have loop1 : ∀ (n : Nat) (x4 : Int) (M1 : xa_M), 0 ≤ x4 ∧ x4 ≤ 14 → xm_94 w M M1 → (∀ d, 0 ≤ d → d < x4 → ¬ dp_Z M w m d) → 14 - x4 < (n : Int) → Q 13 [(4, (0, 0, 0, 14, x4)), (1, (0, 0, 0, 13, w)), (2, (0, 0, 0, 14, u)), (3, (0, 0, 0, 14, m)), (0, (2, 60, 0, 0, 0))] [] M1 := by
      intro n
      induction n with
      | zero => intro x4 M1 b4 h94 hno hms; omega
      | succ n ih1 =>
        intro x4 M1 b4 h94 hno hms
        have e93 : M1 93 w = M 93 w := h94 93 w (by omega)
        have e0 : M1 60 0 = M 60 0 := h94 60 0 (by omega)
        have loop2 : ∀ (n2 : Nat) (x6 x5 : Int), 0 ≤ x6 ∧ x6 ≤ 14 → 0 ≤ x5 ∧ x5 ≤ 1 → x6 ≤ w → x4 < m → x4 ≤ u → (M 93 w < w → M 94 (M 93 w) = x4) → (x5 = 1 ↔ ∀ v, 0 ≤ v → v < x6 → M 94 v = x4 → ¬ xm_inw M v w) → 14 - x6 < (n2 : Int) → Q 60 [(6, (0, 0, 0, 14, x6)), (5, (0, 0, 0, 1, x5)), (4, (0, 0, 0, 13, x4)), (1, (0, 0, 0, 13, w)), (2, (0, 0, 0, 14, u)), (3, (0, 0, 0, 14, m)), (0, (2, 60, 0, 0, 0))] [] M1 := by
          intro n2
          induction n2 with
          | zero => intro x6 x5 b6 b5 h6 h4m h4u hz hcan hms2; omega
          | succ n2 ih2 =>
            intro x6 x5 b6 b5 h6 h4m h4u hz hcan hms2
            refine hgo.1 29 [13, 60] 60 _ _ _ ?_
            refine And.intro ?_ ?_
            · intro (c1 : w ≤ x6)
              refine And.intro ?_ ?_
              · intro (c2 : x5 = 0)
                show Q 13 [(4, (0, 0, 1, 14, x4 + 1)), (6, (0, 0, 0, 14, x6)), (5, (0, 0, 0, 1, x5)), (1, (0, 0, 0, 13, w)), (2, (0, 0, 0, 14, u)), (3, (0, 0, 0, 14, m)), (0, (2, 60, 0, 0, 0))] [] (xa_up M1 94 w x4)
                refine hgo.2.1 13 _ _ _ _ (xa_subI rfl rfl (fun _ _ _ _ => by omega) (xa_subI rfl rfl (fun _ _ _ _ => by omega) (xa_subI rfl rfl (fun _ _ _ _ => by omega) (xa_subI rfl rfl (fun _ _ _ _ => by omega) (xa_subR rfl xa_sub0))))) (ih1 (x4 + 1) (xa_up M1 94 w x4) (by omega) (xm_94_u (by omega) h94) (fun d d0 d1 => ?_) (by omega))
                by_cases ed : d = x4
                · rw [ed]
                  exact fun z => by have := hcan.mpr (fun v v0 v1 e => z.2.1 v v0 (by omega) e); omega
                · exact hno d d0 (by omega)
              · intro (c2 : ¬ x5 = 0)
                show xa_C xm_I A h0 _ 35 [(0, 0, 0, 14, u), (0, 0, 1, 14, x4 + 1)] (xa_up M1 94 w x4) _
                refine ct_max 1 14 (by decide) (by decide) (by decide) (fun r3 br3 er3 => ?_)
                show xa_C xm_I A h0 (d + k + 4) 269 [(2, 60, 0, 0, 0), (0, 0, 1, 14, w + 1), (0, 0, 1, 14, r3), (0, 0, 0, 14, m)] (xa_up M1 94 w x4) _
                have h94u : xm_94 w M (xa_up M1 94 w x4) := xm_94_u (by omega) h94
                have e0u : xa_up M1 94 w x4 60 0 = M 60 0 := h94u 60 0 (by omega)
                have all := hcan.mp (by omega)
                have hV2 : dp_V (xa_up M1 94 w x4) (w + 1) r3 m := dp_Vs h94 hff hV w0 hw1 ⟨b4.1, h4m⟩ (by omega) (by omega) hz (fun v v0 v1 e => all v v0 (by omega) e)
                refine ih (d := d) (by omega) (by omega) (by omega) (by omega) (by omega) (by omega) (xm_94_ff h94u hff) hV2 (fun r4 M4 br4 h4 hr4 hl4 => ?_)
                have h94v : xm_94 w M M4 := xm_94_t (by omega) h94u h4
                refine And.intro ?_ ?_
                · intro (c5 : r4 = 0)
                  show Q 13 [(4, (0, 0, 1, 14, x4 + 1)), (6, (0, 0, 0, 14, x6)), (5, (0, 0, 0, 1, x5)), (1, (0, 0, 0, 13, w)), (2, (0, 0, 0, 14, u)), (3, (0, 0, 0, 14, m)), (0, (2, 60, 0, 0, 0))] [] M4
                  refine hgo.2.1 13 _ _ _ _ (xa_subI rfl rfl (fun _ _ _ _ => by omega) (xa_subI rfl rfl (fun _ _ _ _ => by omega) (xa_subI rfl rfl (fun _ _ _ _ => by omega) (xa_subI rfl rfl (fun _ _ _ _ => by omega) (xa_subR rfl xa_sub0))))) (ih1 (x4 + 1) M4 (by omega) h94v (fun d d0 d1 => ?_) (by omega))
                  by_cases ed : d = x4
                  · rw [ed]
                    exact fun z => by have := hr4.mpr ((dp_Ee h94u _).mpr (z.2.2 _ (fun v v0 v1 => h94u 94 v (by omega)) xa_up_eq)); omega
                  · exact hno d d0 (by omega)
                · intro (c5 : ¬ r4 = 0)
                  show xa_wk post (some (0, 0, 1, 1, 1)) M4
                  exact xa_wkI 1 rfl (fun _ _ => by omega) (kk 1 _ (by omega) h94v ⟨fun _ => dq_Ei ((dp_Ee h94u _).mp (hr4.mp (by omega))) (fun v v0 v1 => h94u 94 v (by omega)), fun _ => rfl⟩ (fun _ => rw_pt_1 w0 hw1 ⟨hfz.1, hfz.2.2⟩ hno (fun v v0 v1 => h94v 94 v (by omega)) ((h4 94 w (by omega)).trans xa_up_eq) (rw_pt_m h94u (hl4 (by omega)))))
            · intro (c1 : x6 < w)
              refine And.intro ?_ ?_
              · intro (c6 : x5 = 0)
                show Q 60 [(6, (0, 0, 1, 15, x6 + 1)), (5, (0, 0, 0, 0, 0)), (4, (0, 0, 0, 13, x4)), (1, (0, 0, 0, 13, w)), (2, (0, 0, 0, 14, u)), (3, (0, 0, 0, 14, m)), (0, (2, 60, 0, 0, 0))] [] M1
                refine hgo.2.1 60 _ _ _ _ (xa_subI rfl rfl (fun _ _ _ _ => by omega) (xa_subI rfl rfl (fun _ _ _ _ => by omega) (xa_subI rfl rfl (fun _ _ _ _ => by omega) (xa_subI rfl rfl (fun _ _ _ _ => by omega) (xa_subI rfl rfl (fun _ _ _ _ => by omega) (xa_subI rfl rfl (fun _ _ _ _ => by omega) (xa_subR rfl xa_sub0))))))) (ih2 (x6 + 1) 0 (by omega) (by omega) (by omega) h4m h4u hz ⟨fun e => absurd e (by decide), fun e => ?_⟩ (by omega))
                have := hcan.mpr (fun v v0 v1 q => e v v0 (by omega) q)
                omega
              · intro (c6 : ¬ x5 = 0)
                have e94 : M1 94 x6 = M 94 x6 := h94 94 x6 (by omega)
                refine And.intro (show 0 ≤ x6 ∧ x6 < 14 by omega) ?_
                refine And.intro ?_ ?_
                · intro (c7 : ¬ (M1 94 x6) = x4)
                  show Q 60 [(6, (0, 0, 1, 15, x6 + 1)), (5, (0, 0, 1, 1, 1)), (4, (0, 0, 0, 13, x4)), (1, (0, 0, 0, 13, w)), (2, (0, 0, 0, 14, u)), (3, (0, 0, 0, 14, m)), (0, (2, 60, 0, 0, 0))] [] M1
                  refine hgo.2.1 60 _ _ _ _ (xa_subI rfl rfl (fun _ _ _ _ => by omega) (xa_subI rfl rfl (fun _ _ _ _ => by omega) (xa_subI rfl rfl (fun _ _ _ _ => by omega) (xa_subI rfl rfl (fun _ _ _ _ => by omega) (xa_subI rfl rfl (fun _ _ _ _ => by omega) (xa_subI rfl rfl (fun _ _ _ _ => by omega) (xa_subR rfl xa_sub0))))))) (ih2 (x6 + 1) 1 (by omega) (by omega) (by omega) h4m h4u hz ⟨fun _ v v0 v1 q => ?_, fun _ => rfl⟩ (by omega))
                  by_cases ev : v = x6
                  · rw [ev] at q ⊢
                    exact absurd (e94.trans q) c7
                  · exact hcan.mp (by omega) v v0 (by omega) q
                · intro (c7 : (M1 94 x6) = x4)
                  show xa_C xm_I A h0 _ 268 [(2, 60, 0, 0, 0), (0, 0, 0, 14, x6), (0, 0, 0, 13, w)] M1 _
                  refine ct_areInWay (by omega) (by omega) (by omega) (by omega) (fun r8 br8 hr8 => ?_)
                  refine And.intro ?_ ?_
                  · intro (c9 : ¬ r8 = 0)
                    show Q 60 [(6, (0, 0, 1, 15, x6 + 1)), (5, (0, 0, 0, 0, 0)), (4, (0, 0, 0, 13, x4)), (1, (0, 0, 0, 13, w)), (2, (0, 0, 0, 14, u)), (3, (0, 0, 0, 14, m)), (0, (2, 60, 0, 0, 0))] [] M1
                    refine hgo.2.1 60 _ _ _ _ (xa_subI rfl rfl (fun _ _ _ _ => by omega) (xa_subI rfl rfl (fun _ _ _ _ => by omega) (xa_subI rfl rfl (fun _ _ _ _ => by omega) (xa_subI rfl rfl (fun _ _ _ _ => by omega) (xa_subI rfl rfl (fun _ _ _ _ => by omega) (xa_subI rfl rfl (fun _ _ _ _ => by omega) (xa_subR rfl xa_sub0))))))) (ih2 (x6 + 1) 0 (by omega) (by omega) (by omega) h4m h4u hz ⟨fun e => absurd e (by decide), fun e => ?_⟩ (by omega))
                    have hi := hr8.1 (by omega)
                    rw [xm_inw_c (xm_94_c h94)] at hi
                    exact absurd hi (e x6 b6.1 (by omega) (by omega))
                  · intro (c9 : r8 = 0)
                    show Q 60 [(6, (0, 0, 1, 15, x6 + 1)), (5, (0, 0, 1, 1, 1)), (4, (0, 0, 0, 13, x4)), (1, (0, 0, 0, 13, w)), (2, (0, 0, 0, 14, u)), (3, (0, 0, 0, 14, m)), (0, (2, 60, 0, 0, 0))] [] M1
                    refine hgo.2.1 60 _ _ _ _ (xa_subI rfl rfl (fun _ _ _ _ => by omega) (xa_subI rfl rfl (fun _ _ _ _ => by omega) (xa_subI rfl rfl (fun _ _ _ _ => by omega) (xa_subI rfl rfl (fun _ _ _ _ => by omega) (xa_subI rfl rfl (fun _ _ _ _ => by omega) (xa_subI rfl rfl (fun _ _ _ _ => by omega) (xa_subR rfl xa_sub0))))))) (ih2 (x6 + 1) 1 (by omega) (by omega) (by omega) h4m h4u hz ⟨fun _ v v0 v1 q => ?_, fun _ => rfl⟩ (by omega))
                    by_cases ev : v = x6
                    · rw [ev] at q ⊢
                      exact fun hi => by rw [← xm_inw_c (xm_94_c h94)] at hi; have := hr8.2 hi; omega
                    · exact hcan.mp (by omega) v v0 (by omega) q
        refine hgo.1 30 [13, 60] 13 _ _ _ ?_
        refine And.intro ?_ ?_
        · intro (c1 : u < x4)
          show xa_wk post (some (0, 0, 0, 0, 0)) M1
          refine xa_wkI 0 rfl (fun _ _ => by omega) (kk 0 _ (by omega) h94 ⟨fun e => absurd e (by decide), fun e => absurd e (hno9 x4 (Or.inl c1) hno)⟩ (fun e => absurd e (by decide)))
        · intro (c1 : x4 ≤ u)
          refine And.intro ?_ ?_
          · intro (c2 : m ≤ x4)
            show xa_wk post (some (0, 0, 0, 0, 0)) M1
            refine xa_wkI 0 rfl (fun _ _ => by omega) (kk 0 _ (by omega) h94 ⟨fun e => absurd e (by decide), fun e => absurd e (hno9 x4 (Or.inr c2) hno)⟩ (fun e => absurd e (by decide)))
          · intro (c2 : x4 < m)
            have go60 : (M 93 w < w → M 94 (M 93 w) = x4) → Q 60 [(6, (0, 0, 0, 0, 0)), (5, (0, 0, 1, 1, 1)), (4, (0, 0, 0, 14, x4)), (1, (0, 0, 0, 13, w)), (2, (0, 0, 0, 14, u)), (3, (0, 0, 0, 14, m)), (0, (2, 60, 0, 0, 0))] [] M1 := fun hz => hgo.2.1 60 _ _ _ _ (xa_subI rfl rfl (fun _ _ _ _ => by omega) (xa_subI rfl rfl (fun _ _ _ _ => by omega) (xa_subI rfl rfl (fun _ _ _ _ => by omega) (xa_subI rfl rfl (fun _ _ _ _ => by omega) (xa_subI rfl rfl (fun _ _ _ _ => by omega) (xa_subI rfl rfl (fun _ _ _ _ => by omega) (xa_subR rfl xa_sub0))))))) (loop2 15 0 1 (by omega) (by omega) (by omega) c2 c1 hz ⟨fun _ v v0 v1 => by omega, fun _ => rfl⟩ (by omega))
            refine And.intro ?_ ?_
            · intro (c3 : w ≤ (M1 93 w))
              exact go60 (fun h => by omega)
            · intro (c3 : (M1 93 w) < w)
              refine And.intro ?_ ?_
              · intro (c4 : (M1 94 (M1 93 w)) = x4)
                rw [e93] at c3 c4
                rw [h94 94 (M 93 w) (by omega)] at c4
                exact go60 (fun _ => c4)
              · intro (c4 : ¬ (M1 94 (M1 93 w)) = x4)
                show Q 13 [(4, (0, 0, 1, 15, x4 + 1)), (1, (0, 0, 0, 13, w)), (2, (0, 0, 0, 14, u)), (3, (0, 0, 0, 14, m)), (0, (2, 60, 0, 0, 0))] [] M1
                rw [e93] at c3 c4
                rw [h94 94 (M 93 w) (by omega)] at c4
                refine hgo.2.1 13 _ _ _ _ (xa_subI rfl rfl (fun _ _ _ _ => by omega) (xa_subI rfl rfl (fun _ _ _ _ => by omega) (xa_subI rfl rfl (fun _ _ _ _ => by omega) (xa_subI rfl rfl (fun _ _ _ _ => by omega) (xa_subR rfl xa_sub0))))) (ih1 (x4 + 1) M1 (by omega) h94 (fun d d0 d1 => ?_) (by omega))
                by_cases ed : d = x4
                · rw [ed]
                  exact fun z => c4 (z.1 c3)
                · exact hno d d0 (by omega)
    refine hgo.1 11 [13, 60] 0 _ _ _ ?_
    refine And.intro ?_ ?_
    · intro (c1 : ¬ w = (M 60 0))
      show Q 13 [(4, (0, 0, 0, 0, 0)), (0, (2, 60, 0, 0, 0)), (1, (0, 0, 0, 13, w)), (2, (0, 0, 0, 14, u)), (3, (0, 0, 0, 14, m))] [] M
      refine hgo.2.1 13 _ _ _ _ (xa_subI rfl rfl (fun _ _ _ _ => by omega) (xa_subI rfl rfl (fun _ _ _ _ => by omega) (xa_subI rfl rfl (fun _ _ _ _ => by omega) (xa_subI rfl rfl (fun _ _ _ _ => by omega) (xa_subR rfl xa_sub0))))) (loop1 15 0 M (by omega) xm_94_r (fun d d0 d1 => by omega) (by omega))
    · intro (c1 : w = (M 60 0))
      exfalso
      omega
theorem rw_m151 {A : Nat → Nat} {h0 : g_H} {d : Nat} {M : xa_M} {post : Option xa_V → xa_M → Prop} (hI : xm_Inv M) (k : ∀ (r : Int) (M1 : xa_M), xm_cor M M1 → dq_A (M 60 0) (xm_inw M) (M 66) (M 67) (M 60 6) r → rw_k (0 ≤ r) (M 60 20) (M 74) (M1 60 20) (M1 74) (M 60 0) (rw_s151 (M 60 0) (xm_inw M) (M 66) (M 67) (M 60 6) r) → post (some (0, 0, (-2), 14, r)) M1) : xa_C xm_I A h0 (d + 19) 267 [(2, 60, 0, 0, 0)] M post := by
  refine xa_C_wk ?_
  refine xa_meth (d := d + 18) (Q0 := (4, 1, false, 0, 0, 12)) (by decide +kernel) ⟨rfl, rfl⟩ (full := s_c_267) rfl rfl ?_
  intro hM hv Q hgo
  have b0 := xm_f0 hM
  have b6 := xm_f6 hM
  have hab : xk_ab (M 60 0) (M 60 6) (fun i => M 66 i) (fun i => M 67 i) := fun i i0 i1 => by
    have h1 := xm_t66 hM i i0 (by omega)
    have h2 := xm_t67 hM i i0 (by omega)
    have h3 := hI.2.1 i i0 i1
    exact ⟨⟨h1.1, h3.1⟩, h2.1, h3.2⟩
  have loop6 : ∀ (n : Nat) (x2 x1 : Int) (M1 : xa_M), 0 ≤ x2 ∧ x2 ≤ 14 → 0 ≤ x1 ∧ x1 ≤ 14 → xm_cor M M1 → (M1 60 20 = x2 ∧ x2 ≤ M 60 0) → dq_A (M 60 0) (xm_inw M) (M 66) (M 67) (M 60 6) x1 → ((∀ i : Int, 0 ≤ i → i < x2 → M1 74 i = M1 94 i) ∧ rw_s151 (M 60 0) (xm_inw M) (M 66) (M 67) (M 60 6) x1 (M1 94)) → 14 - x2 < (n : Int) → Q 191 [(2, (0, 0, 0, 14, x2)), (1, (0, 0, 0, 14, x1)), (0, (2, 60, 0, 0, 0))] [] M1 := by
    intro n
    induction n with
    | zero => intro x2 x1 M1 b2 b1 hc h20 hA hV hms; omega
    | succ n ih =>
      intro x2 x1 M1 b2 b1 hc h20 hA hV hms
      refine hgo.2.2 _ _ _ _ (fun hM1 _ => ?_)
      have b20 := xm_f20 hM1
      have e0 := xm_corf hc 0 (by omega)
      refine hgo.1 18 [7, 30, 40, 112, 122, 168, 191] 191 _ _ _ ?_
      refine And.intro ?_ ?_
      · intro (c1 : (M1 60 0) ≤ x2)
        show xa_wk post (some (0, 0, 0, 14, x1)) M1
        exact xa_wkI x1 rfl (fun _ _ => by omega) (k x1 _ hc hA (rw_yes (V := M1 94) b1.1 (by omega) (fun i i0 i1 => hV.1 i i0 (by omega)) hV.2))
      · intro (c1 : x2 < (M1 60 0))
        refine And.intro (show 0 ≤ x2 ∧ x2 < 14 by omega) ?_
        show xa_C xm_I A h0 _ 231 [(2, 60, 0, 0, 0), (1, 0, (-1), 13, M1 94 x2)] M1 _
        refine ct_tell (n := M1 60 20) (by first | rfl | (simp [xa_up]; done) | omega) (by omega) (by omega) ?_
        show Q 191 [(2, (0, 0, 1, 15, x2 + 1)), (1, (0, 0, 0, 14, x1)), (0, (2, 60, 0, 0, 0))] [] (xa_up (xa_up M1 74 (M1 60 20) (M1 94 x2)) 60 20 ((M1 60 20) + 1))
        refine hgo.2.1 191 _ [(2, (0, 0, 0, 14, x2 + 1)), (1, (0, 0, 0, 14, x1)), (0, (2, 60, 0, 0, 0))] _ _ (xa_subI rfl rfl (fun _ _ _ _ => by omega) (xa_subI rfl rfl (fun _ _ _ _ => by omega) (xa_subR rfl xa_sub0))) ?_
        exact ih (x2 + 1) x1 (xa_up (xa_up M1 74 (M1 60 20) (M1 94 x2)) 60 20 ((M1 60 20) + 1)) (by omega) b1 (xm_cor_f (by omega) (xm_cor_a rfl hc)) ⟨by rw [xa_up_eq]; omega, by omega⟩ hA ⟨fun i i0 i1 => by
          refine (xa_up_ne (by omega)).trans (Eq.trans ?_ (((xa_up_ne (by omega)).trans (xa_up_ne (by omega))).symm))
          by_cases e : i = M1 60 20
          · rw [e, xa_up_eq, h20.1]
          · exact (xa_up_ne (by omega)).trans (hV.1 i i0 (by omega)), by rw [show (xa_up (xa_up M1 74 (M1 60 20) (M1 94 x2)) 60 20 ((M1 60 20) + 1)) 94 = M1 94 from funext (fun j => (xa_up_ne (by omega)).trans (xa_up_ne (by omega)))]; exact hV.2⟩ (by omega)
  have loop5 : ∀ (n : Nat) (x1 : Int) (M1 : xa_M), 0 ≤ x1 ∧ x1 ≤ 14 → xm_cor M M1 → xm_ff M1 → xm_fw M1 → dp_z M M1 → (∀ x, 0 ≤ x → x < x1 → ¬ dq_Col (M 60 0) (xm_inw M) (M 66) (M 67) (M 60 6) x) → x1 ≤ M 60 0 → 14 - x1 < (n : Int) → Q 168 [(1, (0, 0, 0, 14, x1)), (0, (2, 60, 0, 0, 0))] [] M1 := by
    intro n
    induction n with
    | zero => intro x1 M1 b1 hc hff hfw hz hno h1 hms; omega
    | succ n ih =>
      intro x1 M1 b1 hc hff hfw hz hno h1 hms
      have e0 := xm_corf hc 0 (by omega)
      refine hgo.1 16 [7, 30, 40, 112, 122, 168, 191] 168 _ _ _ ?_
      show xa_C xm_I A h0 (d + 18) 269 [(2, 60, 0, 0, 0), (0, 0, 0, 0, 0), (0, 0, 0, 0, 0), (0, 0, 0, 14, x1)] M1 _
      obtain ⟨kk, hk⟩ : ∃ kk : Nat, M1 60 0 - 0 = (kk : Int) := ⟨(M1 60 0).toNat, by omega⟩
      have hd : d + 18 = (d + (14 - kk)) + kk + 4 := by omega
      rw [hd]
      have z3 : ∀ w, 0 ≤ w → w < M 60 0 → 0 ≤ M1 93 w ∧ M1 93 w < M 60 0 := fun w w0 w1 => by
        have := hff w w0 (by omega)
        omega
      have eI : xm_inw M1 = xm_inw M := funext (fun a => funext (fun b => propext (xm_inw_c hc)))
      have eE : dq_E (M1 60 0) (xm_inw M1) (M1 93) (M1 94) 0 x1 ↔ dq_Col (M 60 0) (xm_inw M) (M 66) (M 67) (M 60 6) x1 := by
        rw [e0, eI]
        exact dq_EC hab hz.1 hz.2 z3
      have hns : ¬ dq_Self (M 60 0) (xm_inw M) (M 66) (M 67) (M 60 6) := fun h => by
        obtain ⟨v, u, v0, vu, u1, w, e⟩ := (dq_ES hz.1 hz.2).mp h
        rw [← eI] at w
        exact hfw v u v0 vu (by omega) e w
      refine rw_putsF kk hk (by omega) (by omega) (by omega) (by omega) (by omega) hff ⟨fun v v0 v1 => by omega, fun v x v0 v1 => by omega, fun v x v0 vx x1 => by omega⟩ (fun r2 M2 br2 h94 hr2 hl2 => ?_)
      have hr3 := hr2.trans eE
      have hc2 := xm_cor_t hc (xm_94_c h94)
      refine And.intro ?_ ?_
      · intro (c2 : ¬ r2 = 0)
        show Q 191 [(2, (0, 0, 0, 0, 0)), (1, (0, 0, 0, 14, x1)), (0, (2, 60, 0, 0, 0))] [] (xa_up M2 60 20 0)
        exact hgo.2.1 191 _ _ _ _ (xa_subI rfl rfl (fun _ _ _ _ => by omega) (xa_subI rfl rfl (fun _ _ _ _ => by omega) (xa_subR rfl xa_sub0))) (loop6 15 0 x1 (xa_up M2 60 20 0) (by omega) b1 (xm_cor_f (by omega) hc2) ⟨xa_up_eq, by omega⟩ (Or.inr ⟨hns, b1.1, hr3.mp (by omega), hno⟩) ⟨fun i i0 i1 => by exfalso; omega, by
          have q := hl2 (by omega)
          unfold rw_pt at q
          rw [e0, eI] at q
          rw [show (xa_up M2 60 20 0) 94 = M2 94 from funext (fun j => xa_up_ne (by omega))]
          exact ⟨(rw_va_e rfl rfl (fun _ _ _ _ _ _ => Iff.rfl) (rw_alm hab hz.1 hz.2)).mp q.1, rw_ls_e rfl rfl (fun _ _ _ _ _ _ => Iff.rfl) (rw_alm hab hz.1 hz.2) q.2⟩⟩ (by omega))
      · intro (c2 : r2 = 0)
        show Q 168 [(1, (0, 0, 1, 15, x1 + 1)), (0, (2, 60, 0, 0, 0))] [] M2
        have hlt : x1 < M 60 0 := by
          rcases Int.lt_or_le x1 (M 60 0) with h | h
          · exact h
          · have := hr2.mpr (by rw [e0, eI]; exact dq_En z3 (fun v u v0 vu u1 e w => by rw [← eI] at w; exact hfw v u v0 vu (by omega) e w) _ h)
            omega
        exact hgo.2.1 168 _ _ _ _ (xa_subI rfl rfl (fun _ _ _ _ => by omega) (xa_subR rfl xa_sub0)) (ih (x1 + 1) M2 (by omega) hc2 (xm_94_ff h94 hff) (xm_94_fw h94 hfw) (dp_z_94 h94 hz) (fun x x0 x1' => by
          by_cases ex : x = x1
          · rw [ex]
            exact fun h => by have := hr3.mpr h; omega
          · exact hno x x0 (by omega)) (by omega) (by omega))
  have loop3 : ∀ (n : Nat) (x1 : Int) (M1 : xa_M), 0 ≤ x1 ∧ x1 ≤ 14 → xm_cor M M1 → (M1 60 20 = M 60 20 ∧ ∀ i : Int, M1 74 i = M 74 i) → xm_ff M1 → dp_z M M1 → (∀ v u, 0 ≤ u → u < v → v < x1 → M1 93 v = M1 93 u → ¬ xm_inw M1 v u) → x1 ≤ M 60 0 → 14 - x1 < (n : Int) → Q 112 [(1, (0, 0, 0, 14, x1)), (0, (2, 60, 0, 0, 0))] [] M1 := by
    intro n
    induction n with
    | zero => intro x1 M1 b1 hc h20 hff hz hiw h1 hms; omega
    | succ n ih =>
      intro x1 M1 b1 hc h20 hff hz hiw h1 hms
      have e0 := xm_corf hc 0 (by omega)
      have loop4 : ∀ (n2 : Nat) (x2 : Int), 0 ≤ x2 ∧ x2 ≤ 13 → x1 < M 60 0 → x2 ≤ x1 → (∀ u, 0 ≤ u → u < x2 → M1 93 x1 = M1 93 u → ¬ xm_inw M1 x1 u) → 13 - x2 < (n2 : Int) → Q 122 [(2, (0, 0, 0, 13, x2)), (1, (0, 0, 0, 13, x1)), (0, (2, 60, 0, 0, 0))] [] M1 := by
        intro n2
        induction n2 with
        | zero => intro x2 b2 h10 h21 hu hms2; omega
        | succ n2 ih2 =>
          intro x2 b2 h10 h21 hu hms2
          have nx : x2 < x1 → (M1 93 x1 = M1 93 x2 → ¬ xm_inw M1 x1 x2) → Q 122 [(2, (0, 0, 1, 14, x2 + 1)), (1, (0, 0, 0, 13, x1)), (0, (2, 60, 0, 0, 0))] [] M1 := fun c1 hx => by
            refine hgo.2.1 122 _ _ _ _ (xa_subI rfl rfl (fun _ _ _ _ => by omega) (xa_subI rfl rfl (fun _ _ _ _ => by omega) (xa_subR rfl xa_sub0))) (ih2 (x2 + 1) (by omega) h10 (by omega) (fun u u0 u1 e => ?_) (by omega))
            rcases Int.lt_or_eq_of_le (show u ≤ x2 by omega) with c | c
            · exact hu u u0 c e
            · rw [c] at e ⊢
              exact hx e
          refine hgo.1 24 [7, 30, 40, 112, 122, 168, 191] 122 _ _ _ ?_
          refine And.intro ?_ ?_
          · intro (c1 : x1 ≤ x2)
            show Q 112 [(1, (0, 0, 1, 14, x1 + 1)), (2, (0, 0, 0, 13, x2)), (0, (2, 60, 0, 0, 0))] [] M1
            refine hgo.2.1 112 _ _ _ _ (xa_subI rfl rfl (fun _ _ _ _ => by omega) (xa_subR rfl xa_sub0)) (ih (x1 + 1) M1 (by omega) hc h20 hff hz (fun v u u0 uv v1 e => ?_) (by omega) (by omega))
            rcases Int.lt_or_eq_of_le (show v ≤ x1 by omega) with c | c
            · exact hiw v u u0 uv c e
            · rw [c] at e uv ⊢
              exact hu u u0 (by omega) e
          · intro (c1 : x2 < x1)
            refine And.intro ?_ ?_
            · intro (c2 : ¬ (M1 93 x1) = (M1 93 x2))
              show Q 122 [(2, (0, 0, 1, 14, x2 + 1)), (1, (0, 0, 0, 13, x1)), (0, (2, 60, 0, 0, 0))] [] M1
              exact nx c1 (fun e => absurd e c2)
            · intro (c2 : (M1 93 x1) = (M1 93 x2))
              show xa_C xm_I A h0 _ 268 [(2, 60, 0, 0, 0), (0, 0, 0, 13, x1), (0, 0, 0, 13, x2)] M1 _
              refine ct_areInWay (by omega) (by omega) (by omega) (by omega) (fun r3 br3 hr3 => ?_)
              refine And.intro ?_ ?_
              · intro (c4 : r3 = 0)
                show Q 122 [(2, (0, 0, 1, 14, x2 + 1)), (1, (0, 0, 0, 13, x1)), (0, (2, 60, 0, 0, 0))] [] M1
                exact nx c1 (fun _ e => by have := hr3.2 e; omega)
              · intro (c4 : ¬ r3 = 0)
                show xa_wk post (some (0, 0, (-2), (-2), (-2))) M1
                have hi := hr3.1 (by omega)
                rw [xm_inw_c hc] at hi
                exact xa_wkI (-2) rfl (fun _ _ => by omega) (k (-2) _ hc (Or.inl ⟨(dq_ES hz.1 hz.2).mpr ⟨x2, x1, b2.1, c1, by omega, xm_inw_s hi, c2.symm⟩, rfl⟩) (rw_no (by omega) h20.1 (fun i _ _ => h20.2 i)))
      refine hgo.1 11 [7, 30, 40, 112, 122, 168, 191] 112 _ _ _ ?_
      refine And.intro ?_ ?_
      · intro (c1 : (M1 60 0) ≤ x1)
        show Q 168 [(1, (0, 0, 0, 0, 0)), (0, (2, 60, 0, 0, 0))] [] M1
        refine hgo.2.1 168 _ _ _ _ (xa_subI rfl rfl (fun _ _ _ _ => by omega) (xa_subR rfl xa_sub0)) (loop5 15 0 M1 (by omega) hc hff (fun v u v0 vu u1 e hi => ?_) hz (fun x x0 x1 => by omega) (by omega) (by omega))
        exact hiw u v v0 vu (by omega) e.symm (xm_inw_s hi)
      · intro (c1 : x1 < (M1 60 0))
        show Q 122 [(2, (0, 0, 0, 0, 0)), (1, (0, 0, 0, 14, x1)), (0, (2, 60, 0, 0, 0))] [] M1
        exact hgo.2.1 122 _ _ _ _ (xa_subI rfl rfl (fun _ _ _ _ => by omega) (xa_subI rfl rfl (fun _ _ _ _ => by omega) (xa_subR rfl xa_sub0))) (loop4 14 0 (by omega) (by omega) (by omega) (fun u u0 u1 => by omega) (by omega))
  have loop1 : ∀ (n : Nat) (x1 : Int) (M1 : xa_M), 0 ≤ x1 ∧ x1 ≤ 14 → xm_cor M M1 → (M1 60 20 = M 60 20 ∧ ∀ i : Int, M1 74 i = M 74 i) → xk_K (M 60 0) (M 60 6) (fun i => M 66 i) (fun i => M 67 i) (fun w => M1 93 w) → xk_R (M 60 0) (M 60 6) (fun i => M 66 i) (fun i => M 67 i) (fun w => M1 93 w) x1 → x1 ≤ M 60 0 → 14 - x1 < (n : Int) → Q 30 [(1, (0, 0, 0, 14, x1)), (0, (2, 60, 0, 0, 0))] [] M1 := by
    intro n
    induction n with
    | zero => intro x1 M1 b1 hc h20 hK hR h1 hms; omega
    | succ n ih =>
      intro x1 M0 b1 hc h20 hK hR h1 hms
      have e0 := xm_corf hc 0 (by omega)
      have loop2 : ∀ (n2 : Nat) (x2 : Int) (M1 : xa_M), 0 ≤ x2 ∧ x2 ≤ 16 → xm_cor M M1 → (M1 60 20 = M 60 20 ∧ ∀ i : Int, M1 74 i = M 74 i) → xk_K (M 60 0) (M 60 6) (fun i => M 66 i) (fun i => M 67 i) (fun w => M1 93 w) → xk_J (M 60 0) (M 60 6) (fun i => M 66 i) (fun i => M 67 i) (fun w => M0 93 w) (fun w => M1 93 w) x2 → x1 < M 60 0 → x2 ≤ M 60 6 → 16 - x2 < (n2 : Int) → Q 40 [(2, (0, 0, 0, 16, x2)), (1, (0, 0, 0, 13, x1)), (0, (2, 60, 0, 0, 0))] [] M1 := by
        intro n2
        induction n2 with
        | zero => intro x2 M1 b2 hc h20 hK hJ h10 h2 hms2; omega
        | succ n2 ih2 =>
          intro x2 M1 b2 hc h20 hK hJ h10 h2 hms2
          have e6 := xm_corf hc 6 (by omega)
          have e66 := xm_corq hc 66 rfl x2
          have e67 := xm_corq hc 67 rfl x2
          refine hgo.1 43 [7, 30, 40, 112, 122, 168, 191] 40 _ _ _ ?_
          refine And.intro ?_ ?_
          · intro (c1 : (M1 60 6) ≤ x2)
            show Q 30 [(1, (0, 0, 1, 14, x1 + 1)), (2, (0, 0, 0, 16, x2)), (0, (2, 60, 0, 0, 0))] [] M1
            have hx : x2 = M 60 6 := by omega
            rw [hx] at hJ
            exact hgo.2.1 30 _ _ _ _ (xa_subI rfl rfl (fun _ _ _ _ => by omega) (xa_subR rfl xa_sub0)) (ih (x1 + 1) M1 (by omega) hc h20 hK (xk_e hJ hR) (by omega) (by omega))
          · intro (c1 : x2 < (M1 60 6))
            refine And.intro (show 0 ≤ x2 ∧ x2 < 16 by omega) ?_
            refine And.intro (show 0 ≤ x2 ∧ x2 < 16 by omega) ?_
            show xa_C xm_I A h0 _ 32 [(0, 0, 0, 13, M1 93 (M1 66 x2)), (0, 0, 0, 13, M1 93 (M1 67 x2))] M1 _
            refine ct_min 0 13 (by decide) (by decide) (by decide) (fun r2 br2 er2 => ?_)
            refine And.intro (show 0 ≤ x2 ∧ x2 < 16 by omega) ?_
            refine And.intro (show 0 ≤ x2 ∧ x2 < 16 by omega) ?_
            show Q 40 [(2, (0, 0, 1, 17, x2 + 1)), (3, (0, 0, 0, 13, r2)), (1, (0, 0, 0, 13, x1)), (0, (2, 60, 0, 0, 0))] [] (xa_up (xa_up M1 93 (M1 66 x2) r2) 93 (M1 67 x2) r2)
            rw [e66, e67] at er2 ⊢
            have hfe : ∀ w, (fun w => xa_up (xa_up M1 93 (M 66 x2) r2) 93 (M 67 x2) r2 93 w) w = if w = (fun i => M 67 i) x2 then r2 else if w = (fun i => M 66 i) x2 then r2 else (fun w => M1 93 w) w := fun w => xm_93_2 M1 _ _ _ _
            exact hgo.2.1 40 _ _ _ _ (xa_subI rfl rfl (fun _ _ _ _ => by omega) (xa_subI rfl rfl (fun _ _ _ _ => by omega) (xa_subR rfl xa_sub0))) (ih2 (x2 + 1) _ (by omega) (xm_cor_a rfl (xm_cor_a rfl hc)) ⟨(xa_up_ne (by omega)).trans ((xa_up_ne (by omega)).trans h20.1), fun i => (xa_up_ne (by omega)).trans ((xa_up_ne (by omega)).trans (h20.2 i))⟩ (xk_Ks hab hK b2.1 (by omega) er2.1 er2.2.1 er2.2.2 hfe) (xk_Js hab hJ b2.1 (by omega) er2.1 er2.2.1 er2.2.2 hfe) h10 (by omega) (by omega))
      refine hgo.1 11 [7, 30, 40, 112, 122, 168, 191] 30 _ _ _ ?_
      refine And.intro ?_ ?_
      · intro (c1 : (M0 60 0) ≤ x1)
        show Q 112 [(1, (0, 0, 0, 0, 0)), (0, (2, 60, 0, 0, 0))] [] M0
        have hx : x1 = M 60 0 := by omega
        rw [hx] at hR
        refine hgo.2.1 112 _ _ _ _ (xa_subI rfl rfl (fun _ _ _ _ => by omega) (xa_subR rfl xa_sub0)) (loop3 15 0 M0 (by omega) hc h20 (fun w w0 w1 => ?_) ⟨dp_heq hab hK hR b0.1, hK.1⟩ (fun v u u0 uv v1 => by omega) (by omega) (by omega))
        rw [e0] at w1
        have h1 := hK.2 w w0 w1
        exact ⟨h1.1, h1.2, xk_fin b0.1 hab hK hR w w0 w1⟩
      · intro (c1 : x1 < (M0 60 0))
        show Q 40 [(2, (0, 0, 0, 0, 0)), (1, (0, 0, 0, 14, x1)), (0, (2, 60, 0, 0, 0))] [] M0
        exact hgo.2.1 40 _ _ _ _ (xa_subI rfl rfl (fun _ _ _ _ => by omega) (xa_subI rfl rfl (fun _ _ _ _ => by omega) (xa_subR rfl xa_sub0))) (loop2 17 0 M0 (by omega) hc h20 hK xk_J0 (by omega) (by omega) (by omega))
  have loop0 : ∀ (n : Nat) (x1 : Int) (M1 : xa_M), 0 ≤ x1 ∧ x1 ≤ 14 → xm_cor M M1 → (M1 60 20 = M 60 20 ∧ ∀ i : Int, M1 74 i = M 74 i) → (∀ w, 0 ≤ w → w < x1 → M1 93 w = w) → x1 ≤ M 60 0 → 14 - x1 < (n : Int) → Q 7 [(1, (0, 0, 0, 14, x1)), (0, (2, 60, 0, 0, 0))] [] M1 := by
    intro n
    induction n with
    | zero => intro x1 M1 b1 hc h20 hw h1 hms; omega
    | succ n ih =>
      intro x1 M1 b1 hc h20 hw h1 hms
      have e0 := xm_corf hc 0 (by omega)
      refine hgo.1 16 [7, 30, 40, 112, 122, 168, 191] 7 _ _ _ ?_
      refine And.intro ?_ ?_
      · intro (c1 : (M1 60 0) ≤ x1)
        show Q 30 [(1, (0, 0, 0, 0, 0)), (0, (2, 60, 0, 0, 0))] [] M1
        have hid : ∀ w, 0 ≤ w → w < M 60 0 → (fun w => M1 93 w) w = w := fun w w0 w1 => hw w w0 (by omega)
        exact hgo.2.1 30 _ _ _ _ (xa_subI rfl rfl (fun _ _ _ _ => by omega) (xa_subR rfl xa_sub0)) (loop1 15 0 M1 (by omega) hc h20 (xk_K0 hid) (xk_R0 hab hid) (by omega) (by omega))
      · intro (c1 : x1 < (M1 60 0))
        refine And.intro (show 0 ≤ x1 ∧ x1 < 14 by omega) ?_
        refine And.intro (show 0 ≤ x1 ∧ x1 ≤ 13 by omega) ?_
        show Q 7 [(1, (0, 0, 1, 15, x1 + 1)), (0, (2, 60, 0, 0, 0))] [] (xa_up M1 93 x1 x1)
        refine hgo.2.1 7 _ _ _ _ (xa_subI rfl rfl (fun _ _ _ _ => by omega) (xa_subR rfl xa_sub0)) (ih (x1 + 1) (xa_up M1 93 x1 x1) (by omega) (xm_cor_a rfl hc) ⟨(xa_up_ne (by omega)).trans h20.1, fun i => (xa_up_ne (by omega)).trans (h20.2 i)⟩ (fun w w0 w1 => ?_) (by omega) (by omega))
        rcases Int.lt_or_eq_of_le (show w ≤ x1 by omega) with c | c
        · rw [xa_up_ne (by omega)]
          exact hw w w0 c
        · rw [c]
          simp [xa_up]
  refine hgo.1 10 [7, 30, 40, 112, 122, 168, 191] 0 _ _ _ ?_
  show Q 7 [(1, (0, 0, 0, 0, 0)), (0, (2, 60, 0, 0, 0))] [] (xa_up M 60 21 0)
  refine hgo.2.1 7 _ _ _ _ (xa_subI rfl rfl (fun _ _ _ _ => by omega) (xa_subR rfl xa_sub0)) (loop0 15 0 (xa_up M 60 21 0) (by omega) (xm_cor_f (by omega) xm_cor_r) ⟨xa_up_ne (by omega), fun i => xa_up_ne (by omega)⟩ (fun w w0 w1 => by omega) (by omega) (by omega))
theorem rw_152 {b : Bool} {A : Nat → Nat} {h0 : g_H} {d : Nat} {M : xa_M} {post : Option xa_V → xa_M → Prop} (hF : pl_F M) (hab : xk_ab (M 1 9) (M 1 10) (M 7) (M 8)) (k1 : ∀ M1 : xa_M, rw_Kd M M1 → dp_L M M1 → rw_Oq (M 1 9) (M1 35) → (∀ x, 0 ≤ x → x < M1 34 3 → ¬ bt (M1 36 x) x = 1) → post (some (0, 0, 1, 1, 1)) M1) (k0 : ∀ M1 : xa_M, rw_Kd M M1 → dp_L M M1 → (∃ x, 0 ≤ x ∧ x < M1 34 3 ∧ bt (M1 36 x) x = 1) → post (some (0, 0, 0, 0, 0)) M1) : xa_C (xl_I b) A h0 (d + 6) 152 [(2, 34, 0, 0, 0), (2, 1, 0, 0, 0)] M post := by
  refine xa_meth (Q0 := (4, 2, false, 0, 0, 4)) (by decide +kernel) ⟨rfl, rfl⟩ (full := s_c_152) rfl rfl ?_
  intro hM hv Q hgo
  have hn := hF.1
  have self : ∀ M1 : xa_M, rw_Kd M M1 → dp_L M M1 → rw_Oq (M 1 9) (M1 35) → ∀ (n : Nat) (g : Int), 0 ≤ g ∧ g ≤ 14 → (∀ x, 0 ≤ x → x < g → ¬ bt (M1 36 x) x = 1) → 14 - g < (n : Int) → Q 143 [(2, (0, 0, 0, 14, g)), (0, (2, 34, 0, 0, 0)), (1, (2, 1, 0, 0, 0))] [] M1 := by
    intro M1 hK hL hOq
    intro n
    induction n with
    | zero => intro g g1 hz hms; omega
    | succ n ih =>
      intro g g1 hz hms
      have G14 := hL.1
      refine hgo.1 21 [15, 67, 79, 143] 143 _ _ _ ?_
      refine And.intro ?_ ?_
      · intro (c1 : (M1 34 3) ≤ g)
        show post (some (0, 0, 1, 1, 1)) M1
        exact k1 M1 hK hL hOq (fun x x0 x1 => hz x x0 (by omega))
      · intro (c1 : g < (M1 34 3))
        show xa_C (xl_I b) A h0 _ 23 [(2, 36, 0, 0, 0), (0, 0, 0, 14, g)] M1 _
        refine cx_23_36 (show 0 ≤ g ∧ g < 14 by omega) ?_
        refine And.intro ?_ ?_
        · intro (c2 : ¬ (xa_ib 3 (xa_ib 7 (M1 36 g) g) 1) = 1)
          show Q 143 [(2, (0, 0, 1, 15, g + 1)), (0, (2, 34, 0, 0, 0)), (1, (2, 1, 0, 0, 0))] [] M1
          have hz2 : ∀ x, 0 ≤ x → x < g + 1 → ¬ bt (M1 36 x) x = 1 := fun x x0 x1 => by
            by_cases e : x = g
            · rw [e]
              exact c2
            · exact hz x x0 (by omega)
          refine hgo.2.1 143 _ [(2, (0, 0, 0, 14, g + 1)), (0, (2, 34, 0, 0, 0)), (1, (2, 1, 0, 0, 0))] _ _ (xa_subI rfl rfl (fun _ _ _ _ => by omega) (xa_subR rfl (xa_subR rfl (xa_sub0)))) ?_
          exact ih (g + 1) (by omega) hz2 (by omega)
        · intro (c2 : (xa_ib 3 (xa_ib 7 (M1 36 g) g) 1) = 1)
          show post (some (0, 0, 0, 0, 0)) M1
          exact k0 M1 hK hL ⟨g, g1.1, by omega, c2⟩
  have loop2 : ∀ (n : Nat) (v : Int) (M1 : xa_M), 0 ≤ v ∧ v ≤ M 1 9 → rw_Kd M M1 → 0 ≤ M 1 9 → rw_gq (M 1 9) (M 1 10) (M 7) (M 8) (M1 35) (M1 34 3) → 0 ≤ M1 34 3 ∧ M1 34 3 ≤ M 1 9 → (∀ t, 0 ≤ t → t < M 1 9 → 0 ≤ M1 35 t ∧ M1 35 t < M1 34 3) → dp_B (M 1 9) (dp_W (M 9) (M 10) (M 5) (M 4) (M 7) (M 8) (M 1 10)) (M1 35) (M1 36) v 0 → 14 - v < (n : Int) → Q 67 [(2, (0, 0, 0, 14, v)), (0, (2, 34, 0, 0, 0)), (1, (2, 1, 0, 0, 0))] [] M1 := by
    intro n
    induction n with
    | zero => intro v M1 v1 hK h9 hg hG hP hB hms; omega
    | succ n ih =>
      intro v M1 v1 hK h9 hg hG hP hB hms
      have inner : v < M 1 9 → ∀ (n : Nat) (u : Int) (M1 : xa_M), v + 1 ≤ u ∧ u ≤ M 1 9 → rw_Kd M M1 → rw_gq (M 1 9) (M 1 10) (M 7) (M 8) (M1 35) (M1 34 3) → 0 ≤ M1 34 3 ∧ M1 34 3 ≤ M 1 9 → (∀ t, 0 ≤ t → t < M 1 9 → 0 ≤ M1 35 t ∧ M1 35 t < M1 34 3) → dp_B (M 1 9) (dp_W (M 9) (M 10) (M 5) (M 4) (M 7) (M 8) (M 1 10)) (M1 35) (M1 36) v u → 14 - u < (n : Int) → Q 79 [(3, (0, 0, 1, 14, u)), (2, (0, 0, 0, 13, v)), (0, (2, 34, 0, 0, 0)), (1, (2, 1, 0, 0, 0))] [] M1 := by
        intro vn
        intro n
        induction n with
        | zero => intro u M1 u1 hK hg hG hP hB hms; omega
        | succ n ih2 =>
          intro u M1 u1 hK hg hG hP hB hms
          have e1 := dp_Ke hK.1 1 (by decide)
          have e4 := dp_Ke hK.1 4 (by decide)
          have e5 := dp_Ke hK.1 5 (by decide)
          have e7 := dp_Ke hK.1 7 (by decide)
          have e8 := dp_Ke hK.1 8 (by decide)
          have e9 := dp_Ke hK.1 9 (by decide)
          have e10 := dp_Ke hK.1 10 (by decide)
          have f9 := congrFun e1 9
          have hF1 := dp_F_k hK.1 hF
          have pv := hP v v1.1 (by omega)
          have pu : u < M 1 9 → 0 ≤ M1 35 u ∧ M1 35 u < M1 34 3 := fun h => hP u (by omega) h
          refine hgo.1 33 [15, 67, 79, 143] 79 _ _ _ ?_
          refine And.intro ?_ ?_
          · intro (c1 : (M1 1 9) ≤ u)
            show Q 67 [(2, (0, 0, 1, 14, v + 1)), (3, (0, 0, 1, 14, u)), (0, (2, 34, 0, 0, 0)), (1, (2, 1, 0, 0, 0))] [] M1
            refine hgo.2.1 67 _ [(2, (0, 0, 0, 14, v + 1)), (0, (2, 34, 0, 0, 0)), (1, (2, 1, 0, 0, 0))] _ _ (xa_subI rfl rfl (fun _ _ _ _ => by omega) (xa_subR rfl (xa_subR rfl (xa_sub0)))) ?_
            exact ih (v + 1) M1 (by omega) hK h9 hg hG hP (dp_Bc hB (fun v' u' a1 a2 a3 _ => by omega)) (by omega)
          · intro (c1 : u < (M1 1 9))
            show xa_C (xl_I b) A h0 _ 37 [(2, 1, 0, 0, 0), (0, 0, 0, 13, v)] M1 _
            refine cx_37_1 (show 0 ≤ v ∧ v < 14 by omega) ?_
            show xa_C (xl_I b) A h0 _ 37 [(2, 1, 0, 0, 0), (0, 0, 1, 14, u)] M1 _
            refine cx_37_1 (show 0 ≤ u ∧ u < 14 by omega) ?_
            refine And.intro ?_ ?_
            · intro (c2 : (M1 5 v) = (M1 5 u))
              show xa_C (xl_I b) A h0 _ 23 [(2, 35, 0, 0, 0), (0, 0, 0, 13, v)] M1 _
              refine cx_23_35 (show 0 ≤ v ∧ v < 14 by omega) ?_
              show xa_C (xl_I b) A h0 _ 23 [(2, 35, 0, 0, 0), (0, 0, 1, 14, u)] M1 _
              refine cx_23_35 (show 0 ≤ u ∧ u < 14 by omega) ?_
              show xa_C (xl_I b) A h0 _ 154 [(2, 34, 0, 0, 0), (0, 0, (-2147483648), 2147483647, M1 35 v), (0, 0, (-2147483648), 2147483647, M1 35 u)] M1 _
              refine cx_154d (show 0 ≤ (M1 35 v) ∧ (M1 35 v) ≤ 13 by omega) (show 0 ≤ (M1 35 u) ∧ (M1 35 u) ≤ 13 by omega) ?_
              intro M114 (i3 : dp_cl M1 M114 (M1 35 v) (M1 35 u))
              show Q 79 [(3, (0, 0, 2, 15, u + 1)), (2, (0, 0, 0, 13, v)), (0, (2, 34, 0, 0, 0)), (1, (2, 1, 0, 0, 0))] [] M114
              have hW : (dp_W (M 9) (M 10) (M 5) (M 4) (M 7) (M 8) (M 1 10)) v u := by
                unfold dp_W
                rw [← e9, ← e10, ← e5, ← e4, ← e7, ← e8, ← e1]
                exact Or.inl c2
              have q35 : M114 35 = M1 35 := funext (fun j => i3.1 35 j (by decide))
              refine hgo.2.1 79 _ [(3, (0, 0, 1, 14, u + 1)), (2, (0, 0, 0, 13, v)), (0, (2, 34, 0, 0, 0)), (1, (2, 1, 0, 0, 0))] _ _ (xa_subI rfl rfl (fun _ _ _ _ => by omega) (xa_subI rfl rfl (fun _ _ _ _ => by omega) (xa_subR rfl (xa_subR rfl (xa_sub0))))) ?_
              exact ih2 (u + 1) M114 (by omega) (rw_Kt hK (rw_Kq (by omega) i3.1)) (by rw [q35, i3.1 34 3 (by decide)]; exact hg) (by rw [i3.1 34 3 (by decide)]; exact hG) (by rw [q35, i3.1 34 3 (by decide)]; exact hP) (by rw [q35]; exact dp_By hB v1.1 (by omega) (by omega) hW i3) (by omega)
            · intro (c2 : ¬ (M1 5 v) = (M1 5 u))
              show xa_C (xl_I b) A h0 _ 143 [(2, 1, 0, 0, 0), (0, 0, 0, 13, v), (0, 0, 1, 14, u)] M1 _
              refine cx_143p (show 0 ≤ v ∧ v ≤ 13 by omega) (show 0 ≤ u ∧ u ≤ 13 by omega) hF1 ?_ ?_
              · intro (i4 : pl_cr (M1 9) (M1 10) (M1 5) (M1 4) (M1 7) (M1 8) (M1 1 10) v u)
                show xa_C (xl_I b) A h0 _ 23 [(2, 35, 0, 0, 0), (0, 0, 0, 13, v)] M1 _
                refine cx_23_35 (show 0 ≤ v ∧ v < 14 by omega) ?_
                show xa_C (xl_I b) A h0 _ 23 [(2, 35, 0, 0, 0), (0, 0, 1, 14, u)] M1 _
                refine cx_23_35 (show 0 ≤ u ∧ u < 14 by omega) ?_
                show xa_C (xl_I b) A h0 _ 154 [(2, 34, 0, 0, 0), (0, 0, (-2147483648), 2147483647, M1 35 v), (0, 0, (-2147483648), 2147483647, M1 35 u)] M1 _
                refine cx_154d (show 0 ≤ (M1 35 v) ∧ (M1 35 v) ≤ 13 by omega) (show 0 ≤ (M1 35 u) ∧ (M1 35 u) ≤ 13 by omega) ?_
                intro M115 (i5 : dp_cl M1 M115 (M1 35 v) (M1 35 u))
                show Q 79 [(3, (0, 0, 2, 15, u + 1)), (2, (0, 0, 0, 13, v)), (0, (2, 34, 0, 0, 0)), (1, (2, 1, 0, 0, 0))] [] M115
                have hW : (dp_W (M 9) (M 10) (M 5) (M 4) (M 7) (M 8) (M 1 10)) v u := by
                  unfold dp_W
                  rw [← e9, ← e10, ← e5, ← e4, ← e7, ← e8, ← e1]
                  exact Or.inr i4
                have q35 : M115 35 = M1 35 := funext (fun j => i5.1 35 j (by decide))
                refine hgo.2.1 79 _ [(3, (0, 0, 1, 14, u + 1)), (2, (0, 0, 0, 13, v)), (0, (2, 34, 0, 0, 0)), (1, (2, 1, 0, 0, 0))] _ _ (xa_subI rfl rfl (fun _ _ _ _ => by omega) (xa_subI rfl rfl (fun _ _ _ _ => by omega) (xa_subR rfl (xa_subR rfl (xa_sub0))))) ?_
                exact ih2 (u + 1) M115 (by omega) (rw_Kt hK (rw_Kq (by omega) i5.1)) (by rw [q35, i5.1 34 3 (by decide)]; exact hg) (by rw [i5.1 34 3 (by decide)]; exact hG) (by rw [q35, i5.1 34 3 (by decide)]; exact hP) (by rw [q35]; exact dp_By hB v1.1 (by omega) (by omega) hW i5) (by omega)
              · intro (i6 : ¬ pl_cr (M1 9) (M1 10) (M1 5) (M1 4) (M1 7) (M1 8) (M1 1 10) v u)
                show Q 79 [(3, (0, 0, 2, 15, u + 1)), (2, (0, 0, 0, 13, v)), (0, (2, 34, 0, 0, 0)), (1, (2, 1, 0, 0, 0))] [] M1
                have hW : ¬ (dp_W (M 9) (M 10) (M 5) (M 4) (M 7) (M 8) (M 1 10)) v u := by
                  unfold dp_W
                  rw [← e9, ← e10, ← e5, ← e4, ← e7, ← e8, ← e1]
                  exact fun h => h.elim c2 i6
                refine hgo.2.1 79 _ [(3, (0, 0, 1, 14, u + 1)), (2, (0, 0, 0, 13, v)), (0, (2, 34, 0, 0, 0)), (1, (2, 1, 0, 0, 0))] _ _ (xa_subI rfl rfl (fun _ _ _ _ => by omega) (xa_subI rfl rfl (fun _ _ _ _ => by omega) (xa_subR rfl (xa_subR rfl (xa_sub0))))) ?_
                exact ih2 (u + 1) M1 (by omega) hK hg hG hP (dp_Bc hB (fun v' u' a1 a2 a3 w => by
                  by_cases y : v' = v ∧ u' = u
                  · rw [y.1, y.2] at w
                    exact absurd w hW
                  · omega)) (by omega)
      have e1 := dp_Ke hK.1 1 (by decide)
      have e4 := dp_Ke hK.1 4 (by decide)
      have e5 := dp_Ke hK.1 5 (by decide)
      have e7 := dp_Ke hK.1 7 (by decide)
      have e8 := dp_Ke hK.1 8 (by decide)
      have e9 := dp_Ke hK.1 9 (by decide)
      have e10 := dp_Ke hK.1 10 (by decide)
      have f9 := congrFun e1 9
      have hF1 := dp_F_k hK.1 hF
      refine hgo.1 13 [15, 67, 79, 143] 67 _ _ _ ?_
      refine And.intro ?_ ?_
      · intro (c1 : (M1 1 9) ≤ v)
        show Q 143 [(2, (0, 0, 0, 0, 0)), (0, (2, 34, 0, 0, 0)), (1, (2, 1, 0, 0, 0))] [] M1
        have ev : v = M 1 9 := by omega
        rw [ev] at hB
        refine hgo.2.1 143 _ [(2, (0, 0, 0, 14, 0)), (0, (2, 34, 0, 0, 0)), (1, (2, 1, 0, 0, 0))] _ _ (xa_subI rfl rfl (fun _ _ _ _ => by omega) (xa_subR rfl (xa_subR rfl (xa_sub0)))) ?_
        exact self M1 hK ⟨⟨hG.1, by omega⟩, hg.1, dp_Bq (by omega) hB⟩ hg.2 15 0 (by omega) (fun x x0 x1 => by omega) (by omega)
      · intro (c1 : v < (M1 1 9))
        show Q 79 [(3, (0, 0, 1, 15, v + 1)), (2, (0, 0, 0, 14, v)), (0, (2, 34, 0, 0, 0)), (1, (2, 1, 0, 0, 0))] [] M1
        refine hgo.2.1 79 _ [(3, (0, 0, 1, 14, v + 1)), (2, (0, 0, 0, 13, v)), (0, (2, 34, 0, 0, 0)), (1, (2, 1, 0, 0, 0))] _ _ (xa_subI rfl rfl (fun _ _ _ _ => by omega) (xa_subI rfl rfl (fun _ _ _ _ => by omega) (xa_subR rfl (xa_subR rfl (xa_sub0))))) ?_
        exact inner (by omega) 15 (v + 1) M1 (by omega) hK hg hG hP (dp_Bc hB (fun v' u' a1 a2 a3 _ => by omega)) (by omega)
  have loop : ∀ (n : Nat) (w : Int) (M1 : xa_M), 0 ≤ w ∧ w ≤ M 1 9 → rw_Kd M M1 → rw_P (M 1 9) (M 1 10) (M 7) (M 8) (M1 35) (M1 34 3) w → 14 - w < (n : Int) → Q 15 [(2, (0, 0, 0, 14, w)), (0, (2, 34, 0, 0, 0)), (1, (2, 1, 0, 0, 0))] [] M1 := by
    intro n
    induction n with
    | zero => intro w M1 w1 hK hP hms; omega
    | succ n ih =>
      intro w M1 w1 hK hP hms
      have e1 := dp_Ke hK.1 1 (by decide)
      have e4 := dp_Ke hK.1 4 (by decide)
      have e5 := dp_Ke hK.1 5 (by decide)
      have e7 := dp_Ke hK.1 7 (by decide)
      have e8 := dp_Ke hK.1 8 (by decide)
      have e9 := dp_Ke hK.1 9 (by decide)
      have e10 := dp_Ke hK.1 10 (by decide)
      have f9 := congrFun e1 9
      have hF1 := dp_F_k hK.1 hF
      have hab1 : xk_ab (M1 1 9) (M1 1 10) (M1 7) (M1 8) := by
        rw [e1, e7, e8]
        exact hab
      refine hgo.1 27 [15, 67, 79, 143] 15 _ _ _ ?_
      refine And.intro ?_ ?_
      · intro (c1 : (M1 1 9) ≤ w)
        show xa_C (xl_I b) A h0 _ 77 [(2, 36, 0, 0, 0), (0, 0, 0, 0, 0)] M1 _
        refine cx_77d_36 ?_
        intro M116 (i2 : ∀ (q : Nat) (j : Int), ¬ q = 36 → M116 q j = M1 q j) (i3 : ∀ t, 0 ≤ t → t < 14 → M116 36 t = 0)
        show Q 67 [(2, (0, 0, 0, 0, 0)), (0, (2, 34, 0, 0, 0)), (1, (2, 1, 0, 0, 0))] [] M116
        have ew : w = M 1 9 := by omega
        rw [ew] at hP
        have hg : rw_gq (M 1 9) (M 1 10) (M 7) (M 8) (M1 35) (M1 34 3) := ⟨dp_Pg hP.1, hP.2.2⟩
        have q35 : M116 35 = M1 35 := funext (fun j => i2 35 j (by decide))
        have hG := hP.1.1
        refine hgo.2.1 67 _ [(2, (0, 0, 0, 14, 0)), (0, (2, 34, 0, 0, 0)), (1, (2, 1, 0, 0, 0))] _ _ (xa_subI rfl rfl (fun _ _ _ _ => by omega) (xa_subR rfl (xa_subR rfl (xa_sub0)))) ?_
        exact loop2 15 0 M116 (by omega) (rw_Kt hK (rw_Kq (by omega) i2)) (by omega) (by rw [q35, i2 34 3 (by decide)]; exact hg) (by rw [i2 34 3 (by decide)]; exact hG) (by rw [q35, i2 34 3 (by decide)]; exact fun t t0 t1 => hg.1.2.2.1 t t0 t1) (by rw [q35]; exact dp_B0 i3) (by omega)
      · intro (c1 : w < (M1 1 9))
        show xa_C (xl_I b) A h0 _ 23 [(2, 35, 0, 0, 0), (0, 0, 0, 14, w)] M1 _
        refine cx_23_35 (show 0 ≤ w ∧ w < 14 by omega) ?_
        refine And.intro ?_ ?_
        · intro (c4 : ¬ (M1 35 w) = (-1))
          show Q 15 [(2, (0, 0, 1, 15, w + 1)), (0, (2, 34, 0, 0, 0)), (1, (2, 1, 0, 0, 0))] [] M1
          refine hgo.2.1 15 _ [(2, (0, 0, 0, 14, w + 1)), (0, (2, 34, 0, 0, 0)), (1, (2, 1, 0, 0, 0))] _ _ (xa_subI rfl rfl (fun _ _ _ _ => by omega) (xa_subR rfl (xa_subR rfl (xa_sub0)))) ?_
          exact ih (w + 1) M1 (by omega) hK (rw_Ps hP c4) (by omega)
        · intro (c4 : (M1 35 w) = (-1))
          show xa_C (xl_I b) A h0 _ 153 [(2, 34, 0, 0, 0), (2, 1, 0, 0, 0), (0, 0, 0, 14, w)] M1 _
          refine cx_153d hF1 hab1 (show 0 ≤ w ∧ w < M1 1 9 by omega) hF1.1.2 ?_
          intro M117 B118 (i5 : ∀ (q : Nat) (j : Int), ¬ q = 35 → M117 q j = M1 q j) (i6 : bt B118 w = 1) (i7 : dp_cls (M1 1 10) (M1 7) (M1 8) B118) (i8 : dp_sd (M1 1 10) (M1 7) (M1 8) w B118) (i9 : ∀ t, 0 ≤ t → t < M1 1 9 → (bt B118 t = 1 → M117 35 t = M1 34 3) ∧ (¬ bt B118 t = 1 → M117 35 t = M1 35 t))
          show Q 15 [(2, (0, 0, 1, 15, w + 1)), (0, (2, 34, 0, 0, 0)), (1, (2, 1, 0, 0, 0))] [] (xa_up M117 34 3 (xa_w32 ((M117 34 3) + 1)))
          rw [e1, e7, e8] at i7 i8
          rw [e1] at i9
          have hG := hP.1.1
          have ew : xa_w32 ((M117 34 3) + 1) = M1 34 3 + 1 := by
            rw [i5 34 3 (by decide)]
            exact xa_w32_id (by omega) (by omega)
          refine hgo.2.1 15 _ [(2, (0, 0, 0, 14, w + 1)), (0, (2, 34, 0, 0, 0)), (1, (2, 1, 0, 0, 0))] _ _ (xa_subI rfl rfl (fun _ _ _ _ => by omega) (xa_subR rfl (xa_subR rfl (xa_sub0)))) ?_
          exact ih (w + 1) _ (by omega) (rw_Ku (by omega) (rw_Kt hK (rw_Kq (by omega) i5))) (by rw [dp_up35 35 (by decide), xa_up_eq, ew]; exact rw_Pn hn.2 hab hP w1.1 (by omega) c4 i6 i7 i8 i9) (by omega)
  refine hgo.1 14 [15, 67, 79, 143] 0 _ _ _ ?_
  show xa_C (xl_I b) A h0 _ 77 [(2, 35, 0, 0, 0), (0, 0, (-1), (-1), (-1))] (xa_up M 34 3 0) _
  refine cx_77d_35 ?_
  intro M119 (i1 : ∀ (q : Nat) (j : Int), ¬ q = 35 → M119 q j = (xa_up M 34 3 0) q j) (i2 : ∀ t, 0 ≤ t → t < 14 → M119 35 t = (-1))
  show Q 15 [(2, (0, 0, 0, 0, 0)), (0, (2, 34, 0, 0, 0)), (1, (2, 1, 0, 0, 0))] [] M119
  refine hgo.2.1 15 _ [(2, (0, 0, 0, 14, 0)), (0, (2, 34, 0, 0, 0)), (1, (2, 1, 0, 0, 0))] _ _ (xa_subI rfl rfl (fun _ _ _ _ => by omega) (xa_subR rfl (xa_subR rfl (xa_sub0)))) ?_
  exact loop 15 0 M119 (by omega) (rw_Kt (rw_Ku (by omega) rw_Kr) (rw_Kq (by omega) i1)) (by rw [i1 34 3 (by decide), xa_up_eq]; exact rw_P0 hn.2 hab i2) (by omega)
theorem rw_beh {k g w : Int} (k1 : k ≤ 14) (g0 : 0 ≤ g) (gw : g < w) (wk : w < k) (w1 : w < 14) : bt (xa_w32 (xa_ib 6 1 k - xa_ib 6 2 g)) w = 1 := by
  have key : (List.range 15).all (fun k => (List.range k).all (fun w => (List.range w).all (fun g => decide (bt (xa_w32 (xa_ib 6 1 (k : Int) - xa_ib 6 2 (g : Int))) (w : Int) = 1)))) = true := by decide +kernel
  have h := List.all_eq_true.mp (List.all_eq_true.mp (List.all_eq_true.mp key k.toNat (List.mem_range.mpr (by omega))) w.toNat (List.mem_range.mpr (by omega))) g.toNat (List.mem_range.mpr (by omega))
  rw [Int.toNat_of_nonneg (show 0 ≤ k by omega), Int.toNat_of_nonneg (show 0 ≤ w by omega), Int.toNat_of_nonneg g0, decide_eq_true_eq] at h
  exact h
theorem rw_155 {b : Bool} {A : Nat → Nat} {h0 : g_H} {d : Nat} {M : xa_M} {post : Option xa_V → xa_M → Prop} {C : Int → Int → Prop} {G : Int} (hG : M 34 3 = G) (g14 : 0 ≤ G ∧ G ≤ 14) (hC : ∀ x y, 0 ≤ x → x < G → 0 ≤ y → y < G → (C x y ↔ bt (M 36 x) y = 1)) (hsC : dq_s G C) (h9 : 0 ≤ M 1 9 ∧ M 1 9 ≤ 14) (hP : ∀ t, 0 ≤ t → t < M 1 9 → 0 ≤ M 35 t ∧ M 35 t < G) (k : ∀ (M1 : xa_M) (r : Int), dp_K M M1 → dp_min G C r → M1 48 1 = M 1 9 → (∃ L : Int → Int, rw_gi G C r G L ∧ ∀ w, 0 ≤ w → w < M 1 9 → M1 49 w = L (M 35 w)) → post (some (0, 0, 0, 14, r)) M1) : xa_C (xl_I b) A h0 (d + 33) 155 [(2, 34, 0, 0, 0), (2, 1, 0, 0, 0), (2, 48, 0, 0, 0)] M post := by
  refine xa_meth (Q0 := (9, 1, false, 0, 0, 4)) (by decide +kernel) ⟨rfl, rfl⟩ (full := s_c_155) rfl rfl ?_
  intro hM hv Q hgo
  have rows : ∀ f : Int, 0 ≤ f ∧ f ≤ 14 → dp_min G C f → ∀ L : Int → Int, rw_gi G C f G L → ∀ (n : Nat) (w : Int) (M1 : xa_M), 0 ≤ w ∧ w ≤ M 1 9 → (∀ (q : Nat) (j : Int), ¬ q = 37 → ¬ q = 48 → ¬ q = 49 → M1 q j = M q j) → M1 48 1 = w → ((∀ t : Int, M1 37 t = L t) ∧ ∀ i : Int, 0 ≤ i → i < w → M1 49 i = L (M 35 i)) → 14 - w < (n : Int) → Q 107 [(4, (0, 0, 0, 14, w)), (3, (0, 0, 0, 14, f)), (0, (2, 34, 0, 0, 0)), (1, (2, 1, 0, 0, 0)), (2, (2, 48, 0, 0, 0))] [] M1 := by
    intro f f1 hmin L hL
    intro n
    induction n with
    | zero => intro w M1 w1 hf h48 hT hms; omega
    | succ n ih =>
      intro w M1 w1 hf h48 hT hms
      have e9 : M1 1 9 = M 1 9 := hf 1 9 (by decide) (by decide) (by decide)
      have e35 : M1 35 w = M 35 w := hf 35 w (by decide) (by decide) (by decide)
      have pw : w < M 1 9 → 0 ≤ M 35 w ∧ M 35 w < G := fun h => hP w w1.1 h
      refine hgo.1 21 [8, 45, 107] 107 _ _ _ ?_
      refine And.intro ?_ ?_
      · intro (c1 : (M1 1 9) ≤ w)
        show post (some (0, 0, 0, 14, f)) M1
        exact k M1 f (fun q j a b c => hf q j (by omega) (by omega) (by omega)) hmin (by omega) ⟨L, hL, fun i i0 i1 => hT.2 i i0 (by omega)⟩
      · intro (c1 : w < (M1 1 9))
        show xa_C (xl_I b) A h0 _ 23 [(2, 35, 0, 0, 0), (0, 0, 0, 14, w)] M1 _
        refine cx_23_35 (show 0 ≤ w ∧ w < 14 by omega) ?_
        show xa_C (xl_I b) A h0 _ 23 [(2, 37, 0, 0, 0), (0, 0, (-2147483648), 2147483647, M1 35 w)] M1 _
        refine cx_23_37 (show 0 ≤ (M1 35 w) ∧ (M1 35 w) < 14 by omega) ?_
        show xa_C (xl_I b) A h0 _ 60 [(2, 48, 0, 0, 0), (1, 0, (-2147483648), 2147483647, M1 37 (M1 35 w))] M1 _
        refine rw_60v (by omega) ?_
        intro M128 (i2a : ∀ (q : Nat) (j : Int), ¬ (q = 48 ∨ q = 49) → M128 q j = M1 q j) (_ : (0 : Int) ≤ M128 48 1) (i3a : M128 48 1 = M1 48 1 + 1) (i4a : M128 49 (M1 48 1) = M1 37 (M1 35 w)) (i5a : ∀ j : Int, ¬ j = M1 48 1 → M128 49 j = M1 49 j)
        have i2 : pl_K M1 M128 := fun q j h1 h2 => i2a q j (by omega)
        have i3 : M128 48 1 = w + 1 := by omega
        show Q 107 [(4, (0, 0, 1, 15, w + 1)), (3, (0, 0, 0, 14, f)), (0, (2, 34, 0, 0, 0)), (1, (2, 1, 0, 0, 0)), (2, (2, 48, 0, 0, 0))] [] M128
        refine hgo.2.1 107 _ [(4, (0, 0, 0, 14, w + 1)), (3, (0, 0, 0, 14, f)), (0, (2, 34, 0, 0, 0)), (1, (2, 1, 0, 0, 0)), (2, (2, 48, 0, 0, 0))] _ _ (xa_subI rfl rfl (fun _ _ _ _ => by omega) (xa_subI rfl rfl (fun _ _ _ _ => by omega) (xa_subR rfl (xa_subR rfl (xa_subR rfl (xa_sub0)))))) ?_
        exact ih (w + 1) M128 (by omega) (fun q j a b c => (i2 q j b c).trans (hf q j a b c)) i3 ⟨fun t => (i2a 37 t (by decide)).trans (hT.1 t), fun i i0 i1 => by
          by_cases e : i = M1 48 1
          · rw [e, i4a, hT.1, h48, ← e35]
          · exact (i5a i e).trans (hT.2 i i0 (by omega))⟩ (by omega)
  have loop : ∀ f : Int, 0 ≤ f ∧ f ≤ 14 → dp_min G C f → ∀ (n : Nat) (g : Int) (M1 : xa_M), 0 ≤ g ∧ g ≤ 14 → (∀ (q : Nat) (j : Int), ¬ q = 37 → M1 q j = M q j) → (∀ t, 0 ≤ t → t < 14 → -1 ≤ M1 37 t ∧ M1 37 t ≤ 13) → (∀ t, g ≤ t → t < 14 → M1 37 t = -1) → (g ≤ G ∧ rw_gi G C f g (M1 37)) → 14 - g < (n : Int) → Q 8 [(4, (0, 0, 0, 14, g)), (3, (0, 0, 0, 14, f)), (0, (2, 34, 0, 0, 0)), (1, (2, 1, 0, 0, 0)), (2, (2, 48, 0, 0, 0))] [] M1 := by
    intro f f1 hmin
    intro n
    induction n with
    | zero => intro g M1 g1 hf hl hn hI hms; omega
    | succ n ih =>
      intro g M1 g1 hf hl hn hI hms
      have hnb := hn
      obtain ⟨Lb, eLb⟩ : ∃ Lb : Int → Int, Lb = M1 37 := ⟨_, rfl⟩
      have hIb : rw_gi G C f g Lb := by rw [eLb]; exact hI.2
      have hnL : ∀ t, g ≤ t → t < 14 → Lb t = -1 := by rw [eLb]; exact hnb
      have inner : g < G → ∀ (o bh : Int), dp_o G C Lb g f o → (∀ t, 0 ≤ t → t < 14 → (bt bh t = 1 ↔ g < t ∧ t < G)) → (bs bh ∧ ∀ t, 0 ≤ t → t < 14 → bt bh t = 1 → g < t ∧ t < G) → ∀ (n : Nat) (c set : Int) (M1 : xa_M), 0 ≤ c ∧ c ≤ 14 → 0 ≤ set ∧ set ≤ 1 → (∀ (q : Nat) (j : Int), ¬ q = 37 → M1 q j = M q j) → (∀ t, 0 ≤ t → t < 14 → -1 ≤ M1 37 t ∧ M1 37 t ≤ 13) → (∀ t, g < t → t < 14 → M1 37 t = -1) → rw_gs G C f g c set Lb (M1 37) → 14 - c < (n : Int) → Q 45 [(8, (0, 0, 0, 14, c)), (7, (0, 0, 0, 1, set)), (5, (0, 0, (-2147483648), 2147483647, o)), (6, (0, 0, 0, 16383, bh)), (4, (0, 0, 0, 13, g)), (3, (0, 0, 0, 14, f)), (0, (2, 34, 0, 0, 0)), (1, (2, 1, 0, 0, 0)), (2, (2, 48, 0, 0, 0))] [] M1 := by
        intro gG o bh ho hBh hbh
        intro n
        induction n with
        | zero => intro c set M1 b1 s1 hf hl1 hn hS hms; omega
        | succ n ih2 =>
          intro c set M1 b1 s1 hf hl1 hn hS hms
          have hG1 : M1 34 3 = G := (hf 34 3 (by decide)).trans hG
          have hC1 : ∀ x y, 0 ≤ x → x < G → 0 ≤ y → y < G → (C x y ↔ bt (M1 36 x) y = 1) := fun x y x0 x1 y0 y1 => by
            rw [hf 36 x (by decide)]
            exact hC x y x0 x1 y0 y1
          have e9 : M1 1 9 = M 1 9 := hf 1 9 (by decide)
          refine hgo.1 30 [8, 45, 107] 45 _ _ _ ?_
          refine And.intro ?_ ?_
          · intro (c1 : f ≤ c)
            show Q 8 [(4, (0, 0, 1, 14, g + 1)), (8, (0, 0, 0, 14, c)), (7, (0, 0, 0, 1, set)), (5, (0, 0, (-2147483648), 2147483647, o)), (6, (0, 0, 0, 16383, bh)), (3, (0, 0, 0, 14, f)), (0, (2, 34, 0, 0, 0)), (1, (2, 1, 0, 0, 0)), (2, (2, 48, 0, 0, 0))] [] M1
            refine hgo.2.1 8 _ [(4, (0, 0, 0, 14, g + 1)), (3, (0, 0, 0, 14, f)), (0, (2, 34, 0, 0, 0)), (1, (2, 1, 0, 0, 0)), (2, (2, 48, 0, 0, 0))] _ _ (xa_subI rfl rfl (fun _ _ _ _ => by omega) (xa_subI rfl rfl (fun _ _ _ _ => by omega) (xa_subR rfl (xa_subR rfl (xa_subR rfl (xa_sub0)))))) ?_
            exact ih (g + 1) M1 (by omega) hf hl1 (fun t t0 t1 => hn t (by omega) t1) ⟨by omega, rw_gs_end ⟨g1.1, gG⟩ c1 hIb hS⟩ (by omega)
          · intro (c1 : c < f)
            refine And.intro ?_ ?_
            · intro (c2 : ¬ set = 0)
              show Q 8 [(4, (0, 0, 1, 14, g + 1)), (8, (0, 0, 0, 14, c)), (7, (0, 0, 0, 1, set)), (5, (0, 0, (-2147483648), 2147483647, o)), (6, (0, 0, 0, 16383, bh)), (3, (0, 0, 0, 14, f)), (0, (2, 34, 0, 0, 0)), (1, (2, 1, 0, 0, 0)), (2, (2, 48, 0, 0, 0))] [] M1
              refine hgo.2.1 8 _ [(4, (0, 0, 0, 14, g + 1)), (3, (0, 0, 0, 14, f)), (0, (2, 34, 0, 0, 0)), (1, (2, 1, 0, 0, 0)), (2, (2, 48, 0, 0, 0))] _ _ (xa_subI rfl rfl (fun _ _ _ _ => by omega) (xa_subI rfl rfl (fun _ _ _ _ => by omega) (xa_subR rfl (xa_subR rfl (xa_subR rfl (xa_sub0)))))) ?_
              exact ih (g + 1) M1 (by omega) hf hl1 (fun t t0 t1 => hn t (by omega) t1) ⟨by omega, rw_gs_y c2 hS⟩ (by omega)
            · intro (c2 : set = 0)
              refine And.intro ?_ ?_
              · intro (c3 : ¬ (xa_ib 3 (xa_ib 7 o c) 1) = 1)
                show Q 45 [(8, (0, 0, 1, 15, c + 1)), (7, (0, 0, 0, 1, set)), (5, (0, 0, (-2147483648), 2147483647, o)), (6, (0, 0, 0, 16383, bh)), (4, (0, 0, 0, 13, g)), (3, (0, 0, 0, 14, f)), (0, (2, 34, 0, 0, 0)), (1, (2, 1, 0, 0, 0)), (2, (2, 48, 0, 0, 0))] [] M1
                refine hgo.2.1 45 _ [(8, (0, 0, 0, 14, c + 1)), (7, (0, 0, 0, 1, set)), (5, (0, 0, (-2147483648), 2147483647, o)), (6, (0, 0, 0, 16383, bh)), (4, (0, 0, 0, 13, g)), (3, (0, 0, 0, 14, f)), (0, (2, 34, 0, 0, 0)), (1, (2, 1, 0, 0, 0)), (2, (2, 48, 0, 0, 0))] _ _ (xa_subI rfl rfl (fun _ _ _ _ => by omega) (xa_subI rfl rfl (fun _ _ _ _ => by omega) (xa_subI rfl rfl (fun _ _ _ _ => by omega) (xa_subI rfl rfl (fun _ _ _ _ => by omega) (xa_subI rfl rfl (fun _ _ _ _ => by omega) (xa_subI rfl rfl (fun _ _ _ _ => by omega) (xa_subR rfl (xa_subR rfl (xa_subR rfl (xa_sub0)))))))))) ?_
                exact ih2 (c + 1) set M1 (by omega) (by omega) hf hl1 hn (by rw [c2] at hS ⊢; exact rw_gs_n hsC ⟨g1.1, gG⟩ (by omega) c1 (fun t t0 t1 => hnL t t0 (by omega)) ho c3 hIb hS) (by omega)
              · intro (c3 : (xa_ib 3 (xa_ib 7 o c) 1) = 1)
                show xa_C (xl_I b) A h0 _ 18 [(2, 37, 0, 0, 0), (0, 0, 0, 13, g), (0, 0, 0, 14, c)] M1 _
                refine cx_18_37 (show 0 ≤ g ∧ g < 14 by omega) ?_
                show xa_C (xl_I b) A h0 _ 157 [(2, 34, 0, 0, 0), (0, 0, 0, 16383, bh), (0, 0, 0, 14, f), (0, 0, 0, 0, 0)] (xa_up M1 37 g c) _
                refine dp_all (d := d + 1) ((xa_up_ne (by omega)).trans hG1) g14 (fun x y x0 x1 y0 y1 => by rw [xa_up_ne (by omega)]; exact hC1 x y x0 x1 y0 y1) (dp_hl hl1 (by omega)) hsC hbh.1 (cn_le bh).2 ⟨Int.le_refl 0, by have := (cn_le bh).2; omega⟩ (show 0 ≤ f ∧ f ≤ 14 by omega) (fun t t0 t1 h => ⟨(hbh.2 t t0 t1 h).2, (xa_up_ne (by have := (hbh.2 t t0 t1 h).1; omega)).trans (hn t (hbh.2 t t0 t1 h).1 t1)⟩) ?_
                intro r129 (i4 : r129 = 0 ∨ r129 = 1) (i5 : r129 = 1 ↔ dq_X G C (fun t => bt bh t = 1) ((xa_up M1 37 g c) 37) f)
                show Q 45 [(8, (0, 0, 1, 15, c + 1)), (7, (0, 0, 0, 1, r129)), (5, (0, 0, (-2147483648), 2147483647, o)), (6, (0, 0, 0, 16383, bh)), (4, (0, 0, 0, 13, g)), (3, (0, 0, 0, 14, f)), (0, (2, 34, 0, 0, 0)), (1, (2, 1, 0, 0, 0)), (2, (2, 48, 0, 0, 0))] [] (xa_up M1 37 g c)
                refine hgo.2.1 45 _ [(8, (0, 0, 0, 14, c + 1)), (7, (0, 0, 0, 1, r129)), (5, (0, 0, (-2147483648), 2147483647, o)), (6, (0, 0, 0, 16383, bh)), (4, (0, 0, 0, 13, g)), (3, (0, 0, 0, 14, f)), (0, (2, 34, 0, 0, 0)), (1, (2, 1, 0, 0, 0)), (2, (2, 48, 0, 0, 0))] _ _ (xa_subI rfl rfl (fun _ _ _ _ => by omega) (xa_subI rfl rfl (fun _ _ _ _ => by omega) (xa_subI rfl rfl (fun _ _ _ _ => by omega) (xa_subI rfl rfl (fun _ _ _ _ => by omega) (xa_subI rfl rfl (fun _ _ _ _ => by omega) (xa_subI rfl rfl (fun _ _ _ _ => by omega) (xa_subR rfl (xa_subR rfl (xa_subR rfl (xa_sub0)))))))))) ?_
                exact ih2 (c + 1) r129 _ (by omega) (by omega) (fun q j hq => (xa_up_ne (fun e => hq e.1)).trans (hf q j hq)) (dp_hl hl1 (by omega)) (fun t t0 t1 => (xa_up_ne (by omega)).trans (hn t t0 t1)) (by rw [c2] at hS; exact rw_gs_t hsC g14.2 ⟨g1.1, gG⟩ (by omega) c1 (fun t t0 t1 => hnL t t0 (by omega)) ho c3 hBh hIb ⟨xa_up_eq, fun s hs => xa_up_ne (by omega)⟩ ⟨i4, i5⟩ hS) (by omega)
      have hG1 : M1 34 3 = G := (hf 34 3 (by decide)).trans hG
      have hC1 : ∀ x y, 0 ≤ x → x < G → 0 ≤ y → y < G → (C x y ↔ bt (M1 36 x) y = 1) := fun x y x0 x1 y0 y1 => by
        rw [hf 36 x (by decide)]
        exact hC x y x0 x1 y0 y1
      have e9 : M1 1 9 = M 1 9 := hf 1 9 (by decide)
      have hl1 := hl
      refine hgo.1 27 [8, 45, 107] 8 _ _ _ ?_
      refine And.intro ?_ ?_
      · intro (c1 : (M1 34 3) ≤ g)
        show xa_C (xl_I b) A h0 _ 59 [(2, 48, 0, 0, 0)] M1 _
        refine cx_59_48 ?_
        show Q 107 [(4, (0, 0, 0, 0, 0)), (3, (0, 0, 0, 14, f)), (0, (2, 34, 0, 0, 0)), (1, (2, 1, 0, 0, 0)), (2, (2, 48, 0, 0, 0))] [] (xa_up M1 48 1 0)
        refine hgo.2.1 107 _ [(4, (0, 0, 0, 14, 0)), (3, (0, 0, 0, 14, f)), (0, (2, 34, 0, 0, 0)), (1, (2, 1, 0, 0, 0)), (2, (2, 48, 0, 0, 0))] _ _ (xa_subI rfl rfl (fun _ _ _ _ => by omega) (xa_subI rfl rfl (fun _ _ _ _ => by omega) (xa_subR rfl (xa_subR rfl (xa_subR rfl (xa_sub0)))))) ?_
        exact rows f (by omega) hmin (M1 37) (by have e9 : g = G := (by omega); rw [e9] at hI; exact hI.2) 15 0 _ (by omega) (fun q j a b c => (xa_up_ne (by omega)).trans (hf q j a)) xa_up_eq ⟨fun t => xa_up_ne (by omega), fun i i0 i1 => by exfalso; omega⟩ (by omega)
      · intro (c1 : g < (M1 34 3))
        show xa_C (xl_I b) A h0 _ 161 [(2, 34, 0, 0, 0), (0, 0, 0, 14, g), (0, 0, 0, 14, f)] M1 _
        refine cx_161d hG1 g14 hC1 hl1 (show 0 ≤ g ∧ g < G by omega) (show 0 ≤ f ∧ f ≤ 14 by omega) ?_
        intro r130 (i2 : dp_o G C (M1 37) g f r130)
        show Q 45 [(8, (0, 0, 0, 0, 0)), (7, (0, 0, 0, 0, 0)), (6, (0, 0, (-2147483648), 2147483647, xa_w32 ((xa_ib 6 1 (M1 34 3)) - (xa_ib 6 2 g)))), (5, (0, 0, (-2147483648), 2147483647, r130)), (4, (0, 0, 0, 14, g)), (3, (0, 0, 0, 14, f)), (0, (2, 34, 0, 0, 0)), (1, (2, 1, 0, 0, 0)), (2, (2, 48, 0, 0, 0))] [] M1
        have hb : 0 ≤ (xa_w32 ((xa_ib 6 1 (M1 34 3)) - (xa_ib 6 2 g))) ∧ (xa_w32 ((xa_ib 6 1 (M1 34 3)) - (xa_ib 6 2 g))) < 16384 := bs_beh (by omega) (by omega) (by omega) (by omega)
        refine hgo.2.1 45 _ [(8, (0, 0, 0, 14, 0)), (7, (0, 0, 0, 1, 0)), (5, (0, 0, (-2147483648), 2147483647, r130)), (6, (0, 0, 0, 16383, xa_w32 ((xa_ib 6 1 (M1 34 3)) - (xa_ib 6 2 g)))), (4, (0, 0, 0, 13, g)), (3, (0, 0, 0, 14, f)), (0, (2, 34, 0, 0, 0)), (1, (2, 1, 0, 0, 0)), (2, (2, 48, 0, 0, 0))] _ _ (xa_subI rfl rfl (fun _ _ _ _ => by omega) (xa_subI rfl rfl (fun _ _ _ _ => by omega) (xa_subI rfl rfl (fun _ _ _ _ => by omega) (xa_subI rfl rfl (fun _ _ _ _ => by omega) (xa_subI rfl rfl (fun _ _ _ _ => by omega) (xa_subI rfl rfl (fun _ _ _ _ => by omega) (xa_subR rfl (xa_subR rfl (xa_subR rfl (xa_sub0)))))))))) ?_
        exact inner (by omega) _ (xa_w32 ((xa_ib 6 1 (M1 34 3)) - (xa_ib 6 2 g))) (by rw [eLb]; exact i2) (fun t t0 t1 => ⟨fun h => by
          have := bt_beh (by omega) (by omega) (by omega) (by omega) t0 t1 h
          omega, fun h => rw_beh (by omega) (by omega) h.1 (by omega) t1⟩) ⟨hb, fun t t0 t1 h => by
          have := bt_beh (by omega) (by omega) (by omega) (by omega) t0 t1 h
          omega⟩ 15 0 0 M1 (by omega) (by omega) hf hl (fun t t0 t1 => hn t (by omega) t1) (by rw [eLb]; exact rw_gs0 ⟨g1.1, by omega⟩) (by omega)
  refine hgo.1 10 [8, 45, 107] 0 _ _ _ ?_
  show xa_C (xl_I b) A h0 _ 156 [(2, 34, 0, 0, 0)] M _
  refine cx_156d hG g14 hC hsC ?_
  intro M131 r132 (i1 : ∀ (q : Nat) (j : Int), ¬ q = 37 → M131 q j = M q j) (i2 : ∀ t, 0 ≤ t → t < 14 → M131 37 t = -1) (i3 : dp_min G C r132)
  show Q 8 [(4, (0, 0, 0, 0, 0)), (3, (0, 0, 0, 14, r132)), (0, (2, 34, 0, 0, 0)), (1, (2, 1, 0, 0, 0)), (2, (2, 48, 0, 0, 0))] [] M131
  refine hgo.2.1 8 _ [(4, (0, 0, 0, 14, 0)), (3, (0, 0, 0, 14, r132)), (0, (2, 34, 0, 0, 0)), (1, (2, 1, 0, 0, 0)), (2, (2, 48, 0, 0, 0))] _ _ (xa_subI rfl rfl (fun _ _ _ _ => by omega) (xa_subI rfl rfl (fun _ _ _ _ => by omega) (xa_subR rfl (xa_subR rfl (xa_subR rfl (xa_sub0)))))) ?_
  have fr := i3.1
  exact loop r132 (by omega) i3 15 0 M131 (by omega) i1 (fun t t0 t1 => by rw [i2 t t0 t1]; decide) (fun t t0 t1 => i2 t t0 t1) ⟨g14.1, rw_gi0 i3.2.1⟩ (by omega)
theorem rw_151 {b : Bool} {A : Nat → Nat} {h0 : g_H} {d : Nat} {M : xa_M} {post : Option xa_V → xa_M → Prop} (hF : pl_F M) (hab : xk_ab (M 1 9) (M 1 10) (M 7) (M 8)) (k : ∀ (M1 : xa_M) (r : Int), dp_K M M1 → dq_A (M 1 9) (dp_W (M 9) (M 10) (M 5) (M 4) (M 7) (M 8) (M 1 10)) (M 7) (M 8) (M 1 10) r → rw_k (0 ≤ r) (M 48 1) (M 49) (M1 48 1) (M1 49) (M 1 9) (rw_s151 (M 1 9) (dp_W (M 9) (M 10) (M 5) (M 4) (M 7) (M 8) (M 1 10)) (M 7) (M 8) (M 1 10) r) → post (some (0, 0, (-2), 14, r)) M1) : xa_C (xl_I b) A h0 (d + 34) 151 [(2, 0, 0, 0, 0)] M post := by
  refine xa_C_wk ?_
  refine xa_meth (Q0 := (1, 1, false, 0, 0, 11)) (by decide +kernel) ⟨rfl, rfl⟩ (full := s_c_151) rfl rfl ?_
  intro hM hv Q hgo
  refine hgo.1 18 [] 0 _ _ _ ?_
  show xa_C (xl_I b) A h0 _ 152 [(2, 34, 0, 0, 0), (2, 1, 0, 0, 0)] M _
  refine rw_152 hF hab ?_ ?_
  · intro M133 (ik : rw_Kd M M133) (i2 : dp_L M M133) (iO : rw_Oq (M 1 9) (M133 35)) (i3 : ∀ x, 0 ≤ x → x < M133 34 3 → ¬ bt (M133 36 x) x = 1)
    have i1 : dp_K M M133 := ik.1
    have y9 : M133 48 1 = M 48 1 ∧ ∀ j, M133 49 j = M 49 j := ⟨(ik.2 1).1, fun j => (ik.2 j).2⟩
    show xa_C (xl_I b) A h0 _ 155 [(2, 34, 0, 0, 0), (2, 1, 0, 0, 0), (2, 48, 0, 0, 0)] M133 _
    refine rw_155 (C := fun x y => bt (M133 36 x) y = 1) (G := M133 34 3) rfl (by assumption : dp_L M M133).1 (fun _ _ _ _ _ _ => Iff.rfl) (dp_s (by assumption : dp_L M M133).2.2 (by assumption)) (by rw [dp_Ke (by assumption : dp_K M M133) 1 (by decide)]; exact hF.1) (by rw [dp_Ke (by assumption : dp_K M M133) 1 (by decide)]; exact (by assumption : dp_L M M133).2.1.2.2.1) ?_
    intro M135 r136 (i4 : dp_K M133 M135) (i5 : dp_min (M133 34 3) (fun x y => bt (M133 36 x) y = 1) r136) (z9 : M135 48 1 = M133 1 9) (v9 : ∃ L : Int → Int, rw_gi (M133 34 3) (fun x y => bt (M133 36 x) y = 1) r136 (M133 34 3) L ∧ ∀ w, 0 ≤ w → w < M133 1 9 → M135 49 w = L (M133 35 w))
    show xa_wk post (some (0, 0, 0, 14, r136)) M135
    have fr := i5.1
    have f14 := i2.1
    exact xa_wkI _ rfl (fun _ _ => by omega) (k _ _ (dp_Kt i1 i4) (dp_ans hab i2.2.1 i2.2.2 i3 i5) (by obtain ⟨L9, l1, l2⟩ := v9; rw [dp_Ke i1 1 (by decide)] at l2; exact rw_yes (V := M135 49) (by omega) (by rw [z9, dp_Ke i1 1 (by decide)]) (fun _ _ _ => rfl) (rw_gw hab i2.2.1 iO i2.2.2 i3 l1 l2)))
  · intro M134 (ik : rw_Kd M M134) (i7 : dp_L M M134) (i8 : ∃ x, 0 ≤ x ∧ x < M134 34 3 ∧ bt (M134 36 x) x = 1)
    have i6 : dp_K M M134 := ik.1
    have y9 : M134 48 1 = M 48 1 ∧ ∀ j, M134 49 j = M 49 j := ⟨(ik.2 1).1, fun j => (ik.2 j).2⟩
    show xa_wk post (some (0, 0, (-2), (-2), (-2))) M134
    exact xa_wkI (-2) rfl (fun _ _ => by omega) (k _ _ i6 (Or.inl ⟨(dq_gS i7.2.1 i7.2.2).mp i8, rfl⟩) (rw_no (by omega) y9.1 (fun j _ _ => y9.2 j)))
theorem rw_p151 (A : Nat → Nat) (cmp : Bool) : iv_pair (rw_J A) A 151 267 [] cmp false := rw_armV (fun W b h as M hJ hM hInv hs hR hz => by
  obtain rfl := iv_sp0 hs
  have b0 := xm_f0 (xa_H_Mok hM)
  have b6 := xm_f6 (xa_H_Mok hM)
  have r1 : iv_num h 1 9 = M 60 0 := hR.1.1
  have r2 : iv_num h 1 10 = M 60 6 := hR.1.2.1
  have r3 : ∀ i, 0 ≤ i → i < 14 → iv_num h 2 i = M 61 i ∧ iv_num h 3 i = M 62 i ∧ iv_num h 5 i = M 64 i ∧ iv_num h 6 i = M 65 i ∧ iv_num h 4 i = M 63 i := hR.1.2.2.1
  have r4 : ∀ i, 0 ≤ i → i < 16 → iv_num h 7 i = M 66 i ∧ iv_num h 8 i = M 67 i := hR.1.2.2.2
  have hS := hR.2
  have hX : lm_X (xj (iv_num h) M) := hR.2.2
  have hMk := xa_H_Mok hM
  have p9 : ∀ i, 0 ≤ i → i < 10 → iv_num h 9 i = M 68 i := hX.2.2.2.2.2.2.2.2.2.2.2.2.2.2.1
  have p10 : ∀ i, 0 ≤ i → i < 10 → iv_num h 10 i = M 69 i := hX.2.2.2.2.2.2.2.2.2.2.2.2.2.2.2
  have q9 : ∀ i, 0 ≤ i → i < 10 → -500 ≤ iv_num h 9 i ∧ iv_num h 9 i ≤ 500 := fun i i0 i1 => by rw [p9 i i0 i1]; exact xm_t68 hMk i i0 i1
  have q10 : ∀ i, 0 ≤ i → i < 10 → -500 ≤ iv_num h 10 i ∧ iv_num h 10 i ≤ 500 := fun i i0 i1 => by rw [p10 i i0 i1]; exact xm_t69 hMk i i0 i1
  have q5 : ∀ i, 0 ≤ i → i < 14 → 0 ≤ iv_num h 5 i ∧ iv_num h 5 i ≤ 9 := fun i i0 i1 => by rw [(r3 i i0 i1).2.2.1]; exact xm_t64 hMk i i0 i1
  have q6 : ∀ i, 0 ≤ i → i < 14 → 0 ≤ iv_num h 6 i ∧ iv_num h 6 i ≤ 9 := fun i i0 i1 => by rw [(r3 i i0 i1).2.2.2.1]; exact xm_t65 hMk i i0 i1
  have hF : pl_F (iv_num h) := ⟨by omega, by omega, fun k k0 k1 => by
    have a1 := (r4 k k0 (by omega)).1
    have a2 := (r4 k k0 (by omega)).2
    have u1 := xm_t66 hMk k k0 (by omega)
    have u2 := xm_t67 hMk k k0 (by omega)
    omega, q9, q10, q5, q6, fun i i0 i1 => by
    have a1 := (r3 i i0 i1).2.2.2.2
    have a2 := xm_t63 hMk i i0 i1
    omega⟩
  have hab : xk_ab (iv_num h 1 9) (iv_num h 1 10) (iv_num h 7) (iv_num h 8) := fun i i0 i1 => by
    have a1 := (r4 i i0 (by omega)).1
    have a2 := (r4 i i0 (by omega)).2
    have u1 := xm_t66 hMk i i0 (by omega)
    have u2 := xm_t67 hMk i i0 (by omega)
    have u3 := hInv.2.1 i i0 (by omega)
    omega
  have conv : ∀ r, dq_A (M 60 0) (xm_inw M) (M 66) (M 67) (M 60 6) r → dq_A (iv_num h 1 9) (dp_W (iv_num h 9) (iv_num h 10) (iv_num h 5) (iv_num h 4) (iv_num h 7) (iv_num h 8) (iv_num h 1 10)) (iv_num h 7) (iv_num h 8) (iv_num h 1 10) r := fun r hA => dq_Ae r1 r2 (fun v u v0 v1 u0 u1 => by
    rw [dp_iw, r2]
    exact dp_We b6.2 p9 p10 (fun i i0 i1 => (r3 i i0 i1).2.2.1) (fun i i0 i1 => (r3 i i0 i1).2.2.2.2) (fun i i0 i1 => (r4 i i0 i1).1) (fun i i0 i1 => (r4 i i0 i1).2) (fun i i0 i1 => xm_t64 hMk i i0 i1) v0 (by omega) u0 (by omega)) (fun m m0 m1 => (r4 m m0 (by omega)).1) (fun m m0 m1 => (r4 m m0 (by omega)).2) hA
  have hc := rw_151 (b := b) (A := A) (h0 := h) (d := 26) (M := iv_num h) (post := fun o M1 => ∃ lo hi n, o = some (0, 0, lo, hi, n) ∧ ((dq_A (iv_num h 1 9) (dp_W (iv_num h 9) (iv_num h 10) (iv_num h 5) (iv_num h 4) (iv_num h 7) (iv_num h 8) (iv_num h 1 10)) (iv_num h 7) (iv_num h 8) (iv_num h 1 10) n ∧ dp_K (iv_num h) M1) ∧ rw_k (0 ≤ n) (iv_num h 48 1) (iv_num h 49) (M1 48 1) (M1 49) (M 60 0) (rw_s151 (iv_num h 1 9) (dp_W (iv_num h 9) (iv_num h 10) (iv_num h 5) (iv_num h 4) (iv_num h 7) (iv_num h 8) (iv_num h 1 10)) (iv_num h 7) (iv_num h 8) (iv_num h 1 10) n))) hF hab (fun M1 r hK hA z => ⟨_, _, _, rfl, ⟨hA, hK⟩, by rw [show M 60 0 = iv_num h 1 9 from r1.symm]; exact z⟩)
  have hm := fun (h1 : g_H) => rw_m151 (A := A) (h0 := h1) (d := 41) (M := M) (post := fun o M2 => (∃ lo hi n, o = some (0, 0, lo, hi, n) ∧ ((dq_A (M 60 0) (xm_inw M) (M 66) (M 67) (M 60 6) n ∧ xm_cor M M2) ∧ rw_k (0 ≤ n) (M 60 20) (M 74) (M2 60 20) (M2 74) (M 60 0) (rw_s151 (M 60 0) (xm_inw M) (M 66) (M 67) (M 60 6) n))) ∧ xm_Inv M2) hInv (fun r M2 hc hA z => ⟨⟨_, _, _, rfl, ⟨hA, hc⟩, z⟩, xm_Inv_cor hc hInv⟩)
  refine ⟨[(2, 0, 0, 0, 0)], [(2, 60, 0, 0, 0)], _, _, ⟨rfl, trivial⟩, ⟨rfl, trivial⟩, fun n n' M1 M2 h1 h2 => ⟨fun _ => dq_A1 h1.1.1 (conv _ h2.1.1), fun x => h2.1.2 104 x (by unfold xm_scr; omega), fun x => h2.1.2 105 x (by unfold xm_scr; omega), xq_lmR hR (fun q j hC hq => h1.1.2 q j (by first | (have t9 := lm_Cq hC; omega) | (unfold lm_C at hC; omega)) (by first | (have t9 := lm_Cq hC; omega) | (unfold lm_C at hC; omega)) (by first | (have t9 := lm_Cq hC; omega) | (unfold lm_C at hC; omega))) h2.1.2, rw_k1 h1.2 h2.2 (by rw [show n = n' from dq_A1 h1.1.1 (conv _ h2.1.1)]) (fun _ => by omega) (fun V V' _ g1 g2 i i0 i1 => by
    have en : n = n' := dq_A1 h1.1.1 (conv _ h2.1.1)
    exact rw_s151_one (rw_s151_e r1 r2 en (fun v u v0 v1 u0 u1 => by
    rw [dp_iw, r2]
    exact dp_We b6.2 p9 p10 (fun i i0 i1 => (r3 i i0 i1).2.2.1) (fun i i0 i1 => (r3 i i0 i1).2.2.2.2) (fun i i0 i1 => (r4 i i0 i1).1) (fun i i0 i1 => (r4 i i0 i1).2) (fun i i0 i1 => xm_t64 hMk i i0 i1) v0 (by omega) u0 (by omega)) (fun m m0 m1 => (r4 m m0 (by omega)).1) (fun m m0 m1 => (r4 m m0 (by omega)).2) g1) g2 i i0 i1) hz⟩, hc, hm⟩)

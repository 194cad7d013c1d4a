set_option maxRecDepth 20000
def rz_z (w n s : Int) : Prop := (n = 0 → s = 0) ∧ (¬ n = 0 → s = w)
theorem rz_z0 {w s : Int} (h : s = 0) : rz_z w 0 s := ⟨fun _ => h, fun e => absurd rfl e⟩
theorem rz_z1 {w n s : Int} (h : s = w) (hn : ¬ n = 0) : rz_z w n s := ⟨fun e => absurd e hn, fun _ => h⟩
theorem rz_z2 {w n m s : Int} (h : rz_z w n s) (hn : ¬ n = 0) (hm : ¬ m = 0) : rz_z w m s := rz_z1 (h.2 hn) hm

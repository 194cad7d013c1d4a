-- fields, more
def g_ft (r : vw_C) (k : Nat) : FieldType := (parseFieldDescriptor (r.2.1 k).2.2.1).getD .int
set_option maxRecDepth 100000 in
theorem g_ft_ok : g_cl.all (fun r => (List.range r.2.2).all (fun k => (parseFieldDescriptor (r.2.1 k).2.2.1).isSome)) = true := by decide +kernel
theorem g_ft_at (r : vw_C) (h : r ∈ g_cl) : ∀ k, k < r.2.2 → parseFieldDescriptor (r.2.1 k).2.2.1 = some (g_ft r k) := by
  intro k hk
  have h1 := List.all_eq_true.mp (List.all_eq_true.mp g_ft_ok r h) k (List.mem_range.mpr hk)
  unfold g_ft
  cases hp : parseFieldDescriptor (r.2.1 k).2.2.1 with
  | none => rw [hp] at h1; cases h1
  | some t => rfl
set_option maxRecDepth 100000 in
theorem g_nm_ok : g_cl.all (fun r => (List.range r.2.2).all (fun a => (List.range r.2.2).all (fun b => a == b || decide ((r.2.1 a).2.1 ≠ (r.2.1 b).2.1)))) = true := by decide +kernel
theorem g_nm_at (r : vw_C) (h : r ∈ g_cl) : ∀ a, a < r.2.2 → ∀ b, b < r.2.2 → a ≠ b → (r.2.1 a).2.1 ≠ (r.2.1 b).2.1 := by
  intro a ha b hb hab
  have h1 := List.all_eq_true.mp (List.all_eq_true.mp (List.all_eq_true.mp g_nm_ok r h) a (List.mem_range.mpr ha)) b (List.mem_range.mpr hb)
  simp only [Bool.or_eq_true, beq_iff_eq, decide_eq_true_eq] at h1
  exact h1.resolve_left hab

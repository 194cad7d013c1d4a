-- trains: the pair of calls
set_option maxRecDepth 20000
theorem tr_Pe {L H n u v u' v' x y r : Int} (h : tr_P L H n u v x y r) (hu : 0 ≤ x → x < n → u = u' ∧ v = v') : tr_P L H n u' v' x y r := by
  by_cases c : 0 ≤ x ∧ x < n
  · obtain ⟨e1, e2⟩ := hu c.1 c.2
    rw [← e1, ← e2]
    exact h
  · refine Or.inl ⟨fun g => c ⟨g.1, g.2.1⟩, ?_⟩
    unfold tr_P at h
    omega

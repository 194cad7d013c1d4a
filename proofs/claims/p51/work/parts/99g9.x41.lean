-- breaks: the pair
set_option maxRecDepth 20000
/-- both sides have answered, what they hold is as it was -/
theorem xq_lmR {b : Bool} {U V U' V' : xa_M} (h : lm_R b (xj U V)) (e1 : ∀ (q : Nat) (j : Int), lm_C q j → q < 60 → U' q j = U q j) (e2 : xm_cor V V') : lm_R b (xj U' V') := by
  refine lm_R_k (fun q j hC => ?_) h
  unfold xj
  by_cases hq : q < 60
  · rw [if_pos hq, if_pos hq]
    exact e1 q j hC hq
  · rw [if_neg hq, if_neg hq]
    exact e2 q j (by first | (have t9 := lm_Cq hC; unfold xm_scr; omega) | (unfold lm_C at hC; unfold xm_scr; omega))

theorem mn_lo {B : Nat → Int} {lo hi : Int} {p : Nat} (h : ¬ mnQ B lo hi p = false) : lo ≤ mnV B p ∧ mnV B p ≤ hi := by
  unfold mnQ at h
  cases h1 : dgt B p
  · rw [h1] at h; exact absurd rfl h
  · rw [h1, Bool.true_and] at h
    apply Classical.byContradiction
    intro y
    exact h (decide_eq_false y)

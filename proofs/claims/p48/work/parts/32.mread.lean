/-! THE REFERENCE READS A HOUSE, part two. -/
theorem risP_r (B : Nat → Int) (R : Int) : ∀ (n p : Nat) (s l : Int), p ≤ (risP B R n p s l).2.1 ∧ (risP B R n p s l).2.1 ≤ p + n
  | 0, p, s, l => by unfold risP; simp
  | n + 1, p, s, l => by
    unfold risP
    split
    · split
      · have := risP_r B R n (p + 1) (z_or s (z_shl 1 (B p - 48))) (B p - 48 + 1)
        omega
      · simp
    · simp
theorem dorP_r (B : Nat → Int) (R : Int) (nd p : Nat) : p ≤ (dorP B R nd p).2.1 ∧ (dorP B R nd p).2.1 ≤ p + 4 := by
  unfold dorP
  repeat' split
  all_goals simp
theorem wlkP_r (B : Nat → Int) (R : Int) (nd p : Nat) : p ≤ (wlkP B R nd p).2.1 ∧ (wlkP B R nd p).2.1 ≤ p + 11 := by
  have h := risP_r B R 8 (p + 3) 0 0
  unfold wlkP
  repeat' split
  all_goals (try simp)
  all_goals omega
theorem mnP_r (B : Nat → Int) (p : Nat) : p ≤ mnP B p ∧ mnP B p ≤ p + 2 := by
  unfold mnP
  repeat' split
  all_goals omega
theorem itmP_r (B : Nat → Int) (R : Int) (σ : HS) : σ.1 ≤ (itmP B R σ).2.1 ∧ (itmP B R σ).2.1 ≤ σ.1 + 11 := by
  have h1 := dorP_r B R σ.2.1.length σ.1
  have h2 := wlkP_r B R σ.2.2.1.length σ.1
  have h3 := mnP_r B (σ.1 + 1)
  unfold itmP
  repeat' split
  all_goals (simp only; omega)
theorem skF_r (B : Nat → Int) {n : Int} (hz : ∀ i : Nat, n ≤ i → B i = 0) : ∀ k p : Nat, p ≤ skF B k p ∧ (skF B k p = p ∨ (skF B k p : Int) ≤ n)
  | 0, p => by unfold skF; omega
  | k + 1, p => by
    unfold skF
    split
    · rename_i h
      have := skF_r B hz k (p + 1)
      have h2 : (p : Int) < n := by
        rcases Int.lt_or_le p n with q | q
        · exact q
        · have := hz p q; omega
      omega
    · omega
section
variable {G : GT} {sh : MS} {I L : MI} {R : MR} {κ : MI} {t : Int} {B : Nat → Int}
end

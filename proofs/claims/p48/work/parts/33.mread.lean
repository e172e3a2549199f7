theorem houL_e {B : Nat → Int} {R : Int} {n k : Nat} {σ : HS} (h : n ≤ σ.1) : houL B R n (k + 1) σ = (-9, σ) := if_pos h
theorem houL_t {B : Nat → Int} {R : Int} {n k : Nat} {σ : HS} (h : ¬ n ≤ σ.1) (h2 : (itmP B R σ).1 = true) : houL B R n (k + 1) σ = houL B R n k (skp B (itmP B R σ).2.1, (itmP B R σ).2.2) := by
  show (if n ≤ σ.1 then _ else if (itmP B R σ).1 then _ else _) = _
  rw [if_neg h, if_pos h2]
theorem houL_f {B : Nat → Int} {R : Int} {n k : Nat} {σ : HS} (h : ¬ n ≤ σ.1) (h2 : ¬ (itmP B R σ).1 = true) : houL B R n (k + 1) σ = (((itmP B R σ).2.1 : Int), (itmP B R σ).2) := by
  show (if n ≤ σ.1 then _ else if (itmP B R σ).1 then _ else _) = _
  rw [if_neg h, if_neg h2]
/-- a read item is at least one sign long -/
theorem itmP_s (B : Nat → Int) (R : Int) (σ : HS) (h : (itmP B R σ).1 = true) : σ.1 + 1 ≤ (itmP B R σ).2.1 := by
  have h2 := wlkP_r B R σ.2.2.1.length σ.1
  have h3 := mnP_r B (σ.1 + 1)
  have h1 : (dorP B R σ.2.1.length σ.1).1 = true → σ.1 + 1 ≤ (dorP B R σ.2.1.length σ.1).2.1 := by
    unfold dorP
    repeat' split
    all_goals simp
  have h4 : (wlkP B R σ.2.2.1.length σ.1).1 = true → σ.1 + 1 ≤ (wlkP B R σ.2.2.1.length σ.1).2.1 := by
    have h := risP_r B R 8 (σ.1 + 3) 0 0
    unfold wlkP
    repeat' split
    all_goals (try simp)
    all_goals omega
  unfold itmP at h ⊢
  split
  · rename_i c; rw [if_pos c] at h; exact h1 h
  · rename_i c
    rw [if_neg c] at h
    split
    · simp only; omega
    · rename_i c2
      rw [if_neg c2] at h
      split
      · rename_i c3; rw [if_pos c3] at h; exact h4 h
      · rename_i c3; rw [if_neg c3] at h; simp at h
section
variable {G : GT} {sh : MS} {I L : MI} {R : MR} {κ : MI} {t : Int} {B : Nat → Int}
end

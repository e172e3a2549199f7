/-! WHAT A NIGHT'S TEXT TELLS can be told. -/
def evV (κ : MI) (q : EV) : Prop := (q.1 = 1 ∨ q.1 = 2 ∨ q.1 = 3 ∨ q.1 = 4 ∨ q.1 = 5) ∧ (0 ≤ q.2.1 ∧ q.2.1 ≤ 7) ∧ (0 ≤ q.2.2.2 ∧ q.2.2.2 ≤ 30) ∧ (0 ≤ q.2.2.1 ∧ q.2.2.1 ≤ 30) ∧ (q.1 = 3 → q.2.2.1 < 3) ∧ (q.1 = 5 → q.2.2.2 ≤ q.2.2.1) ∧ ((q.1 = 1 ∨ q.1 = 5) → q.2.1 < κ 0 12 ∧ q.2.2.2 < κ 0 14) ∧ (q.1 = 1 → κ 7 (3 * q.2.1 + 2) = 1) ∧ (q.1 = 5 → q.2.2.1 < κ 0 14) ∧ ((q.1 = 2 ∨ q.1 = 3 ∨ q.1 = 4) → q.2.1 < κ 0 11 ∧ q.2.2.2 ≤ κ 0 14) ∧ (q.1 = 3 → q.2.2.1 < κ 0 13)
theorem mn_lo {B : Nat → Int} {lo hi : Int} {p : Nat} (h : ¬ mnQ B lo hi p = false) : lo ≤ mnV B p ∧ mnV B p ≤ hi := by
  unfold mnQ at h
  cases h1 : dgt B p
  · rw [h1] at h; exact absurd rfl h
  · rw [h1, Bool.true_and] at h
    apply Classical.byContradiction
    intro y
    exact h (decide_eq_false y)
theorem evT_v {B : Nat → Int} {κ : MI} {k a b : Int} {q : Nat} (hH : iHs κ) (hk : k = 1 ∨ k = 2 ∨ k = 3 ∨ k = 4 ∨ k = 5) (ha : (0 ≤ a ∧ a ≤ 7) ∧ ((k = 1 ∨ k = 5) → a < κ 0 12) ∧ (k = 1 → κ 7 (3 * a + 2) = 1) ∧ ((k = 2 ∨ k = 3 ∨ k = 4) → a < κ 0 11)) (hb : (k = 3 → 0 ≤ b ∧ b < κ 0 13) ∧ (k ≠ 3 → b = 0)) (h : (evT B κ k a b q).1 = true) : evV κ (evT B κ k a b q).2.2 := by
  have b0 := hH.1
  have b2 := hH.2.2.1
  have b3 := hH.2.2.2.1
  unfold evT at h ⊢
  by_cases c1 : B q ≠ 64
  · rw [if_pos c1] at h; exact Bool.noConfusion h
  · rw [if_neg c1] at h ⊢
    by_cases c2 : mnQ B 0 (if k = 1 ∨ k = 5 then κ 0 14 - 1 else κ 0 14) (q + 1) = false
    · rw [if_pos c2] at h; exact Bool.noConfusion h
    · have m := mn_lo c2
      rw [if_neg c2] at h ⊢
      by_cases k5 : k = 5
      · rw [if_pos k5] at h ⊢
        rw [if_pos (Or.inr k5)] at m
        by_cases c3 : B (mnP B (q + 1)) ≠ 45
        · rw [if_pos c3] at h; exact Bool.noConfusion h
        · rw [if_neg c3] at h ⊢
          by_cases c4 : mnQ B (mnV B (q + 1)) (κ 0 14 - 1) (mnP B (q + 1) + 1) = false
          · rw [if_pos c4] at h; exact Bool.noConfusion h
          · have m2 := mn_lo c4
            rw [if_neg c4]
            unfold evV
            simp only
            exact ⟨hk, ha.1, by omega, by omega, by omega, by omega, by omega, ha.2.2.1, by omega, by omega, by omega⟩
      · rw [if_neg k5]
        unfold evV
        simp only
        by_cases k1 : k = 1
        · rw [if_pos (Or.inl k1)] at m
          exact ⟨hk, ha.1, by omega, by omega, by omega, by omega, by omega, ha.2.2.1, by omega, by omega, by omega⟩
        · rw [if_neg (by omega)] at m
          exact ⟨hk, ha.1, by omega, by omega, by omega, by omega, by omega, ha.2.2.1, by omega, by omega, by omega⟩

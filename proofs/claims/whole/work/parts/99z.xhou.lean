/-! WHAT A HOUSE'S TEXT TELLS. -/
theorem dor_v {B : Nat → Int} {R : Int} {nd p : Nat} (h : (dorP B R nd p).1 = true) : 0 ≤ (dorP B R nd p).2.2.1 ∧ (dorP B R nd p).2.2.1 < (dorP B R nd p).2.2.2 ∧ (dorP B R nd p).2.2.2 < R := by
  unfold dorP at h ⊢
  by_cases c1 : nd = 8
  · rw [if_pos c1] at h; exact Bool.noConfusion h
  · rw [if_neg c1] at h ⊢
    by_cases c2 : fgQ B 0 (R - 1) (p + 1) = false
    · rw [if_pos c2] at h; exact Bool.noConfusion h
    · rw [if_neg c2] at h ⊢
      by_cases c3 : B (p + 2) ≠ 45
      · rw [if_pos c3] at h; exact Bool.noConfusion h
      · rw [if_neg c3] at h ⊢
        by_cases c4 : B (p + 3) = B (p + 1) ∨ fgQ B 0 (R - 1) (p + 3) = false
        · rw [if_pos c4] at h; exact Bool.noConfusion h
        · rw [if_neg c4]
          have f1 := fgQ_r (show fgQ B 0 (R - 1) (p + 1) = true by cases y : fgQ B 0 (R - 1) (p + 1); exact absurd y c2; rfl)
          have f3 := fgQ_r (show fgQ B 0 (R - 1) (p + 3) = true by cases y : fgQ B 0 (R - 1) (p + 3); exact absurd (Or.inr y) c4; rfl)
          have ne : B (p + 3) ≠ B (p + 1) := fun y => c4 (Or.inl y)
          by_cases lt : B (p + 1) < B (p + 3)
          · simp only [if_pos lt]
            omega
          · simp only [if_neg lt]
            omega
theorem ris_v {B : Nat → Int} {R : Int} (hR : R ≤ 6) : ∀ (n p : Nat) (set low : Int), 0 ≤ low → (0 ≤ set ∧ set < 64) → 0 ≤ (risP B R n p set low).2.2 ∧ (risP B R n p set low).2.2 < 64
  | 0, p, set, low, _, h => h
  | n + 1, p, set, low, hl, h => by
    unfold risP
    split
    · split
      · rename_i c
        have f := fgQ_r c
        refine ris_v hR n (p + 1) _ _ (by omega) ?_
        have sm : ∀ x : Int, rI x → (∀ k, 6 ≤ k → k < 32 → tb x k = false) → 0 ≤ x ∧ x < 64 := fun x hx q => (tb_up hx 6 (by omega)).mpr q
        refine sm _ (z_or_r _ _) (fun k h6 hk => ?_)
        rw [tb_or, tb_64 h h6 hk, tb_sh1 (by omega) hk, Bool.false_or, decide_eq_false_iff_not]
        omega
      · exact h
    · exact h

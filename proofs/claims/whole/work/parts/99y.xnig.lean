/-! WHAT A NIGHT'S TEXT TELLS can be told. -/
def evV (κ : MI) (q : EV) : Prop := (q.1 = 1 ∨ q.1 = 2 ∨ q.1 = 3 ∨ q.1 = 4 ∨ q.1 = 5) ∧ (0 ≤ q.2.1 ∧ q.2.1 ≤ 7) ∧ (0 ≤ q.2.2.2 ∧ q.2.2.2 ≤ 30) ∧ (0 ≤ q.2.2.1 ∧ q.2.2.1 ≤ 30) ∧ (q.1 = 3 → q.2.2.1 < 3) ∧ (q.1 = 5 → q.2.2.2 ≤ q.2.2.1) ∧ ((q.1 = 1 ∨ q.1 = 5) → q.2.1 < κ 0 12 ∧ q.2.2.2 < κ 0 14) ∧ (q.1 = 1 → κ 7 (3 * q.2.1 + 2) = 1) ∧ (q.1 = 5 → q.2.2.1 < κ 0 14) ∧ ((q.1 = 2 ∨ q.1 = 3 ∨ q.1 = 4) → q.2.1 < κ 0 11 ∧ q.2.2.2 ≤ κ 0 14) ∧ (q.1 = 3 → q.2.2.1 < κ 0 13)
theorem mn_lo {B : Nat → Int} {lo hi : Int} {p : Nat} (h : ¬ mnQ B lo hi p = false) : lo ≤ mnV B p ∧ mnV B p ≤ hi := by
  unfold mnQ at h
  cases h1 : dgt B p
  · rw [h1] at h; exact absurd rfl h
  · rw [h1, Bool.true_and] at h
    apply Classical.byContradiction
    intro y
    exact h (decide_eq_false y)
theorem evT_v {B : Nat → Int} {κ : MI} {k a b : Int} {q : Nat} (hH : iHs κ) (hk : k = 1 ∨ k = 2 ∨ k = 3 ∨ k = 4 ∨ k = 5) (ha : (0 ≤ a ∧ a ≤ 7) ∧ ((k = 1 ∨ k = 5) → a < κ 0 12) ∧ (k = 1 → κ 7 (3 * a + 2) = 1) ∧ ((k = 2 ∨ k = 3 ∨ k = 4) → a < κ 0 11)) (hb : (k = 3 → 0 ≤ b ∧ b < κ 0 13) ∧ (k ≠ 3 → b = 0)) (h : (evT B κ k a b q).1 = true) : evV κ (evT B κ k a b q).2.2 := by
  have b0 := hH.1
  have b2 := hH.2.2.1
  have b3 := hH.2.2.2.1
  unfold evT at h ⊢
  by_cases c1 : B q ≠ 64
  · rw [if_pos c1] at h; exact Bool.noConfusion h
  · rw [if_neg c1] at h ⊢
    by_cases c2 : mnQ B 0 (if k = 1 ∨ k = 5 then κ 0 14 - 1 else κ 0 14) (q + 1) = false
    · rw [if_pos c2] at h; exact Bool.noConfusion h
    · have m := mn_lo c2
      rw [if_neg c2] at h ⊢
      by_cases k5 : k = 5
      · rw [if_pos k5] at h ⊢
        rw [if_pos (Or.inr k5)] at m
        by_cases c3 : B (mnP B (q + 1)) ≠ 45
        · rw [if_pos c3] at h; exact Bool.noConfusion h
        · rw [if_neg c3] at h ⊢
          by_cases c4 : mnQ B (mnV B (q + 1)) (κ 0 14 - 1) (mnP B (q + 1) + 1) = false
          · rw [if_pos c4] at h; exact Bool.noConfusion h
          · have m2 := mn_lo c4
            rw [if_neg c4]
            unfold evV
            simp only
            exact ⟨hk, ha.1, by omega, by omega, by omega, by omega, by omega, ha.2.2.1, by omega, by omega, by omega⟩
      · rw [if_neg k5]
        unfold evV
        simp only
        by_cases k1 : k = 1
        · rw [if_pos (Or.inl k1)] at m
          exact ⟨hk, ha.1, by omega, by omega, by omega, by omega, by omega, ha.2.2.1, by omega, by omega, by omega⟩
        · rw [if_neg (by omega)] at m
          exact ⟨hk, ha.1, by omega, by omega, by omega, by omega, by omega, ha.2.2.1, by omega, by omega, by omega⟩
theorem evP_v {B : Nat → Int} {κ : MI} {p : Nat} (hH : iHs κ) (h : (evP B κ p).1 = true) : evV κ (evP B κ p).2.2 := by
  have b0 := hH.1
  have b1 := hH.2.1
  unfold evP at h ⊢
  by_cases c1 : evK B p = 0
  · rw [if_pos c1] at h; exact Bool.noConfusion h
  · rw [if_neg c1] at h ⊢
    by_cases c2 : abQ κ (evK B p) (B (p + 1) - 48) = false
    · rw [if_pos c2] at h; exact Bool.noConfusion h
    · rw [if_neg c2] at h ⊢
      have hk : evK B p = 1 ∨ evK B p = 2 ∨ evK B p = 4 ∨ evK B p = 5 := by
        unfold evK at c1 ⊢
        repeat' split
        all_goals omega
      generalize evK B p = k at *
      generalize B (p + 1) - 48 = a at *
      have ha : (0 ≤ a ∧ a ≤ 7) ∧ ((k = 1 ∨ k = 5) → a < κ 0 12) ∧ (k = 1 → κ 7 (3 * a + 2) = 1) ∧ ((k = 2 ∨ k = 3 ∨ k = 4) → a < κ 0 11) := by
        have c3 : abQ κ k a = true := by
          cases y : abQ κ k a
          · exact absurd y c2
          · rfl
        unfold abQ at c3
        by_cases k1 : k = 1
        · rw [if_pos k1, Bool.and_eq_true, decide_eq_true_eq, decide_eq_true_eq] at c3
          exact ⟨by omega, by omega, fun _ => c3.2, by omega⟩
        · rw [if_neg k1] at c3
          by_cases k5 : k = 5
          · rw [if_pos k5, decide_eq_true_eq] at c3
            exact ⟨by omega, by omega, by omega, by omega⟩
          · rw [if_neg k5, decide_eq_true_eq] at c3
            exact ⟨by omega, by omega, by omega, by omega⟩
      by_cases c4 : k = 2 ∧ B (p + 2) = 47
      · rw [if_pos c4] at h ⊢
        by_cases c5 : fgQ B 0 (κ 0 13 - 1) (p + 3) = false
        · rw [if_pos c5] at h; exact Bool.noConfusion h
        · rw [if_neg c5] at h ⊢
          have c6 : fgQ B 0 (κ 0 13 - 1) (p + 3) = true := by
            cases y : fgQ B 0 (κ 0 13 - 1) (p + 3)
            · exact absurd y c5
            · rfl
          unfold fgQ at c6
          rw [decide_eq_true_eq] at c6
          exact evT_v hH (by omega) ⟨ha.1, by omega, by omega, fun _ => ha.2.2.2 (by omega)⟩ ⟨fun _ => by omega, by omega⟩ h
      · rw [if_neg c4] at h ⊢
        exact evT_v hH (by omega) ha ⟨by omega, fun _ => rfl⟩ h
theorem nigL_v {B : Nat → Int} {κ : MI} {n : Nat} (hH : iHs κ) : ∀ (k : Nat) (σ : Nat × List EV), (∀ q, q ∈ σ.2 → evV κ q) → ∀ q, q ∈ (nigL B κ n k σ).2.2 → evV κ q
  | 0, σ, h => h
  | k + 1, σ, h => by
    unfold nigL
    by_cases c1 : n ≤ σ.1
    · rw [if_pos c1]; exact h
    · rw [if_neg c1]
      by_cases c2 : (evP B κ σ.1).1 = true
      · rw [if_pos c2]
        refine nigL_v hH k _ (fun q hq => ?_)
        rcases List.mem_append.mp hq with y | y
        · exact h q y
        · rw [List.mem_singleton.mp y]
          exact evP_v hH c2
      · rw [if_neg c2]; exact h
theorem nigF_v {B : Nat → Int} {κ : MI} {n : Nat} (hH : iHs κ) : ∀ q, q ∈ (nigF B κ n).2.2 → evV κ q := nigL_v hH 81 _ (fun q hq => absurd hq (List.not_mem_nil))

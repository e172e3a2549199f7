/-! THE CLASS'S FACE: night. -/
/-- k events come behind -/
def TN (I : MI) (es : List EV) (k : Nat) (J : MI) : Prop := J 58 0 = I 58 0 + (k : Int) ∧ (∀ (i : Nat) q, i < k → es[i]? = some q → J (58 + 1) (I 58 0 + (i : Int)) = q.1 ∧ J (58 + 2) (I 58 0 + (i : Int)) = q.2.1 ∧ J (58 + 3) (I 58 0 + (i : Int)) = q.2.2.1 ∧ J (58 + 4) (I 58 0 + (i : Int)) = q.2.2.2) ∧
  ∀ c j, ¬ (c = 58 ∧ j = 0) → ¬ (58 < c ∧ c ≤ 62 ∧ I 58 0 ≤ j) → J c j = I c j
theorem TN.rf (I : MI) (es : List EV) : TN I es 0 I := ⟨by omega, fun i q hi => absurd hi (Nat.not_lt_zero _), fun _ _ _ _ => rfl⟩
theorem TN.st {I J : MI} {es : List EV} {k : Nat} {q : EV} (h : TN I es k J) (hq : es[k]? = some q) : TN I es (k + 1) (adN J 58 q.1 q.2.1 q.2.2.1 q.2.2.2) := by
  obtain ⟨h1, h2, h3⟩ := h
  refine ⟨?_, fun i p hi hp => ?_, fun c j q1 q2 => ?_⟩
  · unfold adN
    rw [m_up_eq, h1]
    omega
  · by_cases e : i = k
    · subst e
      rw [hq] at hp
      cases hp
      unfold adN
      rw [h1]
      refine ⟨?_, ?_, ?_, ?_⟩
      · rw [m_up_ne (by decide), m_up_ne (by decide), m_up_ne (by decide), m_up_ne (by decide), m_up_eq]
      · rw [m_up_ne (by decide), m_up_ne (by decide), m_up_ne (by decide), m_up_eq]
      · rw [m_up_ne (by decide), m_up_ne (by decide), m_up_eq]
      · rw [m_up_ne (by decide), m_up_eq]
    · have z := h2 i p (by omega) hp
      unfold adN
      rw [h1]
      refine ⟨?_, ?_, ?_, ?_⟩
      · rw [m_up_ne (by decide), m_up_ne (by decide), m_up_ne (by decide), m_up_ne (by decide), m_up_nj (by omega)]; exact z.1
      · rw [m_up_ne (by decide), m_up_ne (by decide), m_up_ne (by decide), m_up_nj (by omega), m_up_ne (by decide)]; exact z.2.1
      · rw [m_up_ne (by decide), m_up_ne (by decide), m_up_nj (by omega), m_up_ne (by decide), m_up_ne (by decide)]; exact z.2.2.1
      · rw [m_up_ne (by decide), m_up_nj (by omega), m_up_ne (by decide), m_up_ne (by decide), m_up_ne (by decide)]; exact z.2.2.2
  · unfold adN
    rw [h1]
    unfold m_up
    rw [if_neg (by omega), if_neg (by omega), if_neg (by omega), if_neg (by omega), if_neg (by omega)]
    exact h3 c j q1 q2

section
variable {I L M N M' J : MI} {R : MR} {h h' : Nat}
end
section
variable {G : GT} {I L M N : MI} {R : MR} {h h' : Nat}
end

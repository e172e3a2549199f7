section
variable {I L M N I' M' : MI} {R : MR} {h h' : Nat}
theorem ev_ok (co : CO I L R M N h h') (cc : CC I L R M h) (ei : ∀ c i, ¬ (58 ≤ c ∧ c ≤ 62) → ¬ (c = 0 ∧ i = 10) → I' c i = I c i) (em : ∀ c j, c ≠ 11 → ¬ (c = 0 ∧ j = 25) → M' c j = M c j) (h10 : I' 0 10 = 0) (ie : iEvs M') (il : iEvL M') (nr : NRL I' M' 58) : CO I' L R M' N h h' ∧ CC I' L R M' h := by
  have h32 := co.h32
  have eo : ∀ c, ¬ (58 ≤ c ∧ c ≤ 62) → c ≠ 0 → ∀ i, I' c i = I c i := fun c q1 q2 i => ei c i q1 (fun z => q2 z.1)
  obtain ⟨q1, q2, q5, q6, ⟨j1, j2, j3, j4, j5⟩, q8, q9, q10, q11, ⟨q12, q13, q14⟩, q15⟩ := co
  have m7 : ∀ j, M' 7 j = M 7 j := fun j => em 7 j (by decide) (by omega)
  have m8 : ∀ j, M' 8 j = M 8 j := fun j => em 8 j (by decide) (by omega)
  have hb : bdF M' = bdF M := by
    funext d
    unfold bdF
    rw [m7]
  have jh : iHs M' := by
    unfold iHs
    rw [em 0 11 (by decide) (by omega), em 0 12 (by decide) (by omega), em 0 13 (by decide) (by omega), em 0 14 (by decide) (by omega)]
    simp only [m7, m8]
    exact j1
  have k8 : HRL I' M' h := by
    unfold HRL
    rw [em 0 11 (by decide) (by omega), em 0 12 (by decide) (by omega), em 0 13 (by decide) (by omega), em 0 14 (by decide) (by omega), hb]
    simp only [m7, m8, eo h (by omega) (by omega), eo (h + 1) (by omega) (by omega), eo (h + 2) (by omega) (by omega), eo (h + 3) (by omega) (by omega), eo (h + 4) (by omega) (by omega)]
    exact q8
  have i0 : ∀ i, i ≠ 10 → I' 0 i = I 0 i := fun i q => ei 0 i (by omega) (by omega)
  refine ⟨⟨q1, q2, q5, ?_, ⟨jh, ie, il, ?_, ?_⟩, k8, nr, fun r hr => ?_, fun t ht => ?_, ⟨?_, ?_, fun g hg => ?_⟩, q15⟩, ⟨⟨Or.inl h10, ?_⟩, fun q => absurd q (by omega)⟩⟩
  · rw [ei 19 12 (by decide) (by decide), ei 19 15 (by decide) (by decide)]; exact q6
  · unfold iRows; simp only [em 2 _ (by decide) (fun z => absurd z.1 (by decide)), em 3 _ (by decide) (fun z => absurd z.1 (by decide))]; exact j4
  · unfold iTexts; simp only [em 5 _ (by decide) (fun z => absurd z.1 (by decide)), em 6 _ (by decide) (fun z => absurd z.1 (by decide))]; exact j5
  · simp only [em 2 _ (by decide) (fun z => absurd z.1 (by decide)), em 3 _ (by decide) (fun z => absurd z.1 (by decide)), eo 9 (by decide) (by decide), eo (3 + r) (by omega) (by omega)]
    exact q10 r hr
  · simp only [em 5 _ (by decide) (fun z => absurd z.1 (by decide)), em 6 _ (by decide) (fun z => absurd z.1 (by decide)), eo 16 (by decide) (by decide), eo (12 + t) (by omega) (by omega)]
    exact q11 t ht
  · rw [i0 13 (by decide), em 0 2 (by decide) (by decide)]; exact q12
  · rw [i0 14 (by decide), em 0 0 (by decide) (by decide)]; exact q13
  · rw [eo 68 (by decide) (by decide), em 1 _ (by decide) (by omega)]; exact q14 g hg
  · rw [i0 11 (by decide)]; exact cc.1.2
theorem event_ok (co : CO I L R M N h h') (cc : CC I L R M h) {k a b t : Int} (hn : M 0 25 < 24) (hq : etQ M k a b t = true) : CO (m_up (adN I 58 k a (if k = 3 ∨ k = 5 then b else 0) t) 0 10 0) L R (cmE M k a (if k = 3 ∨ k = 5 then b else 0) t) N h h' ∧ CC (m_up (adN I 58 k a (if k = 3 ∨ k = 5 then b else 0) t) 0 10 0) L R (cmE M k a (if k = 3 ∨ k = 5 then b else 0) t) h := by
  obtain ⟨iH, iE, iL, -, -⟩ := co.2.2.2.2.1
  have nr := co.2.2.2.2.2.2.1
  have b0 := iH.1
  have b1 := iH.2.1
  have b2 := iH.2.2.1
  have b3 := iH.2.2.2.1
  have e0 := iE.1
  -- what holds of the event
  have hv : (k = 1 ∨ k = 2 ∨ k = 3 ∨ k = 4 ∨ k = 5) ∧ (0 ≤ a ∧ a ≤ 7) ∧ (0 ≤ t ∧ t ≤ 30) ∧ (0 ≤ (if k = 3 ∨ k = 5 then b else 0) ∧ (if k = 3 ∨ k = 5 then b else 0) ≤ 30) ∧ (k = 3 → (if k = 3 ∨ k = 5 then b else 0) < 3) ∧ (k = 5 → t ≤ (if k = 3 ∨ k = 5 then b else 0)) ∧ ((k = 1 ∨ k = 5) → a < M 0 12 ∧ t < M 0 14) ∧ (k = 1 → M 7 (3 * a + 2) = 1) ∧ (k = 5 → (if k = 3 ∨ k = 5 then b else 0) < M 0 14) ∧ ((k = 2 ∨ k = 3 ∨ k = 4) → a < M 0 11 ∧ t ≤ M 0 14) ∧ (k = 3 → (if k = 3 ∨ k = 5 then b else 0) < M 0 13) := by
    unfold etQ at hq
    by_cases k1 : k = 1
    · rw [if_pos k1, decide_eq_true_eq] at hq
      rw [if_neg (show ¬ (k = 3 ∨ k = 5) by omega)]
      exact ⟨by omega, by omega, by omega, by omega, by omega, by omega, by omega, fun _ => hq.1.2, by omega, by omega, by omega⟩
    · rw [if_neg k1] at hq
      by_cases k2 : k = 2
      · rw [if_pos k2, decide_eq_true_eq] at hq
        rw [if_neg (show ¬ (k = 3 ∨ k = 5) by omega)]
        exact ⟨by omega, by omega, by omega, by omega, by omega, by omega, by omega, by omega, by omega, by omega, by omega⟩
      · rw [if_neg k2] at hq
        by_cases k3 : k = 3
        · rw [if_pos k3, decide_eq_true_eq] at hq
          rw [if_pos (show k = 3 ∨ k = 5 by omega)]
          exact ⟨by omega, by omega, by omega, by omega, by omega, by omega, by omega, by omega, by omega, by omega, by omega⟩
        · rw [if_neg k3] at hq
          by_cases k4 : k = 4
          · rw [if_pos k4, decide_eq_true_eq] at hq
            rw [if_neg (show ¬ (k = 3 ∨ k = 5) by omega)]
            exact ⟨by omega, by omega, by omega, by omega, by omega, by omega, by omega, by omega, by omega, by omega, by omega⟩
          · rw [if_neg k4] at hq
            by_cases k5 : k = 5
            · rw [if_pos k5, decide_eq_true_eq] at hq
              rw [if_pos (show k = 3 ∨ k = 5 by omega)]
              exact ⟨by omega, by omega, by omega, by omega, by omega, by omega, by omega, by omega, by omega, by omega, by omega⟩
            · rw [if_neg k5] at hq
              exact Bool.noConfusion hq
  generalize (if k = 3 ∨ k = 5 then b else 0) = b' at hv
  obtain ⟨v1, v2, v3, v4, v5, v6, v7, v8, v9, v10, v11⟩ := hv
  obtain ⟨en, hen⟩ : ∃ en : Nat, M 0 25 = (en : Int) := ⟨(M 0 25).toNat, by omega⟩
  have n25 : I 58 0 = (en : Int) := nr.1.trans hen
  have e25 : cmE M k a b' t 0 25 = (en : Int) + 1 := by unfold cmE; rw [m_up_eq, hen]
  have z0 : ∀ j, j ≠ 25 → cmE M k a b' t 0 j = M 0 j := fun j q => by
    unfold cmE
    rw [m_up_nj q, m_up_ne (by decide), m_up_ne (by decide), m_up_ne (by decide), m_up_ne (by decide)]
  have z7 : ∀ j, cmE M k a b' t 7 j = M 7 j := fun j => by
    unfold cmE
    rw [m_up_ne (by decide), m_up_ne (by decide), m_up_ne (by decide), m_up_ne (by decide), m_up_ne (by decide)]
  have mo : ∀ j, j < 4 * (en : Int) → cmE M k a b' t 11 j = M 11 j := fun j q => by
    unfold cmE
    rw [m_up_ne (by decide), m_up_nj (by omega), m_up_nj (by omega), m_up_nj (by omega), m_up_nj (by omega)]
  have n0 : cmE M k a b' t 11 (4 * (en : Int) + 0) = k := by
    unfold cmE
    rw [m_up_ne (by decide), m_up_nj (by omega), m_up_nj (by omega), m_up_nj (by omega), show 4 * M 0 25 = 4 * (en : Int) + 0 by omega, m_up_eq]
  have n1 : cmE M k a b' t 11 (4 * (en : Int) + 1) = a := by
    unfold cmE
    rw [m_up_ne (by decide), m_up_nj (by omega), m_up_nj (by omega), show 4 * M 0 25 + 1 = 4 * (en : Int) + 1 by omega, m_up_eq]
  have n2 : cmE M k a b' t 11 (4 * (en : Int) + 2) = b' := by
    unfold cmE
    rw [m_up_ne (by decide), m_up_nj (by omega), show 4 * M 0 25 + 2 = 4 * (en : Int) + 2 by omega, m_up_eq]
  have n3 : cmE M k a b' t 11 (4 * (en : Int) + 3) = t := by
    unfold cmE
    rw [m_up_ne (by decide), show 4 * M 0 25 + 3 = 4 * (en : Int) + 3 by omega, m_up_eq]
  refine ev_ok co cc (fun c i q1 q2 => ?_) (fun c j q1 q2 => ?_) m_up_eq ?_ ?_ ?_
  · unfold adN m_up
    rw [if_neg (by omega), if_neg (by omega), if_neg (by omega), if_neg (by omega), if_neg (by omega), if_neg (by omega)]
  · unfold cmE m_up
    rw [if_neg (by omega), if_neg (by omega), if_neg (by omega), if_neg (by omega), if_neg (by omega)]
  · unfold iEvs
    rw [e25]
    refine ⟨by omega, fun e he => ?_⟩
    by_cases x : e = en
    · subst x
      unfold iEv
      rw [n0, n1, n2, n3]
      exact ⟨v1, v2, v3, v4, v5, v6⟩
    · have := iE.2 e (by omega)
      unfold iEv at this ⊢
      rw [mo _ (by omega), mo _ (by omega), mo _ (by omega), mo _ (by omega)]
      exact this
  · unfold iEvL
    rw [e25, z0 11 (by decide), z0 12 (by decide), z0 13 (by decide), z0 14 (by decide)]
    simp only [z7]
    intro e h1 h2
    by_cases x : e = (en : Int)
    · subst x
      rw [n0, n1, n2, n3]
      exact ⟨v7, v8, v9, v10, v11⟩
    · have := iL e h1 (by omega)
      rw [mo _ (by omega), mo _ (by omega), mo _ (by omega), mo _ (by omega)]
      exact this
  · unfold NRL
    rw [e25]
    have ae : ∀ c i, ¬ (c = 0) → m_up (adN I 58 k a b' t) 0 10 0 c i = adN I 58 k a b' t c i := fun c i q => m_up_ne q i
    refine ⟨?_, fun e he => ?_⟩
    · rw [ae _ _ (by decide)]
      unfold adN
      rw [m_up_eq, n25]
    · rw [ae _ _ (by decide), ae _ _ (by decide), ae _ _ (by decide), ae _ _ (by decide)]
      unfold adN
      rw [n25]
      by_cases x : e = en
      · subst x
        rw [n0, n1, n2, n3]
        refine ⟨?_, ?_, ?_, ?_⟩
        · rw [m_up_ne (by decide), m_up_ne (by decide), m_up_ne (by decide), m_up_ne (by decide), m_up_eq]
        · rw [m_up_ne (by decide), m_up_ne (by decide), m_up_ne (by decide), m_up_eq]
        · rw [m_up_ne (by decide), m_up_ne (by decide), m_up_eq]
        · rw [m_up_ne (by decide), m_up_eq]
      · have z := nr.2 e (by omega)
        rw [mo _ (by omega), mo _ (by omega), mo _ (by omega), mo _ (by omega)]
        refine ⟨?_, ?_, ?_, ?_⟩
        · rw [m_up_ne (by decide), m_up_ne (by decide), m_up_ne (by decide), m_up_ne (by decide), m_up_nj (by omega)]; exact z.1
        · rw [m_up_ne (by decide), m_up_ne (by decide), m_up_ne (by decide), m_up_nj (by omega), m_up_ne (by decide)]; exact z.2.1
        · rw [m_up_ne (by decide), m_up_ne (by decide), m_up_nj (by omega), m_up_ne (by decide), m_up_ne (by decide)]; exact z.2.2.1
        · rw [m_up_ne (by decide), m_up_nj (by omega), m_up_ne (by decide), m_up_ne (by decide), m_up_ne (by decide)]; exact z.2.2.2
/-- the house allows what the reference does -/
theorem al_et (co : CO I L R M N h h') (k a b t : Int) : alX I h k a b t = etQ M k a b t := by
  obtain ⟨⟨q0, q1, q2, q3, q4⟩, -, -⟩ := co.2.2.2.2.2.1
  have b1 := co.2.2.2.2.1.1.2.1
  unfold alX etQ
  rw [q0, q1, q2, q3, q4]
  by_cases k1 : k = 1
  · rw [if_pos k1, if_pos k1]
    refine decide_eq_decide.mpr ?_
    constructor
    · rintro ⟨⟨z1, z2⟩, z3⟩
      have y := (tb_bd b1 (show a.toNat < 32 by omega)).mp z2
      rw [show ((a.toNat : Nat) : Int) = a by omega] at y
      exact ⟨⟨by omega, y.2⟩, by omega⟩
    · rintro ⟨⟨z1, z2⟩, z3⟩
      refine ⟨⟨by omega, (tb_bd b1 (show a.toNat < 32 by omega)).mpr ?_⟩, by omega⟩
      rw [show ((a.toNat : Nat) : Int) = a by omega]
      exact ⟨by omega, z2⟩
  · rw [if_neg k1, if_neg k1]
    by_cases k2 : k = 2
    · rw [if_pos k2, if_pos k2]
      exact decide_eq_decide.mpr (by omega)
    · rw [if_neg k2, if_neg k2]
      by_cases k3 : k = 3
      · rw [if_pos k3, if_pos k3]
        exact decide_eq_decide.mpr (by omega)
      · rw [if_neg k3, if_neg k3]
        by_cases k4 : k = 4
        · rw [if_pos k4, if_pos k4]
          exact decide_eq_decide.mpr (by omega)
        · rw [if_neg k4, if_neg k4]
          by_cases k5 : k = 5
          · rw [if_pos k5, if_pos k5]
            exact decide_eq_decide.mpr (by omega)
          · rw [if_neg k5, if_neg k5]
end
section
variable {G : GT} {I L M N : MI} {R : MR} {h h' : Nat}
end

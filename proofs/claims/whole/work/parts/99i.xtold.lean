/-! THE CLASS'S FACE: events, doors, walkers, what is told. -/
section
variable {I L M N I' M' : MI} {R : MR} {h h' : Nat}
theorem ev_ok (co : CO I L R M N h h') (cc : CC I L R M h) (ei : ∀ c i, ¬ (58 ≤ c ∧ c ≤ 62) → ¬ (c = 0 ∧ i = 10) → I' c i = I c i) (em : ∀ c j, c ≠ 11 → ¬ (c = 0 ∧ j = 25) → M' c j = M c j) (h10 : I' 0 10 = 0) (ie : iEvs M') (il : iEvL M') (nr : NRL I' M' 58) : CO I' L R M' N h h' ∧ CC I' L R M' h := by
  have h32 := co.h32
  have eo : ∀ c, ¬ (58 ≤ c ∧ c ≤ 62) → c ≠ 0 → ∀ i, I' c i = I c i := fun c q1 q2 i => ei c i q1 (fun z => q2 z.1)
  obtain ⟨q1, q2, q5, q6, ⟨j1, j2, j3, j4, j5⟩, q8, q9, q10, q11, ⟨q12, q13, q14⟩, q15⟩ := co
  have m7 : ∀ j, M' 7 j = M 7 j := fun j => em 7 j (by decide) (by omega)
  have m8 : ∀ j, M' 8 j = M 8 j := fun j => em 8 j (by decide) (by omega)
  have hb : bdF M' = bdF M := by
    funext d
    unfold bdF
    rw [m7]
  have jh : iHs M' := by
    unfold iHs
    rw [em 0 11 (by decide) (by omega), em 0 12 (by decide) (by omega), em 0 13 (by decide) (by omega), em 0 14 (by decide) (by omega)]
    simp only [m7, m8]
    exact j1
  have k8 : HRL I' M' h := by
    unfold HRL
    rw [em 0 11 (by decide) (by omega), em 0 12 (by decide) (by omega), em 0 13 (by decide) (by omega), em 0 14 (by decide) (by omega), hb]
    simp only [m7, m8, eo h (by omega) (by omega), eo (h + 1) (by omega) (by omega), eo (h + 2) (by omega) (by omega), eo (h + 3) (by omega) (by omega), eo (h + 4) (by omega) (by omega)]
    exact q8
  have i0 : ∀ i, i ≠ 10 → I' 0 i = I 0 i := fun i q => ei 0 i (by omega) (by omega)
  refine ⟨⟨q1, q2, q5, ?_, ⟨jh, ie, il, ?_, ?_⟩, k8, nr, fun r hr => ?_, fun t ht => ?_, ⟨?_, ?_, fun g hg => ?_⟩, q15⟩, ⟨⟨Or.inl h10, ?_⟩, fun q => absurd q (by omega)⟩⟩
  · rw [ei 19 12 (by decide) (by decide), ei 19 15 (by decide) (by decide)]; exact q6
  · unfold iRows; simp only [em 2 _ (by decide) (fun z => absurd z.1 (by decide)), em 3 _ (by decide) (fun z => absurd z.1 (by decide))]; exact j4
  · unfold iTexts; simp only [em 5 _ (by decide) (fun z => absurd z.1 (by decide)), em 6 _ (by decide) (fun z => absurd z.1 (by decide))]; exact j5
  · simp only [em 2 _ (by decide) (fun z => absurd z.1 (by decide)), em 3 _ (by decide) (fun z => absurd z.1 (by decide)), eo 9 (by decide) (by decide), eo (3 + r) (by omega) (by omega)]
    exact q10 r hr
  · simp only [em 5 _ (by decide) (fun z => absurd z.1 (by decide)), em 6 _ (by decide) (fun z => absurd z.1 (by decide)), eo 16 (by decide) (by decide), eo (12 + t) (by omega) (by omega)]
    exact q11 t ht
  · rw [i0 13 (by decide), em 0 2 (by decide) (by decide)]; exact q12
  · rw [i0 14 (by decide), em 0 0 (by decide) (by decide)]; exact q13
  · rw [eo 68 (by decide) (by decide), em 1 _ (by decide) (by omega)]; exact q14 g hg
  · rw [i0 11 (by decide)]; exact cc.1.2
theorem back_ok (co : CO I L R M N h h') (cc : CC I L R M h) {n : Int} (hn : 0 ≤ n ∧ n ≤ M 0 25) : CO (m_up (m_up I 58 0 n) 0 10 0) L R (m_up M 0 25 n) N h h' ∧ CC (m_up (m_up I 58 0 n) 0 10 0) L R (m_up M 0 25 n) h := by
  obtain ⟨-, iE, iL, -, -⟩ := co.2.2.2.2.1
  have nr := co.2.2.2.2.2.2.1
  have i58 : ∀ c i, 58 < c → m_up (m_up I 58 0 n) 0 10 0 c i = I c i := fun c i q => by rw [m_up_ne (by omega), m_up_ne (by omega)]
  have m11 : ∀ j, m_up M 0 25 n 11 j = M 11 j := fun j => m_up_ne (by decide) j
  have e25 : m_up M 0 25 n 0 25 = n := m_up_eq
  have z7 : ∀ j, m_up M 0 25 n 7 j = M 7 j := fun j => m_up_ne (by decide) j
  have z0 : ∀ j, j ≠ 25 → m_up M 0 25 n 0 j = M 0 j := fun j q => m_up_nj q
  refine ev_ok co cc (fun c i q1 q2 => ?_) (fun c j q1 q2 => ?_) m_up_eq ?_ ?_ ?_
  · unfold m_up
    rw [if_neg (by omega), if_neg (by omega)]
  · unfold m_up
    rw [if_neg (by omega)]
  · unfold iEvs
    rw [e25]
    exact ⟨by have := iE.1; omega, fun e he => iEv_eq m11 (iE.2 e (by omega))⟩
  · unfold iEvL
    rw [e25, z0 11 (by decide), z0 12 (by decide), z0 13 (by decide), z0 14 (by decide)]
    simp only [m11, z7]
    exact fun e h1 h2 => iL e h1 (by omega)
  · unfold NRL
    rw [e25]
    refine ⟨by rw [m_up_ne (by decide), m_up_eq], fun e he => ?_⟩
    simp only [m11, i58 (58 + 1) _ (by decide), i58 (58 + 2) _ (by decide), i58 (58 + 3) _ (by decide), i58 (58 + 4) _ (by decide)]
    exact nr.2 e (by omega)
theorem event_ok (co : CO I L R M N h h') (cc : CC I L R M h) {k a b t : Int} (hn : M 0 25 < 24) (hq : etQ M k a b t = true) : CO (m_up (adN I 58 k a (if k = 3 ∨ k = 5 then b else 0) t) 0 10 0) L R (cmE M k a (if k = 3 ∨ k = 5 then b else 0) t) N h h' ∧ CC (m_up (adN I 58 k a (if k = 3 ∨ k = 5 then b else 0) t) 0 10 0) L R (cmE M k a (if k = 3 ∨ k = 5 then b else 0) t) h := by
  obtain ⟨iH, iE, iL, -, -⟩ := co.2.2.2.2.1
  have nr := co.2.2.2.2.2.2.1
  have b0 := iH.1
  have b1 := iH.2.1
  have b2 := iH.2.2.1
  have b3 := iH.2.2.2.1
  have e0 := iE.1
  -- what holds of the event
  have hv : (k = 1 ∨ k = 2 ∨ k = 3 ∨ k = 4 ∨ k = 5) ∧ (0 ≤ a ∧ a ≤ 7) ∧ (0 ≤ t ∧ t ≤ 30) ∧ (0 ≤ (if k = 3 ∨ k = 5 then b else 0) ∧ (if k = 3 ∨ k = 5 then b else 0) ≤ 30) ∧ (k = 3 → (if k = 3 ∨ k = 5 then b else 0) < 3) ∧ (k = 5 → t ≤ (if k = 3 ∨ k = 5 then b else 0)) ∧ ((k = 1 ∨ k = 5) → a < M 0 12 ∧ t < M 0 14) ∧ (k = 1 → M 7 (3 * a + 2) = 1) ∧ (k = 5 → (if k = 3 ∨ k = 5 then b else 0) < M 0 14) ∧ ((k = 2 ∨ k = 3 ∨ k = 4) → a < M 0 11 ∧ t ≤ M 0 14) ∧ (k = 3 → (if k = 3 ∨ k = 5 then b else 0) < M 0 13) := by
    unfold etQ at hq
    by_cases k1 : k = 1
    · rw [if_pos k1, decide_eq_true_eq] at hq
      rw [if_neg (show ¬ (k = 3 ∨ k = 5) by omega)]
      exact ⟨by omega, by omega, by omega, by omega, by omega, by omega, by omega, fun _ => hq.1.2, by omega, by omega, by omega⟩
    · rw [if_neg k1] at hq
      by_cases k2 : k = 2
      · rw [if_pos k2, decide_eq_true_eq] at hq
        rw [if_neg (show ¬ (k = 3 ∨ k = 5) by omega)]
        exact ⟨by omega, by omega, by omega, by omega, by omega, by omega, by omega, by omega, by omega, by omega, by omega⟩
      · rw [if_neg k2] at hq
        by_cases k3 : k = 3
        · rw [if_pos k3, decide_eq_true_eq] at hq
          rw [if_pos (show k = 3 ∨ k = 5 by omega)]
          exact ⟨by omega, by omega, by omega, by omega, by omega, by omega, by omega, by omega, by omega, by omega, by omega⟩
        · rw [if_neg k3] at hq
          by_cases k4 : k = 4
          · rw [if_pos k4, decide_eq_true_eq] at hq
            rw [if_neg (show ¬ (k = 3 ∨ k = 5) by omega)]
            exact ⟨by omega, by omega, by omega, by omega, by omega, by omega, by omega, by omega, by omega, by omega, by omega⟩
          · rw [if_neg k4] at hq
            by_cases k5 : k = 5
            · rw [if_pos k5, decide_eq_true_eq] at hq
              rw [if_pos (show k = 3 ∨ k = 5 by omega)]
              exact ⟨by omega, by omega, by omega, by omega, by omega, by omega, by omega, by omega, by omega, by omega, by omega⟩
            · rw [if_neg k5] at hq
              exact Bool.noConfusion hq
  generalize (if k = 3 ∨ k = 5 then b else 0) = b' at hv
  obtain ⟨v1, v2, v3, v4, v5, v6, v7, v8, v9, v10, v11⟩ := hv
  obtain ⟨en, hen⟩ : ∃ en : Nat, M 0 25 = (en : Int) := ⟨(M 0 25).toNat, by omega⟩
  have n25 : I 58 0 = (en : Int) := nr.1.trans hen
  have e25 : cmE M k a b' t 0 25 = (en : Int) + 1 := by unfold cmE; rw [m_up_eq, hen]
  have z0 : ∀ j, j ≠ 25 → cmE M k a b' t 0 j = M 0 j := fun j q => by
    unfold cmE
    rw [m_up_nj q, m_up_ne (by decide), m_up_ne (by decide), m_up_ne (by decide), m_up_ne (by decide)]
  have z7 : ∀ j, cmE M k a b' t 7 j = M 7 j := fun j => by
    unfold cmE
    rw [m_up_ne (by decide), m_up_ne (by decide), m_up_ne (by decide), m_up_ne (by decide), m_up_ne (by decide)]
  have mo : ∀ j, j < 4 * (en : Int) → cmE M k a b' t 11 j = M 11 j := fun j q => by
    unfold cmE
    rw [m_up_ne (by decide), m_up_nj (by omega), m_up_nj (by omega), m_up_nj (by omega), m_up_nj (by omega)]
  have n0 : cmE M k a b' t 11 (4 * (en : Int) + 0) = k := by
    unfold cmE
    rw [m_up_ne (by decide), m_up_nj (by omega), m_up_nj (by omega), m_up_nj (by omega), show 4 * M 0 25 = 4 * (en : Int) + 0 by omega, m_up_eq]
  have n1 : cmE M k a b' t 11 (4 * (en : Int) + 1) = a := by
    unfold cmE
    rw [m_up_ne (by decide), m_up_nj (by omega), m_up_nj (by omega), show 4 * M 0 25 + 1 = 4 * (en : Int) + 1 by omega, m_up_eq]
  have n2 : cmE M k a b' t 11 (4 * (en : Int) + 2) = b' := by
    unfold cmE
    rw [m_up_ne (by decide), m_up_nj (by omega), show 4 * M 0 25 + 2 = 4 * (en : Int) + 2 by omega, m_up_eq]
  have n3 : cmE M k a b' t 11 (4 * (en : Int) + 3) = t := by
    unfold cmE
    rw [m_up_ne (by decide), show 4 * M 0 25 + 3 = 4 * (en : Int) + 3 by omega, m_up_eq]
  refine ev_ok co cc (fun c i q1 q2 => ?_) (fun c j q1 q2 => ?_) m_up_eq ?_ ?_ ?_
  · unfold adN m_up
    rw [if_neg (by omega), if_neg (by omega), if_neg (by omega), if_neg (by omega), if_neg (by omega), if_neg (by omega)]
  · unfold cmE m_up
    rw [if_neg (by omega), if_neg (by omega), if_neg (by omega), if_neg (by omega), if_neg (by omega)]
  · unfold iEvs
    rw [e25]
    refine ⟨by omega, fun e he => ?_⟩
    by_cases x : e = en
    · subst x
      unfold iEv
      rw [n0, n1, n2, n3]
      exact ⟨v1, v2, v3, v4, v5, v6⟩
    · have := iE.2 e (by omega)
      unfold iEv at this ⊢
      rw [mo _ (by omega), mo _ (by omega), mo _ (by omega), mo _ (by omega)]
      exact this
  · unfold iEvL
    rw [e25, z0 11 (by decide), z0 12 (by decide), z0 13 (by decide), z0 14 (by decide)]
    simp only [z7]
    intro e h1 h2
    by_cases x : e = (en : Int)
    · subst x
      rw [n0, n1, n2, n3]
      exact ⟨v7, v8, v9, v10, v11⟩
    · have := iL e h1 (by omega)
      rw [mo _ (by omega), mo _ (by omega), mo _ (by omega), mo _ (by omega)]
      exact this
  · unfold NRL
    rw [e25]
    have ae : ∀ c i, ¬ (c = 0) → m_up (adN I 58 k a b' t) 0 10 0 c i = adN I 58 k a b' t c i := fun c i q => m_up_ne q i
    refine ⟨?_, fun e he => ?_⟩
    · rw [ae _ _ (by decide)]
      unfold adN
      rw [m_up_eq, n25]
    · rw [ae _ _ (by decide), ae _ _ (by decide), ae _ _ (by decide), ae _ _ (by decide)]
      unfold adN
      rw [n25]
      by_cases x : e = en
      · subst x
        rw [n0, n1, n2, n3]
        refine ⟨?_, ?_, ?_, ?_⟩
        · rw [m_up_ne (by decide), m_up_ne (by decide), m_up_ne (by decide), m_up_ne (by decide), m_up_eq]
        · rw [m_up_ne (by decide), m_up_ne (by decide), m_up_ne (by decide), m_up_eq]
        · rw [m_up_ne (by decide), m_up_ne (by decide), m_up_eq]
        · rw [m_up_ne (by decide), m_up_eq]
      · have z := nr.2 e (by omega)
        rw [mo _ (by omega), mo _ (by omega), mo _ (by omega), mo _ (by omega)]
        refine ⟨?_, ?_, ?_, ?_⟩
        · rw [m_up_ne (by decide), m_up_ne (by decide), m_up_ne (by decide), m_up_ne (by decide), m_up_nj (by omega)]; exact z.1
        · rw [m_up_ne (by decide), m_up_ne (by decide), m_up_ne (by decide), m_up_nj (by omega), m_up_ne (by decide)]; exact z.2.1
        · rw [m_up_ne (by decide), m_up_ne (by decide), m_up_nj (by omega), m_up_ne (by decide), m_up_ne (by decide)]; exact z.2.2.1
        · rw [m_up_ne (by decide), m_up_nj (by omega), m_up_ne (by decide), m_up_ne (by decide), m_up_ne (by decide)]; exact z.2.2.2
/-- the house allows what the reference does -/
theorem al_et (co : CO I L R M N h h') (k a b t : Int) : alX I h k a b t = etQ M k a b t := by
  obtain ⟨⟨q0, q1, q2, q3, q4⟩, -, -⟩ := co.2.2.2.2.2.1
  have b1 := co.2.2.2.2.1.1.2.1
  unfold alX etQ
  rw [q0, q1, q2, q3, q4]
  by_cases k1 : k = 1
  · rw [if_pos k1, if_pos k1]
    refine decide_eq_decide.mpr ?_
    constructor
    · rintro ⟨⟨z1, z2⟩, z3⟩
      have y := (tb_bd b1 (show a.toNat < 32 by omega)).mp z2
      rw [show ((a.toNat : Nat) : Int) = a by omega] at y
      exact ⟨⟨by omega, y.2⟩, by omega⟩
    · rintro ⟨⟨z1, z2⟩, z3⟩
      refine ⟨⟨by omega, (tb_bd b1 (show a.toNat < 32 by omega)).mpr ?_⟩, by omega⟩
      rw [show ((a.toNat : Nat) : Int) = a by omega]
      exact ⟨by omega, z2⟩
  · rw [if_neg k1, if_neg k1]
    by_cases k2 : k = 2
    · rw [if_pos k2, if_pos k2]
      exact decide_eq_decide.mpr (by omega)
    · rw [if_neg k2, if_neg k2]
      by_cases k3 : k = 3
      · rw [if_pos k3, if_pos k3]
        exact decide_eq_decide.mpr (by omega)
      · rw [if_neg k3, if_neg k3]
        by_cases k4 : k = 4
        · rw [if_pos k4, if_pos k4]
          exact decide_eq_decide.mpr (by omega)
        · rw [if_neg k4, if_neg k4]
          by_cases k5 : k = 5
          · rw [if_pos k5, if_pos k5]
            exact decide_eq_decide.mpr (by omega)
          · rw [if_neg k5, if_neg k5]
end
section
variable {G : GT} {I L M N : MI} {R : MR} {h h' : Nat}

theorem s_X7_back {n : Int} (co0 : CO I L R M N h h') (cc0 : CC I L R M h) (hn : rI n) : Sp G mtX7_back [mr 0, mi n] shX I L R (qi (fun z I' L' R' => z = (s_back n M).1 ∧ CO I' L' R' (s_back n M).2 N h h' ∧ CC I' L' R' (s_back n M).2 h)) := by
  refine Sp.of pnX7_back rfl ?_
  show Rn G mtX7_back _ 0 [(0, mr 0), (1, mi n)] [] shX I L R
  generalize hQ : (qi (fun z I' L' R' => z = (s_back n M).1 ∧ CO I' L' R' (s_back n M).2 N h h' ∧ CC I' L' R' (s_back n M).2 h)) = Q
  have hR := co0.1
  have r8 := co0.2.1.1
  have r9 := co0.2.1.2.1
  have h32 := co0.h32
  have hh := hR.h h32
  obtain ⟨iH, iE, iL, iR, iT⟩ := co0.2.2.2.2.1
  have hrl := co0.2.2.2.2.2.1.1
  have q0 := hrl.1
  have q1 := hrl.2.1
  have q2 := hrl.2.2.1
  have q3 := hrl.2.2.2.1
  have b0 := iH.1
  have b1 := iH.2.1
  have b2 := iH.2.2.1
  have b3 := iH.2.2.2.1
  have n25 : I 58 0 = M 0 25 := co0.2.2.2.2.2.2.1.1
  have e25 := iE.1
  refine x_iload_n dX7_back_0 1 rfl rfl ?_
  refine x_if_lt (tgt := 15) dX7_back_1 (by decide) (by omega) (fun h1 => ?_) (fun h1 => ?_)
  · refine x_iconst dX7_back_15 ?_
    refine x_iret dX7_back_16 rfl ?_
    rw [← hQ]
    first
    | (have x : s_back n M = (-1, M) := by
         unfold s_back
         exact if_pos (by omega)
       rw [x]
       exact ⟨_, rfl, rfl, co0, cc0⟩)
    | (have x : s_back n M = (M 0 25 - n, m_up M 0 25 n) := by
         unfold s_back
         rw [if_neg (by omega)]
       rw [x]
       have z := back_ok co0 cc0 (n := n) (by omega)
       exact ⟨_, rfl, by rw [n25], z.1, z.2⟩)
  · refine x_iload_n dX7_back_4 1 rfl rfl ?_
    refine x_aload_n dX7_back_5 0 rfl rfl ?_
    refine x_getR dX7_back_6 flX7_60 rfl rfl (hR 0 6 58 rfl) ?_
    refine x_getI dX7_back_9 flX7_124 rfl rfl ?_
    refine x_ic_le (tgt := 17) dX7_back_12 (by decide) (by omega) (fun h12 => ?_) (fun h12 => ?_)
    · refine x_aload_n dX7_back_17 0 rfl rfl ?_
      refine x_getR dX7_back_18 flX7_60 rfl rfl (hR 0 6 58 rfl) ?_
      refine x_getI dX7_back_21 flX7_124 rfl rfl ?_
      refine x_iload_n dX7_back_24 1 rfl rfl ?_
      refine x_isub dX7_back_25 ?_
      refine x_istore_n (lv' := [(0, _), (1, _), (2, _)]) dX7_back_26 rfl rfl rfl ?_
      refine x_aload_n dX7_back_27 0 rfl rfl ?_
      refine x_getR dX7_back_28 flX7_60 rfl rfl (hR 0 6 58 rfl) ?_
      refine x_iload_n dX7_back_31 1 rfl rfl ?_
      refine x_putI dX7_back_32 flX7_124 rfl rfl rfl ?_
      refine x_aload_n dX7_back_35 0 rfl rfl ?_
      refine x_iconst dX7_back_36 ?_
      refine x_putZ dX7_back_37 flX7_128 rfl rfl rfl (by omega) ?_
      refine x_iload_n dX7_back_40 2 rfl rfl ?_
      refine x_iret dX7_back_41 rfl ?_
      rw [← hQ]
      first
      | (have x : s_back n M = (-1, M) := by
           unfold s_back
           exact if_pos (by omega)
         rw [x]
         exact ⟨_, rfl, rfl, co0, cc0⟩)
      | (have x : s_back n M = (M 0 25 - n, m_up M 0 25 n) := by
           unfold s_back
           rw [if_neg (by omega)]
         rw [x]
         have z := back_ok co0 cc0 (n := n) (by omega)
         exact ⟨_, rfl, by rw [n25], z.1, z.2⟩)
    · refine x_iconst dX7_back_15 ?_
      refine x_iret dX7_back_16 rfl ?_
      rw [← hQ]
      first
      | (have x : s_back n M = (-1, M) := by
           unfold s_back
           exact if_pos (by omega)
         rw [x]
         exact ⟨_, rfl, rfl, co0, cc0⟩)
      | (have x : s_back n M = (M 0 25 - n, m_up M 0 25 n) := by
           unfold s_back
           rw [if_neg (by omega)]
         rw [x]
         have z := back_ok co0 cc0 (n := n) (by omega)
         exact ⟨_, rfl, by rw [n25], z.1, z.2⟩)
theorem s_X7_told {e w : Int} (co0 : CO I L R M N h h') (cc0 : CC I L R M h) (he : rI e) (hw : rI w) : Sp G mtX7_told [mr 0, mi e, mi w] shX I L R (qi (fun z I' L' R' => z = (s_told e w M).1 ∧ CO I' L' R' (s_told e w M).2 N h h' ∧ CC I' L' R' (s_told e w M).2 h)) := by
  refine Sp.of pnX7_told rfl ?_
  show Rn G mtX7_told _ 0 [(0, mr 0), (1, mi e), (2, mi w)] [] shX I L R
  generalize hQ : (qi (fun z I' L' R' => z = (s_told e w M).1 ∧ CO I' L' R' (s_told e w M).2 N h h' ∧ CC I' L' R' (s_told e w M).2 h)) = Q
  have hR := co0.1
  have r8 := co0.2.1.1
  have r9 := co0.2.1.2.1
  have h32 := co0.h32
  have hh := hR.h h32
  obtain ⟨iH, iE, iL, iR, iT⟩ := co0.2.2.2.2.1
  have hrl := co0.2.2.2.2.2.1.1
  have q0 := hrl.1
  have q1 := hrl.2.1
  have q2 := hrl.2.2.1
  have q3 := hrl.2.2.2.1
  have b0 := iH.1
  have b1 := iH.2.1
  have b2 := iH.2.2.1
  have b3 := iH.2.2.2.1
  have hn := hR.n (h := 58) (Or.inl rfl)
  have hrn := co0.2.2.2.2.2.2.1
  have n25 : I 58 0 = M 0 25 := hrn.1
  have e25 := iE.1
  have evf : 0 ≤ e → e < M 0 25 → I (58 + 1) e = M 11 (4 * e + 0) ∧ rI (I (58 + 1) e) := fun z1 z2 => by
    obtain ⟨en, rfl⟩ : ∃ en : Nat, e = (en : Int) := ⟨e.toNat, by omega⟩
    have z := (hrn.2 en z2).1
    have v := (iE.2 en z2).1
    exact ⟨z, by omega⟩
  refine x_aload_n dX7_told_0 0 rfl rfl ?_
  refine x_getR dX7_told_1 flX7_60 rfl rfl (hR 0 6 58 rfl) ?_
  refine x_iload_n dX7_told_4 1 rfl rfl ?_
  refine x_callVi (as := [_]) dX7_told_5 lvX7_147 rfl rfl rfl rfl rfl rfl rfl ⟨rfl, rfl⟩ (s_X2_names hn (by omega) (by omega)) (fun z5 I5 L5 R5 hq5 => ?_)
  obtain ⟨rfl, rfl, rfl, rfl⟩ := hq5
  refine y_ifb_eq (tgt := 20) dX7_told_8 (by decide) (fun h8 => ?_) (fun h8 => ?_)
  · refine x_iconst dX7_told_20 ?_
    refine x_iret dX7_told_21 rfl ?_
    rw [← hQ]
    first
    | (have x : s_told e w M = (-1, M) := by
         unfold s_told
         exact if_pos (by omega)
       rw [x]
       exact ⟨_, rfl, rfl, co0, cc0⟩)
    | (have y : itX I 58 e w = M 11 (4 * e + w) := by
         obtain ⟨en, rfl⟩ : ∃ en : Nat, e = (en : Int) := ⟨e.toNat, by omega⟩
         obtain ⟨z1, z2, z3, z4⟩ := hrn.2 en (by omega)
         unfold itX
         have : w = 0 ∨ w = 1 ∨ w = 2 ∨ w = 3 := by omega
         rcases this with rfl | rfl | rfl | rfl
         · exact z1
         · exact z2
         · exact z3
         · exact z4
       have x : s_told e w M = (1, a_tl M (M 11 (4 * e + w))) := by
         unfold s_told
         rw [if_neg (by omega)]
       rw [x, y]
       have z := tl_ok co0 cc0 (M 11 (4 * e + w))
       exact ⟨_, rfl, rfl, z.1, z.2⟩)
  · refine x_iload_n dX7_told_11 2 rfl rfl ?_
    refine x_if_lt (tgt := 20) dX7_told_12 (by decide) (by omega) (fun h12 => ?_) (fun h12 => ?_)
    · refine x_iconst dX7_told_20 ?_
      refine x_iret dX7_told_21 rfl ?_
      rw [← hQ]
      first
      | (have x : s_told e w M = (-1, M) := by
           unfold s_told
           exact if_pos (by omega)
         rw [x]
         exact ⟨_, rfl, rfl, co0, cc0⟩)
      | (have y : itX I 58 e w = M 11 (4 * e + w) := by
           obtain ⟨en, rfl⟩ : ∃ en : Nat, e = (en : Int) := ⟨e.toNat, by omega⟩
           obtain ⟨z1, z2, z3, z4⟩ := hrn.2 en (by omega)
           unfold itX
           have : w = 0 ∨ w = 1 ∨ w = 2 ∨ w = 3 := by omega
           rcases this with rfl | rfl | rfl | rfl
           · exact z1
           · exact z2
           · exact z3
           · exact z4
         have x : s_told e w M = (1, a_tl M (M 11 (4 * e + w))) := by
           unfold s_told
           rw [if_neg (by omega)]
         rw [x, y]
         have z := tl_ok co0 cc0 (M 11 (4 * e + w))
         exact ⟨_, rfl, rfl, z.1, z.2⟩)
    · refine x_iload_n dX7_told_15 2 rfl rfl ?_
      refine x_iconst dX7_told_16 ?_
      refine x_ic_le (tgt := 22) dX7_told_17 (by decide) (by omega) (fun h17 => ?_) (fun h17 => ?_)
      · refine x_aload_n dX7_told_22 0 rfl rfl ?_
        refine x_aload_n dX7_told_23 0 rfl rfl ?_
        refine x_getR dX7_told_24 flX7_60 rfl rfl (hR 0 6 58 rfl) ?_
        refine x_iload_n dX7_told_27 1 rfl rfl ?_
        refine x_iload_n dX7_told_28 2 rfl rfl ?_
        refine x_callVi (as := [_, _]) dX7_told_29 lvX7_148 rfl rfl rfl rfl rfl rfl rfl ⟨rfl, rfl⟩ (s_X2_item hn (by omega) (by omega)) (fun z29 I29 L29 R29 hq29 => ?_)
        obtain ⟨rfl, rfl, rfl, rfl⟩ := hq29
        refine x_callVi (as := [_]) dX7_told_32 lvX7_98 rfl rfl rfl rfl rfl rfl rfl ⟨rfl, rfl⟩ (s_X7_tell) (fun z32 I32 L32 R32 hq32 => ?_)
        obtain ⟨rfl, rfl, rfl, rfl⟩ := hq32
        refine x_iret dX7_told_35 rfl ?_
        rw [← hQ]
        first
        | (have x : s_told e w M = (-1, M) := by
             unfold s_told
             exact if_pos (by omega)
           rw [x]
           exact ⟨_, rfl, rfl, co0, cc0⟩)
        | (have y : itX I 58 e w = M 11 (4 * e + w) := by
             obtain ⟨en, rfl⟩ : ∃ en : Nat, e = (en : Int) := ⟨e.toNat, by omega⟩
             obtain ⟨z1, z2, z3, z4⟩ := hrn.2 en (by omega)
             unfold itX
             have : w = 0 ∨ w = 1 ∨ w = 2 ∨ w = 3 := by omega
             rcases this with rfl | rfl | rfl | rfl
             · exact z1
             · exact z2
             · exact z3
             · exact z4
           have x : s_told e w M = (1, a_tl M (M 11 (4 * e + w))) := by
             unfold s_told
             rw [if_neg (by omega)]
           rw [x, y]
           have z := tl_ok co0 cc0 (M 11 (4 * e + w))
           exact ⟨_, rfl, rfl, z.1, z.2⟩)
      · refine x_iconst dX7_told_20 ?_
        refine x_iret dX7_told_21 rfl ?_
        rw [← hQ]
        first
        | (have x : s_told e w M = (-1, M) := by
             unfold s_told
             exact if_pos (by omega)
           rw [x]
           exact ⟨_, rfl, rfl, co0, cc0⟩)
        | (have y : itX I 58 e w = M 11 (4 * e + w) := by
             obtain ⟨en, rfl⟩ : ∃ en : Nat, e = (en : Int) := ⟨e.toNat, by omega⟩
             obtain ⟨z1, z2, z3, z4⟩ := hrn.2 en (by omega)
             unfold itX
             have : w = 0 ∨ w = 1 ∨ w = 2 ∨ w = 3 := by omega
             rcases this with rfl | rfl | rfl | rfl
             · exact z1
             · exact z2
             · exact z3
             · exact z4
           have x : s_told e w M = (1, a_tl M (M 11 (4 * e + w))) := by
             unfold s_told
             rw [if_neg (by omega)]
           rw [x, y]
           have z := tl_ok co0 cc0 (M 11 (4 * e + w))
           exact ⟨_, rfl, rfl, z.1, z.2⟩)
theorem s_X7_door {d w : Int} (co0 : CO I L R M N h h') (cc0 : CC I L R M h) (hd : rI d) (hw : rI w) : Sp G mtX7_door [mr 0, mi d, mi w] shX I L R (qi (fun z I' L' R' => z = (s_door d w M).1 ∧ CO I' L' R' (s_door d w M).2 N h h' ∧ CC I' L' R' (s_door d w M).2 h)) := by
  refine Sp.of pnX7_door rfl ?_
  show Rn G mtX7_door _ 0 [(0, mr 0), (1, mi d), (2, mi w)] [] shX I L R
  generalize hQ : (qi (fun z I' L' R' => z = (s_door d w M).1 ∧ CO I' L' R' (s_door d w M).2 N h h' ∧ CC I' L' R' (s_door d w M).2 h)) = Q
  have hR := co0.1
  have r8 := co0.2.1.1
  have r9 := co0.2.1.2.1
  have h32 := co0.h32
  have hh := hR.h h32
  obtain ⟨iH, iE, iL, iR, iT⟩ := co0.2.2.2.2.1
  have hrl := co0.2.2.2.2.2.1.1
  have q0 := hrl.1
  have q1 := hrl.2.1
  have q2 := hrl.2.2.1
  have q3 := hrl.2.2.2.1
  have b0 := iH.1
  have b1 := iH.2.1
  have b2 := iH.2.2.1
  have b3 := iH.2.2.2.1
  refine x_aload_n dX7_door_0 0 rfl rfl ?_
  refine x_getR dX7_door_1 flX7_38 rfl rfl r8 ?_
  refine x_iload_n dX7_door_4 1 rfl rfl ?_
  refine x_callVi (as := [_]) dX7_door_5 lvX7_164 rfl (shH0 hh) rfl rfl rfl rfl rfl ⟨rfl, rfl⟩ (s_X0_hasDoor hh (by omega) (by omega)) (fun z5 I5 L5 R5 hq5 => ?_)
  obtain ⟨rfl, rfl, rfl, rfl⟩ := hq5
  refine y_ifb_eq (tgt := 20) dX7_door_8 (by decide) (fun h8 => ?_) (fun h8 => ?_)
  · refine x_iconst dX7_door_20 ?_
    refine x_iret dX7_door_21 rfl ?_
    rw [← hQ]
    first
    | (have x : s_door d w M = (-1, M) := by
         unfold s_door
         exact if_pos (by omega)
       rw [x]
       exact ⟨_, rfl, rfl, co0, cc0⟩)
    | (have y : diX I h d w = M 7 (3 * d + w) := by
         obtain ⟨dn, rfl⟩ : ∃ dn : Nat, d = (dn : Int) := ⟨d.toNat, by omega⟩
         have z := co0.2.2.2.2.2.1.2.1 dn (by omega)
         have c := (iH.2.2.2.2.1 (dn : Int) (by omega) (by omega)).2.2.2
         have q4 := hrl.2.2.2.2
         unfold diX
         have : w = 0 ∨ w = 1 ∨ w = 2 := by omega
         rcases this with rfl | rfl | rfl
         · rw [if_pos rfl, z.1, Int.add_zero]
         · rw [if_neg (by decide), if_pos rfl, z.2]
         · rw [if_neg (by decide), if_neg (by decide), q4, Int.toNat_natCast]
           rcases c with c | c
           · rw [c]
             exact (b01_f (fun q => by have := ((tb_bd b1 (show dn < 32 by omega)).mp q).2; omega)).symm
           · rw [c]
             exact (b01_t ((tb_bd b1 (show dn < 32 by omega)).mpr ⟨by omega, c⟩)).symm
       have x : s_door d w M = (1, a_tl M (M 7 (3 * d + w))) := by
         unfold s_door
         rw [if_neg (by omega)]
       rw [x, y]
       have z := tl_ok co0 cc0 (M 7 (3 * d + w))
       exact ⟨_, rfl, rfl, z.1, z.2⟩)
  · refine x_iload_n dX7_door_11 2 rfl rfl ?_
    refine x_if_lt (tgt := 20) dX7_door_12 (by decide) (by omega) (fun h12 => ?_) (fun h12 => ?_)
    · refine x_iconst dX7_door_20 ?_
      refine x_iret dX7_door_21 rfl ?_
      rw [← hQ]
      first
      | (have x : s_door d w M = (-1, M) := by
           unfold s_door
           exact if_pos (by omega)
         rw [x]
         exact ⟨_, rfl, rfl, co0, cc0⟩)
      | (have y : diX I h d w = M 7 (3 * d + w) := by
           obtain ⟨dn, rfl⟩ : ∃ dn : Nat, d = (dn : Int) := ⟨d.toNat, by omega⟩
           have z := co0.2.2.2.2.2.1.2.1 dn (by omega)
           have c := (iH.2.2.2.2.1 (dn : Int) (by omega) (by omega)).2.2.2
           have q4 := hrl.2.2.2.2
           unfold diX
           have : w = 0 ∨ w = 1 ∨ w = 2 := by omega
           rcases this with rfl | rfl | rfl
           · rw [if_pos rfl, z.1, Int.add_zero]
           · rw [if_neg (by decide), if_pos rfl, z.2]
           · rw [if_neg (by decide), if_neg (by decide), q4, Int.toNat_natCast]
             rcases c with c | c
             · rw [c]
               exact (b01_f (fun q => by have := ((tb_bd b1 (show dn < 32 by omega)).mp q).2; omega)).symm
             · rw [c]
               exact (b01_t ((tb_bd b1 (show dn < 32 by omega)).mpr ⟨by omega, c⟩)).symm
         have x : s_door d w M = (1, a_tl M (M 7 (3 * d + w))) := by
           unfold s_door
           rw [if_neg (by omega)]
         rw [x, y]
         have z := tl_ok co0 cc0 (M 7 (3 * d + w))
         exact ⟨_, rfl, rfl, z.1, z.2⟩)
    · refine x_iload_n dX7_door_15 2 rfl rfl ?_
      refine x_iconst dX7_door_16 ?_
      refine x_ic_le (tgt := 22) dX7_door_17 (by decide) (by omega) (fun h17 => ?_) (fun h17 => ?_)
      · refine x_aload_n dX7_door_22 0 rfl rfl ?_
        refine x_aload_n dX7_door_23 0 rfl rfl ?_
        refine x_getR dX7_door_24 flX7_38 rfl rfl r8 ?_
        refine x_iload_n dX7_door_27 1 rfl rfl ?_
        refine x_iload_n dX7_door_28 2 rfl rfl ?_
        refine x_callVi (as := [_, _]) dX7_door_29 lvX7_167 rfl (shH0 hh) rfl rfl rfl rfl rfl ⟨rfl, rfl⟩ (s_X0_doorItem hh (by omega) (by omega)) (fun z29 I29 L29 R29 hq29 => ?_)
        obtain ⟨rfl, rfl, rfl, rfl⟩ := hq29
        refine x_callVi (as := [_]) dX7_door_32 lvX7_98 rfl rfl rfl rfl rfl rfl rfl ⟨rfl, rfl⟩ (s_X7_tell) (fun z32 I32 L32 R32 hq32 => ?_)
        obtain ⟨rfl, rfl, rfl, rfl⟩ := hq32
        refine x_iret dX7_door_35 rfl ?_
        rw [← hQ]
        first
        | (have x : s_door d w M = (-1, M) := by
             unfold s_door
             exact if_pos (by omega)
           rw [x]
           exact ⟨_, rfl, rfl, co0, cc0⟩)
        | (have y : diX I h d w = M 7 (3 * d + w) := by
             obtain ⟨dn, rfl⟩ : ∃ dn : Nat, d = (dn : Int) := ⟨d.toNat, by omega⟩
             have z := co0.2.2.2.2.2.1.2.1 dn (by omega)
             have c := (iH.2.2.2.2.1 (dn : Int) (by omega) (by omega)).2.2.2
             have q4 := hrl.2.2.2.2
             unfold diX
             have : w = 0 ∨ w = 1 ∨ w = 2 := by omega
             rcases this with rfl | rfl | rfl
             · rw [if_pos rfl, z.1, Int.add_zero]
             · rw [if_neg (by decide), if_pos rfl, z.2]
             · rw [if_neg (by decide), if_neg (by decide), q4, Int.toNat_natCast]
               rcases c with c | c
               · rw [c]
                 exact (b01_f (fun q => by have := ((tb_bd b1 (show dn < 32 by omega)).mp q).2; omega)).symm
               · rw [c]
                 exact (b01_t ((tb_bd b1 (show dn < 32 by omega)).mpr ⟨by omega, c⟩)).symm
           have x : s_door d w M = (1, a_tl M (M 7 (3 * d + w))) := by
             unfold s_door
             rw [if_neg (by omega)]
           rw [x, y]
           have z := tl_ok co0 cc0 (M 7 (3 * d + w))
           exact ⟨_, rfl, rfl, z.1, z.2⟩)
      · refine x_iconst dX7_door_20 ?_
        refine x_iret dX7_door_21 rfl ?_
        rw [← hQ]
        first
        | (have x : s_door d w M = (-1, M) := by
             unfold s_door
             exact if_pos (by omega)
           rw [x]
           exact ⟨_, rfl, rfl, co0, cc0⟩)
        | (have y : diX I h d w = M 7 (3 * d + w) := by
             obtain ⟨dn, rfl⟩ : ∃ dn : Nat, d = (dn : Int) := ⟨d.toNat, by omega⟩
             have z := co0.2.2.2.2.2.1.2.1 dn (by omega)
             have c := (iH.2.2.2.2.1 (dn : Int) (by omega) (by omega)).2.2.2
             have q4 := hrl.2.2.2.2
             unfold diX
             have : w = 0 ∨ w = 1 ∨ w = 2 := by omega
             rcases this with rfl | rfl | rfl
             · rw [if_pos rfl, z.1, Int.add_zero]
             · rw [if_neg (by decide), if_pos rfl, z.2]
             · rw [if_neg (by decide), if_neg (by decide), q4, Int.toNat_natCast]
               rcases c with c | c
               · rw [c]
                 exact (b01_f (fun q => by have := ((tb_bd b1 (show dn < 32 by omega)).mp q).2; omega)).symm
               · rw [c]
                 exact (b01_t ((tb_bd b1 (show dn < 32 by omega)).mpr ⟨by omega, c⟩)).symm
           have x : s_door d w M = (1, a_tl M (M 7 (3 * d + w))) := by
             unfold s_door
             rw [if_neg (by omega)]
           rw [x, y]
           have z := tl_ok co0 cc0 (M 7 (3 * d + w))
           exact ⟨_, rfl, rfl, z.1, z.2⟩)
end

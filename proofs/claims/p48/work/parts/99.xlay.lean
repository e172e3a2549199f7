/-! CLASS AND REFERENCE: the Plan laid. -/
/-- a house of the class as the reference's; a night -/
def HRL (I M : MI) (h : Nat) : Prop := (I h 0 = M 0 11 ∧ I h 1 = M 0 12 ∧ I h 2 = M 0 13 ∧ I h 3 = M 0 14 ∧ I h 4 = orf (bdF M) (M 0 12).toNat) ∧
  (∀ d : Nat, (d : Int) < M 0 12 → I (h + 1) (d : Int) = M 7 (3 * (d : Int)) ∧ I (h + 2) (d : Int) = M 7 (3 * (d : Int) + 1)) ∧
  ∀ w : Nat, (w : Int) < M 0 13 → I (h + 3) (w : Int) = M 8 (2 * (w : Int)) ∧ I (h + 4) (w : Int) = M 8 (2 * (w : Int) + 1)
def NRL (I M : MI) (n : Nat) : Prop := I n 0 = M 0 25 ∧ ∀ e : Nat, (e : Int) < M 0 25 → I (n + 1) (e : Int) = M 11 (4 * (e : Int) + 0) ∧ I (n + 2) (e : Int) = M 11 (4 * (e : Int) + 1) ∧ I (n + 3) (e : Int) = M 11 (4 * (e : Int) + 2) ∧ I (n + 4) (e : Int) = M 11 (4 * (e : Int) + 3)
theorem shF_at (I : MI) (p : Nat) (th t : Int) (j : Int) : ∀ k : Nat, shF I p th t k (p + 2) j = if t ≤ j ∧ j < t + (k : Int) then z_or (I (p + 2) j) th else I (p + 2) j
  | 0 => by
    rw [if_neg (by omega)]
    rfl
  | k + 1 => by
    have e : shF I p th t (k + 1) (p + 2) j = m_up (shF I p th t k) (p + 2) (t + (k : Int)) (z_or (shF I p th t k (p + 2) (t + (k : Int))) th) (p + 2) j := rfl
    rw [e]
    by_cases q : j = t + (k : Int)
    · subst q
      rw [m_up_eq, shF_at I p th t _ k, if_neg (by omega), if_pos (by omega)]
    · rw [m_up_nj q, shF_at I p th t j k]
      by_cases y : t ≤ j ∧ j < t + (k : Int)
      · rw [if_pos y, if_pos (by omega)]
      · rw [if_neg y, if_neg (by omega)]
theorem sh_4161 : ∀ a : Nat, a < 6 → z_shl 1 (a : Int) * 4161 = z_shl 4161 (a : Int) := by decide
theorem tb_4161 {a b : Nat} (ha : a < 6) (hb : b < 32) : tb (z_shl 4161 (a : Int)) b = true ↔ b = a ∨ b = 6 + a ∨ b = 12 + a := by
  have t41 : ∀ b, b < 32 → (tb 4161 b = true ↔ b = 0 ∨ b = 6 ∨ b = 12) := by decide
  rw [tb_shl (by omega) hb, Bool.and_eq_true, decide_eq_true_eq, Int.toNat_natCast, t41 (b - a) (by omega)]
  omega
/-- who alone may stay in a window of six -/
theorem tb_win {a w b : Nat} (ha : a < 6) (hw : w < 3) (hb : b < 32) : tb (z_or (z_xor (z_shl 63 (6 * (w : Int))) (-1)) (z_shl (z_shl 1 (a : Int)) (6 * (w : Int)))) b = true ↔ ¬ (6 * w ≤ b ∧ b < 6 * w + 6) ∨ b = 6 * w + a := by
  rw [tb_or, Bool.or_eq_true, tb_xor, tb_m1 hb, Bool.xor_true, Bool.not_eq_true', tb_shl (by omega) hb, tb_shl (by omega) hb, tb_63 (show b - (6 * (w : Int)).toNat < 32 by omega), Bool.and_eq_false_iff, decide_eq_false_iff_not, decide_eq_false_iff_not, Bool.and_eq_true, decide_eq_true_eq]
  by_cases q : 6 * w ≤ b
  · rw [tb_sh1 (by omega) (by omega), decide_eq_true_eq]
    omega
  · omega
/-- what the plan holds of a minute, as the scene does -/
def TKR (J κ : MI) (p : Nat) (k : Int) (t : Nat) : Prop :=
  J (p + 1) (t : Int) = κ 13 (t : Int) ∧ J (p + 2) (t : Int) = κ 14 (t : Int) ∧ J (p + 3) (t : Int) = κ 15 (t : Int) ∧ (∀ x, 6 ≤ x → x < 32 → tb (κ 15 (t : Int)) x = false) ∧ (∀ r : Nat, r < 6 → tb (J (p + 4) (t : Int)) (18 + r) = true) ∧
    (∀ w r : Nat, (w : Int) < k → (r : Int) < κ 0 11 → (tb (J (p + 4) (t : Int)) (6 * w + r) = true ↔ tb (κ 16 (t : Int)) r = false ∧ (κ 17 (3 * (t : Int) + w) = -1 ∨ κ 17 (3 * (t : Int) + w) = (r : Int)) ∧ (t = 0 → tb (κ 8 (2 * (w : Int) + 1)) r = true))) ∧ ∀ x, x < 32 → tb (κ 13 (t : Int)) x = true → (x : Int) < κ 0 12 ∧ κ 7 (3 * (x : Int) + 2) = 1
/-- an event as it may be told -/
def evQ (κ : MI) (k a b t : Int) : Prop := (k = 1 ∨ k = 2 ∨ k = 3 ∨ k = 4 ∨ k = 5) ∧ (0 ≤ a ∧ a ≤ 7) ∧ (0 ≤ t ∧ t ≤ 30) ∧ (0 ≤ b ∧ b ≤ 30) ∧ (k = 3 → b < 3) ∧ (k = 5 → t ≤ b) ∧ (k = 1 → a < κ 0 12 ∧ κ 7 (3 * a + 2) = 1) ∧ ((k = 2 ∨ k = 3 ∨ k = 4) → a < κ 0 11)
theorem tk_step {J κ : MI} {p : Nat} {k kk a b tt : Int} (hk : 0 ≤ k ∧ k ≤ 3) (h11 : 1 ≤ κ 0 11 ∧ κ 0 11 ≤ 6) (jk : J p 1 = k) (ev : evQ κ kk a b tt) {t : Nat} (ht : t ≤ 30) (r : TKR J κ p k t) : TKR (tkE J p kk (z_shl 1 a) b tt) (ntM kk a b tt κ) p k t := by
  obtain ⟨r1, r2, r3, r4, r5, r6, r7⟩ := r
  obtain ⟨v1, v2, v3, v4, v5, v6, v7, v8⟩ := ev
  have n0 : ntM kk a b tt κ 0 11 = κ 0 11 := rfl
  have n02 : ntM kk a b tt κ 0 12 = κ 0 12 := rfl
  have n7 : ∀ j, ntM kk a b tt κ 7 j = κ 7 j := fun j => rfl
  have n8 : ∀ j, ntM kk a b tt κ 8 j = κ 8 j := fun j => rfl
  unfold TKR
  rw [n0, n02]
  simp only [n7, n8, ntM_13, ntM_14, ntM_15, ntM_16, ntM_17]
  obtain ⟨an, rfl⟩ : ∃ an : Nat, a = (an : Int) := ⟨a.toNat, by omega⟩
  rcases v1 with rfl | rfl | rfl | rfl | rfl
  · -- a sound
    have e4 : tkE J p 1 (z_shl 1 (an : Int)) b tt = m_up J (p + 1) tt (z_or (J (p + 1) tt) (z_shl 1 (an : Int))) := if_pos rfl
    rw [e4]
    have ne : ∀ c i, c ≠ p + 1 → m_up J (p + 1) tt (z_or (J (p + 1) tt) (z_shl 1 (an : Int))) c i = J c i := fun c i q => m_up_ne q i
    rw [ne _ _ (show p + 2 ≠ p + 1 by omega), ne _ _ (show p + 3 ≠ p + 1 by omega)]
    simp only [ne _ _ (show p + 4 ≠ p + 1 by omega)]
    have f5 : ¬ ((1 : Int) = 5 ∧ tt ≤ (t : Int) ∧ (t : Int) ≤ b) := fun z => absurd z.1 (by decide)
    have f2 : ¬ ((1 : Int) = 2 ∧ (t : Int) = tt) := fun z => absurd z.1 (by decide)
    have f4 : ¬ ((1 : Int) = 4 ∧ (t : Int) = tt) := fun z => absurd z.1 (by decide)
    have f3 : ∀ w : Nat, ¬ ((1 : Int) = 3 ∧ 3 * (t : Int) + (w : Int) = 3 * tt + b) := fun w z => absurd z.1 (by decide)
    simp only [if_neg f5, if_neg f2, if_neg f4, if_neg (f3 _)]
    refine ⟨?_, r2, r3, r4, r5, r6, ?_⟩
    · by_cases e : (t : Int) = tt
      · rw [if_pos ⟨trivial, e⟩, e, m_up_eq, ← e, r1]
      · rw [if_neg (fun z => e z.2), m_up_nj e]
        exact r1
    · intro x hx q
      by_cases e : (t : Int) = tt
      · rw [if_pos ⟨trivial, e⟩, tb_or, Bool.or_eq_true, tb_sh1 (by omega) hx, decide_eq_true_eq] at q
        rcases q with q | q
        · exact r7 x hx q
        · have : x = an := by omega
          subst this
          exact v7 rfl
      · rw [if_neg (fun z => e z.2)] at q
        exact r7 x hx q
  · -- seen
    have e4 : tkE J p 2 (z_shl 1 (an : Int)) b tt = m_up J (p + 3) tt (z_or (J (p + 3) tt) (z_shl 1 (an : Int))) := by
      unfold tkE
      rw [if_neg (by decide), if_pos rfl]
    rw [e4]
    have ne : ∀ c i, c ≠ p + 3 → m_up J (p + 3) tt (z_or (J (p + 3) tt) (z_shl 1 (an : Int))) c i = J c i := fun c i q => m_up_ne q i
    rw [ne _ _ (show p + 1 ≠ p + 3 by omega), ne _ _ (show p + 2 ≠ p + 3 by omega)]
    simp only [ne _ _ (show p + 4 ≠ p + 3 by omega)]
    have f5 : ¬ ((2 : Int) = 5 ∧ tt ≤ (t : Int) ∧ (t : Int) ≤ b) := fun z => absurd z.1 (by decide)
    have f1 : ¬ ((2 : Int) = 1 ∧ (t : Int) = tt) := fun z => absurd z.1 (by decide)
    have f4 : ¬ ((2 : Int) = 4 ∧ (t : Int) = tt) := fun z => absurd z.1 (by decide)
    have f3 : ∀ w : Nat, ¬ ((2 : Int) = 3 ∧ 3 * (t : Int) + (w : Int) = 3 * tt + b) := fun w z => absurd z.1 (by decide)
    simp only [if_neg f5, if_neg f1, if_neg f4, if_neg (f3 _)]
    have va := v8 (Or.inl rfl)
    refine ⟨r1, r2, ?_, ?_, r5, r6, r7⟩
    · by_cases e : (t : Int) = tt
      · rw [if_pos ⟨trivial, e⟩, e, m_up_eq, ← e, r3]
      · rw [if_neg (fun z => e z.2), m_up_nj e]
        exact r3
    · intro x hx6 hx
      by_cases e : (t : Int) = tt
      · rw [if_pos ⟨trivial, e⟩, tb_or, Bool.or_eq_false_iff, tb_sh1 (by omega) hx, decide_eq_false_iff_not]
        exact ⟨r4 x hx6 hx, by omega⟩
      · rw [if_neg (fun z => e z.2)]
        exact r4 x hx6 hx
  · -- this one there
    have f5 : ¬ ((3 : Int) = 5 ∧ tt ≤ (t : Int) ∧ (t : Int) ≤ b) := fun z => absurd z.1 (by decide)
    have f1 : ¬ ((3 : Int) = 1 ∧ (t : Int) = tt) := fun z => absurd z.1 (by decide)
    have f4 : ¬ ((3 : Int) = 4 ∧ (t : Int) = tt) := fun z => absurd z.1 (by decide)
    have f2 : ¬ ((3 : Int) = 2 ∧ (t : Int) = tt) := fun z => absurd z.1 (by decide)
    simp only [if_neg f5, if_neg f1, if_neg f4, if_neg f2]
    have va := v8 (Or.inr (Or.inl rfl))
    have vb := v5 rfl
    by_cases q : k ≤ b
    · have e4 : tkE J p 3 (z_shl 1 (an : Int)) b tt = m_up J p 4 0 := by
        unfold tkE
        rw [if_neg (by decide), if_neg (by decide), if_pos rfl, if_pos (by omega)]
      rw [e4]
      have ne : ∀ c i, c ≠ p → m_up J p 4 0 c i = J c i := fun c i q => m_up_ne q i
      rw [ne _ _ (show p + 1 ≠ p by omega), ne _ _ (show p + 2 ≠ p by omega), ne _ _ (show p + 3 ≠ p by omega)]
      simp only [ne _ _ (show p + 4 ≠ p by omega)]
      refine ⟨r1, r2, r3, r4, r5, fun w r hw hr => ?_, r7⟩
      rw [if_neg (show ¬ (True ∧ 3 * (t : Int) + (w : Int) = 3 * tt + b) by omega)]
      exact r6 w r hw hr
    · obtain ⟨bn, rfl⟩ : ∃ bn : Nat, b = (bn : Int) := ⟨b.toNat, by omega⟩
      have e4 : tkE J p 3 (z_shl 1 (an : Int)) (bn : Int) tt = m_up J (p + 4) tt (z_and (J (p + 4) tt) (z_or (z_xor (z_shl 63 (6 * (bn : Int))) (-1)) (z_shl (z_shl 1 (an : Int)) (6 * (bn : Int))))) := by
        unfold tkE
        rw [if_neg (by decide), if_neg (by decide), if_pos rfl, if_neg (by omega)]
      rw [e4]
      generalize hm : z_or (z_xor (z_shl 63 (6 * (bn : Int))) (-1)) (z_shl (z_shl 1 (an : Int)) (6 * (bn : Int))) = m
      have tm : ∀ x, x < 32 → (tb m x = true ↔ ¬ (6 * bn ≤ x ∧ x < 6 * bn + 6) ∨ x = 6 * bn + an) := fun x hx => by
        rw [← hm]
        exact tb_win (by omega) (by omega) hx
      have ne : ∀ c i, c ≠ p + 4 → m_up J (p + 4) tt (z_and (J (p + 4) tt) m) c i = J c i := fun c i q => m_up_ne q i
      rw [ne _ _ (show p + 1 ≠ p + 4 by omega), ne _ _ (show p + 2 ≠ p + 4 by omega), ne _ _ (show p + 3 ≠ p + 4 by omega)]
      refine ⟨r1, r2, r3, r4, fun r hr => ?_, fun w r hw hr => ?_, r7⟩
      · by_cases e : (t : Int) = tt
        · rw [e, m_up_eq, ← e, tb_and, Bool.and_eq_true, tm _ (by omega)]
          exact ⟨r5 r hr, Or.inl (by omega)⟩
        · rw [m_up_nj e]
          exact r5 r hr
      · have h6 := r6 w r hw hr
        by_cases e : (t : Int) = tt
        · rw [e, m_up_eq, ← e, tb_and, Bool.and_eq_true, tm _ (by omega), h6]
          by_cases y : w = bn
          · subst y
            rw [if_pos (show True ∧ 3 * (t : Int) + (w : Int) = 3 * (t : Int) + (w : Int) from ⟨trivial, rfl⟩)]
            have hr2 : ¬ (¬ (6 * w ≤ 6 * w + r ∧ 6 * w + r < 6 * w + 6)) := by omega
            constructor
            · rintro ⟨⟨z1, z2, z3⟩, z4⟩
              refine ⟨z1, Or.inr ?_, z3⟩
              have : r = an := by omega
              subst this
              rw [if_pos z2]
            · rintro ⟨z1, z2, z3⟩
              by_cases y : κ 17 (3 * (t : Int) + (w : Int)) = -1 ∨ κ 17 (3 * (t : Int) + (w : Int)) = (an : Int)
              · rw [if_pos y] at z2
                have : r = an := by omega
                subst this
                exact ⟨⟨z1, y, z3⟩, Or.inr rfl⟩
              · rw [if_neg y] at z2
                omega
          · rw [if_neg (show ¬ (True ∧ 3 * (t : Int) + (w : Int) = 3 * (t : Int) + (bn : Int)) by omega)]
            exact ⟨fun z => z.1, fun z => ⟨z, Or.inl (by omega)⟩⟩
        · rw [m_up_nj e, h6, if_neg (show ¬ (True ∧ 3 * (t : Int) + (w : Int) = 3 * tt + (bn : Int)) by omega)]
  · -- bare
    have f5 : ¬ ((4 : Int) = 5 ∧ tt ≤ (t : Int) ∧ (t : Int) ≤ b) := fun z => absurd z.1 (by decide)
    have f1 : ¬ ((4 : Int) = 1 ∧ (t : Int) = tt) := fun z => absurd z.1 (by decide)
    have f2 : ¬ ((4 : Int) = 2 ∧ (t : Int) = tt) := fun z => absurd z.1 (by decide)
    have f3 : ∀ w : Nat, ¬ ((4 : Int) = 3 ∧ 3 * (t : Int) + (w : Int) = 3 * tt + b) := fun w z => absurd z.1 (by decide)
    simp only [if_neg f5, if_neg f1, if_neg f2, if_neg (f3 _)]
    have va := v8 (Or.inr (Or.inr rfl))
    have e4 : tkE J p 4 (z_shl 1 (an : Int)) b tt = m_up J (p + 4) tt (z_and (J (p + 4) tt) (z_xor (z_shl 4161 (an : Int)) (-1))) := by
      unfold tkE
      rw [if_neg (by decide), if_neg (by decide), if_neg (by decide), if_pos rfl, sh_4161 an (by omega)]
    rw [e4]
    generalize hm : z_xor (z_shl 4161 (an : Int)) (-1) = m
    have tm : ∀ x, x < 32 → (tb m x = true ↔ ¬ (x = an ∨ x = 6 + an ∨ x = 12 + an)) := fun x hx => by
      rw [← hm, tb_xor, tb_m1 hx, Bool.xor_true, Bool.not_eq_true', ← tb_4161 (by omega) hx, Bool.not_eq_true]
    have ne : ∀ c i, c ≠ p + 4 → m_up J (p + 4) tt (z_and (J (p + 4) tt) m) c i = J c i := fun c i q => m_up_ne q i
    rw [ne _ _ (show p + 1 ≠ p + 4 by omega), ne _ _ (show p + 2 ≠ p + 4 by omega), ne _ _ (show p + 3 ≠ p + 4 by omega)]
    refine ⟨r1, r2, r3, r4, fun r hr => ?_, fun w r hw hr => ?_, r7⟩
    · by_cases e : (t : Int) = tt
      · rw [e, m_up_eq, ← e, tb_and, Bool.and_eq_true, tm _ (by omega)]
        exact ⟨r5 r hr, by omega⟩
      · rw [m_up_nj e]
        exact r5 r hr
    · have h6 := r6 w r hw hr
      by_cases e : (t : Int) = tt
      · rw [if_pos ⟨trivial, e⟩, e, m_up_eq, ← e, tb_and, Bool.and_eq_true, tm _ (by omega), h6, tb_or, Bool.or_eq_false_iff, tb_sh1 (by omega) (by omega), decide_eq_false_iff_not]
        constructor
        · rintro ⟨⟨z1, z2, z3⟩, z4⟩
          exact ⟨⟨z1, by omega⟩, z2, z3⟩
        · rintro ⟨⟨z1, z4⟩, z2, z3⟩
          exact ⟨⟨z1, z2, z3⟩, by omega⟩
      · rw [m_up_nj e, h6, if_neg (fun z => e z.2)]
  · -- shut
    have f4 : ¬ ((5 : Int) = 4 ∧ (t : Int) = tt) := fun z => absurd z.1 (by decide)
    have f1 : ¬ ((5 : Int) = 1 ∧ (t : Int) = tt) := fun z => absurd z.1 (by decide)
    have f2 : ¬ ((5 : Int) = 2 ∧ (t : Int) = tt) := fun z => absurd z.1 (by decide)
    have f3 : ∀ w : Nat, ¬ ((5 : Int) = 3 ∧ 3 * (t : Int) + (w : Int) = 3 * tt + b) := fun w z => absurd z.1 (by decide)
    simp only [if_neg f4, if_neg f1, if_neg f2, if_neg (f3 _)]
    have vb := v6 rfl
    have e4 : tkE J p 5 (z_shl 1 (an : Int)) b tt = shF J p (z_shl 1 (an : Int)) tt (b - tt + 1).toNat := by
      unfold tkE
      rw [if_neg (by decide), if_neg (by decide), if_neg (by decide), if_neg (by decide)]
    rw [e4]
    have ne : ∀ c i, c ≠ p + 2 → shF J p (z_shl 1 (an : Int)) tt (b - tt + 1).toNat c i = J c i := fun c i q => shF_fr J p _ _ _ c i q
    rw [ne _ _ (show p + 1 ≠ p + 2 by omega), ne _ _ (show p + 3 ≠ p + 2 by omega)]
    simp only [ne _ _ (show p + 4 ≠ p + 2 by omega)]
    refine ⟨r1, ?_, r3, r4, r5, r6, r7⟩
    rw [shF_at, r2]
    by_cases e : tt ≤ (t : Int) ∧ (t : Int) ≤ b
    · rw [if_pos (show tt ≤ (t : Int) ∧ (t : Int) < tt + (((b - tt + 1).toNat : Nat) : Int) by omega), if_pos ⟨trivial, e⟩]
    · rw [if_neg (show ¬ (tt ≤ (t : Int) ∧ (t : Int) < tt + (((b - tt + 1).toNat : Nat) : Int)) by omega), if_neg (fun z => e z.2)]


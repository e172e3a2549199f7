/-! CLASS AND REFERENCE: since when a board can have stuck. -/
theorem fsF_all {κ : MI} : ∀ n t, (∀ t', t ≤ t' → t' < t + n → som κ (Fr κ t') (nst κ) = true) → fsF κ t n = -9
  | 0, t, _ => rfl
  | n + 1, t, h => by
    have e : fsF κ t (n + 1) = if som κ (Fr κ t) (nst κ) then fsF κ (t + 1) n else (t : Int) := rfl
    rw [e, if_pos (h t (Nat.le_refl _) (by omega))]
    exact fsF_all n (t + 1) (fun t' h1 h2 => h t' (by omega) (by omega))
/-- there are ways: something counts at the last minute -/
theorem fst0_last {κ : MI} : fst0 κ = -9 ↔ ∃ x, x < nst κ ∧ 0 < Fr κ (lst κ) x := by
  constructor
  · intro h
    exact (som_iff _).mp (fsF_9 (lst κ + 1) 0 h (lst κ) (by omega) (by omega))
  · intro h
    have back : ∀ u, u ≤ lst κ → ∃ x, x < nst κ ∧ 0 < Fr κ (lst κ - u) x := by
      intro u
      induction u with
      | zero => intro _; exact h
      | succ u ih =>
        intro hu
        obtain ⟨x, hx, hF⟩ := ih (by omega)
        rw [show lst κ - u = (lst κ - (u + 1)) + 1 by omega] at hF
        obtain ⟨s, c, c1, c2, c3, c4, c5⟩ := Fr_pos.mp hF
        exact ⟨s, c1, c2⟩
    refine fsF_all _ _ (fun t h1 h2 => (som_iff _).mpr ?_)
    have z := back (lst κ - t) (by omega)
    rw [show lst κ - (lst κ - t) = t by omega] at z
    exact z
/-- no minute without a state, where there are ways -/
theorem fst0_all {κ : MI} (h : fst0 κ = -9) {t : Nat} (ht : t ≤ lst κ) : ∃ x, x < nst κ ∧ 0 < Fr κ t x := (som_iff _).mp (fsF_9 (lst κ + 1) 0 h t (by omega) (by omega))
/-- ahead of the first minute without one there is none in it -/
theorem fst0_none {κ : MI} {t : Nat} (h : fst0 κ = (t : Int)) : ¬ ∃ x, x < nst κ ∧ 0 < Fr κ t x := by
  have : ∀ n t0, fsF κ t0 n = (t : Int) → ¬ som κ (Fr κ t) (nst κ) = true := by
    intro n
    induction n with
    | zero => intro t0 q; exact absurd q (by show ¬ (-9 : Int) = (t : Int); omega)
    | succ n ih =>
      intro t0 q
      have e : fsF κ t0 (n + 1) = if som κ (Fr κ t0) (nst κ) then fsF κ (t0 + 1) n else (t0 : Int) := rfl
      rw [e] at q
      by_cases y : som κ (Fr κ t0) (nst κ) = true
      · rw [if_pos y] at q
        exact ih _ q
      · rw [if_neg y] at q
        have : t0 = t := by omega
        subst this
        exact y
  exact fun z => this _ _ h ((som_iff _).mpr z)
/-- a sound of a board that stuck can't be -/
theorem sk_sound {κ : MI} {d : Nat} {s t : Nat} (hd : d < 32) (hs : s ≤ t) (ht : t < lst κ) (h : tb (κ 13 (t : Int)) d = true) : ¬ fst0 (skM κ (d : Int) (s : Int)) = -9 := by
  intro q
  have e := skM_k κ (d : Int) (s : Int)
  obtain ⟨x, hx, hF⟩ := fst0_all q (t := t + 1) (by rw [lst_sk e]; omega)
  obtain ⟨s0, c, c1, c2, c3, c4, c5⟩ := Fr_pos.mp hF
  unfold vld at c4
  rw [Bool.and_eq_true, beq_iff_eq, skM_by (by omega), if_pos (by omega), sk13 e] at c4
  have z := c4.1
  have y : tb (z_and (pas (skM κ (d : Int) (s : Int)) (t : Int) s0 c) (z_and (κ 0 35) (z_xor (z_shl 1 (d : Int)) (-1)))) d = tb (κ 13 (t : Int)) d := by rw [z]
  rw [tb_and, tb_and, tb_xor, tb_m1 hd, tb_sh1 (by omega) hd, h, Int.toNat_natCast, decide_eq_true rfl] at y
  simp at y
/-- a board that stuck when it was too late helps nothing -/
theorem sk_late {κ : MI} {d : Nat} {s t : Nat} (h36 : κ 0 36 = -9) (hs : t ≤ s) (ht : t ≤ lst κ) (h : fst0 κ = (t : Int)) : ¬ fst0 (skM κ (d : Int) (s : Int)) = -9 := by
  intro q
  have e := skM_k κ (d : Int) (s : Int)
  obtain ⟨x, hx, hF⟩ := fst0_all q (t := t) (by rw [lst_sk e]; exact ht)
  rw [nst_sk e] at hx
  exact fst0_none h ⟨x, hx, (sk_low (by omega) h36 t hs x).mp hF⟩
theorem sk_last {κ : MI} {d : Nat} {s : Nat} : fst0 (skM κ (d : Int) (s : Int)) = -9 ↔ ∃ x, x < nst κ ∧ 0 < Fr (skM κ (d : Int) (s : Int)) (lst κ) x := by
  have e := skM_k κ (d : Int) (s : Int)
  rw [fst0_last, nst_sk e, lst_sk e]
/-- the last sound of a board, and one minute more -/
def sfX (κ : MI) (d : Nat) : Nat → Nat
  | 0 => 0
  | t + 1 => if tb (κ 13 (t : Int)) d = true then t + 1 else sfX κ d t
theorem sfX_r (κ : MI) (d : Nat) : ∀ t, sfX κ d t ≤ t ∧ (∀ u, sfX κ d t ≤ u → u < t → ¬ tb (κ 13 (u : Int)) d = true) ∧ (0 < sfX κ d t → tb (κ 13 ((sfX κ d t - 1 : Nat) : Int)) d = true)
  | 0 => ⟨Nat.le_refl _, fun u _ h => by omega, fun h => by
    have : sfX κ d 0 = 0 := rfl
    omega⟩
  | t + 1 => by
    obtain ⟨i1, i2, i3⟩ := sfX_r κ d t
    unfold sfX
    by_cases q : tb (κ 13 (t : Int)) d = true
    · rw [if_pos q]
      exact ⟨Nat.le_refl _, fun u h1 h2 => by omega, fun _ => q⟩
    · rw [if_neg q]
      refine ⟨by omega, fun u h1 h2 => ?_, i3⟩
      by_cases e : u = t
      · subst e; exact q
      · exact i2 u h1 (by omega)
/-- the reference's word from the class's -/
theorem skS_eq {M : MI} {d f e : Nat} {z : Int} (hd : d < 32) (h36 : kM M 0 36 = -9) (hf : f = sfX (kM M) d (lst (kM M))) (he : fst0 (kM M) = (e : Int)) (hel : e ≤ lst (kM M)) (hz : (z = -9 ∧ ∀ s : Nat, f ≤ s → s < e → ¬ fst0 (skM (kM M) (d : Int) (s : Int)) = -9) ∨ ∃ s : Nat, z = (s : Int) ∧ f ≤ s ∧ s < e ∧ fst0 (skM (kM M) (d : Int) (s : Int)) = -9 ∧ ∀ s' : Nat, s < s' → s' < e → ¬ fst0 (skM (kM M) (d : Int) (s' : Int)) = -9) :
    skS M (d : Int) (lst (kM M)) = if z = -9 then -9 else 100 * (d : Int) + z := by
  obtain ⟨r1, r2, r3⟩ := sfX_r (kM M) d (lst (kM M))
  rw [← hf] at r1 r2 r3
  have no : ∀ s : Nat, s < lst (kM M) → fst0 (skM (kM M) (d : Int) (s : Int)) = -9 → f ≤ s ∧ s < e := fun s hs q => by
    constructor
    · apply Classical.byContradiction
      intro y
      exact sk_sound hd (s := s) (t := f - 1) (by omega) (by omega) (r3 (by omega)) q
    · apply Classical.byContradiction
      intro y
      exact sk_late h36 (show e ≤ s by omega) hel he q
  have es : ∀ n, skS M (d : Int) (n + 1) = if fst0 (skM (kM M) (d : Int) (n : Int)) = -9 then 100 * (d : Int) + (n : Int) else skS M (d : Int) n := fun n => rfl
  rcases hz with ⟨rfl, hz⟩ | ⟨s, rfl, h1, h2, h3, h4⟩
  · rw [if_pos rfl]
    have : ∀ n, n ≤ lst (kM M) → skS M (d : Int) n = -9 := by
      intro n
      induction n with
      | zero => intro _; rfl
      | succ n ih =>
        intro hn
        rw [es, if_neg (fun q => by
          obtain ⟨y1, y2⟩ := no n (by omega) q
          exact hz n y1 y2 q)]
        exact ih (by omega)
    exact this _ (Nat.le_refl _)
  · rw [if_neg (by omega)]
    have : ∀ n, n ≤ lst (kM M) → s < n → skS M (d : Int) n = 100 * (d : Int) + (s : Int) := by
      intro n
      induction n with
      | zero => intro _ h; omega
      | succ n ih =>
        intro hn hs
        rw [es]
        by_cases e2 : s = n
        · subst e2
          rw [if_pos h3]
        · rw [if_neg (fun q => by
            obtain ⟨y1, y2⟩ := no n (by omega) q
            exact h4 n (by omega) y2 q)]
          exact ih (by omega) (by omega)
    exact this _ (Nat.le_refl _) (by omega)


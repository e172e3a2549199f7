/-! THE REFERENCE READS A NIGHT. -/
theorem b01_d (c : Prop) [Decidable c] : b01 c = b01 (decide c = true) := by
  unfold b01
  by_cases h : c <;> simp [h]
def evK (B : Nat → Int) (p : Nat) : Int := if B p = 115 then 1 else if B p = 121 then 2 else if B p = 110 then 4 else if B p = 120 then 5 else 0
def abQ (κ : MI) (k v : Int) : Bool := if k = 1 then decide (0 ≤ v ∧ v ≤ κ 0 12 - 1) && decide (κ 7 (3 * v + 2) = 1) else if k = 5 then decide (0 ≤ v ∧ v ≤ κ 0 12 - 1) else decide (0 ≤ v ∧ v ≤ κ 0 11 - 1)
abbrev EV : Type := Int × Int × Int × Int
def evT (B : Nat → Int) (κ : MI) (k a b : Int) (q : Nat) : Bool × Nat × EV :=
  if B q ≠ 64 then (false, q, 0, 0, 0, 0) else if mnQ B 0 (if k = 1 ∨ k = 5 then κ 0 14 - 1 else κ 0 14) (q + 1) = false then (false, mnP B (q + 1), 0, 0, 0, 0)
  else if k = 5 then (if B (mnP B (q + 1)) ≠ 45 then (false, mnP B (q + 1), 0, 0, 0, 0) else if mnQ B (mnV B (q + 1)) (κ 0 14 - 1) (mnP B (q + 1) + 1) = false then (false, mnP B (mnP B (q + 1) + 1), 0, 0, 0, 0)
    else (true, mnP B (mnP B (q + 1) + 1), k, a, mnV B (mnP B (q + 1) + 1), mnV B (q + 1)))
  else (true, mnP B (q + 1), k, a, b, mnV B (q + 1))
def evP (B : Nat → Int) (κ : MI) (p : Nat) : Bool × Nat × EV :=
  if evK B p = 0 then (false, p, 0, 0, 0, 0) else if abQ κ (evK B p) (B (p + 1) - 48) = false then (false, p + 1, 0, 0, 0, 0)
  else if evK B p = 2 ∧ B (p + 2) = 47 then (if fgQ B 0 (κ 0 13 - 1) (p + 3) = false then (false, p + 3, 0, 0, 0, 0) else evT B κ 3 (B (p + 1) - 48) (B (p + 3) - 48) (p + 4))
  else evT B κ (evK B p) (B (p + 1) - 48) 0 (p + 2)
def nigL (B : Nat → Int) (κ : MI) (n : Nat) : Nat → Nat × List EV → Int × Nat × List EV
  | 0, σ => (-9, σ)
  | k + 1, σ => if n ≤ σ.1 then (-9, σ) else if (evP B κ σ.1).1 then nigL B κ n k (skp B (evP B κ σ.1).2.1, σ.2 ++ [(evP B κ σ.1).2.2]) else (((evP B κ σ.1).2.1 : Int), (evP B κ σ.1).2.1, σ.2)
def nigF (B : Nat → Int) (κ : MI) (n : Nat) : Int × Nat × List EV := nigL B κ n 81 (skp B 0, [])
theorem evT_r (B : Nat → Int) (κ : MI) (k a b : Int) (q : Nat) : q ≤ (evT B κ k a b q).2.1 ∧ (evT B κ k a b q).2.1 ≤ q + 6 ∧ ((evT B κ k a b q).1 = true → q + 2 ≤ (evT B κ k a b q).2.1) := by
  have h1 := mnP_r B (q + 1)
  have h2 := mnP_r B (mnP B (q + 1) + 1)
  have h3 : ∀ lo hi, mnQ B lo hi (q + 1) = true → q + 2 ≤ mnP B (q + 1) := by
    intro lo hi h
    unfold mnQ at h
    rw [Bool.and_eq_true] at h
    unfold mnP
    rw [if_pos h.1]
    split <;> omega
  unfold evT
  repeat' split
  all_goals (simp only)
  all_goals (try (refine ⟨by omega, by omega, fun q => by simp at q⟩))
  all_goals (rename_i x1 x2 x3; rw [Bool.not_eq_false] at *; refine ⟨?_, ?_, fun _ => ?_⟩)
  all_goals (first | omega | (have := h3 _ _ (by assumption); omega))
theorem evP_r (B : Nat → Int) (κ : MI) (p : Nat) : p ≤ (evP B κ p).2.1 ∧ (evP B κ p).2.1 ≤ p + 10 ∧ ((evP B κ p).1 = true → p + 4 ≤ (evP B κ p).2.1) := by
  have h1 := evT_r B κ 3 (B (p + 1) - 48) (B (p + 3) - 48) (p + 4)
  have h2 := evT_r B κ (evK B p) (B (p + 1) - 48) 0 (p + 2)
  unfold evP
  repeat' split
  all_goals (first | (refine ⟨by simp only; omega, by simp only; omega, fun q => by simp at q⟩) | (refine ⟨by omega, by omega, fun q => ?_⟩))
  · have := h1.2.2 q; omega
  · have := h2.2.2 q; omega
theorem abQ_u (κ : MI) (x k v : Int) : abQ (m_up κ 0 17 x) k v = abQ κ k v := by
  have h1 : m_up κ 0 17 x 0 12 = κ 0 12 := m_up_nj (by decide)
  have h2 : m_up κ 0 17 x 0 11 = κ 0 11 := m_up_nj (by decide)
  have h3 : ∀ j, m_up κ 0 17 x 7 j = κ 7 j := fun j => m_up_ne (by decide) j
  unfold abQ
  rw [h1, h2, h3]
theorem evK_r (B : Nat → Int) (p : Nat) : evK B p = 0 ∨ evK B p = 1 ∨ evK B p = 2 ∨ evK B p = 4 ∨ evK B p = 5 := by
  unfold evK
  repeat' split
  all_goals omega
def NR (I0 : MI) (σ : Nat × List EV) (J : MI) : Prop := RE I0 J ∧ J 0 17 = (σ.1 : Int) ∧ J 0 27 = (σ.2.length : Int) ∧ (∀ (i : Nat) q, σ.2[i]? = some q → J 12 (4 * (i : Int)) = q.1 ∧ J 12 (4 * (i : Int) + 1) = q.2.1 ∧ J 12 (4 * (i : Int) + 2) = q.2.2.1 ∧ J 12 (4 * (i : Int) + 3) = q.2.2.2)
theorem nigL_e {B : Nat → Int} {κ : MI} {n k : Nat} {σ : Nat × List EV} (h : n ≤ σ.1) : nigL B κ n (k + 1) σ = (-9, σ) := if_pos h
theorem nigL_t {B : Nat → Int} {κ : MI} {n k : Nat} {σ : Nat × List EV} (h : ¬ n ≤ σ.1) (h2 : (evP B κ σ.1).1 = true) : nigL B κ n (k + 1) σ = nigL B κ n k (skp B (evP B κ σ.1).2.1, σ.2 ++ [(evP B κ σ.1).2.2]) := by
  show (if n ≤ σ.1 then _ else if (evP B κ σ.1).1 then _ else _) = _
  rw [if_neg h, if_pos h2]
theorem nigL_f {B : Nat → Int} {κ : MI} {n k : Nat} {σ : Nat × List EV} (h : ¬ n ≤ σ.1) (h2 : ¬ (evP B κ σ.1).1 = true) : nigL B κ n (k + 1) σ = (((evP B κ σ.1).2.1 : Int), (evP B κ σ.1).2.1, σ.2) := by
  show (if n ≤ σ.1 then _ else if (evP B κ σ.1).1 then _ else _) = _
  rw [if_neg h, if_neg h2]
section
variable {G : GT} {sh : MS} {I L : MI} {R : MR} {κ : MI} {t : Int} {B : Nat → Int}

theorem s_X8_about {p : Nat} {k : Int} (hT : RT t B I) (hH : iHs I) (hp : I 0 17 = (p : Int)) (hp2 : p ≤ 900) (hk : 0 ≤ k ∧ k ≤ 5) : Sp G mtX8_about [mr 0, mi t, mi k] shM I L rM (qi (fun z I' L' R' => z = b01 (abQ I k (B p - 48) = true) ∧ I' 0 17 = (if abQ I k (B p - 48) then (p : Int) + 1 else p) ∧ I' 0 18 = B p - 48 ∧ RS I I' ∧ L = L' ∧ R' = rM)) := by
  refine Sp.of pnX8_about rfl ?_
  show Rn G mtX8_about _ 0 [(0, mr 0), (1, mi t), (2, mi k)] [] shM I L rM
  generalize hQ : (qi (fun z I' L' R' => z = b01 (abQ I k (B p - 48) = true) ∧ I' 0 17 = (if abQ I k (B p - 48) then (p : Int) + 1 else p) ∧ I' 0 18 = B p - 48 ∧ RS I I' ∧ L = L' ∧ R' = rM)) = Q
  have hb := hT.r p
  have hD := hH.2.1
  have hR := hH.1
  have hdo := hH.2.2.2.2.1 (B p - 48)
  have h7 : 0 ≤ B p - 48 → B p - 48 ≤ I 0 12 - 1 → rI (I 7 (3 * (B p - 48) + 2)) := fun h1 h2 => by have := hdo h1 (by omega); omega
  have fin : ∀ x : Int, x = b01 (abQ I k (B p - 48) = true) → ∀ J : MI, J = m_up (m_up I 0 18 (B p - 48)) 0 17 ((p : Int) + x) → Q (some (mi x)) J L rM := by
    intro x hx J hJ
    rw [← hQ]
    obtain ⟨a, b, c⟩ := fr_fig hJ
    refine ⟨_, rfl, hx, ?_, b, c, rfl, rfl⟩
    rw [a, hx]
    by_cases hc : abQ I k (B p - 48) = true
    · rw [if_pos hc, ← b01_t hc]
    · rw [if_neg hc, ← b01_f hc, Int.add_zero]
  have j60 : ∀ x : Int, x = b01 (abQ I k (B p - 48) = true) → Rn G mtX8_about Q 60 [(0, mr 0), (1, mi t), (2, mi k), (3, mi (B p - 48))] [mi x] shM I L rM := by
    intro x hx
    have hx2 : 0 ≤ x ∧ x ≤ 1 := by rw [hx]; exact b01_r _
    refine x_istore (lv' := [(0, _), (1, _), (2, _), (3, _), (4, _)]) dX8_about_60 rfl rfl ?_
    refine x_aload_n dX8_about_62 0 rfl rfl ?_
    refine x_iload_n dX8_about_63 3 rfl rfl ?_
    refine x_putI dX8_about_64 flX8_142 rfl rfl rfl ?_
    refine x_aload_n dX8_about_67 0 rfl rfl ?_
    refine x_dup dX8_about_68 rfl ?_
    refine y_getI dX8_about_69 flX8_136 rfl rfl (m_up_nj (by decide)) ?_
    rw [hp]
    refine x_iload dX8_about_72 4 rfl ?_
    refine x_if_eq (tgt := 81) dX8_about_74 (by decide) (by first | omega | exact b01_rI _) (fun h74 => ?_) (fun h74 => ?_)
    · refine x_iconst dX8_about_81 ?_
      refine x_iadd dX8_about_82 ?_
      refine x_putI dX8_about_83 flX8_136 rfl rfl rfl ?_
      refine x_iload dX8_about_86 4 rfl ?_
      refine x_zret dX8_about_88 rfl (by omega) ?_
      exact fin x hx _ (by first | rw [show x = 1 by omega] | rw [show x = 0 by omega])
    · refine x_iconst dX8_about_77 ?_
      refine x_goto (tgt := 82) dX8_about_78 (by decide) ?_
      refine x_iadd dX8_about_82 ?_
      refine x_putI dX8_about_83 flX8_136 rfl rfl rfl ?_
      refine x_iload dX8_about_86 4 rfl ?_
      refine x_zret dX8_about_88 rfl (by omega) ?_
      exact fin x hx _ (by first | rw [show x = 1 by omega] | rw [show x = 0 by omega])
  refine x_aload_n dX8_about_0 0 rfl rfl ?_
  refine x_iload_n dX8_about_1 1 rfl rfl ?_
  refine x_aload_n dX8_about_2 0 rfl rfl ?_
  refine x_getI dX8_about_3 flX8_136 rfl rfl ?_
  rw [hp]
  refine x_callVi (as := [_, _]) dX8_about_6 lvX8_139 rfl rfl rfl rfl rfl rfl rfl ⟨rfl, rfl⟩ (s_X8_byteAt hT.1 hT.2.1 (by omega)) (fun z6 I6 L6 R6 hq6 => ?_)
  obtain ⟨rfl, rfl, rfl, rfl⟩ := hq6
  rw [hT.2.2 p]
  refine x_bipush dX8_about_9 (by decide) ?_
  refine x_isub dX8_about_11 ?_
  refine x_istore_n (lv' := [(0, _), (1, _), (2, _), (3, _)]) dX8_about_12 rfl rfl rfl ?_
  refine x_iload_n dX8_about_13 2 rfl rfl ?_
  refine x_iconst dX8_about_14 ?_
  refine x_ic_ne (tgt := 42) dX8_about_15 (by decide) (by first | omega | exact b01_rI _) (fun h15 => ?_) (fun h15 => ?_)
  · refine x_iload_n dX8_about_42 2 rfl rfl ?_
    refine x_iconst dX8_about_43 ?_
    refine x_ic_ne (tgt := 55) dX8_about_44 (by decide) (by first | omega | exact b01_rI _) (fun h44 => ?_) (fun h44 => ?_)
    · refine x_aload_n dX8_about_55 0 rfl rfl ?_
      refine x_iload_n dX8_about_56 3 rfl rfl ?_
      refine x_callVi (as := [_]) dX8_about_57 lvX8_198 rfl rfl rfl rfl rfl rfl rfl ⟨rfl, rfl⟩ (s_X8_isRoom (by omega) (by omega)) (fun z57 I57 L57 R57 hq57 => ?_)
      obtain ⟨rfl, rfl, rfl, rfl⟩ := hq57
      refine j60 _ ?_
      unfold abQ
      first
      | (rw [if_pos (by omega)]; first | exact b01_t (by rw [Bool.and_eq_true, decide_eq_true_eq, decide_eq_true_eq]; omega) | exact b01_f (by rw [Bool.and_eq_true, decide_eq_true_eq, decide_eq_true_eq]; omega))
      | (rw [if_neg (by omega), if_pos (by omega)]; exact b01_d _)
      | (rw [if_neg (by omega), if_neg (by omega)]; exact b01_d _)
    · refine x_aload_n dX8_about_47 0 rfl rfl ?_
      refine x_iload_n dX8_about_48 3 rfl rfl ?_
      refine x_callVi (as := [_]) dX8_about_49 lvX8_192 rfl rfl rfl rfl rfl rfl rfl ⟨rfl, rfl⟩ (s_X8_isDoor (by omega) (by omega)) (fun z49 I49 L49 R49 hq49 => ?_)
      obtain ⟨rfl, rfl, rfl, rfl⟩ := hq49
      refine x_goto (tgt := 60) dX8_about_52 (by decide) ?_
      refine j60 _ ?_
      unfold abQ
      first
      | (rw [if_pos (by omega)]; first | exact b01_t (by rw [Bool.and_eq_true, decide_eq_true_eq, decide_eq_true_eq]; omega) | exact b01_f (by rw [Bool.and_eq_true, decide_eq_true_eq, decide_eq_true_eq]; omega))
      | (rw [if_neg (by omega), if_pos (by omega)]; exact b01_d _)
      | (rw [if_neg (by omega), if_neg (by omega)]; exact b01_d _)
  · refine x_aload_n dX8_about_18 0 rfl rfl ?_
    refine x_iload_n dX8_about_19 3 rfl rfl ?_
    refine x_callVi (as := [_]) dX8_about_20 lvX8_192 rfl rfl rfl rfl rfl rfl rfl ⟨rfl, rfl⟩ (s_X8_isDoor (by omega) (by omega)) (fun z20 I20 L20 R20 hq20 => ?_)
    obtain ⟨rfl, rfl, rfl, rfl⟩ := hq20
    refine y_ifb_eq (tgt := 38) dX8_about_23 (by decide) (fun h23 => ?_) (fun h23 => ?_)
    · refine x_iconst dX8_about_38 ?_
      refine x_goto (tgt := 60) dX8_about_39 (by decide) ?_
      refine j60 _ ?_
      unfold abQ
      first
      | (rw [if_pos (by omega)]; first | exact b01_t (by rw [Bool.and_eq_true, decide_eq_true_eq, decide_eq_true_eq]; omega) | exact b01_f (by rw [Bool.and_eq_true, decide_eq_true_eq, decide_eq_true_eq]; omega))
      | (rw [if_neg (by omega), if_pos (by omega)]; exact b01_d _)
      | (rw [if_neg (by omega), if_neg (by omega)]; exact b01_d _)
    · refine x_aload_n dX8_about_26 0 rfl rfl ?_
      refine x_iload_n dX8_about_27 3 rfl rfl ?_
      refine x_callVi (as := [_]) dX8_about_28 lvX8_195 rfl rfl rfl rfl rfl rfl rfl ⟨rfl, rfl⟩ (s_X8_hasBoard (by omega) (h7 (by omega) (by omega))) (fun z28 I28 L28 R28 hq28 => ?_)
      obtain ⟨rfl, rfl, rfl, rfl⟩ := hq28
      refine y_ifb_eq (tgt := 38) dX8_about_31 (by decide) (fun h31 => ?_) (fun h31 => ?_)
      · refine x_iconst dX8_about_38 ?_
        refine x_goto (tgt := 60) dX8_about_39 (by decide) ?_
        refine j60 _ ?_
        unfold abQ
        first
        | (rw [if_pos (by omega)]; first | exact b01_t (by rw [Bool.and_eq_true, decide_eq_true_eq, decide_eq_true_eq]; omega) | exact b01_f (by rw [Bool.and_eq_true, decide_eq_true_eq, decide_eq_true_eq]; omega))
        | (rw [if_neg (by omega), if_pos (by omega)]; exact b01_d _)
        | (rw [if_neg (by omega), if_neg (by omega)]; exact b01_d _)
      · refine x_iconst dX8_about_34 ?_
        refine x_goto (tgt := 60) dX8_about_35 (by decide) ?_
        refine j60 _ ?_
        unfold abQ
        first
        | (rw [if_pos (by omega)]; first | exact b01_t (by rw [Bool.and_eq_true, decide_eq_true_eq, decide_eq_true_eq]; omega) | exact b01_f (by rw [Bool.and_eq_true, decide_eq_true_eq, decide_eq_true_eq]; omega))
        | (rw [if_neg (by omega), if_pos (by omega)]; exact b01_d _)
        | (rw [if_neg (by omega), if_neg (by omega)]; exact b01_d _)
theorem s_X8_noteNight {n : Nat} {k a b d : Int} (hn : I 0 27 = (n : Int)) (hn2 : n < 80) : Sp G mtX8_noteNight [mr 0, mi k, mi a, mi b, mi d] shM I L rM (qv (fun I' L' R' => I' 0 27 = (n : Int) + 1 ∧ I' 12 (4 * (n : Int)) = k ∧ I' 12 (4 * (n : Int) + 1) = a ∧ I' 12 (4 * (n : Int) + 2) = b ∧ I' 12 (4 * (n : Int) + 3) = d ∧ (∀ c j, ¬ (c = 12 ∧ 4 * (n : Int) ≤ j) → ¬ (c = 0 ∧ j = 27) → I' c j = I c j) ∧ L = L' ∧ R' = rM)) := by
  refine Sp.of pnX8_noteNight rfl ?_
  show Rn G mtX8_noteNight _ 0 [(0, mr 0), (1, mi k), (2, mi a), (3, mi b), (4, mi d)] [] shM I L rM
  generalize hQ : (qv (fun I' L' R' => I' 0 27 = (n : Int) + 1 ∧ I' 12 (4 * (n : Int)) = k ∧ I' 12 (4 * (n : Int) + 1) = a ∧ I' 12 (4 * (n : Int) + 2) = b ∧ I' 12 (4 * (n : Int) + 3) = d ∧ (∀ c j, ¬ (c = 12 ∧ 4 * (n : Int) ≤ j) → ¬ (c = 0 ∧ j = 27) → I' c j = I c j) ∧ L = L' ∧ R' = rM)) = Q
  refine x_aload_n dX8_noteNight_0 0 rfl rfl ?_
  refine x_getR dX8_noteNight_1 flX8_44 rfl rfl rfl ?_
  refine x_iconst dX8_noteNight_4 ?_
  refine x_aload_n dX8_noteNight_5 0 rfl rfl ?_
  refine x_getI dX8_noteNight_6 flX8_189 rfl rfl ?_
  rw [hn]
  refine x_imul dX8_noteNight_9 ?_
  refine x_iload_n dX8_noteNight_10 1 rfl rfl ?_
  refine x_iast dX8_noteNight_11 rfl (by omega) ?_
  refine x_aload_n dX8_noteNight_12 0 rfl rfl ?_
  refine x_getR dX8_noteNight_13 flX8_44 rfl rfl rfl ?_
  refine x_iconst dX8_noteNight_16 ?_
  refine x_aload_n dX8_noteNight_17 0 rfl rfl ?_
  refine y_getI dX8_noteNight_18 flX8_189 rfl rfl (m_up_ne (by decide) _) ?_
  rw [hn]
  refine x_imul dX8_noteNight_21 ?_
  refine x_iconst dX8_noteNight_22 ?_
  refine x_iadd dX8_noteNight_23 ?_
  refine x_iload_n dX8_noteNight_24 2 rfl rfl ?_
  refine x_iast dX8_noteNight_25 rfl (by omega) ?_
  refine x_aload_n dX8_noteNight_26 0 rfl rfl ?_
  refine x_getR dX8_noteNight_27 flX8_44 rfl rfl rfl ?_
  refine x_iconst dX8_noteNight_30 ?_
  refine x_aload_n dX8_noteNight_31 0 rfl rfl ?_
  refine y_getI dX8_noteNight_32 flX8_189 rfl rfl (((m_up_ne (by decide) _).trans (m_up_ne (by decide) _))) ?_
  rw [hn]
  refine x_imul dX8_noteNight_35 ?_
  refine x_iconst dX8_noteNight_36 ?_
  refine x_iadd dX8_noteNight_37 ?_
  refine x_iload_n dX8_noteNight_38 3 rfl rfl ?_
  refine x_iast dX8_noteNight_39 rfl (by omega) ?_
  refine x_aload_n dX8_noteNight_40 0 rfl rfl ?_
  refine x_getR dX8_noteNight_41 flX8_44 rfl rfl rfl ?_
  refine x_iconst dX8_noteNight_44 ?_
  refine x_aload_n dX8_noteNight_45 0 rfl rfl ?_
  refine y_getI dX8_noteNight_46 flX8_189 rfl rfl (((m_up_ne (by decide) _).trans (((m_up_ne (by decide) _).trans (m_up_ne (by decide) _))))) ?_
  rw [hn]
  refine x_imul dX8_noteNight_49 ?_
  refine x_iconst dX8_noteNight_50 ?_
  refine x_iadd dX8_noteNight_51 ?_
  refine x_iload dX8_noteNight_52 4 rfl ?_
  refine x_iast dX8_noteNight_54 rfl (by omega) ?_
  refine x_aload_n dX8_noteNight_55 0 rfl rfl ?_
  refine x_dup dX8_noteNight_56 rfl ?_
  refine y_getI dX8_noteNight_57 flX8_189 rfl rfl (((m_up_ne (by decide) _).trans (((m_up_ne (by decide) _).trans (((m_up_ne (by decide) _).trans (m_up_ne (by decide) _))))))) ?_
  rw [hn]
  refine x_iconst dX8_noteNight_60 ?_
  refine x_iadd dX8_noteNight_61 ?_
  refine x_putI dX8_noteNight_62 flX8_189 rfl rfl rfl ?_
  refine x_vret dX8_noteNight_65 rfl ?_
  rw [← hQ]
  refine ⟨rfl, m_up_eq, ?_, ?_, ?_, ?_, fun c j q1 q2 => ?_, rfl, rfl⟩
  · rw [m_up_ne (by decide), m_up_nj (by omega), m_up_nj (by omega), m_up_nj (by omega), m_up_eq]
  · rw [m_up_ne (by decide), m_up_nj (by omega), m_up_nj (by omega), m_up_eq]
  · rw [m_up_ne (by decide), m_up_nj (by omega), m_up_eq]
  · rw [m_up_ne (by decide), m_up_eq]
  · unfold m_up; rw [if_neg (by omega), if_neg (by omega), if_neg (by omega), if_neg (by omega), if_neg (by omega)]
set_option maxHeartbeats 3000000 in
theorem s_X8_readsEvent {p n : Nat} (hT : RT t B I) (hH : iHs I) (hp : I 0 17 = (p : Int)) (hp2 : p ≤ 880) (hn : I 0 27 = (n : Int)) (hn2 : n < 80) : Sp G mtX8_readsEvent [mr 0, mi t] shM I L rM (qi (fun z I' L' R' => z = b01 ((evP B I p).1 = true) ∧ RE I I' ∧ I' 0 17 = ((evP B I p).2.1 : Int) ∧ I' 0 27 = (if (evP B I p).1 then (n : Int) + 1 else n) ∧ (∀ j, j < 4 * (n : Int) → I' 12 j = I 12 j) ∧ ((evP B I p).1 = true → I' 12 (4 * (n : Int)) = (evP B I p).2.2.1 ∧ I' 12 (4 * (n : Int) + 1) = (evP B I p).2.2.2.1 ∧ I' 12 (4 * (n : Int) + 2) = (evP B I p).2.2.2.2.1 ∧ I' 12 (4 * (n : Int) + 3) = (evP B I p).2.2.2.2.2) ∧ L = L' ∧ R' = rM)) := by
  refine Sp.of pnX8_readsEvent rfl ?_
  show Rn G mtX8_readsEvent _ 0 [(0, mr 0), (1, mi t)] [] shM I L rM
  generalize hQ : (qi (fun z I' L' R' => z = b01 ((evP B I p).1 = true) ∧ RE I I' ∧ I' 0 17 = ((evP B I p).2.1 : Int) ∧ I' 0 27 = (if (evP B I p).1 then (n : Int) + 1 else n) ∧ (∀ j, j < 4 * (n : Int) → I' 12 j = I 12 j) ∧ ((evP B I p).1 = true → I' 12 (4 * (n : Int)) = (evP B I p).2.2.1 ∧ I' 12 (4 * (n : Int) + 1) = (evP B I p).2.2.2.1 ∧ I' 12 (4 * (n : Int) + 2) = (evP B I p).2.2.2.2.1 ∧ I' 12 (4 * (n : Int) + 3) = (evP B I p).2.2.2.2.2) ∧ L = L' ∧ R' = rM)) = Q
  have hb := hT.r p
  have hTl := hH.2.2.2.1
  have hW := hH.2.2.1
  have hself : ∀ v, RS I (m_up I 0 17 v) := fun v => (RS.rf I).u17 v
  have hH1 : iHs (m_up I 0 17 ((p : Int) + 1)) := iHs_pe (fun c j q => by rw [hself _ c j (by unfold per at q; omega)]) hH
  have fal : ∀ (q : Nat) (J : MI), evP B I p = (false, q, 0, 0, 0, 0) → RS I J → J 0 17 = (q : Int) → Q (some (mi 0)) J L rM := by
    intro q J he hJ hq
    rw [← hQ, he]
    refine ⟨_, rfl, b01_f (by simp), hJ.re, hq, ?_, fun j _ => hJ 12 j (by omega), fun x => by simp at x, rfl, rfl⟩
    rw [hJ 0 27 (by omega)]
    exact hn
  have tail : ∀ (k a b : Int) (q : Nat) (J : MI), evP B I p = evT B I k a b q → (k = 1 ∨ k = 2 ∨ k = 3 ∨ k = 4 ∨ k = 5) → q ≤ 890 → RS I J → J 0 17 = (q : Int) → ∀ x, Rn G mtX8_readsEvent Q 128 [(0, mr 0), (1, mi t), (2, mi x), (3, mi k), (4, mi a), (5, mi b)] [] shM J L rM := by
    intro k a b q J he hk hq hJ h17 x
    have hTJ : RT t B J := hJ.rt hT
    have hbq := hTJ.r q
    have hmr := mnP_r B (q + 1)
    have hmr2 := mnP_r B (mnP B (q + 1) + 1)
    have hbq2 := hTJ.r (mnP B (q + 1))
    have hvr : ∀ i, rI (mnV B i) := fun i => by
      have x1 := hTJ.r i
      have x2 := hTJ.r (i + 1)
      unfold mnV
      repeat' split
      all_goals omega
    have j14 : J 0 14 = I 0 14 := hJ 0 14 (by omega)
    have nn : ∀ (k2 a2 b2 t2 : Int) (q2 : Nat) (J2 : MI) lv8, evP B I p = (true, q2, k2, a2, b2, t2) → RS I J2 → J2 0 17 = (q2 : Int) → (∃ x2 y2, lv8 = [(0, mr 0), (1, mi t), (2, mi x2), (3, mi k2), (4, mi a2), (5, mi b2), (6, mi y2), (7, mi t2)]) → Rn G mtX8_readsEvent Q 229 lv8 [] shM J2 L rM := by
      rintro k2 a2 b2 t2 q2 J2 lv8 he2 hJ2 h172 ⟨x2, y2, rfl⟩
      have j27 : J2 0 27 = (n : Int) := by rw [hJ2 0 27 (by omega), hn]
      refine x_aload_n dX8_readsEvent_229 0 rfl rfl ?_
      refine x_iload_n dX8_readsEvent_230 3 rfl rfl ?_
      refine x_iload dX8_readsEvent_231 4 rfl ?_
      refine x_iload dX8_readsEvent_233 5 rfl ?_
      refine x_iload dX8_readsEvent_235 7 rfl ?_
      refine x_callVv (as := [_, _, _, _]) dX8_readsEvent_237 lvX8_204 rfl rfl rfl rfl rfl rfl rfl ⟨rfl, rfl⟩ (s_X8_noteNight j27 hn2) (fun I237 L237 R237 hq237 => ?_)
      obtain ⟨e1, e2, e3, e4, e5, e6, rfl, rfl⟩ := hq237
      refine x_iconst dX8_readsEvent_240 ?_
      refine x_zret dX8_readsEvent_241 rfl (by omega) ?_
      rw [← hQ, he2]
      refine ⟨_, rfl, b01_t rfl, fun c j q => ?_, ?_, e1, fun j hj => ?_, fun _ => ⟨e2, e3, e4, e5⟩, rfl, rfl⟩
      · rw [e6 c j (fun r => q (by unfold rsc; omega)) (fun r => q (by unfold rsc; omega))]
        exact hJ2.re c j q
      · rw [e6 0 17 (by omega) (by omega)]; exact h172
      · rw [e6 12 j (by omega) (by omega)]; exact hJ2 12 j (by omega)
    have st : ∀ st : Int, (st = 1 ∧ (k = 1 ∨ k = 5) ∨ st = 0 ∧ ¬ (k = 1 ∨ k = 5)) → Rn G mtX8_readsEvent Q 143 [(0, mr 0), (1, mi t), (2, mi x), (3, mi k), (4, mi a), (5, mi b)] [mi st] shM J L rM := by
      intro st hst
      have j176 : ∀ (J2 : MI) (hi : Int), hi = (if k = 1 ∨ k = 5 then I 0 14 - 1 else I 0 14) → RS I J2 → J2 0 17 = ((q + 1 : Nat) : Int) → B q = 64 → Rn G mtX8_readsEvent Q 176 [(0, mr 0), (1, mi t), (2, mi x), (3, mi k), (4, mi a), (5, mi b), (6, mi st)] [mi hi, mi 0, mi t, mr 0] shM J2 L rM := by
        intro J2 hi hhi hJ2 h172 h64
        have hTJ2 : RT t B J2 := hJ2.rt hT
        have hhr : rI hi := by rw [hhi]; split <;> omega
        refine x_callVi (as := [_, _, _]) dX8_readsEvent_176 lvX8_161 rfl rfl rfl rfl rfl rfl rfl ⟨rfl, rfl⟩ (s_X8_minute (p := q + 1) (B := B) hTJ2 h172 (by omega) (by omega) (by omega)) (fun z176 I176 L176 R176 hq176 => ?_)
        obtain ⟨rfl, hI176, rfl, rfl⟩ := hq176
        obtain ⟨a176, b176, c176⟩ := fr_min hI176
        refine y_ifb_ne (tgt := 184) dX8_readsEvent_179 (by decide) (fun h179 => ?_) (fun h179 => ?_)
        · have m1 : mnQ B 0 hi (q + 1) = true := by assumption
          have k176 := hJ2.tr c176
          have hT176 : RT t B I176 := k176.rt hT
          have hv1 := hvr (q + 1)
          rw [hhi] at m1
          have m1n : ¬ mnQ B 0 (if k = 1 ∨ k = 5 then I 0 14 - 1 else I 0 14) (q + 1) = false := by rw [m1]; decide
          refine x_aload_n dX8_readsEvent_184 0 rfl rfl ?_
          refine x_getI dX8_readsEvent_185 flX8_142 rfl rfl ?_
          rw [b176]
          refine x_istore (lv' := [(0, _), (1, _), (2, _), (3, _), (4, _), (5, _), (6, _), (7, _)]) dX8_readsEvent_188 rfl rfl ?_
          refine x_iload_n dX8_readsEvent_190 3 rfl rfl ?_
          refine x_iconst dX8_readsEvent_191 ?_
          refine x_ic_ne (tgt := 229) dX8_readsEvent_192 (by decide) (by omega) (fun h192 => ?_) (fun h192 => ?_)
          · first
            | (have x5 : k ≠ 5 := by assumption
               refine nn k a b (mnV B (q + 1)) (mnP B (q + 1)) _ _ ?_ k176 a176 ⟨_, _, rfl⟩
               rw [he]
               unfold evT
               rw [if_neg (by omega), if_neg m1n, if_neg x5])
            | (have x5 : k = 5 := by assumption
               have m2 : ¬ mnQ B (mnV B (q + 1)) (I 0 14 - 1) (mnP B (q + 1) + 1) = false := by rw [Bool.not_eq_false]; assumption
               refine nn k a (mnV B (mnP B (q + 1) + 1)) (mnV B (q + 1)) (mnP B (mnP B (q + 1) + 1)) _ _ ?_ (k197.tr c215) a215 ⟨_, _, rfl⟩
               rw [he]
               unfold evT
               rw [if_neg (by omega), if_neg m1n, if_pos x5, if_neg (by omega), if_neg m2])
          · refine x_aload_n dX8_readsEvent_195 0 rfl rfl ?_
            refine x_iload_n dX8_readsEvent_196 1 rfl rfl ?_
            refine x_bipush dX8_readsEvent_197 (by decide) ?_
            refine x_callVi (as := [_, _]) dX8_readsEvent_199 lvX8_154 rfl rfl rfl rfl rfl rfl rfl ⟨rfl, rfl⟩ (s_X8_sign (p := mnP B (q + 1)) (B := B) hT176 a176 (by omega) (by omega)) (fun z199 I199 L199 R199 hq199 => ?_)
            obtain ⟨rfl, hI199, rfl, rfl⟩ := hq199
            obtain ⟨a199, c199⟩ := fr_sig hI199
            refine y_ifb_eq (tgt := 221) dX8_readsEvent_202 (by decide) (fun h202 => ?_) (fun h202 => ?_)
            · refine x_iconst dX8_readsEvent_221 ?_
              refine x_zret dX8_readsEvent_222 rfl (by omega) ?_
              have x5 : k = 5 := by omega
              first
              | (have x1 : ¬ B (mnP B (q + 1)) = 45 := by assumption
                 rw [sgP_f x1] at a199
                 refine fal _ _ ?_ (k176.tr c199) a199
                 rw [he]
                 unfold evT
                 rw [if_neg (by omega), if_neg m1n, if_pos x5, if_pos x1])
              | (have m2 : mnQ B (mnV B (q + 1)) (I 0 14 - 1) (mnP B (q + 1) + 1) = false := by rw [← Bool.not_eq_true]; assumption
                 refine fal _ _ ?_ (k197.tr c215) a215
                 rw [he]
                 unfold evT
                 rw [if_neg (by omega), if_neg m1n, if_pos x5, if_neg (by omega), if_pos m2])
            · rw [sgP_t (by assumption)] at a199
              have k197 := k176.tr c199
              have hT197 : RT t B I199 := k197.rt hT
              refine x_aload_n dX8_readsEvent_205 0 rfl rfl ?_
              refine x_iload_n dX8_readsEvent_206 1 rfl rfl ?_
              refine x_iload dX8_readsEvent_207 7 rfl ?_
              refine x_aload_n dX8_readsEvent_209 0 rfl rfl ?_
              refine x_getI dX8_readsEvent_210 flX8_99 rfl rfl ?_
              rw [show I199 0 14 = I 0 14 by exact k197 0 14 (by omega)]
              refine x_iconst dX8_readsEvent_213 ?_
              refine x_isub dX8_readsEvent_214 ?_
              refine x_callVi (as := [_, _, _]) dX8_readsEvent_215 lvX8_161 rfl rfl rfl rfl rfl rfl rfl ⟨rfl, rfl⟩ (s_X8_minute (p := mnP B (q + 1) + 1) (B := B) hT197 a199 (by omega) (by omega) (by omega)) (fun z215 I215 L215 R215 hq215 => ?_)
              obtain ⟨rfl, hI215, rfl, rfl⟩ := hq215
              obtain ⟨a215, b215, c215⟩ := fr_min hI215
              refine y_ifb_ne (tgt := 223) dX8_readsEvent_218 (by decide) (fun h218 => ?_) (fun h218 => ?_)
              · refine x_aload_n dX8_readsEvent_223 0 rfl rfl ?_
                refine x_getI dX8_readsEvent_224 flX8_142 rfl rfl ?_
                rw [b215]
                refine x_istore (lv' := [(0, _), (1, _), (2, _), (3, _), (4, _), (5, _), (6, _), (7, _)]) dX8_readsEvent_227 rfl rfl ?_
                first
                | (have x5 : k ≠ 5 := by assumption
                   refine nn k a b (mnV B (q + 1)) (mnP B (q + 1)) _ _ ?_ k176 a176 ⟨_, _, rfl⟩
                   rw [he]
                   unfold evT
                   rw [if_neg (by omega), if_neg m1n, if_neg x5])
                | (have x5 : k = 5 := by assumption
                   have m2 : ¬ mnQ B (mnV B (q + 1)) (I 0 14 - 1) (mnP B (q + 1) + 1) = false := by rw [Bool.not_eq_false]; assumption
                   refine nn k a (mnV B (mnP B (q + 1) + 1)) (mnV B (q + 1)) (mnP B (mnP B (q + 1) + 1)) _ _ ?_ (k197.tr c215) a215 ⟨_, _, rfl⟩
                   rw [he]
                   unfold evT
                   rw [if_neg (by omega), if_neg m1n, if_pos x5, if_neg (by omega), if_neg m2])
              · refine x_iconst dX8_readsEvent_221 ?_
                refine x_zret dX8_readsEvent_222 rfl (by omega) ?_
                have x5 : k = 5 := by omega
                first
                | (have x1 : ¬ B (mnP B (q + 1)) = 45 := by assumption
                   rw [sgP_f x1] at a199
                   refine fal _ _ ?_ (k176.tr c199) a199
                   rw [he]
                   unfold evT
                   rw [if_neg (by omega), if_neg m1n, if_pos x5, if_pos x1])
                | (have m2 : mnQ B (mnV B (q + 1)) (I 0 14 - 1) (mnP B (q + 1) + 1) = false := by rw [← Bool.not_eq_true]; assumption
                   refine fal _ _ ?_ (k197.tr c215) a215
                   rw [he]
                   unfold evT
                   rw [if_neg (by omega), if_neg m1n, if_pos x5, if_neg (by omega), if_pos m2])
        · refine x_iconst dX8_readsEvent_182 ?_
          refine x_zret dX8_readsEvent_183 rfl (by omega) ?_
          have m1 : ¬ mnQ B 0 hi (q + 1) = true := by assumption
          rw [Bool.not_eq_true, hhi] at m1
          refine fal _ _ ?_ (hJ2.tr c176) a176
          rw [he]
          unfold evT
          rw [if_neg (by omega), if_pos m1]
      refine x_istore (lv' := [(0, _), (1, _), (2, _), (3, _), (4, _), (5, _), (6, _)]) dX8_readsEvent_143 rfl rfl ?_
      refine x_aload_n dX8_readsEvent_145 0 rfl rfl ?_
      refine x_iload_n dX8_readsEvent_146 1 rfl rfl ?_
      refine x_bipush dX8_readsEvent_147 (by decide) ?_
      refine x_callVi (as := [_, _]) dX8_readsEvent_149 lvX8_154 rfl rfl rfl rfl rfl rfl rfl ⟨rfl, rfl⟩ (s_X8_sign (p := q) (B := B) hTJ h17 (by omega) (by omega)) (fun z149 I149 L149 R149 hq149 => ?_)
      obtain ⟨rfl, hI149, rfl, rfl⟩ := hq149
      obtain ⟨a149, c149⟩ := fr_sig hI149
      refine y_ifb_eq (tgt := 182) dX8_readsEvent_152 (by decide) (fun h152 => ?_) (fun h152 => ?_)
      · refine x_iconst dX8_readsEvent_182 ?_
        refine x_zret dX8_readsEvent_183 rfl (by omega) ?_
        have x1 : ¬ B q = 64 := by assumption
        rw [sgP_f x1] at a149
        refine fal q _ ?_ (hJ.tr c149) a149
        rw [he]
        unfold evT
        rw [if_pos x1]
      · refine x_aload_n dX8_readsEvent_155 0 rfl rfl ?_
        refine x_iload_n dX8_readsEvent_156 1 rfl rfl ?_
        refine x_iconst dX8_readsEvent_157 ?_
        refine x_iload dX8_readsEvent_158 6 rfl ?_
        have k149 := hJ.tr c149
        rw [sgP_t (by assumption)] at a149
        refine x_if_eq (tgt := 172) dX8_readsEvent_160 (by decide) (by omega) (fun h160 => ?_) (fun h160 => ?_)
        · refine x_aload_n dX8_readsEvent_172 0 rfl rfl ?_
          refine x_getI dX8_readsEvent_173 flX8_99 rfl rfl ?_
          skip
          refine j176 _ _ ?_ k149 a149 (by assumption)
          first
          | (rw [if_pos (by omega)])
          | (rw [if_neg (by omega), k149 0 14 (by omega)])
        · refine x_aload_n dX8_readsEvent_163 0 rfl rfl ?_
          refine x_getI dX8_readsEvent_164 flX8_99 rfl rfl ?_
          rw [k149 0 14 (by omega)]
          refine x_iconst dX8_readsEvent_167 ?_
          refine x_isub dX8_readsEvent_168 ?_
          refine x_goto (tgt := 176) dX8_readsEvent_169 (by decide) ?_
          skip
          refine j176 _ _ ?_ k149 a149 (by assumption)
          first
          | (rw [if_pos (by omega)])
          | (rw [if_neg (by omega), k149 0 14 (by omega)])
    refine x_iload_n dX8_readsEvent_128 3 rfl rfl ?_
    refine x_iconst dX8_readsEvent_129 ?_
    refine x_ic_eq (tgt := 138) dX8_readsEvent_130 (by decide) (by omega) (fun h130 => ?_) (fun h130 => ?_)
    · refine x_iconst dX8_readsEvent_138 ?_
      refine x_goto (tgt := 143) dX8_readsEvent_139 (by decide) ?_
      exact st _ (by omega)
    · refine x_iload_n dX8_readsEvent_133 3 rfl rfl ?_
      refine x_iconst dX8_readsEvent_134 ?_
      refine x_ic_ne (tgt := 142) dX8_readsEvent_135 (by decide) (by omega) (fun h135 => ?_) (fun h135 => ?_)
      · refine x_iconst dX8_readsEvent_142 ?_
        exact st _ (by omega)
      · refine x_iconst dX8_readsEvent_138 ?_
        refine x_goto (tgt := 143) dX8_readsEvent_139 (by decide) ?_
        exact st _ (by omega)
  have hkr := evK_r B p
  have j51 : ∀ k : Int, k = evK B p → Rn G mtX8_readsEvent Q 51 [(0, mr 0), (1, mi t), (2, mi (B p))] [mi k] shM I L rM := by
    intro k hk
    have r3 := hT.r (p + 3)
    have hk0 : k ≠ 0 → ¬ evK B p = 0 := fun h => by omega
    refine x_istore_n (lv' := [(0, _), (1, _), (2, _), (3, _)]) dX8_readsEvent_51 rfl rfl rfl ?_
    refine x_iload_n dX8_readsEvent_52 3 rfl rfl ?_
    refine x_if_ne (tgt := 58) dX8_readsEvent_53 (by decide) (by omega) (fun h53 => ?_) (fun h53 => ?_)
    · refine x_aload_n dX8_readsEvent_58 0 rfl rfl ?_
      refine x_dup dX8_readsEvent_59 rfl ?_
      refine x_getI dX8_readsEvent_60 flX8_136 rfl rfl ?_
      rw [hp]
      refine x_iconst dX8_readsEvent_63 ?_
      refine x_iadd dX8_readsEvent_64 ?_
      refine x_putI dX8_readsEvent_65 flX8_136 rfl rfl rfl ?_
      refine x_aload_n dX8_readsEvent_68 0 rfl rfl ?_
      refine x_iload_n dX8_readsEvent_69 1 rfl rfl ?_
      refine x_iload_n dX8_readsEvent_70 3 rfl rfl ?_
      refine x_callVi (as := [_, _]) dX8_readsEvent_71 lvX8_201 rfl rfl rfl rfl rfl rfl rfl ⟨rfl, rfl⟩ (s_X8_about (p := p + 1) (hT.up (by decide) (by decide) _ _) hH1 m_up_eq (by omega) (by omega)) (fun z71 I71 L71 R71 hq71 => ?_)
      obtain ⟨rfl, a71, b71, c71, rfl, rfl⟩ := hq71
      simp only [abQ_u] at a71 ⊢
      refine y_ifb_ne (tgt := 79) dX8_readsEvent_74 (by decide) (fun h74 => ?_) (fun h74 => ?_)
      · have ab : abQ I k (B (p + 1) - 48) = true := by assumption
        rw [if_pos ab] at a71
        have k71 : RS I I71 := (hself _).tr c71
        have hT71 : RT t B I71 := k71.rt hT
        have abn : ¬ abQ I (evK B p) (B (p + 1) - 48) = false := by rw [← hk, ab]; decide
        refine x_aload_n dX8_readsEvent_79 0 rfl rfl ?_
        refine x_getI dX8_readsEvent_80 flX8_142 rfl rfl ?_
        rw [b71]
        refine x_istore (lv' := [(0, _), (1, _), (2, _), (3, _), (4, _)]) dX8_readsEvent_83 rfl rfl ?_
        refine x_iconst dX8_readsEvent_85 ?_
        refine x_istore (lv' := [(0, _), (1, _), (2, _), (3, _), (4, _), (5, _)]) dX8_readsEvent_86 rfl rfl ?_
        refine x_iload_n dX8_readsEvent_88 3 rfl rfl ?_
        refine x_iconst dX8_readsEvent_89 ?_
        refine x_ic_ne (tgt := 128) dX8_readsEvent_90 (by decide) (by omega) (fun h90 => ?_) (fun h90 => ?_)
        · first
          | (have x2 : ¬ k = 2 := by assumption
             refine tail k _ 0 (p + 2) _ ?_ (by omega) (by omega) k71 a71 _
             unfold evP
             rw [if_neg (by omega), if_neg abn, if_neg (by omega), hk])
          | (have x2 : k = 2 := by assumption
             have x47 : ¬ B (p + 2) = 47 := by assumption
             rw [sgP_f x47] at a97
             refine tail k _ 0 (p + 2) _ ?_ (by omega) (by omega) (k71.tr c97) a97 _
             unfold evP
             rw [if_neg (by omega), if_neg abn, if_neg (by omega), hk])
          | (have x2 : k = 2 := by assumption
             have x47 : B (p + 2) = 47 := by assumption
             refine tail 3 _ _ (p + 4) _ ?_ (by omega) (by omega) k114 a114 _
             unfold evP
             rw [if_neg (by omega), if_neg abn, if_pos ⟨by omega, x47⟩, if_neg (by rw [ff]; decide)])
        · refine x_aload_n dX8_readsEvent_93 0 rfl rfl ?_
          refine x_iload_n dX8_readsEvent_94 1 rfl rfl ?_
          refine x_bipush dX8_readsEvent_95 (by decide) ?_
          refine x_callVi (as := [_, _]) dX8_readsEvent_97 lvX8_154 rfl rfl rfl rfl rfl rfl rfl ⟨rfl, rfl⟩ (s_X8_sign (p := p + 2) (B := B) hT71 a71 (by omega) (by omega)) (fun z97 I97 L97 R97 hq97 => ?_)
          obtain ⟨rfl, hI97, rfl, rfl⟩ := hq97
          obtain ⟨a97, c97⟩ := fr_sig hI97
          refine y_ifb_eq (tgt := 128) dX8_readsEvent_100 (by decide) (fun h100 => ?_) (fun h100 => ?_)
          · first
            | (have x2 : ¬ k = 2 := by assumption
               refine tail k _ 0 (p + 2) _ ?_ (by omega) (by omega) k71 a71 _
               unfold evP
               rw [if_neg (by omega), if_neg abn, if_neg (by omega), hk])
            | (have x2 : k = 2 := by assumption
               have x47 : ¬ B (p + 2) = 47 := by assumption
               rw [sgP_f x47] at a97
               refine tail k _ 0 (p + 2) _ ?_ (by omega) (by omega) (k71.tr c97) a97 _
               unfold evP
               rw [if_neg (by omega), if_neg abn, if_neg (by omega), hk])
            | (have x2 : k = 2 := by assumption
               have x47 : B (p + 2) = 47 := by assumption
               refine tail 3 _ _ (p + 4) _ ?_ (by omega) (by omega) k114 a114 _
               unfold evP
               rw [if_neg (by omega), if_neg abn, if_pos ⟨by omega, x47⟩, if_neg (by rw [ff]; decide)])
          · rw [sgP_t (by assumption)] at a97
            have k97 := k71.tr c97
            have hT97 : RT t B I97 := k97.rt hT
            refine x_iconst dX8_readsEvent_103 ?_
            refine x_istore_n (lv' := [(0, _), (1, _), (2, _), (3, _), (4, _), (5, _)]) dX8_readsEvent_104 rfl rfl rfl ?_
            refine x_aload_n dX8_readsEvent_105 0 rfl rfl ?_
            refine x_iload_n dX8_readsEvent_106 1 rfl rfl ?_
            refine x_iconst dX8_readsEvent_107 ?_
            refine x_aload_n dX8_readsEvent_108 0 rfl rfl ?_
            refine x_getI dX8_readsEvent_109 flX8_186 rfl rfl ?_
            rw [show I97 0 13 = I 0 13 by exact k97 0 13 (by omega)]
            refine x_iconst dX8_readsEvent_112 ?_
            refine x_isub dX8_readsEvent_113 ?_
            refine x_callVi (as := [_, _, _]) dX8_readsEvent_114 lvX8_151 rfl rfl rfl rfl rfl rfl rfl ⟨rfl, rfl⟩ (s_X8_figure (p := p + 3) (B := B) hT97 a97 (by omega) (by omega) (by omega)) (fun z114 I114 L114 R114 hq114 => ?_)
            obtain ⟨rfl, hI114, rfl, rfl⟩ := hq114
            obtain ⟨a114, b114, c114⟩ := fr_fig hI114
            refine y_ifb_ne (tgt := 122) dX8_readsEvent_117 (by decide) (fun h117 => ?_) (fun h117 => ?_)
            · have ff : fgQ B 0 (I 0 13 - 1) (p + 3) = true := by assumption
              have f3 := fgQ_r ff
              rw [if_pos ff] at a114
              have k114 := k97.tr c114
              refine x_aload_n dX8_readsEvent_122 0 rfl rfl ?_
              refine x_getI dX8_readsEvent_123 flX8_142 rfl rfl ?_
              rw [b114]
              refine x_istore (lv' := [(0, _), (1, _), (2, _), (3, _), (4, _), (5, _)]) dX8_readsEvent_126 rfl rfl ?_
              first
              | (have x2 : ¬ k = 2 := by assumption
                 refine tail k _ 0 (p + 2) _ ?_ (by omega) (by omega) k71 a71 _
                 unfold evP
                 rw [if_neg (by omega), if_neg abn, if_neg (by omega), hk])
              | (have x2 : k = 2 := by assumption
                 have x47 : ¬ B (p + 2) = 47 := by assumption
                 rw [sgP_f x47] at a97
                 refine tail k _ 0 (p + 2) _ ?_ (by omega) (by omega) (k71.tr c97) a97 _
                 unfold evP
                 rw [if_neg (by omega), if_neg abn, if_neg (by omega), hk])
              | (have x2 : k = 2 := by assumption
                 have x47 : B (p + 2) = 47 := by assumption
                 refine tail 3 _ _ (p + 4) _ ?_ (by omega) (by omega) k114 a114 _
                 unfold evP
                 rw [if_neg (by omega), if_neg abn, if_pos ⟨by omega, x47⟩, if_neg (by rw [ff]; decide)])
            · refine x_iconst dX8_readsEvent_120 ?_
              refine x_zret dX8_readsEvent_121 rfl (by omega) ?_
              have ff : ¬ fgQ B 0 (I 0 13 - 1) (p + 3) = true := by assumption
              rw [if_neg ff] at a114
              refine fal (p + 3) _ ?_ (k97.tr c114) a114
              unfold evP
              rw [if_neg (by omega), if_neg abn, if_pos ⟨by omega, by assumption⟩, if_pos (by rw [← Bool.not_eq_true]; exact ff)]
      · refine x_iconst dX8_readsEvent_77 ?_
        refine x_zret dX8_readsEvent_78 rfl (by omega) ?_
        have ab : ¬ abQ I k (B (p + 1) - 48) = true := by assumption
        rw [if_neg ab] at a71
        refine fal (p + 1) _ ?_ ((hself _).tr c71) a71
        unfold evP
        rw [if_neg (by omega), if_pos (by rw [← hk, ← Bool.not_eq_true]; exact ab)]
    · refine x_iconst dX8_readsEvent_56 ?_
      refine x_zret dX8_readsEvent_57 rfl (by omega) ?_
      exact fal p _ (by unfold evP; rw [if_pos (by omega)]) (RS.rf _) hp
  refine x_aload_n dX8_readsEvent_0 0 rfl rfl ?_
  refine x_iload_n dX8_readsEvent_1 1 rfl rfl ?_
  refine x_aload_n dX8_readsEvent_2 0 rfl rfl ?_
  refine x_getI dX8_readsEvent_3 flX8_136 rfl rfl ?_
  rw [hp]
  refine x_callVi (as := [_, _]) dX8_readsEvent_6 lvX8_139 rfl rfl rfl rfl rfl rfl rfl ⟨rfl, rfl⟩ (s_X8_byteAt hT.1 hT.2.1 (by omega)) (fun z6 I6 L6 R6 hq6 => ?_)
  obtain ⟨rfl, rfl, rfl, rfl⟩ := hq6
  rw [hT.2.2 p]
  refine x_istore_n (lv' := [(0, _), (1, _), (2, _)]) dX8_readsEvent_9 rfl rfl rfl ?_
  refine x_iload_n dX8_readsEvent_10 2 rfl rfl ?_
  refine x_bipush dX8_readsEvent_11 (by decide) ?_
  refine x_ic_ne (tgt := 20) dX8_readsEvent_13 (by decide) (by omega) (fun h13 => ?_) (fun h13 => ?_)
  · refine x_iload_n dX8_readsEvent_20 2 rfl rfl ?_
    refine x_bipush dX8_readsEvent_21 (by decide) ?_
    refine x_ic_ne (tgt := 30) dX8_readsEvent_23 (by decide) (by omega) (fun h23 => ?_) (fun h23 => ?_)
    · refine x_iload_n dX8_readsEvent_30 2 rfl rfl ?_
      refine x_bipush dX8_readsEvent_31 (by decide) ?_
      refine x_ic_ne (tgt := 40) dX8_readsEvent_33 (by decide) (by omega) (fun h33 => ?_) (fun h33 => ?_)
      · refine x_iload_n dX8_readsEvent_40 2 rfl rfl ?_
        refine x_bipush dX8_readsEvent_41 (by decide) ?_
        refine x_ic_ne (tgt := 50) dX8_readsEvent_43 (by decide) (by omega) (fun h43 => ?_) (fun h43 => ?_)
        · refine x_iconst dX8_readsEvent_50 ?_
          refine j51 _ ?_
          unfold evK
          first
          | (rw [if_pos (by omega)])
          | (rw [if_neg (by omega), if_pos (by omega)])
          | (rw [if_neg (by omega), if_neg (by omega), if_pos (by omega)])
          | (rw [if_neg (by omega), if_neg (by omega), if_neg (by omega), if_pos (by omega)])
          | (rw [if_neg (by omega), if_neg (by omega), if_neg (by omega), if_neg (by omega)])
        · refine x_iconst dX8_readsEvent_46 ?_
          refine x_goto (tgt := 51) dX8_readsEvent_47 (by decide) ?_
          refine j51 _ ?_
          unfold evK
          first
          | (rw [if_pos (by omega)])
          | (rw [if_neg (by omega), if_pos (by omega)])
          | (rw [if_neg (by omega), if_neg (by omega), if_pos (by omega)])
          | (rw [if_neg (by omega), if_neg (by omega), if_neg (by omega), if_pos (by omega)])
          | (rw [if_neg (by omega), if_neg (by omega), if_neg (by omega), if_neg (by omega)])
      · refine x_iconst dX8_readsEvent_36 ?_
        refine x_goto (tgt := 51) dX8_readsEvent_37 (by decide) ?_
        refine j51 _ ?_
        unfold evK
        first
        | (rw [if_pos (by omega)])
        | (rw [if_neg (by omega), if_pos (by omega)])
        | (rw [if_neg (by omega), if_neg (by omega), if_pos (by omega)])
        | (rw [if_neg (by omega), if_neg (by omega), if_neg (by omega), if_pos (by omega)])
        | (rw [if_neg (by omega), if_neg (by omega), if_neg (by omega), if_neg (by omega)])
    · refine x_iconst dX8_readsEvent_26 ?_
      refine x_goto (tgt := 51) dX8_readsEvent_27 (by decide) ?_
      refine j51 _ ?_
      unfold evK
      first
      | (rw [if_pos (by omega)])
      | (rw [if_neg (by omega), if_pos (by omega)])
      | (rw [if_neg (by omega), if_neg (by omega), if_pos (by omega)])
      | (rw [if_neg (by omega), if_neg (by omega), if_neg (by omega), if_pos (by omega)])
      | (rw [if_neg (by omega), if_neg (by omega), if_neg (by omega), if_neg (by omega)])
  · refine x_iconst dX8_readsEvent_16 ?_
    refine x_goto (tgt := 51) dX8_readsEvent_17 (by decide) ?_
    refine j51 _ ?_
    unfold evK
    first
    | (rw [if_pos (by omega)])
    | (rw [if_neg (by omega), if_pos (by omega)])
    | (rw [if_neg (by omega), if_neg (by omega), if_pos (by omega)])
    | (rw [if_neg (by omega), if_neg (by omega), if_neg (by omega), if_pos (by omega)])
    | (rw [if_neg (by omega), if_neg (by omega), if_neg (by omega), if_neg (by omega)])
end

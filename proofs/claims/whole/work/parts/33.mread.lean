/-! THE REFERENCE READS A HOUSE, part three. -/
theorem HR.rt {I0 : MI} {R : Int} {σ : HS} {J : MI} {t : Int} {B : Nat → Int} (h : HR I0 R σ J) (k : RT t B I0) : RT t B J := h.1.rt k
theorem houL_e {B : Nat → Int} {R : Int} {n k : Nat} {σ : HS} (h : n ≤ σ.1) : houL B R n (k + 1) σ = (-9, σ) := if_pos h
theorem houL_t {B : Nat → Int} {R : Int} {n k : Nat} {σ : HS} (h : ¬ n ≤ σ.1) (h2 : (itmP B R σ).1 = true) : houL B R n (k + 1) σ = houL B R n k (skp B (itmP B R σ).2.1, (itmP B R σ).2.2) := by
  show (if n ≤ σ.1 then _ else if (itmP B R σ).1 then _ else _) = _
  rw [if_neg h, if_pos h2]
theorem houL_f {B : Nat → Int} {R : Int} {n k : Nat} {σ : HS} (h : ¬ n ≤ σ.1) (h2 : ¬ (itmP B R σ).1 = true) : houL B R n (k + 1) σ = (((itmP B R σ).2.1 : Int), (itmP B R σ).2) := by
  show (if n ≤ σ.1 then _ else if (itmP B R σ).1 then _ else _) = _
  rw [if_neg h, if_neg h2]
/-- a read item is at least one sign long -/
theorem itmP_s (B : Nat → Int) (R : Int) (σ : HS) (h : (itmP B R σ).1 = true) : σ.1 + 1 ≤ (itmP B R σ).2.1 := by
  have h2 := wlkP_r B R σ.2.2.1.length σ.1
  have h3 := mnP_r B (σ.1 + 1)
  have h1 : (dorP B R σ.2.1.length σ.1).1 = true → σ.1 + 1 ≤ (dorP B R σ.2.1.length σ.1).2.1 := by
    unfold dorP
    repeat' split
    all_goals simp
  have h4 : (wlkP B R σ.2.2.1.length σ.1).1 = true → σ.1 + 1 ≤ (wlkP B R σ.2.2.1.length σ.1).2.1 := by
    have h := risP_r B R 8 (σ.1 + 3) 0 0
    unfold wlkP
    repeat' split
    all_goals (try simp)
    all_goals omega
  unfold itmP at h ⊢
  split
  · rename_i c; rw [if_pos c] at h; exact h1 h
  · rename_i c
    rw [if_neg c] at h
    split
    · simp only; omega
    · rename_i c2
      rw [if_neg c2] at h
      split
      · rename_i c3; rw [if_pos c3] at h; exact h4 h
      · rename_i c3; rw [if_neg c3] at h; simp at h
section
variable {G : GT} {sh : MS} {I L : MI} {R : MR} {κ : MI} {t : Int} {B : Nat → Int}

theorem s_X8_readsMinute {p : Nat} (hT : RT t B I) (hp : I 0 17 = (p : Int)) (hp2 : p ≤ 900) : Sp G mtX8_readsMinute [mr 0, mi t] shM I L rM (qi (fun z I' L' R' => z = b01 (mnQ B 1 30 (p + 1) = true) ∧ I' 0 17 = (mnP B (p + 1) : Int) ∧ I' 0 22 = mnV B (p + 1) ∧ (∀ c j, ¬ (c = 0 ∧ (j = 17 ∨ j = 18 ∨ j = 22)) → I' c j = I c j) ∧ L = L' ∧ R' = rM)) := by
  refine Sp.of pnX8_readsMinute rfl ?_
  show Rn G mtX8_readsMinute _ 0 [(0, mr 0), (1, mi t)] [] shM I L rM
  generalize hQ : (qi (fun z I' L' R' => z = b01 (mnQ B 1 30 (p + 1) = true) ∧ I' 0 17 = (mnP B (p + 1) : Int) ∧ I' 0 22 = mnV B (p + 1) ∧ (∀ c j, ¬ (c = 0 ∧ (j = 17 ∨ j = 18 ∨ j = 22)) → I' c j = I c j) ∧ L = L' ∧ R' = rM)) = Q
  refine x_aload_n dX8_readsMinute_0 0 rfl rfl ?_
  refine x_dup dX8_readsMinute_1 rfl ?_
  refine x_getI dX8_readsMinute_2 flX8_136 rfl rfl ?_
  rw [hp]
  refine x_iconst dX8_readsMinute_5 ?_
  refine x_iadd dX8_readsMinute_6 ?_
  refine x_putI dX8_readsMinute_7 flX8_136 rfl rfl rfl ?_
  refine x_aload_n dX8_readsMinute_10 0 rfl rfl ?_
  refine x_iload_n dX8_readsMinute_11 1 rfl rfl ?_
  refine x_iconst dX8_readsMinute_12 ?_
  refine x_bipush dX8_readsMinute_13 (by decide) ?_
  refine x_callVi (as := [_, _, _]) dX8_readsMinute_15 lvX8_161 rfl rfl rfl rfl rfl rfl rfl ⟨rfl, rfl⟩ (s_X8_minute (p := p + 1) (B := B) (hT.up (by decide) (by decide) _ _) m_up_eq (by omega) (by omega) (by omega)) (fun z15 I15 L15 R15 hq15 => ?_)
  obtain ⟨rfl, hI15, rfl, rfl⟩ := hq15
  obtain ⟨a15, b15, c15⟩ := fr_min hI15
  refine x_istore_n (lv' := [(0, _), (1, _), (2, _)]) dX8_readsMinute_18 rfl rfl rfl ?_
  refine x_aload_n dX8_readsMinute_19 0 rfl rfl ?_
  refine x_aload_n dX8_readsMinute_20 0 rfl rfl ?_
  refine x_getI dX8_readsMinute_21 flX8_142 rfl rfl ?_
  rw [b15]
  refine x_putI dX8_readsMinute_24 flX8_164 rfl rfl rfl ?_
  refine x_iload_n dX8_readsMinute_27 2 rfl rfl ?_
  refine x_zret dX8_readsMinute_28 rfl (b01_z _) ?_
  rw [← hQ]
  have k15 : RS I I15 := ((RS.rf I).u17 _).tr c15
  refine ⟨_, rfl, rfl, ?_, m_up_eq, fun c j q => ?_, rfl, rfl⟩
  · rw [m_up_nj (by decide)]; exact a15
  · unfold m_up; rw [if_neg (by omega)]; exact k15 c j (by omega)
set_option maxHeartbeats 2000000 in
theorem s_X8_readsItem {I0 : MI} {R0 : Int} {σ : HS} (hT : RT t B I0) (h : HR I0 R0 σ I) (hp2 : σ.1 ≤ 880) (hR2 : 1 ≤ R0 ∧ R0 ≤ 6) : Sp G mtX8_readsItem [mr 0, mi t] shM I L rM (qi (fun z I' L' R' => z = b01 ((itmP B R0 σ).1 = true) ∧ HR I0 R0 (itmP B R0 σ).2 I' ∧ L = L' ∧ R' = rM)) := by
  refine Sp.of pnX8_readsItem rfl ?_
  show Rn G mtX8_readsItem _ 0 [(0, mr 0), (1, mi t)] [] shM I L rM
  generalize hQ : (qi (fun z I' L' R' => z = b01 ((itmP B R0 σ).1 = true) ∧ HR I0 R0 (itmP B R0 σ).2 I' ∧ L = L' ∧ R' = rM)) = Q
  have hT1 : RT t B I := h.rt hT
  have hb := hT1.r σ.1
  obtain ⟨g1, g2, g3, g4, g5, g6, g7, g8, g9, g10⟩ := h
  have fd : ∀ (J : MI) (bo : Int), (B σ.1 = 100 ∧ bo = 0 ∨ B σ.1 = 68 ∧ bo = 1) → J 0 17 = ((dorP B R0 σ.2.1.length σ.1).2.1 : Int) → (∀ c j, ¬ (c = 9 ∧ 3 * (σ.2.1.length : Int) ≤ j) → ¬ (c = 0 ∧ (j = 17 ∨ j = 18 ∨ j = 20)) → J c j = I c j) → J 0 20 = (if (dorP B R0 σ.2.1.length σ.1).1 then (σ.2.1.length : Int) + 1 else σ.2.1.length) → ((dorP B R0 σ.2.1.length σ.1).1 = true → J 9 (3 * (σ.2.1.length : Int)) = (dorP B R0 σ.2.1.length σ.1).2.2.1 ∧ J 9 (3 * (σ.2.1.length : Int) + 1) = (dorP B R0 σ.2.1.length σ.1).2.2.2 ∧ J 9 (3 * (σ.2.1.length : Int) + 2) = bo) → Q (some (mi (b01 ((dorP B R0 σ.2.1.length σ.1).1 = true)))) J L rM := by
    intro J bo hbo d1 d2 d3 d4
    have hi : itmP B R0 σ = ((dorP B R0 σ.2.1.length σ.1).1, (dorP B R0 σ.2.1.length σ.1).2.1, (if (dorP B R0 σ.2.1.length σ.1).1 then σ.2.1 ++ [((dorP B R0 σ.2.1.length σ.1).2.2.1, (dorP B R0 σ.2.1.length σ.1).2.2.2, if B σ.1 = 68 then 1 else 0)] else σ.2.1), σ.2.2) := by
      unfold itmP
      rw [if_pos (by omega)]
    have hbo2 : (if B σ.1 = 68 then (1 : Int) else 0) = bo := by
      rcases hbo with ⟨x1, x2⟩ | ⟨x1, x2⟩
      · rw [if_neg (by omega), x2]
      · rw [if_pos x1, x2]
    rw [← hQ, hi, hbo2]
    have hl8 : (dorP B R0 σ.2.1.length σ.1).1 = true → σ.2.1.length < 8 := by
      intro q
      apply Classical.byContradiction
      intro q2
      unfold dorP at q
      rw [if_pos (by omega)] at q
      simp at q
    refine ⟨_, rfl, rfl, ⟨fun c j q => ?_, ?_, d1, ?_, ?_, ?_, fun i q hq => ?_, fun i q hq => ?_, ?_, ?_⟩, rfl, rfl⟩
    · rw [d2 c j (fun r => q (by unfold rsc; omega)) (fun r => q (by unfold rsc; omega))]; exact g1 c j q
    · rw [d2 0 19 (by omega) (by omega)]; exact g2
    · rw [d3]
      split
      · rw [List.length_append]; rfl
      · rfl
    · rw [d2 0 21 (by omega) (by omega)]; exact g5
    · rw [d2 0 22 (by omega) (by omega)]; exact g6
    · simp only at hq
      by_cases hc : (dorP B R0 σ.2.1.length σ.1).1 = true
      · rw [if_pos hc] at hq
        by_cases hil : i < σ.2.1.length
        · rw [List.getElem?_append_left hil] at hq
          rw [d2 9 _ (by omega) (by omega), d2 9 _ (by omega) (by omega), d2 9 _ (by omega) (by omega)]
          exact g7 i q hq
        · have hie : i = σ.2.1.length := by
            have := (List.getElem?_eq_some_iff.mp hq).1
            rw [List.length_append] at this
            simp at this
            omega
          subst hie
          rw [List.getElem?_append_right (Nat.le_refl _)] at hq
          simp at hq
          subst hq
          exact d4 hc
      · rw [if_neg hc] at hq
        have hil := (List.getElem?_eq_some_iff.mp hq).1
        rw [d2 9 _ (by omega) (by omega), d2 9 _ (by omega) (by omega), d2 9 _ (by omega) (by omega)]
        exact g7 i q hq
    · rw [d2 10 _ (by omega) (by omega), d2 10 _ (by omega) (by omega)]
      exact g8 i q hq
    · simp only
      split
      · rename_i hc
        have := hl8 hc
        rw [List.length_append]
        simp
        omega
      · exact g9
    · exact g10
  have fw : ∀ (J : MI), B σ.1 = 119 → J 0 17 = ((wlkP B R0 σ.2.2.1.length σ.1).2.1 : Int) → (∀ c j, ¬ (c = 10 ∧ 2 * (σ.2.2.1.length : Int) ≤ j) → ¬ (c = 0 ∧ (j = 17 ∨ j = 18 ∨ j = 21)) → J c j = I c j) → J 0 21 = (if (wlkP B R0 σ.2.2.1.length σ.1).1 then (σ.2.2.1.length : Int) + 1 else σ.2.2.1.length) → ((wlkP B R0 σ.2.2.1.length σ.1).1 = true → J 10 (2 * (σ.2.2.1.length : Int)) = (wlkP B R0 σ.2.2.1.length σ.1).2.2.1 ∧ J 10 (2 * (σ.2.2.1.length : Int) + 1) = (wlkP B R0 σ.2.2.1.length σ.1).2.2.2) → ∀ z : Int, z = b01 ((wlkP B R0 σ.2.2.1.length σ.1).1 = true) → Q (some (mi z)) J L rM := by
    intro J hb9 d1 d2 d3 d4 z hz
    have hi : itmP B R0 σ = ((wlkP B R0 σ.2.2.1.length σ.1).1, (wlkP B R0 σ.2.2.1.length σ.1).2.1, σ.2.1, (if (wlkP B R0 σ.2.2.1.length σ.1).1 then σ.2.2.1 ++ [((wlkP B R0 σ.2.2.1.length σ.1).2.2.1, (wlkP B R0 σ.2.2.1.length σ.1).2.2.2)] else σ.2.2.1), σ.2.2.2) := by
      unfold itmP
      rw [if_neg (by omega), if_neg (by omega), if_pos hb9]
    rw [← hQ, hi]
    have hl8 : (wlkP B R0 σ.2.2.1.length σ.1).1 = true → σ.2.2.1.length < 3 := by
      intro q
      apply Classical.byContradiction
      intro q2
      unfold wlkP at q
      rw [if_pos (by omega)] at q
      simp at q
    refine ⟨_, rfl, hz, ⟨fun c j q => ?_, ?_, d1, ?_, ?_, ?_, fun i q hq => ?_, fun i q hq => ?_, ?_, ?_⟩, rfl, rfl⟩
    · rw [d2 c j (fun r => q (by unfold rsc; omega)) (fun r => q (by unfold rsc; omega))]; exact g1 c j q
    · rw [d2 0 19 (by omega) (by omega)]; exact g2
    · rw [d2 0 20 (by omega) (by omega)]; exact g4
    · rw [d3]
      split
      · rw [List.length_append]; rfl
      · rfl
    · rw [d2 0 22 (by omega) (by omega)]; exact g6
    · rw [d2 9 _ (by omega) (by omega), d2 9 _ (by omega) (by omega), d2 9 _ (by omega) (by omega)]
      exact g7 i q hq
    · simp only at hq
      by_cases hc : (wlkP B R0 σ.2.2.1.length σ.1).1 = true
      · rw [if_pos hc] at hq
        by_cases hil : i < σ.2.2.1.length
        · rw [List.getElem?_append_left hil] at hq
          rw [d2 10 _ (by omega) (by omega), d2 10 _ (by omega) (by omega)]
          exact g8 i q hq
        · have hie : i = σ.2.2.1.length := by
            have := (List.getElem?_eq_some_iff.mp hq).1
            rw [List.length_append] at this
            simp at this
            omega
          subst hie
          rw [List.getElem?_append_right (Nat.le_refl _)] at hq
          simp at hq
          subst hq
          exact d4 hc
      · rw [if_neg hc] at hq
        have hil := (List.getElem?_eq_some_iff.mp hq).1
        rw [d2 10 _ (by omega) (by omega), d2 10 _ (by omega) (by omega)]
        exact g8 i q hq
    · exact g9
    · simp only
      split
      · rename_i hc
        have := hl8 hc
        rw [List.length_append]
        simp
        omega
      · exact g10
  refine x_aload_n dX8_readsItem_0 0 rfl rfl ?_
  refine x_iload_n dX8_readsItem_1 1 rfl rfl ?_
  refine x_aload_n dX8_readsItem_2 0 rfl rfl ?_
  refine x_getI dX8_readsItem_3 flX8_136 rfl rfl ?_
  rw [g3]
  refine x_callVi (as := [_, _]) dX8_readsItem_6 lvX8_139 rfl rfl rfl rfl rfl rfl rfl ⟨rfl, rfl⟩ (s_X8_byteAt hT1.1 hT1.2.1 (by omega)) (fun z6 I6 L6 R6 hq6 => ?_)
  obtain ⟨rfl, rfl, rfl, rfl⟩ := hq6
  rw [hT1.2.2 σ.1]
  refine x_istore_n (lv' := [(0, _), (1, _), (2, _)]) dX8_readsItem_9 rfl rfl rfl ?_
  refine x_iload_n dX8_readsItem_10 2 rfl rfl ?_
  refine x_bipush dX8_readsItem_11 (by decide) ?_
  refine x_ic_eq (tgt := 22) dX8_readsItem_13 (by decide) (by omega) (fun h13 => ?_) (fun h13 => ?_)
  · refine x_aload_n dX8_readsItem_22 0 rfl rfl ?_
    refine x_iload_n dX8_readsItem_23 1 rfl rfl ?_
    refine x_iload_n dX8_readsItem_24 2 rfl rfl ?_
    refine x_bipush dX8_readsItem_25 (by decide) ?_
    refine x_ic_ne (tgt := 34) dX8_readsItem_27 (by decide) (by omega) (fun h27 => ?_) (fun h27 => ?_)
    · refine x_iconst dX8_readsItem_34 ?_
      refine x_callVi (as := [_, _]) dX8_readsItem_35 lvX8_167 rfl rfl rfl rfl rfl rfl rfl ⟨rfl, rfl⟩ (s_X8_readsDoor hT1 g3 (by omega) g4 g9 g2 hR2) (fun z35 I35 L35 R35 hq35 => ?_)
      obtain ⟨rfl, d1, d2, d3, d4, rfl, rfl⟩ := hq35
      refine x_goto (tgt := 74) dX8_readsItem_38 (by decide) ?_
      refine x_zret dX8_readsItem_74 rfl (by first | exact b01_z _ | omega) ?_
      first
      | exact fd _ _ (by omega) d1 d2 d3 d4
      | exact fw _ (by omega) d1 d2 d3 d4 _ (b01_t (by assumption))
      | exact fw _ (by omega) d1 d2 d3 d4 _ (b01_f (by assumption))
      | (have hi : itmP B R0 σ = (mnQ B 1 30 (σ.1 + 1), mnP B (σ.1 + 1), σ.2.1, σ.2.2.1, mnV B (σ.1 + 1)) := by
           unfold itmP
           rw [if_neg (by omega), if_pos (by omega)]
         rw [← hQ, hi]
         refine ⟨_, rfl, rfl, ⟨fun c j q => ?_, ?_, d1, ?_, ?_, d2, fun i q hq => ?_, fun i q hq => ?_, g9, g10⟩, rfl, rfl⟩
         · rw [d3 c j (fun r => q (by unfold rsc; omega))]; exact g1 c j q
         · rw [d3 0 19 (by omega)]; exact g2
         · rw [d3 0 20 (by omega)]; exact g4
         · rw [d3 0 21 (by omega)]; exact g5
         · rw [d3 9 _ (by omega), d3 9 _ (by omega), d3 9 _ (by omega)]; exact g7 i q hq
         · rw [d3 10 _ (by omega), d3 10 _ (by omega)]; exact g8 i q hq)
      | (have hi : itmP B R0 σ = (false, σ) := by
           unfold itmP
           rw [if_neg (by omega), if_neg (by omega), if_neg (by omega)]
         rw [← hQ, hi]
         exact ⟨_, rfl, b01_f (by simp), ⟨g1, g2, g3, g4, g5, g6, g7, g8, g9, g10⟩, rfl, rfl⟩)
    · refine x_iconst dX8_readsItem_30 ?_
      refine x_goto (tgt := 35) dX8_readsItem_31 (by decide) ?_
      refine x_callVi (as := [_, _]) dX8_readsItem_35 lvX8_167 rfl rfl rfl rfl rfl rfl rfl ⟨rfl, rfl⟩ (s_X8_readsDoor hT1 g3 (by omega) g4 g9 g2 hR2) (fun z35 I35 L35 R35 hq35 => ?_)
      obtain ⟨rfl, d1, d2, d3, d4, rfl, rfl⟩ := hq35
      refine x_goto (tgt := 74) dX8_readsItem_38 (by decide) ?_
      refine x_zret dX8_readsItem_74 rfl (by first | exact b01_z _ | omega) ?_
      first
      | exact fd _ _ (by omega) d1 d2 d3 d4
      | exact fw _ (by omega) d1 d2 d3 d4 _ (b01_t (by assumption))
      | exact fw _ (by omega) d1 d2 d3 d4 _ (b01_f (by assumption))
      | (have hi : itmP B R0 σ = (mnQ B 1 30 (σ.1 + 1), mnP B (σ.1 + 1), σ.2.1, σ.2.2.1, mnV B (σ.1 + 1)) := by
           unfold itmP
           rw [if_neg (by omega), if_pos (by omega)]
         rw [← hQ, hi]
         refine ⟨_, rfl, rfl, ⟨fun c j q => ?_, ?_, d1, ?_, ?_, d2, fun i q hq => ?_, fun i q hq => ?_, g9, g10⟩, rfl, rfl⟩
         · rw [d3 c j (fun r => q (by unfold rsc; omega))]; exact g1 c j q
         · rw [d3 0 19 (by omega)]; exact g2
         · rw [d3 0 20 (by omega)]; exact g4
         · rw [d3 0 21 (by omega)]; exact g5
         · rw [d3 9 _ (by omega), d3 9 _ (by omega), d3 9 _ (by omega)]; exact g7 i q hq
         · rw [d3 10 _ (by omega), d3 10 _ (by omega)]; exact g8 i q hq)
      | (have hi : itmP B R0 σ = (false, σ) := by
           unfold itmP
           rw [if_neg (by omega), if_neg (by omega), if_neg (by omega)]
         rw [← hQ, hi]
         exact ⟨_, rfl, b01_f (by simp), ⟨g1, g2, g3, g4, g5, g6, g7, g8, g9, g10⟩, rfl, rfl⟩)
  · refine x_iload_n dX8_readsItem_16 2 rfl rfl ?_
    refine x_bipush dX8_readsItem_17 (by decide) ?_
    refine x_ic_ne (tgt := 41) dX8_readsItem_19 (by decide) (by omega) (fun h19 => ?_) (fun h19 => ?_)
    · refine x_iload_n dX8_readsItem_41 2 rfl rfl ?_
      refine x_bipush dX8_readsItem_42 (by decide) ?_
      refine x_ic_ne (tgt := 55) dX8_readsItem_44 (by decide) (by omega) (fun h44 => ?_) (fun h44 => ?_)
      · refine x_iload_n dX8_readsItem_55 2 rfl rfl ?_
        refine x_bipush dX8_readsItem_56 (by decide) ?_
        refine x_ic_ne (tgt := 73) dX8_readsItem_58 (by decide) (by omega) (fun h58 => ?_) (fun h58 => ?_)
        · refine x_iconst dX8_readsItem_73 ?_
          refine x_zret dX8_readsItem_74 rfl (by first | exact b01_z _ | omega) ?_
          first
          | exact fd _ _ (by omega) d1 d2 d3 d4
          | exact fw _ (by omega) d1 d2 d3 d4 _ (b01_t (by assumption))
          | exact fw _ (by omega) d1 d2 d3 d4 _ (b01_f (by assumption))
          | (have hi : itmP B R0 σ = (mnQ B 1 30 (σ.1 + 1), mnP B (σ.1 + 1), σ.2.1, σ.2.2.1, mnV B (σ.1 + 1)) := by
               unfold itmP
               rw [if_neg (by omega), if_pos (by omega)]
             rw [← hQ, hi]
             refine ⟨_, rfl, rfl, ⟨fun c j q => ?_, ?_, d1, ?_, ?_, d2, fun i q hq => ?_, fun i q hq => ?_, g9, g10⟩, rfl, rfl⟩
             · rw [d3 c j (fun r => q (by unfold rsc; omega))]; exact g1 c j q
             · rw [d3 0 19 (by omega)]; exact g2
             · rw [d3 0 20 (by omega)]; exact g4
             · rw [d3 0 21 (by omega)]; exact g5
             · rw [d3 9 _ (by omega), d3 9 _ (by omega), d3 9 _ (by omega)]; exact g7 i q hq
             · rw [d3 10 _ (by omega), d3 10 _ (by omega)]; exact g8 i q hq)
          | (have hi : itmP B R0 σ = (false, σ) := by
               unfold itmP
               rw [if_neg (by omega), if_neg (by omega), if_neg (by omega)]
             rw [← hQ, hi]
             exact ⟨_, rfl, b01_f (by simp), ⟨g1, g2, g3, g4, g5, g6, g7, g8, g9, g10⟩, rfl, rfl⟩)
        · refine x_aload_n dX8_readsItem_61 0 rfl rfl ?_
          refine x_iload_n dX8_readsItem_62 1 rfl rfl ?_
          refine x_callVi (as := [_]) dX8_readsItem_63 lvX8_173 rfl rfl rfl rfl rfl rfl rfl ⟨rfl, rfl⟩ (s_X8_readsWalker hT1 g3 (by omega) g5 g10 g2 hR2) (fun z63 I63 L63 R63 hq63 => ?_)
          obtain ⟨rfl, d1, d2, d3, d4, rfl, rfl⟩ := hq63
          refine y_ifb_eq (tgt := 73) dX8_readsItem_66 (by decide) (fun h66 => ?_) (fun h66 => ?_)
          · refine x_iconst dX8_readsItem_73 ?_
            refine x_zret dX8_readsItem_74 rfl (by first | exact b01_z _ | omega) ?_
            first
            | exact fd _ _ (by omega) d1 d2 d3 d4
            | exact fw _ (by omega) d1 d2 d3 d4 _ (b01_t (by assumption))
            | exact fw _ (by omega) d1 d2 d3 d4 _ (b01_f (by assumption))
            | (have hi : itmP B R0 σ = (mnQ B 1 30 (σ.1 + 1), mnP B (σ.1 + 1), σ.2.1, σ.2.2.1, mnV B (σ.1 + 1)) := by
                 unfold itmP
                 rw [if_neg (by omega), if_pos (by omega)]
               rw [← hQ, hi]
               refine ⟨_, rfl, rfl, ⟨fun c j q => ?_, ?_, d1, ?_, ?_, d2, fun i q hq => ?_, fun i q hq => ?_, g9, g10⟩, rfl, rfl⟩
               · rw [d3 c j (fun r => q (by unfold rsc; omega))]; exact g1 c j q
               · rw [d3 0 19 (by omega)]; exact g2
               · rw [d3 0 20 (by omega)]; exact g4
               · rw [d3 0 21 (by omega)]; exact g5
               · rw [d3 9 _ (by omega), d3 9 _ (by omega), d3 9 _ (by omega)]; exact g7 i q hq
               · rw [d3 10 _ (by omega), d3 10 _ (by omega)]; exact g8 i q hq)
            | (have hi : itmP B R0 σ = (false, σ) := by
                 unfold itmP
                 rw [if_neg (by omega), if_neg (by omega), if_neg (by omega)]
               rw [← hQ, hi]
               exact ⟨_, rfl, b01_f (by simp), ⟨g1, g2, g3, g4, g5, g6, g7, g8, g9, g10⟩, rfl, rfl⟩)
          · refine x_iconst dX8_readsItem_69 ?_
            refine x_goto (tgt := 74) dX8_readsItem_70 (by decide) ?_
            refine x_zret dX8_readsItem_74 rfl (by first | exact b01_z _ | omega) ?_
            first
            | exact fd _ _ (by omega) d1 d2 d3 d4
            | exact fw _ (by omega) d1 d2 d3 d4 _ (b01_t (by assumption))
            | exact fw _ (by omega) d1 d2 d3 d4 _ (b01_f (by assumption))
            | (have hi : itmP B R0 σ = (mnQ B 1 30 (σ.1 + 1), mnP B (σ.1 + 1), σ.2.1, σ.2.2.1, mnV B (σ.1 + 1)) := by
                 unfold itmP
                 rw [if_neg (by omega), if_pos (by omega)]
               rw [← hQ, hi]
               refine ⟨_, rfl, rfl, ⟨fun c j q => ?_, ?_, d1, ?_, ?_, d2, fun i q hq => ?_, fun i q hq => ?_, g9, g10⟩, rfl, rfl⟩
               · rw [d3 c j (fun r => q (by unfold rsc; omega))]; exact g1 c j q
               · rw [d3 0 19 (by omega)]; exact g2
               · rw [d3 0 20 (by omega)]; exact g4
               · rw [d3 0 21 (by omega)]; exact g5
               · rw [d3 9 _ (by omega), d3 9 _ (by omega), d3 9 _ (by omega)]; exact g7 i q hq
               · rw [d3 10 _ (by omega), d3 10 _ (by omega)]; exact g8 i q hq)
            | (have hi : itmP B R0 σ = (false, σ) := by
                 unfold itmP
                 rw [if_neg (by omega), if_neg (by omega), if_neg (by omega)]
               rw [← hQ, hi]
               exact ⟨_, rfl, b01_f (by simp), ⟨g1, g2, g3, g4, g5, g6, g7, g8, g9, g10⟩, rfl, rfl⟩)
      · refine x_aload_n dX8_readsItem_47 0 rfl rfl ?_
        refine x_iload_n dX8_readsItem_48 1 rfl rfl ?_
        refine x_callVi (as := [_]) dX8_readsItem_49 lvX8_170 rfl rfl rfl rfl rfl rfl rfl ⟨rfl, rfl⟩ (s_X8_readsMinute hT1 g3 (by omega)) (fun z49 I49 L49 R49 hq49 => ?_)
        obtain ⟨rfl, d1, d2, d3, rfl, rfl⟩ := hq49
        refine x_goto (tgt := 74) dX8_readsItem_52 (by decide) ?_
        refine x_zret dX8_readsItem_74 rfl (by first | exact b01_z _ | omega) ?_
        first
        | exact fd _ _ (by omega) d1 d2 d3 d4
        | exact fw _ (by omega) d1 d2 d3 d4 _ (b01_t (by assumption))
        | exact fw _ (by omega) d1 d2 d3 d4 _ (b01_f (by assumption))
        | (have hi : itmP B R0 σ = (mnQ B 1 30 (σ.1 + 1), mnP B (σ.1 + 1), σ.2.1, σ.2.2.1, mnV B (σ.1 + 1)) := by
             unfold itmP
             rw [if_neg (by omega), if_pos (by omega)]
           rw [← hQ, hi]
           refine ⟨_, rfl, rfl, ⟨fun c j q => ?_, ?_, d1, ?_, ?_, d2, fun i q hq => ?_, fun i q hq => ?_, g9, g10⟩, rfl, rfl⟩
           · rw [d3 c j (fun r => q (by unfold rsc; omega))]; exact g1 c j q
           · rw [d3 0 19 (by omega)]; exact g2
           · rw [d3 0 20 (by omega)]; exact g4
           · rw [d3 0 21 (by omega)]; exact g5
           · rw [d3 9 _ (by omega), d3 9 _ (by omega), d3 9 _ (by omega)]; exact g7 i q hq
           · rw [d3 10 _ (by omega), d3 10 _ (by omega)]; exact g8 i q hq)
        | (have hi : itmP B R0 σ = (false, σ) := by
             unfold itmP
             rw [if_neg (by omega), if_neg (by omega), if_neg (by omega)]
           rw [← hQ, hi]
           exact ⟨_, rfl, b01_f (by simp), ⟨g1, g2, g3, g4, g5, g6, g7, g8, g9, g10⟩, rfl, rfl⟩)
    · refine x_aload_n dX8_readsItem_22 0 rfl rfl ?_
      refine x_iload_n dX8_readsItem_23 1 rfl rfl ?_
      refine x_iload_n dX8_readsItem_24 2 rfl rfl ?_
      refine x_bipush dX8_readsItem_25 (by decide) ?_
      refine x_ic_ne (tgt := 34) dX8_readsItem_27 (by decide) (by omega) (fun h27 => ?_) (fun h27 => ?_)
      · refine x_iconst dX8_readsItem_34 ?_
        refine x_callVi (as := [_, _]) dX8_readsItem_35 lvX8_167 rfl rfl rfl rfl rfl rfl rfl ⟨rfl, rfl⟩ (s_X8_readsDoor hT1 g3 (by omega) g4 g9 g2 hR2) (fun z35 I35 L35 R35 hq35 => ?_)
        obtain ⟨rfl, d1, d2, d3, d4, rfl, rfl⟩ := hq35
        refine x_goto (tgt := 74) dX8_readsItem_38 (by decide) ?_
        refine x_zret dX8_readsItem_74 rfl (by first | exact b01_z _ | omega) ?_
        first
        | exact fd _ _ (by omega) d1 d2 d3 d4
        | exact fw _ (by omega) d1 d2 d3 d4 _ (b01_t (by assumption))
        | exact fw _ (by omega) d1 d2 d3 d4 _ (b01_f (by assumption))
        | (have hi : itmP B R0 σ = (mnQ B 1 30 (σ.1 + 1), mnP B (σ.1 + 1), σ.2.1, σ.2.2.1, mnV B (σ.1 + 1)) := by
             unfold itmP
             rw [if_neg (by omega), if_pos (by omega)]
           rw [← hQ, hi]
           refine ⟨_, rfl, rfl, ⟨fun c j q => ?_, ?_, d1, ?_, ?_, d2, fun i q hq => ?_, fun i q hq => ?_, g9, g10⟩, rfl, rfl⟩
           · rw [d3 c j (fun r => q (by unfold rsc; omega))]; exact g1 c j q
           · rw [d3 0 19 (by omega)]; exact g2
           · rw [d3 0 20 (by omega)]; exact g4
           · rw [d3 0 21 (by omega)]; exact g5
           · rw [d3 9 _ (by omega), d3 9 _ (by omega), d3 9 _ (by omega)]; exact g7 i q hq
           · rw [d3 10 _ (by omega), d3 10 _ (by omega)]; exact g8 i q hq)
        | (have hi : itmP B R0 σ = (false, σ) := by
             unfold itmP
             rw [if_neg (by omega), if_neg (by omega), if_neg (by omega)]
           rw [← hQ, hi]
           exact ⟨_, rfl, b01_f (by simp), ⟨g1, g2, g3, g4, g5, g6, g7, g8, g9, g10⟩, rfl, rfl⟩)
      · refine x_iconst dX8_readsItem_30 ?_
        refine x_goto (tgt := 35) dX8_readsItem_31 (by decide) ?_
        refine x_callVi (as := [_, _]) dX8_readsItem_35 lvX8_167 rfl rfl rfl rfl rfl rfl rfl ⟨rfl, rfl⟩ (s_X8_readsDoor hT1 g3 (by omega) g4 g9 g2 hR2) (fun z35 I35 L35 R35 hq35 => ?_)
        obtain ⟨rfl, d1, d2, d3, d4, rfl, rfl⟩ := hq35
        refine x_goto (tgt := 74) dX8_readsItem_38 (by decide) ?_
        refine x_zret dX8_readsItem_74 rfl (by first | exact b01_z _ | omega) ?_
        first
        | exact fd _ _ (by omega) d1 d2 d3 d4
        | exact fw _ (by omega) d1 d2 d3 d4 _ (b01_t (by assumption))
        | exact fw _ (by omega) d1 d2 d3 d4 _ (b01_f (by assumption))
        | (have hi : itmP B R0 σ = (mnQ B 1 30 (σ.1 + 1), mnP B (σ.1 + 1), σ.2.1, σ.2.2.1, mnV B (σ.1 + 1)) := by
             unfold itmP
             rw [if_neg (by omega), if_pos (by omega)]
           rw [← hQ, hi]
           refine ⟨_, rfl, rfl, ⟨fun c j q => ?_, ?_, d1, ?_, ?_, d2, fun i q hq => ?_, fun i q hq => ?_, g9, g10⟩, rfl, rfl⟩
           · rw [d3 c j (fun r => q (by unfold rsc; omega))]; exact g1 c j q
           · rw [d3 0 19 (by omega)]; exact g2
           · rw [d3 0 20 (by omega)]; exact g4
           · rw [d3 0 21 (by omega)]; exact g5
           · rw [d3 9 _ (by omega), d3 9 _ (by omega), d3 9 _ (by omega)]; exact g7 i q hq
           · rw [d3 10 _ (by omega), d3 10 _ (by omega)]; exact g8 i q hq)
        | (have hi : itmP B R0 σ = (false, σ) := by
             unfold itmP
             rw [if_neg (by omega), if_neg (by omega), if_neg (by omega)]
           rw [← hQ, hi]
           exact ⟨_, rfl, b01_f (by simp), ⟨g1, g2, g3, g4, g5, g6, g7, g8, g9, g10⟩, rfl, rfl⟩)
set_option maxHeartbeats 2000000 in
theorem s_X8_houseFault  (hT : RT t B I) (hs : 0 ≤ I 5 t) : Sp G mtX8_houseFault [mr 0, mi t] shM I L rM (qi (fun z I' L' R' => z = (houF B (I 5 t).toNat).1 ∧ RE I I' ∧ L = L' ∧ R' = rM ∧ (z = -9 → HR I (houF B (I 5 t).toNat).2.1 (houF B (I 5 t).toNat).2.2 I'))) := by
  refine Sp.of pnX8_houseFault rfl ?_
  show Rn G mtX8_houseFault _ 0 [(0, mr 0), (1, mi t)] [] shM I L rM
  generalize hQ : (qi (fun z I' L' R' => z = (houF B (I 5 t).toNat).1 ∧ RE I I' ∧ L = L' ∧ R' = rM ∧ (z = -9 → HR I (houF B (I 5 t).toNat).2.1 (houF B (I 5 t).toNat).2.2 I'))) = Q
  have hsz := hT.1.1 t hT.2.1.1 hT.2.1.2
  have ht3 := hT.2.1
  have hz0 : ∀ i : Nat, I 5 t ≤ i → B i = 0 := fun i hi => hT.z hi
  have hsk := fun p => skF_r B hz0 100 p
  have s0 := hsk 0
  have s2 := hsk (skp B 0 + 2)
  have e0 : skp B 0 = skF B 100 0 := rfl
  have e2 : skp B (skp B 0 + 2) = skF B 100 (skp B 0 + 2) := rfl
  have r1 := hT.r (skp B 0 + 1)
  obtain ⟨I1, hI1⟩ : ∃ I1 : MI, I1 = m_up (m_up (m_up (m_up I 0 17 0) 0 20 0) 0 21 0) 0 22 12 := ⟨_, rfl⟩
  have q17 : I1 0 17 = ((0 : Nat) : Int) := by rw [hI1, m_up_nj (by decide), m_up_nj (by decide), m_up_nj (by decide), m_up_eq]; rfl
  have q20 : I1 0 20 = 0 := by rw [hI1, m_up_nj (by decide), m_up_nj (by decide), m_up_eq]
  have q21 : I1 0 21 = 0 := by rw [hI1, m_up_nj (by decide), m_up_eq]
  have q22 : I1 0 22 = 12 := by rw [hI1, m_up_eq]
  have qE : RE I I1 := by rw [hI1]; exact ((((RE.rf I).up (by unfold rsc; omega)).up (by unfold rsc; omega)).up (by unfold rsc; omega)).up (by unfold rsc; omega)
  have hT1 : RT t B I1 := qE.rt hT
  have loop : ∀ (R0 : Int) (n : Nat) (σ : HS) (J : MI), 1 ≤ R0 ∧ R0 ≤ 6 → HR I R0 σ J → σ.1 ≤ 200 → (σ.1 ≤ 100 ∨ I 5 t ≤ σ.1) → (I 5 t - σ.1 < (n : Int) ∧ 0 < n) → (houF B (I 5 t).toNat).1 = (houL B R0 (I 5 t).toNat n σ).1 → (houF B (I 5 t).toNat).2.1 = R0 → (houF B (I 5 t).toNat).2.2 = (houL B R0 (I 5 t).toNat n σ).2 → Rn G mtX8_houseFault Q 65 [(0, mr 0), (1, mi t)] [] shM J L rM := by
    intro R0 n
    induction n with
    | zero => intro σ J _ _ _ _ h; omega
    | succ n ih =>
      intro σ J hR hJ hp hp2 hn hf1 hf2 hf3
      have hTJ : RT t B J := hJ.rt hT
      have j5 : J 5 t = I 5 t := hJ.1 5 t (by unfold rsc; omega)
      have j17 := hJ.2.2.1
      have hir := itmP_r B R0 σ
      have his := itmP_s B R0 σ
      have s3 := hsk (itmP B R0 σ).2.1
      have e3 : skp B (itmP B R0 σ).2.1 = skF B 100 (itmP B R0 σ).2.1 := rfl
      refine x_aload_n dX8_houseFault_65 0 rfl rfl ?_
      refine x_getI dX8_houseFault_66 flX8_136 rfl rfl ?_
      rw [j17]
      refine x_aload_n dX8_houseFault_69 0 rfl rfl ?_
      refine x_getR dX8_houseFault_70 flX8_22 rfl rfl rfl ?_
      refine x_iload_n dX8_houseFault_73 1 rfl rfl ?_
      refine x_iald dX8_houseFault_74 rfl (by omega) ?_
      rw [j5]
      refine x_ic_ge (tgt := 99) dX8_houseFault_75 (by decide) (by omega) (fun h75 => ?_) (fun h75 => ?_)
      · refine x_bipush dX8_houseFault_99 (by decide) ?_
        refine x_iret dX8_houseFault_101 rfl ?_
        rw [houL_e (by omega)] at hf1 hf3
        rw [← hQ]
        refine ⟨_, rfl, hf1.symm, hJ.1, rfl, rfl, fun _ => ?_⟩
        rw [hf2, hf3]
        exact hJ
      · refine x_aload_n dX8_houseFault_78 0 rfl rfl ?_
        refine x_iload_n dX8_houseFault_79 1 rfl rfl ?_
        refine x_callVi (as := [_]) dX8_houseFault_80 lvX8_180 rfl rfl rfl rfl rfl rfl rfl ⟨rfl, rfl⟩ (s_X8_readsItem hT hJ (by omega) hR) (fun z80 I80 L80 R80 hq80 => ?_)
        obtain ⟨rfl, hH2, rfl, rfl⟩ := hq80
        refine y_ifb_ne (tgt := 91) dX8_houseFault_83 (by decide) (fun h83 => ?_) (fun h83 => ?_)
        · have hok : (itmP B R0 σ).1 = true := by assumption
          refine x_aload_n dX8_houseFault_91 0 rfl rfl ?_
          refine x_iload_n dX8_houseFault_92 1 rfl rfl ?_
          refine x_callVv (as := [_]) dX8_houseFault_93 lvX8_176 rfl rfl rfl rfl rfl rfl rfl ⟨rfl, rfl⟩ (s_X8_pass (p := (itmP B R0 σ).2.1) (B := B) (hH2.rt hT) hH2.2.2.1 (by omega)) (fun I93 L93 R93 hq93 => ?_)
          obtain ⟨hI93, rfl, rfl⟩ := hq93
          obtain ⟨a93, c93⟩ := fr_sig hI93
          refine x_goto (tgt := 65) dX8_houseFault_96 (by decide) ?_
          rw [houL_t (by omega) hok] at hf1 hf3
          refine ih _ _ hR ?_ ?_ ?_ ?_ hf1 hf2 hf3
          · obtain ⟨g1, g2, g3, g4, g5, g6, g7, g8, g9, g10⟩ := hH2
            exact ⟨g1.tr c93.re, by rw [c93 0 19 (by omega)]; exact g2, a93, by rw [c93 0 20 (by omega)]; exact g4, by rw [c93 0 21 (by omega)]; exact g5, by rw [c93 0 22 (by omega)]; exact g6, fun i q hq => by rw [c93 9 _ (by omega), c93 9 _ (by omega), c93 9 _ (by omega)]; exact g7 i q hq, fun i q hq => by rw [c93 10 _ (by omega), c93 10 _ (by omega)]; exact g8 i q hq, g9, g10⟩
          · simp only; omega
          · simp only; omega
          · have := his hok
            simp only
            omega
        · refine x_aload_n dX8_houseFault_86 0 rfl rfl ?_
          refine x_getI dX8_houseFault_87 flX8_136 rfl rfl ?_
          refine x_iret dX8_houseFault_90 rfl ?_
          rw [houL_f (by omega) (by assumption)] at hf1
          rw [← hQ]
          refine ⟨_, rfl, ?_, hH2.1, rfl, rfl, fun q => ?_⟩
          · rw [hf1, hH2.2.2.1]
          · rw [hH2.2.2.1] at q; omega
  refine x_aload_n dX8_houseFault_0 0 rfl rfl ?_
  refine x_iconst dX8_houseFault_1 ?_
  refine x_putI dX8_houseFault_2 flX8_136 rfl rfl rfl ?_
  refine x_aload_n dX8_houseFault_5 0 rfl rfl ?_
  refine x_iconst dX8_houseFault_6 ?_
  refine x_putI dX8_houseFault_7 flX8_145 rfl rfl rfl ?_
  refine x_aload_n dX8_houseFault_10 0 rfl rfl ?_
  refine x_iconst dX8_houseFault_11 ?_
  refine x_putI dX8_houseFault_12 flX8_158 rfl rfl rfl ?_
  refine x_aload_n dX8_houseFault_15 0 rfl rfl ?_
  refine x_bipush dX8_houseFault_16 (by decide) ?_
  refine x_putI dX8_houseFault_18 flX8_164 rfl rfl rfl ?_
  rw [← hI1]
  refine x_aload_n dX8_houseFault_21 0 rfl rfl ?_
  refine x_iload_n dX8_houseFault_22 1 rfl rfl ?_
  refine x_callVv (as := [_]) dX8_houseFault_23 lvX8_176 rfl rfl rfl rfl rfl rfl rfl ⟨rfl, rfl⟩ (s_X8_pass (p := 0) (B := B) hT1 q17 (by omega)) (fun I23 L23 R23 hq23 => ?_)
  obtain ⟨hI23, rfl, rfl⟩ := hq23
  obtain ⟨a23, c23⟩ := fr_sig hI23
  have hT23 : RT t B I23 := c23.rt hT1
  refine x_aload_n dX8_houseFault_26 0 rfl rfl ?_
  refine x_iload_n dX8_houseFault_27 1 rfl rfl ?_
  refine x_bipush dX8_houseFault_28 (by decide) ?_
  refine x_callVi (as := [_, _]) dX8_houseFault_30 lvX8_154 rfl rfl rfl rfl rfl rfl rfl ⟨rfl, rfl⟩ (s_X8_sign (p := skp B 0) (B := B) hT23 a23 (by omega) (by omega)) (fun z30 I30 L30 R30 hq30 => ?_)
  obtain ⟨rfl, hI30, rfl, rfl⟩ := hq30
  obtain ⟨a30, c30⟩ := fr_sig hI30
  refine y_ifb_eq (tgt := 47) dX8_houseFault_33 (by decide) (fun h33 => ?_) (fun h33 => ?_)
  · refine x_aload_n dX8_houseFault_47 0 rfl rfl ?_
    refine x_getI dX8_houseFault_48 flX8_136 rfl rfl ?_
    refine x_iret dX8_houseFault_51 rfl ?_
    rw [← hQ]
    first
    | (have x : ¬ B (skp B 0) = 114 := by assumption
       have hh : houF B (I 5 t).toNat = (((skp B 0 : Nat) : Int), 0, (0, [], [], 12)) := by unfold houF; rw [if_pos x]
       rw [sgP_f x] at a30
       rw [hh, a30]
       exact ⟨_, rfl, rfl, qE.tr (c23.tr c30).re, rfl, rfl, fun q => by exfalso; omega⟩)
    | (have x : B (skp B 0) = 114 := by assumption
       have x2 : fgQ B 1 6 (skp B 0 + 1) = false := by rw [← Bool.not_eq_true]; assumption
       have hh : houF B (I 5 t).toNat = (((skp B 0 + 1 : Nat) : Int), 0, (0, [], [], 12)) := by unfold houF; rw [if_neg (by omega), if_pos x2]
       rw [if_neg (by assumption)] at a41
       rw [hh, a41]
       exact ⟨_, rfl, rfl, qE.tr (k30.tr c41).re, rfl, rfl, fun q => by exfalso; omega⟩)
  · rw [sgP_t (by assumption)] at a30
    have k30 : RS I1 I30 := c23.tr c30
    have hT30 : RT t B I30 := k30.rt hT1
    refine x_aload_n dX8_houseFault_36 0 rfl rfl ?_
    refine x_iload_n dX8_houseFault_37 1 rfl rfl ?_
    refine x_iconst dX8_houseFault_38 ?_
    refine x_bipush dX8_houseFault_39 (by decide) ?_
    refine x_callVi (as := [_, _, _]) dX8_houseFault_41 lvX8_151 rfl rfl rfl rfl rfl rfl rfl ⟨rfl, rfl⟩ (s_X8_figure (p := skp B 0 + 1) (B := B) hT30 a30 (by omega) (by omega) (by omega)) (fun z41 I41 L41 R41 hq41 => ?_)
    obtain ⟨rfl, hI41, rfl, rfl⟩ := hq41
    obtain ⟨a41, b41, c41⟩ := fr_fig hI41
    refine y_ifb_ne (tgt := 52) dX8_houseFault_44 (by decide) (fun h44 => ?_) (fun h44 => ?_)
    · have fq : fgQ B 1 6 (skp B 0 + 1) = true := by assumption
      have f1 := fgQ_r fq
      rw [if_pos fq] at a41
      have k41 : RS I1 I41 := k30.tr c41
      refine x_aload_n dX8_houseFault_52 0 rfl rfl ?_
      refine x_aload_n dX8_houseFault_53 0 rfl rfl ?_
      refine x_getI dX8_houseFault_54 flX8_142 rfl rfl ?_
      rw [b41]
      have hT41 : RT t B (m_up I41 0 19 (B (skp B 0 + 1) - 48)) := (k41.rt hT1).up (by decide) (by decide) _ _
      refine x_putI dX8_houseFault_57 flX8_148 rfl rfl rfl ?_
      refine x_aload_n dX8_houseFault_60 0 rfl rfl ?_
      refine x_iload_n dX8_houseFault_61 1 rfl rfl ?_
      refine x_callVv (as := [_]) dX8_houseFault_62 lvX8_176 rfl rfl rfl rfl rfl rfl rfl ⟨rfl, rfl⟩ (s_X8_pass (p := skp B 0 + 1 + 1) (B := B) hT41 (by rw [m_up_nj (by decide)]; exact a41) (by omega)) (fun I62 L62 R62 hq62 => ?_)
      obtain ⟨hI62, rfl, rfl⟩ := hq62
      obtain ⟨a62, c62⟩ := fr_sig hI62
      have hh : houF B (I 5 t).toNat = ((houL B (B (skp B 0 + 1) - 48) (I 5 t).toNat 81 (skp B (skp B 0 + 2), [], [], 12)).1, B (skp B 0 + 1) - 48, (houL B (B (skp B 0 + 1) - 48) (I 5 t).toNat 81 (skp B (skp B 0 + 2), [], [], 12)).2) := by
        unfold houF
        rw [if_neg (by omega), if_neg (by rw [fq]; decide)]
      refine loop (B (skp B 0 + 1) - 48) 81 (skp B (skp B 0 + 2), [], [], 12) _ (by omega) ⟨?_, ?_, a62, ?_, ?_, ?_, fun i q hq => by simp at hq, fun i q hq => by simp at hq, by simp, by simp⟩ (by simp only; omega) (by simp only; omega) (by simp only; omega) (by rw [hh]) (by rw [hh]) (by rw [hh])
      · exact (qE.tr (k41.re.up (by unfold rsc; omega))).tr c62.re
      · rw [c62 0 19 (by omega), m_up_eq]
      · rw [c62 0 20 (by omega), m_up_nj (by decide), k41 0 20 (by omega), q20]; rfl
      · rw [c62 0 21 (by omega), m_up_nj (by decide), k41 0 21 (by omega), q21]; rfl
      · rw [c62 0 22 (by omega), m_up_nj (by decide), k41 0 22 (by omega), q22]
    · refine x_aload_n dX8_houseFault_47 0 rfl rfl ?_
      refine x_getI dX8_houseFault_48 flX8_136 rfl rfl ?_
      refine x_iret dX8_houseFault_51 rfl ?_
      rw [← hQ]
      first
      | (have x : ¬ B (skp B 0) = 114 := by assumption
         have hh : houF B (I 5 t).toNat = (((skp B 0 : Nat) : Int), 0, (0, [], [], 12)) := by unfold houF; rw [if_pos x]
         rw [sgP_f x] at a30
         rw [hh, a30]
         exact ⟨_, rfl, rfl, qE.tr (c23.tr c30).re, rfl, rfl, fun q => by exfalso; omega⟩)
      | (have x : B (skp B 0) = 114 := by assumption
         have x2 : fgQ B 1 6 (skp B 0 + 1) = false := by rw [← Bool.not_eq_true]; assumption
         have hh : houF B (I 5 t).toNat = (((skp B 0 + 1 : Nat) : Int), 0, (0, [], [], 12)) := by unfold houF; rw [if_neg (by omega), if_pos x2]
         rw [if_neg (by assumption)] at a41
         rw [hh, a41]
         exact ⟨_, rfl, rfl, qE.tr (k30.tr c41).re, rfl, rfl, fun q => by exfalso; omega⟩)
end

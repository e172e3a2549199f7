/-! THE REFERENCE'S QUESTIONS, part four. -/
theorem wyM_sg {κ : MI} {w : Nat} {r n k : Int} : Sg κ (wyM κ w r n k κ) := by
  constructor
  · intro c j h
    unfold wyM
    rw [if_neg (by omega), if_neg (by omega)]
  · intro j h
    unfold wyM
    rw [if_neg (by omega), if_neg (by omega)]
section
variable {G : GT} {sh : MS} {I L : MI} {R : MR} {κ : MI}

theorem s_X8_keepsRoom {w : Nat} {r : Int} {V : Nat → Int} (h0 : E1 κ I) (hH : iHs κ) (hS : iSc κ) (hw : w < 3) (hr : rI r) (hr2 : ∀ x, -1 ≤ V x ∧ V x ≤ 40) (hV : ∀ x : Nat, x < nst κ → I 24 (x : Int) = V x) : Sp G mtX8_keepsRoom [mr 0, mi ↑w, mi r] shM I L rM (qi (fun z I' L' R' => z = b01 (anv (keF V w r) (nst κ) = true) ∧ (∀ c j, c ≠ 24 → I' c j = I c j) ∧ (∀ x : Nat, x < nst κ → I' 24 (x : Int) = keF V w r x) ∧ L = L' ∧ R' = rM)) := by
  refine Sp.of pnX8_keepsRoom rfl ?_
  show Rn G mtX8_keepsRoom _ 0 [(0, mr 0), (1, mi ↑w), (2, mi r)] [] shM I L rM
  generalize hQ : (qi (fun z I' L' R' => z = b01 (anv (keF V w r) (nst κ) = true) ∧ (∀ c j, c ≠ 24 → I' c j = I c j) ∧ (∀ x : Nat, x < nst κ → I' 24 (x : Int) = keF V w r x) ∧ L = L' ∧ R' = rM)) = Q
  have hu := us_le hH hS
  have hnn := (nst_le hH hS).2
  have hT := hH.2.2.2.1
  have hlt : (lst κ : Int) = κ 0 14 := by unfold lst; omega
  have loop : ∀ s : Nat, s ≤ nst κ → ∀ (J : MI) (c : Int), E1 κ J → (∀ c j, c ≠ 24 → J c j = I c j) → (∀ x : Nat, x < s → J 24 (x : Int) = keF V w r x) → (∀ x : Nat, s ≤ x → x < nst κ → J 24 (x : Int) = V x) → c = b01 (anv (keF V w r) s = true) → Rn G mtX8_keepsRoom Q 5 [(0, mr 0), (1, mi ↑w), (2, mi r), (3, mi c), (4, mi (s : Int))] [] shM J L rM := by
    refine lpn _ (fun s hs ih => ?_) ?_
    · intro J c hJ hK hA hB hc
      have hc2 : 0 ≤ c ∧ c ≤ 1 := by rw [hc]; exact b01_r _
      have hb := hB s (Nat.le_refl _) hs
      have hvr := hr2 s
      have hrm := rm_lt (w := w) (show s < 1728 by omega)
      have j2 : ∀ x : Int, x = keF V w r s → Rn G mtX8_keepsRoom Q 46 [(0, mr 0), (1, mi ↑w), (2, mi r), (3, mi c), (4, mi (s : Int))] [mi x, mi (s : Int), mr 24] shM J L rM := by
        intro x hx
        have hxr := keF_r (V := V) (w := w) (r := r) s
        have nx : ∀ v : Int, (v = 1 ∧ (c ≠ 0 ∨ 0 ≤ x) ∨ v = 0 ∧ c = 0 ∧ ¬ 0 ≤ x) → v = b01 (anv (keF V w r) (s + 1) = true) := by
          intro v hv
          rw [hx] at hv
          rcases hv with ⟨rfl, hv⟩ | ⟨rfl, hv, hv2⟩
          · apply b01_t
            unfold anv
            rw [Bool.or_eq_true, decide_eq_true_eq]
            rcases hv with hv | hv
            · exact Or.inl (b01_ne.mp (by rw [← hc]; exact hv))
            · exact Or.inr hv
          · apply b01_f
            unfold anv
            rw [Bool.or_eq_true, decide_eq_true_eq]
            rintro (h | h)
            · exact (b01_eq.mp (by rw [← hc]; exact hv)) h
            · exact hv2 h
        refine x_iast dX8_keepsRoom_46 rfl (by omega) ?_
        refine x_iload_n dX8_keepsRoom_47 3 rfl rfl ?_
        refine x_if_ne (tgt := 61) dX8_keepsRoom_48 (by decide) (by omega) (fun h48 => ?_) (fun h48 => ?_)
        · refine x_iconst dX8_keepsRoom_61 ?_
          refine x_goto (tgt := 66) dX8_keepsRoom_62 (by decide) ?_
          refine x_istore_n (lv' := [(0, _), (1, _), (2, _), (3, _), (4, _)]) dX8_keepsRoom_66 rfl rfl rfl ?_
          refine x_iinc (lv' := [(0, _), (1, _), (2, _), (3, _), (4, _)]) dX8_keepsRoom_67 4 rfl rfl rfl ?_
          refine x_goto (tgt := 5) dX8_keepsRoom_70 (by decide) ?_
          refine ih _ _ (hJ.up (by unfold sce per; omega)) (fun c j q => by rw [m_up_ne q]; exact hK c j q) (fun y hy => ?_) (fun y hy hy2 => by rw [m_up_nj (by omega)]; exact hB y (by omega) hy2) (nx _ (by omega))
          by_cases e : y = s
          · subst e; rw [m_up_eq]; exact hx
          · rw [m_up_nj (by omega)]; exact hA y (by omega)
        · refine x_aload_n dX8_keepsRoom_51 0 rfl rfl ?_
          refine x_getR dX8_keepsRoom_52 flX8_82 rfl rfl rfl ?_
          refine x_iload dX8_keepsRoom_55 4 rfl ?_
          refine y_iald dX8_keepsRoom_57 rfl (by omega) (rfl) ?_
          rw [m_up_eq]
          refine x_if_lt (tgt := 65) dX8_keepsRoom_58 (by decide) (by omega) (fun h58 => ?_) (fun h58 => ?_)
          · refine x_iconst dX8_keepsRoom_65 ?_
            refine x_istore_n (lv' := [(0, _), (1, _), (2, _), (3, _), (4, _)]) dX8_keepsRoom_66 rfl rfl rfl ?_
            refine x_iinc (lv' := [(0, _), (1, _), (2, _), (3, _), (4, _)]) dX8_keepsRoom_67 4 rfl rfl rfl ?_
            refine x_goto (tgt := 5) dX8_keepsRoom_70 (by decide) ?_
            refine ih _ _ (hJ.up (by unfold sce per; omega)) (fun c j q => by rw [m_up_ne q]; exact hK c j q) (fun y hy => ?_) (fun y hy hy2 => by rw [m_up_nj (by omega)]; exact hB y (by omega) hy2) (nx _ (by omega))
            by_cases e : y = s
            · subst e; rw [m_up_eq]; exact hx
            · rw [m_up_nj (by omega)]; exact hA y (by omega)
          · refine x_iconst dX8_keepsRoom_61 ?_
            refine x_goto (tgt := 66) dX8_keepsRoom_62 (by decide) ?_
            refine x_istore_n (lv' := [(0, _), (1, _), (2, _), (3, _), (4, _)]) dX8_keepsRoom_66 rfl rfl rfl ?_
            refine x_iinc (lv' := [(0, _), (1, _), (2, _), (3, _), (4, _)]) dX8_keepsRoom_67 4 rfl rfl rfl ?_
            refine x_goto (tgt := 5) dX8_keepsRoom_70 (by decide) ?_
            refine ih _ _ (hJ.up (by unfold sce per; omega)) (fun c j q => by rw [m_up_ne q]; exact hK c j q) (fun y hy => ?_) (fun y hy hy2 => by rw [m_up_nj (by omega)]; exact hB y (by omega) hy2) (nx _ (by omega))
            by_cases e : y = s
            · subst e; rw [m_up_eq]; exact hx
            · rw [m_up_nj (by omega)]; exact hA y (by omega)
      refine x_iload dX8_keepsRoom_5 4 rfl ?_
      refine x_aload_n dX8_keepsRoom_7 0 rfl rfl ?_
      refine x_callVi (as := []) dX8_keepsRoom_8 lvX8_286 rfl rfl rfl rfl rfl rfl rfl ⟨rfl, rfl⟩ (s_X8_states hJ hH hS) (fun z8 I8 L8 R8 hq8 => ?_)
      obtain ⟨rfl, rfl, rfl, rfl⟩ := hq8
      refine x_ic_ge (tgt := 73) dX8_keepsRoom_11 (by decide) (by omega) (fun h11 => ?_) (fun h11 => ?_)
      · exfalso; omega
      · refine x_aload_n dX8_keepsRoom_14 0 rfl rfl ?_
        refine x_getR dX8_keepsRoom_15 flX8_82 rfl rfl rfl ?_
        refine x_iload dX8_keepsRoom_18 4 rfl ?_
        refine x_aload_n dX8_keepsRoom_20 0 rfl rfl ?_
        refine x_getR dX8_keepsRoom_21 flX8_82 rfl rfl rfl ?_
        refine x_iload dX8_keepsRoom_24 4 rfl ?_
        refine x_iald dX8_keepsRoom_26 rfl (by omega) ?_
        refine x_if_lt (tgt := 45) dX8_keepsRoom_27 (by decide) (by omega) (fun h27 => ?_) (fun h27 => ?_)
        · refine x_iconst dX8_keepsRoom_45 ?_
          refine j2 _ ?_
          unfold keF
          first | (rw [if_pos (by omega)]) | (rw [if_neg (by omega)])
        · refine x_aload_n dX8_keepsRoom_30 0 rfl rfl ?_
          refine x_iload dX8_keepsRoom_31 4 rfl ?_
          refine x_iload_n dX8_keepsRoom_33 1 rfl rfl ?_
          refine x_callVi (as := [_, _]) dX8_keepsRoom_34 lvX8_261 rfl rfl rfl rfl rfl rfl rfl ⟨rfl, rfl⟩ (s_X8_roomOf (by omega) (by omega)) (fun z34 I34 L34 R34 hq34 => ?_)
          obtain ⟨rfl, rfl, rfl, rfl⟩ := hq34
          refine x_iload_n dX8_keepsRoom_37 2 rfl rfl ?_
          refine x_ic_ne (tgt := 45) dX8_keepsRoom_38 (by decide) (by omega) (fun h38 => ?_) (fun h38 => ?_)
          · refine x_iconst dX8_keepsRoom_45 ?_
            refine j2 _ ?_
            unfold keF
            first | (rw [if_pos (by omega)]) | (rw [if_neg (by omega)])
          · refine x_iconst dX8_keepsRoom_41 ?_
            refine x_goto (tgt := 46) dX8_keepsRoom_42 (by decide) ?_
            refine j2 _ ?_
            unfold keF
            first | (rw [if_pos (by omega)]) | (rw [if_neg (by omega)])
    · intro J c hJ hK hA hB hc
      refine x_iload dX8_keepsRoom_5 4 rfl ?_
      refine x_aload_n dX8_keepsRoom_7 0 rfl rfl ?_
      refine x_callVi (as := []) dX8_keepsRoom_8 lvX8_286 rfl rfl rfl rfl rfl rfl rfl ⟨rfl, rfl⟩ (s_X8_states hJ hH hS) (fun z8 I8 L8 R8 hq8 => ?_)
      obtain ⟨rfl, rfl, rfl, rfl⟩ := hq8
      refine x_ic_ge (tgt := 73) dX8_keepsRoom_11 (by decide) (by omega) (fun h11 => ?_) (fun h11 => ?_)
      · refine x_iload_n dX8_keepsRoom_73 3 rfl rfl ?_
        refine x_zret dX8_keepsRoom_74 rfl (by rw [hc]; exact b01_z _) ?_
        rw [← hQ]
        exact ⟨_, rfl, hc, hK, hA, rfl, rfl⟩
      · exfalso; omega
  refine x_iconst dX8_keepsRoom_0 ?_
  refine x_istore_n (lv' := [(0, _), (1, _), (2, _), (3, _)]) dX8_keepsRoom_1 rfl rfl rfl ?_
  refine x_iconst dX8_keepsRoom_2 ?_
  refine x_istore (lv' := [(0, _), (1, _), (2, _), (3, _), (4, _)]) dX8_keepsRoom_3 rfl rfl ?_
  exact loop 0 (by omega) I _ h0 (fun _ _ _ => rfl) (fun x hx => by omega) (fun x _ hx => hV x hx) (b01_f (by unfold anv; decide))
theorem s_X8_leastRoom {w : Nat} {V : Nat → Int} (h0 : E1 κ I) (hH : iHs κ) (hS : iSc κ) (hw : w < 3) (hr2 : ∀ x, -1 ≤ V x ∧ V x ≤ 40) (hV : ∀ x : Nat, x < nst κ → I 24 (x : Int) = V x) : Sp G mtX8_leastRoom [mr 0, mi ↑w] shM I L rM (qi (pu (leF V w (nst κ)) I L rM)) := by
  refine Sp.of pnX8_leastRoom rfl ?_
  show Rn G mtX8_leastRoom _ 0 [(0, mr 0), (1, mi ↑w)] [] shM I L rM
  generalize hQ : (qi (pu (leF V w (nst κ)) I L rM)) = Q
  have hu := us_le hH hS
  have hnn := (nst_le hH hS).2
  have hT := hH.2.2.2.1
  have hlt : (lst κ : Int) = κ 0 14 := by unfold lst; omega
  have loop : ∀ s : Nat, s ≤ nst κ → Rn G mtX8_leastRoom Q 5 [(0, mr 0), (1, mi ↑w), (2, mi (leF V w s)), (3, mi (s : Int))] [] shM I L rM := by
    refine lpn _ (fun s hs ih => ?_) ?_
    · have hv := hV s hs
      have hvr := hr2 s
      have hle := leF_r V w s (by omega)
      have hrm := rm_lt (w := w) (show s < 1728 by omega)
      refine x_iload_n dX8_leastRoom_5 3 rfl rfl ?_
      refine x_aload_n dX8_leastRoom_6 0 rfl rfl ?_
      refine x_callVi (as := []) dX8_leastRoom_7 lvX8_286 rfl rfl rfl rfl rfl rfl rfl ⟨rfl, rfl⟩ (s_X8_states h0 hH hS) (fun z7 I7 L7 R7 hq7 => ?_)
      obtain ⟨rfl, rfl, rfl, rfl⟩ := hq7
      refine x_ic_ge (tgt := 49) dX8_leastRoom_10 (by decide) (by omega) (fun h10 => ?_) (fun h10 => ?_)
      · exfalso; omega
      · refine x_aload_n dX8_leastRoom_13 0 rfl rfl ?_
        refine x_getR dX8_leastRoom_14 flX8_82 rfl rfl rfl ?_
        refine x_iload_n dX8_leastRoom_17 3 rfl rfl ?_
        refine x_iald dX8_leastRoom_18 rfl (by omega) ?_
        refine x_if_lt (tgt := 41) dX8_leastRoom_19 (by decide) (by omega) (fun h19 => ?_) (fun h19 => ?_)
        · refine x_iload_n dX8_leastRoom_41 2 rfl rfl ?_
          refine x_istore_n (lv' := [(0, _), (1, _), (2, _), (3, _)]) dX8_leastRoom_42 rfl rfl rfl ?_
          refine x_iinc (lv' := [(0, _), (1, _), (2, _), (3, _)]) dX8_leastRoom_43 3 rfl rfl rfl ?_
          refine x_goto (tgt := 5) dX8_leastRoom_46 (by decide) ?_
          unfold leF at ih
          first | (rw [if_pos (by omega)] at ih; exact ih) | (rw [if_neg (by omega)] at ih; exact ih)
        · refine x_aload_n dX8_leastRoom_22 0 rfl rfl ?_
          refine x_iload_n dX8_leastRoom_23 3 rfl rfl ?_
          refine x_iload_n dX8_leastRoom_24 1 rfl rfl ?_
          refine x_callVi (as := [_, _]) dX8_leastRoom_25 lvX8_261 rfl rfl rfl rfl rfl rfl rfl ⟨rfl, rfl⟩ (s_X8_roomOf (by omega) (by omega)) (fun z25 I25 L25 R25 hq25 => ?_)
          obtain ⟨rfl, rfl, rfl, rfl⟩ := hq25
          refine x_iload_n dX8_leastRoom_28 2 rfl rfl ?_
          refine x_ic_ge (tgt := 41) dX8_leastRoom_29 (by decide) (by omega) (fun h29 => ?_) (fun h29 => ?_)
          · refine x_iload_n dX8_leastRoom_41 2 rfl rfl ?_
            refine x_istore_n (lv' := [(0, _), (1, _), (2, _), (3, _)]) dX8_leastRoom_42 rfl rfl rfl ?_
            refine x_iinc (lv' := [(0, _), (1, _), (2, _), (3, _)]) dX8_leastRoom_43 3 rfl rfl rfl ?_
            refine x_goto (tgt := 5) dX8_leastRoom_46 (by decide) ?_
            unfold leF at ih
            first | (rw [if_pos (by omega)] at ih; exact ih) | (rw [if_neg (by omega)] at ih; exact ih)
          · refine x_aload_n dX8_leastRoom_32 0 rfl rfl ?_
            refine x_iload_n dX8_leastRoom_33 3 rfl rfl ?_
            refine x_iload_n dX8_leastRoom_34 1 rfl rfl ?_
            refine x_callVi (as := [_, _]) dX8_leastRoom_35 lvX8_261 rfl rfl rfl rfl rfl rfl rfl ⟨rfl, rfl⟩ (s_X8_roomOf (by omega) (by omega)) (fun z35 I35 L35 R35 hq35 => ?_)
            obtain ⟨rfl, rfl, rfl, rfl⟩ := hq35
            refine x_goto (tgt := 42) dX8_leastRoom_38 (by decide) ?_
            refine x_istore_n (lv' := [(0, _), (1, _), (2, _), (3, _)]) dX8_leastRoom_42 rfl rfl rfl ?_
            refine x_iinc (lv' := [(0, _), (1, _), (2, _), (3, _)]) dX8_leastRoom_43 3 rfl rfl rfl ?_
            refine x_goto (tgt := 5) dX8_leastRoom_46 (by decide) ?_
            unfold leF at ih
            first | (rw [if_pos (by omega)] at ih; exact ih) | (rw [if_neg (by omega)] at ih; exact ih)
    · refine x_iload_n dX8_leastRoom_5 3 rfl rfl ?_
      refine x_aload_n dX8_leastRoom_6 0 rfl rfl ?_
      refine x_callVi (as := []) dX8_leastRoom_7 lvX8_286 rfl rfl rfl rfl rfl rfl rfl ⟨rfl, rfl⟩ (s_X8_states h0 hH hS) (fun z7 I7 L7 R7 hq7 => ?_)
      obtain ⟨rfl, rfl, rfl, rfl⟩ := hq7
      refine x_ic_ge (tgt := 49) dX8_leastRoom_10 (by decide) (by omega) (fun h10 => ?_) (fun h10 => ?_)
      · refine x_iload_n dX8_leastRoom_49 2 rfl rfl ?_
        refine x_iret dX8_leastRoom_50 rfl ?_
        rw [← hQ]
        exact ⟨_, rfl, rfl, rfl, rfl, rfl⟩
      · exfalso; omega
  refine x_bipush dX8_leastRoom_0 (by decide) ?_
  refine x_istore_n (lv' := [(0, _), (1, _), (2, _)]) dX8_leastRoom_2 rfl rfl rfl ?_
  refine x_iconst dX8_leastRoom_3 ?_
  refine x_istore_n (lv' := [(0, _), (1, _), (2, _), (3, _)]) dX8_leastRoom_4 rfl rfl rfl ?_
  exact loop 0 (by omega)
set_option maxHeartbeats 4000000 in
theorem s_X8_judge {w r : Int} (hH : iHs I) (hE : iEvs I) (hI : iRows I) (h1 : rI w) (h2 : rI r) : Sp G mtX8_judge [mr 0, mi w, mi r] shM I L rM (qi (fun z I' L' R' => z = (s_judge w r I).1 ∧ Pe (s_judge w r I).2 I' ∧ LF L L' ∧ R' = rM)) := by
  refine Sp.of pnX8_judge rfl ?_
  show Rn G mtX8_judge _ 0 [(0, mr 0), (1, mi w), (2, mi r)] [] shM I L rM
  generalize hQ : (qi (fun z I' L' R' => z = (s_judge w r I).1 ∧ Pe (s_judge w r I).2 I' ∧ LF L L' ∧ R' = rM)) = Q
  have hW := hH.2.2.1
  have hT := hH.2.2.2.1
  have hR := hH.1
  have hl := KA_lst hH (wo := 0) (k := I 0 13)
  have hnn := nst_le (KA_H hH) (KA_S hH hE)
  have hu := KA_us hH
  refine x_aload_n dX8_judge_0 0 rfl rfl ?_
  refine x_iload_n dX8_judge_1 1 rfl rfl ?_
  refine x_callVi (as := [_]) dX8_judge_2 lvX8_224 rfl rfl rfl rfl rfl rfl rfl ⟨rfl, rfl⟩ (s_X8_isWalker (by omega) (by omega)) (fun z2 I2 L2 R2 hq2 => ?_)
  obtain ⟨rfl, rfl, rfl, rfl⟩ := hq2
  refine y_ifb_eq (tgt := 15) dX8_judge_5 (by decide) (fun h5 => ?_) (fun h5 => ?_)
  · refine x_iconst dX8_judge_15 ?_
    refine x_iret dX8_judge_16 rfl ?_
    rw [← hQ]
    have hs : s_judge w r I = (-1, I) := by unfold s_judge; rw [if_pos (by omega)]
    rw [hs]
    exact ⟨_, rfl, rfl, Pe.rf _, LF.rf _, rfl⟩
  · refine x_iload_n dX8_judge_8 2 rfl rfl ?_
    refine x_callSi (as := [_]) dX8_judge_9 lvX8_118 rfl rfl rfl rfl ⟨rfl, rfl⟩ (s_X8_isRow (by omega)) (fun z9 I9 L9 R9 hq9 => ?_)
    obtain ⟨rfl, rfl, rfl, rfl⟩ := hq9
    refine y_ifb_ne (tgt := 17) dX8_judge_12 (by decide) (fun h12 => ?_) (fun h12 => ?_)
    · have hs2 := hI.1 r (by omega) (by omega)
      refine x_aload_n dX8_judge_17 0 rfl rfl ?_
      refine x_getR dX8_judge_18 flX8_13 rfl rfl rfl ?_
      refine x_iload_n dX8_judge_21 2 rfl rfl ?_
      refine x_iald dX8_judge_22 rfl (by omega) ?_
      refine x_if_ge (tgt := 32) dX8_judge_23 (by decide) (by first | omega | exact z_and_r _ _ | exact z_or_r _ _ | exact z_xor_r _ _) (fun h23 => ?_) (fun h23 => ?_)
      · refine x_aload_n dX8_judge_32 0 rfl rfl ?_
        refine x_getR dX8_judge_33 flX8_13 rfl rfl rfl ?_
        refine x_iload_n dX8_judge_36 2 rfl rfl ?_
        refine x_iald dX8_judge_37 rfl (by omega) ?_
        refine x_aload_n dX8_judge_38 0 rfl rfl ?_
        refine x_getI dX8_judge_39 flX8_99 rfl rfl ?_
        refine x_iconst dX8_judge_42 ?_
        refine x_iadd dX8_judge_43 ?_
        refine x_ic_eq (tgt := 53) dX8_judge_44 (by decide) (by first | omega | exact z_and_r _ _ | exact z_or_r _ _ | exact z_xor_r _ _) (fun h44 => ?_) (fun h44 => ?_)
        · refine x_iconst dX8_judge_53 ?_
          refine x_istore_n (lv' := [(0, _), (1, _), (2, _), (3, _)]) dX8_judge_54 rfl rfl rfl ?_
          refine x_iconst dX8_judge_55 ?_
          refine x_istore (lv' := [(0, _), (1, _), (2, _), (3, _), (4, _)]) dX8_judge_56 rfl rfl ?_
          have gl : ∀ k : Nat, k ≤ (I 0 14 + 1).toNat → ∀ c : Int, c = b01 (al (fun t => decide (0 ≤ I 3 (40 * r + (t : Int)) ∧ I 3 (40 * r + (t : Int)) ≤ I 0 11 - 1)) k = true) → Rn G mtX8_judge Q 58 [(0, mr 0), (1, mi w), (2, mi r), (3, mi c), (4, mi (k : Int))] [] shM I L rM := by
            refine lpn _ (fun k hk ih => ?_) ?_
            · intro c hc
              have hc2 : 0 ≤ c ∧ c ≤ 1 := by rw [hc]; exact b01_r _
              have hri := hI.2 (40 * r + (k : Int)) (by omega) (by omega)
              have nx : ∀ v : Int, (v = 1 ∧ c ≠ 0 ∧ (0 ≤ I 3 (40 * r + (k : Int)) ∧ I 3 (40 * r + (k : Int)) ≤ I 0 11 - 1)) ∨ (v = 0 ∧ (c = 0 ∨ ¬ (0 ≤ I 3 (40 * r + (k : Int)) ∧ I 3 (40 * r + (k : Int)) ≤ I 0 11 - 1))) → v = b01 (al (fun t => decide (0 ≤ I 3 (40 * r + (t : Int)) ∧ I 3 (40 * r + (t : Int)) ≤ I 0 11 - 1)) (k + 1) = true) := by
                intro v hv
                rcases hv with ⟨rfl, hv, hv2⟩ | ⟨rfl, hv⟩
                · apply b01_t
                  unfold al
                  rw [Bool.and_eq_true, decide_eq_true_eq]
                  exact ⟨b01_ne.mp (by rw [← hc]; exact hv), hv2⟩
                · apply b01_f
                  unfold al
                  rw [Bool.and_eq_true, decide_eq_true_eq]
                  rintro ⟨x1, x2⟩
                  rcases hv with hv | hv
                  · exact (b01_eq.mp (by rw [← hc]; exact hv)) x1
                  · exact hv x2
              refine x_iload dX8_judge_58 4 rfl ?_
              refine x_aload_n dX8_judge_60 0 rfl rfl ?_
              refine x_getI dX8_judge_61 flX8_99 rfl rfl ?_
              refine x_ic_gt (tgt := 97) dX8_judge_64 (by decide) (by first | omega | exact z_and_r _ _ | exact z_or_r _ _ | exact z_xor_r _ _) (fun h64 => ?_) (fun h64 => ?_)
              · exfalso; omega
              · refine x_iload_n dX8_judge_67 3 rfl rfl ?_
                refine x_if_eq (tgt := 89) dX8_judge_68 (by decide) (by first | omega | exact z_and_r _ _ | exact z_or_r _ _ | exact z_xor_r _ _) (fun h68 => ?_) (fun h68 => ?_)
                · refine x_iconst dX8_judge_89 ?_
                  refine x_istore_n (lv' := [(0, _), (1, _), (2, _), (3, _), (4, _)]) dX8_judge_90 rfl rfl rfl ?_
                  refine x_iinc (lv' := [(0, _), (1, _), (2, _), (3, _), (4, _)]) dX8_judge_91 4 rfl rfl rfl ?_
                  refine x_goto (tgt := 58) dX8_judge_94 (by decide) ?_
                  first | exact ih _ (nx _ (by omega))
                · refine x_aload_n dX8_judge_71 0 rfl rfl ?_
                  refine x_aload_n dX8_judge_72 0 rfl rfl ?_
                  refine x_iload_n dX8_judge_73 2 rfl rfl ?_
                  refine x_iload dX8_judge_74 4 rfl ?_
                  refine x_callVi (as := [_, _]) dX8_judge_76 lvX8_126 rfl rfl rfl rfl rfl rfl rfl ⟨rfl, rfl⟩ (s_X8_rowAt (by omega)) (fun z76 I76 L76 R76 hq76 => ?_)
                  obtain ⟨rfl, rfl, rfl, rfl⟩ := hq76
                  refine x_callVi (as := [_]) dX8_judge_79 lvX8_198 rfl rfl rfl rfl rfl rfl rfl ⟨rfl, rfl⟩ (s_X8_isRoom (by omega) (by omega)) (fun z79 I79 L79 R79 hq79 => ?_)
                  obtain ⟨rfl, rfl, rfl, rfl⟩ := hq79
                  refine y_ifb_eq (tgt := 89) dX8_judge_82 (by decide) (fun h82 => ?_) (fun h82 => ?_)
                  · refine x_iconst dX8_judge_89 ?_
                    refine x_istore_n (lv' := [(0, _), (1, _), (2, _), (3, _), (4, _)]) dX8_judge_90 rfl rfl rfl ?_
                    refine x_iinc (lv' := [(0, _), (1, _), (2, _), (3, _), (4, _)]) dX8_judge_91 4 rfl rfl rfl ?_
                    refine x_goto (tgt := 58) dX8_judge_94 (by decide) ?_
                    first | exact ih _ (nx _ (by omega))
                  · refine x_iconst dX8_judge_85 ?_
                    refine x_goto (tgt := 90) dX8_judge_86 (by decide) ?_
                    refine x_istore_n (lv' := [(0, _), (1, _), (2, _), (3, _), (4, _)]) dX8_judge_90 rfl rfl rfl ?_
                    refine x_iinc (lv' := [(0, _), (1, _), (2, _), (3, _), (4, _)]) dX8_judge_91 4 rfl rfl rfl ?_
                    refine x_goto (tgt := 58) dX8_judge_94 (by decide) ?_
                    first | exact ih _ (nx _ (by omega))
            · intro c hc
              have hc2 : 0 ≤ c ∧ c ≤ 1 := by rw [hc]; exact b01_r _
              refine x_iload dX8_judge_58 4 rfl ?_
              refine x_aload_n dX8_judge_60 0 rfl rfl ?_
              refine x_getI dX8_judge_61 flX8_99 rfl rfl ?_
              refine x_ic_gt (tgt := 97) dX8_judge_64 (by decide) (by first | omega | exact z_and_r _ _ | exact z_or_r _ _ | exact z_xor_r _ _) (fun h64 => ?_) (fun h64 => ?_)
              · refine x_iload_n dX8_judge_97 3 rfl rfl ?_
                refine x_if_ne (tgt := 107) dX8_judge_98 (by decide) (by first | omega | exact z_and_r _ _ | exact z_or_r _ _ | exact z_xor_r _ _) (fun h98 => ?_) (fun h98 => ?_)
                · refine x_aload_n dX8_judge_107 0 rfl rfl ?_
                  refine x_callVi (as := []) dX8_judge_108 lvX8_342 rfl rfl rfl rfl rfl rfl rfl ⟨rfl, rfl⟩ (s_X8_layAll hH hE) (fun z108 I108 L108 R108 hq108 => ?_)
                  obtain ⟨rfl, hE2, hLF, rfl, hTb⟩ := hq108
                  refine y_ifb_ne (tgt := 120) dX8_judge_111 (by decide) (fun h111 => ?_) (fun h111 => ?_)
                  · refine x_aload_n dX8_judge_120 0 rfl rfl ?_
                    refine x_iconst dX8_judge_121 ?_
                    refine x_callVv (as := [_]) dX8_judge_122 lvX8_349 rfl rfl rfl rfl rfl rfl rfl ⟨rfl, rfl⟩ (s_X8_beginValues hE2 (KA_H hH) (KA_S hH hE) (hTb (b01_1.mpr (by assumption)))) (fun I122 L122 R122 hq122 => ?_)
                    obtain ⟨rfl, rfl, hq1, hq2⟩ := hq122
                    refine x_iconst dX8_judge_125 ?_
                    refine x_istore (lv' := [(0, _), (1, _), (2, _), (3, _), (4, _)]) dX8_judge_126 rfl rfl ?_
                    have hok : okA I = true := by assumption
                    have hB := hTb (b01_1.mpr hok)
                    obtain ⟨v, rfl⟩ : ∃ n : Nat, w = n := ⟨w.toNat, by omega⟩
                    have hga : ¬ (al (fun t => decide (0 ≤ I 3 (40 * r + (t : Int)) ∧ I 3 (40 * r + (t : Int)) ≤ I 0 11 - 1)) (I 0 14 + 1).toNat = false) := by rw [Bool.not_eq_false]; exact b01_ne.mp (by rw [← hc]; assumption)
                    have hsj : s_judge v r I = (judR (kap I 0 (I 0 13)) v (fun t => I 3 (40 * r + (t : Int))) (I 0 14 + 1).toNat 0, I) := by
                      unfold s_judge
                      rw [if_neg (by omega), if_neg (by omega), if_neg (by omega), if_neg hga, if_neg (by rw [hok]; decide), Int.toNat_natCast]
                    obtain ⟨F0, hF0⟩ : ∃ x, x = judR (kap I 0 (I 0 13)) v (fun t => I 3 (40 * r + (t : Int))) (I 0 14 + 1).toNat 0 := ⟨_, rfl⟩
                    have ml : ∀ t : Nat, t ≤ (I 0 14 + 1).toNat → ∀ (J : MI), E1 (kap I 0 (I 0 13)) J → F0 = judR (kap I 0 (I 0 13)) v (fun t => I 3 (40 * r + (t : Int))) ((I 0 14 + 1).toNat - t) t → (t ≤ lst (kap I 0 (I 0 13)) → ∀ x : Nat, x < nst (kap I 0 (I 0 13)) → J 24 (x : Int) = juV (kap I 0 (I 0 13)) v (fun t => I 3 (40 * r + (t : Int))) t x ∧ J 25 (x : Int) = -1) → Rn G mtX8_judge Q 128 [(0, mr 0), (1, mi ↑v), (2, mi r), (3, mi c), (4, mi (t : Int))] [] shM J L108 rM := by
                      refine lpn _ (fun t ht iht => ?_) ?_
                      · intro J hJ hf hV
                        have hV2 := hV (by omega)
                        have j14 : J 0 14 = I 0 14 := by rw [hJ.at (by unfold sce per; omega), kap_per (by unfold per; omega)]
                        have j3 : ∀ x, J 3 x = I 3 x := fun x => by rw [hJ.at (by unfold sce per; omega), kap_per (by unfold per; omega)]
                        have hri := hI.2 (40 * r + (t : Int)) (by omega) (by omega)
                        have hjr := juV_r (κ := kap I 0 (I 0 13)) (w := v) (row := fun t => I 3 (40 * r + (t : Int))) t
                        rw [show (I 0 14 + 1).toNat - t = ((I 0 14 + 1).toNat - (t + 1)) + 1 by omega] at hf
                        unfold judR at hf
                        refine x_iload dX8_judge_128 4 rfl ?_
                        refine x_aload_n dX8_judge_130 0 rfl rfl ?_
                        refine x_getI dX8_judge_131 flX8_99 rfl rfl ?_
                        refine x_ic_gt (tgt := 176) dX8_judge_134 (by decide) (by omega) (fun h134 => ?_) (fun h134 => ?_)
                        · exfalso; omega
                        · refine x_aload_n dX8_judge_137 0 rfl rfl ?_
                          refine x_iload_n dX8_judge_138 1 rfl rfl ?_
                          refine x_aload_n dX8_judge_139 0 rfl rfl ?_
                          refine x_iload_n dX8_judge_140 2 rfl rfl ?_
                          refine x_iload dX8_judge_141 4 rfl ?_
                          refine x_callVi (as := [_, _]) dX8_judge_143 lvX8_126 rfl rfl rfl rfl rfl rfl rfl ⟨rfl, rfl⟩ (s_X8_rowAt (by omega)) (fun z143 I143 L143 R143 hq143 => ?_)
                          obtain ⟨rfl, rfl, rfl, rfl⟩ := hq143
                          rw [j3]
                          refine x_callVi (as := [_, _]) dX8_judge_146 lvX8_368 rfl rfl rfl rfl rfl rfl rfl ⟨rfl, rfl⟩ (s_X8_keepsRoom hJ (KA_H hH) (KA_S hH hE) (by omega) hri hjr (fun x hx => (hV2 x hx).1)) (fun z146 I146 L146 R146 hq146 => ?_)
                          obtain ⟨rfl, hk1, hk2, rfl, rfl⟩ := hq146
                          have hJ5 : E1 (kap I 0 (I 0 13)) I146 := fun c j q => by rw [hk1 c j (by unfold sce per at q; omega)]; exact hJ c j q
                          have j15 : I146 0 14 = I 0 14 := by rw [hk1 0 14 (by decide)]; exact j14
                          refine y_ifb_ne (tgt := 155) dX8_judge_149 (by decide) (fun h149 => ?_) (fun h149 => ?_)
                          · refine x_iload dX8_judge_155 4 rfl ?_
                            refine x_aload_n dX8_judge_157 0 rfl rfl ?_
                            refine x_getI dX8_judge_158 flX8_99 rfl rfl ?_
                            refine x_ic_ge (tgt := 170) dX8_judge_161 (by decide) (by omega) (fun h161 => ?_) (fun h161 => ?_)
                            · refine x_iinc (lv' := [(0, _), (1, _), (2, _), (3, _), (4, _)]) dX8_judge_170 4 rfl rfl rfl ?_
                              refine x_goto (tgt := 128) dX8_judge_173 (by decide) ?_
                              rw [if_pos (by assumption)] at hf
                              first
                              | exact iht _ hE6 (by rw [show (I 0 14 + 1).toNat - (t + 1) = (I 0 14 + 1).toNat - (t + 1) from rfl]; exact hf) (fun _ x hx => hg6 x hx)
                              | exact iht _ hJ5 hf (fun h => by omega)
                            · refine x_aload_n dX8_judge_164 0 rfl rfl ?_
                              refine x_iload dX8_judge_165 4 rfl ?_
                              refine x_callVv (as := [_]) dX8_judge_167 lvX8_371 rfl rfl rfl rfl rfl rfl rfl ⟨rfl, rfl⟩ (s_X8_goesOn (t := t) hJ5 (KA_H hH) (KA_S hH hE) hB (by omega) (fun x => keF_r x) (fun x hx => ⟨hk2 x hx, by rw [hk1 25 _ (by decide)]; exact (hV2 x hx).2⟩)) (fun I167 L167 R167 hq167 => ?_)
                              obtain ⟨rfl, rfl, hE6, hg6⟩ := hq167
                              refine x_iinc (lv' := [(0, _), (1, _), (2, _), (3, _), (4, _)]) dX8_judge_170 4 rfl rfl rfl ?_
                              refine x_goto (tgt := 128) dX8_judge_173 (by decide) ?_
                              rw [if_pos (by assumption)] at hf
                              first
                              | exact iht _ hE6 (by rw [show (I 0 14 + 1).toNat - (t + 1) = (I 0 14 + 1).toNat - (t + 1) from rfl]; exact hf) (fun _ x hx => hg6 x hx)
                              | exact iht _ hJ5 hf (fun h => by omega)
                          · refine x_iload dX8_judge_152 4 rfl ?_
                            refine x_iret dX8_judge_154 rfl ?_
                            rw [if_neg (by assumption)] at hf
                            rw [← hQ, hsj, ← hF0, hf]
                            exact ⟨_, rfl, rfl, kap_pe hJ5, hLF, rfl⟩
                      · intro J hJ hf hV
                        have j14 : J 0 14 = I 0 14 := by rw [hJ.at (by unfold sce per; omega), kap_per (by unfold per; omega)]
                        refine x_iload dX8_judge_128 4 rfl ?_
                        refine x_aload_n dX8_judge_130 0 rfl rfl ?_
                        refine x_getI dX8_judge_131 flX8_99 rfl rfl ?_
                        refine x_ic_gt (tgt := 176) dX8_judge_134 (by decide) (by omega) (fun h134 => ?_) (fun h134 => ?_)
                        · refine x_bipush dX8_judge_176 (by decide) ?_
                          refine x_iret dX8_judge_178 rfl ?_
                          rw [Nat.sub_self] at hf
                          rw [← hQ, hsj, ← hF0, hf]
                          exact ⟨_, rfl, rfl, kap_pe hJ, hLF, rfl⟩
                        · exfalso; omega
                    exact ml 0 (by omega) _ (fun c j q => by rw [hq1 c j (by unfold sce per at q; omega) (by unfold sce per at q; omega)]; exact hE2 c j q) (by rw [hF0]; rfl) (fun _ x hx => hq2 x hx)
                  · refine x_aload_n dX8_judge_114 0 rfl rfl ?_
                    refine x_iconst dX8_judge_115 ?_
                    refine x_callVi (as := [_]) dX8_judge_116 lvX8_122 rfl rfl rfl rfl rfl rfl rfl ⟨rfl, rfl⟩ (s_X8_meets (by omega)) (fun z116 I116 L116 R116 hq116 => ?_)
                    obtain ⟨rfl, rfl, rfl, rfl⟩ := hq116
                    refine x_iret dX8_judge_119 rfl ?_
                    have hga : ¬ (al (fun t => decide (0 ≤ I 3 (40 * r + (t : Int)) ∧ I 3 (40 * r + (t : Int)) ≤ I 0 11 - 1)) (I 0 14 + 1).toNat = false) := by rw [Bool.not_eq_false]; exact b01_ne.mp (by rw [← hc]; assumption)
                    rw [← hQ]
                    have hs : s_judge w r I = (-3, a_mt I 4) := by
                      unfold s_judge
                      rw [if_neg (by omega), if_neg (by omega), if_neg (by omega), if_neg hga, if_pos (by rw [← Bool.not_eq_true]; assumption)]
                    rw [hs]
                    exact ⟨_, rfl, rfl, (kap_pe hE2).mt 4, hLF, rfl⟩
                · refine x_aload_n dX8_judge_101 0 rfl rfl ?_
                  refine x_iconst dX8_judge_102 ?_
                  refine x_callVi (as := [_]) dX8_judge_103 lvX8_122 rfl rfl rfl rfl rfl rfl rfl ⟨rfl, rfl⟩ (s_X8_meets (by omega)) (fun z103 I103 L103 R103 hq103 => ?_)
                  obtain ⟨rfl, rfl, rfl, rfl⟩ := hq103
                  refine x_iret dX8_judge_106 rfl ?_
                  have hg2 : al (fun t => decide (0 ≤ I 3 (40 * r + (t : Int)) ∧ I 3 (40 * r + (t : Int)) ≤ I 0 11 - 1)) (I 0 14 + 1).toNat = false := by rw [← Bool.not_eq_true]; exact b01_eq.mp (by rw [← hc]; assumption)
                  rw [← hQ]
                  have hs : s_judge w r I = (-3, a_mt I 3) := by
                    unfold s_judge
                    rw [if_neg (by omega), if_neg (by omega), if_neg (by omega), if_pos hg2]
                  rw [hs]
                  exact ⟨_, rfl, rfl, Pe.rf _, LF.rf _, rfl⟩
              · exfalso; omega
          exact gl 0 (by omega) _ (b01_t (by unfold al; rfl))
        · refine x_aload_n dX8_judge_47 0 rfl rfl ?_
          refine x_iconst dX8_judge_48 ?_
          refine x_callVi (as := [_]) dX8_judge_49 lvX8_122 rfl rfl rfl rfl rfl rfl rfl ⟨rfl, rfl⟩ (s_X8_meets (by omega)) (fun z49 I49 L49 R49 hq49 => ?_)
          obtain ⟨rfl, rfl, rfl, rfl⟩ := hq49
          refine x_iret dX8_judge_52 rfl ?_
          rw [← hQ]
          have hs : s_judge w r I = (-3, a_mt I 5) := by
            unfold s_judge
            rw [if_neg (by omega), if_neg (by omega), if_pos (by omega)]
          rw [hs]
          exact ⟨_, rfl, rfl, Pe.rf _, LF.rf _, rfl⟩
      · refine x_aload_n dX8_judge_26 0 rfl rfl ?_
        refine x_iconst dX8_judge_27 ?_
        refine x_callVi (as := [_]) dX8_judge_28 lvX8_122 rfl rfl rfl rfl rfl rfl rfl ⟨rfl, rfl⟩ (s_X8_meets (by omega)) (fun z28 I28 L28 R28 hq28 => ?_)
        obtain ⟨rfl, rfl, rfl, rfl⟩ := hq28
        refine x_iret dX8_judge_31 rfl ?_
        rw [← hQ]
        have hs : s_judge w r I = (-3, a_mt I 1) := by
          unfold s_judge
          rw [if_neg (by omega), if_pos (by omega)]
        rw [hs]
        exact ⟨_, rfl, rfl, Pe.rf _, LF.rf _, rfl⟩
    · refine x_iconst dX8_judge_15 ?_
      refine x_iret dX8_judge_16 rfl ?_
      rw [← hQ]
      have hs : s_judge w r I = (-1, I) := by unfold s_judge; rw [if_pos (by omega)]
      rw [hs]
      exact ⟨_, rfl, rfl, Pe.rf _, LF.rf _, rfl⟩
end

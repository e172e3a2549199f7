/-! THE REFERENCE'S QUESTIONS, part eight. -/
section
variable {G : GT} {sh : MS} {I L : MI} {R : MR} {κ : MI}

theorem s_X8_layMinutes {d : Int} (h0 : E1 κ I) (hH : iHs κ) (hS : iSc κ) (hB : Tb κ L) (hd : rI d) : Sp G mtX8_layMinutes [mr 0, mi d] shM I L rM (qv (fun I' L' R' => E1 κ I' ∧ L = L' ∧ R' = rM ∧ I' 0 55 = pmn κ d ∧ I' 0 56 = pmx κ d)) := by
  refine Sp.of pnX8_layMinutes rfl ?_
  show Rn G mtX8_layMinutes _ 0 [(0, mr 0), (1, mi d)] [] shM I L rM
  generalize hQ : (qv (fun I' L' R' => E1 κ I' ∧ L = L' ∧ R' = rM ∧ I' 0 55 = pmn κ d ∧ I' 0 56 = pmx κ d)) = Q
  have hu := us_le hH hS
  have hnn := (nst_le hH hS).2
  have hT := hH.2.2.2.1
  have hlt : (lst κ : Int) = κ 0 14 := by unfold lst; omega
  have tl : ∀ t : Nat, t ≤ lst κ → ∀ J : MI, E1 κ J → J 0 55 = mnF (fun t => pAny κ d t (nst κ)) t → J 0 56 = mnF (fun t => pAll κ d t (nst κ)) t → Rn G mtX8_layMinutes Q 12 [(0, mr 0), (1, mi d), (2, mi (t : Int))] [] shM J L rM := by
    refine lpn _ (fun t ht ih => ?_) ?_
    · intro J hJ f1 f2
      have j14 : J 0 14 = κ 0 14 := hJ.at (by unfold sce per; omega)
      refine x_iload_n dX8_layMinutes_12 2 rfl rfl ?_
      refine x_aload_n dX8_layMinutes_13 0 rfl rfl ?_
      refine x_getI dX8_layMinutes_14 flX8_99 rfl rfl ?_
      refine x_ic_ge (tgt := 74) dX8_layMinutes_17 (by decide) (by omega) (fun h17 => ?_) (fun h17 => ?_)
      · exfalso; omega
      · refine x_aload_n dX8_layMinutes_20 0 rfl rfl ?_
        refine x_iload_n dX8_layMinutes_21 1 rfl rfl ?_
        refine x_iload_n dX8_layMinutes_22 2 rfl rfl ?_
        refine x_callVv (as := [_, _]) dX8_layMinutes_23 lvX8_390 rfl rfl rfl rfl rfl rfl rfl ⟨rfl, rfl⟩ (s_X8_layPassing hJ hH hS hB (by omega) hd) (fun I23 L23 R23 hq23 => ?_)
        obtain ⟨hE, rfl, rfl, p1, p2, p3, p4, p5, p6⟩ := hq23
        have q3 := b01_r (pAny κ d t (nst κ) = true)
        have q4 := b01_r (pAll κ d t (nst κ) = true)
        refine x_aload_n dX8_layMinutes_26 0 rfl rfl ?_
        refine x_dup dX8_layMinutes_27 rfl ?_
        refine x_getI dX8_layMinutes_28 flX8_393 rfl rfl ?_
        refine x_aload_n dX8_layMinutes_31 0 rfl rfl ?_
        refine x_getI dX8_layMinutes_32 flX8_383 rfl rfl ?_
        refine x_if_eq (tgt := 42) dX8_layMinutes_35 (by decide) (by omega) (fun h35 => ?_) (fun h35 => ?_)
        · refine x_iconst dX8_layMinutes_42 ?_
          refine x_iadd dX8_layMinutes_43 ?_
          refine x_putI dX8_layMinutes_44 flX8_393 rfl rfl rfl ?_
          refine x_aload_n dX8_layMinutes_47 0 rfl rfl ?_
          refine x_dup dX8_layMinutes_48 rfl ?_
          skip
          refine y_getI dX8_layMinutes_49 flX8_396 rfl rfl (m_up_nj (by decide)) ?_
          refine x_aload_n dX8_layMinutes_52 0 rfl rfl ?_
          refine y_getI dX8_layMinutes_53 flX8_387 rfl rfl (m_up_nj (by decide)) ?_
          refine x_if_eq (tgt := 63) dX8_layMinutes_56 (by decide) (by omega) (fun h56 => ?_) (fun h56 => ?_)
          · refine x_iconst dX8_layMinutes_63 ?_
            refine x_iadd dX8_layMinutes_64 ?_
            refine x_putI dX8_layMinutes_65 flX8_396 rfl rfl rfl ?_
            refine x_iinc (lv' := [(0, _), (1, _), (2, _)]) dX8_layMinutes_68 2 rfl rfl rfl ?_
            refine x_goto (tgt := 12) dX8_layMinutes_71 (by decide) ?_
            refine ih _ ((hE.up (by unfold sce per; omega)).up (by unfold sce per; omega)) ?_ ?_
            · rw [m_up_nj (by decide), m_up_eq, p5, f1]
              refine Eq.trans ?_ (mnF_s _ _).symm
              first
              | (rw [if_pos (b01_ne.mp (by rw [← p3]; assumption))])
              | (rw [if_neg (b01_eq.mp (by rw [← p3]; assumption))])
            · rw [m_up_eq, p6, f2]
              refine Eq.trans ?_ (mnF_s _ _).symm
              first
              | (rw [if_pos (b01_ne.mp (by rw [← p4]; assumption))])
              | (rw [if_neg (b01_eq.mp (by rw [← p4]; assumption))])
          · refine x_iconst dX8_layMinutes_59 ?_
            refine x_goto (tgt := 64) dX8_layMinutes_60 (by decide) ?_
            refine x_iadd dX8_layMinutes_64 ?_
            refine x_putI dX8_layMinutes_65 flX8_396 rfl rfl rfl ?_
            refine x_iinc (lv' := [(0, _), (1, _), (2, _)]) dX8_layMinutes_68 2 rfl rfl rfl ?_
            refine x_goto (tgt := 12) dX8_layMinutes_71 (by decide) ?_
            refine ih _ ((hE.up (by unfold sce per; omega)).up (by unfold sce per; omega)) ?_ ?_
            · rw [m_up_nj (by decide), m_up_eq, p5, f1]
              refine Eq.trans ?_ (mnF_s _ _).symm
              first
              | (rw [if_pos (b01_ne.mp (by rw [← p3]; assumption))])
              | (rw [if_neg (b01_eq.mp (by rw [← p3]; assumption))])
            · rw [m_up_eq, p6, f2]
              refine Eq.trans ?_ (mnF_s _ _).symm
              first
              | (rw [if_pos (b01_ne.mp (by rw [← p4]; assumption))])
              | (rw [if_neg (b01_eq.mp (by rw [← p4]; assumption))])
        · refine x_iconst dX8_layMinutes_38 ?_
          refine x_goto (tgt := 43) dX8_layMinutes_39 (by decide) ?_
          refine x_iadd dX8_layMinutes_43 ?_
          refine x_putI dX8_layMinutes_44 flX8_393 rfl rfl rfl ?_
          refine x_aload_n dX8_layMinutes_47 0 rfl rfl ?_
          refine x_dup dX8_layMinutes_48 rfl ?_
          skip
          refine y_getI dX8_layMinutes_49 flX8_396 rfl rfl (m_up_nj (by decide)) ?_
          refine x_aload_n dX8_layMinutes_52 0 rfl rfl ?_
          refine y_getI dX8_layMinutes_53 flX8_387 rfl rfl (m_up_nj (by decide)) ?_
          refine x_if_eq (tgt := 63) dX8_layMinutes_56 (by decide) (by omega) (fun h56 => ?_) (fun h56 => ?_)
          · refine x_iconst dX8_layMinutes_63 ?_
            refine x_iadd dX8_layMinutes_64 ?_
            refine x_putI dX8_layMinutes_65 flX8_396 rfl rfl rfl ?_
            refine x_iinc (lv' := [(0, _), (1, _), (2, _)]) dX8_layMinutes_68 2 rfl rfl rfl ?_
            refine x_goto (tgt := 12) dX8_layMinutes_71 (by decide) ?_
            refine ih _ ((hE.up (by unfold sce per; omega)).up (by unfold sce per; omega)) ?_ ?_
            · rw [m_up_nj (by decide), m_up_eq, p5, f1]
              refine Eq.trans ?_ (mnF_s _ _).symm
              first
              | (rw [if_pos (b01_ne.mp (by rw [← p3]; assumption))])
              | (rw [if_neg (b01_eq.mp (by rw [← p3]; assumption))])
            · rw [m_up_eq, p6, f2]
              refine Eq.trans ?_ (mnF_s _ _).symm
              first
              | (rw [if_pos (b01_ne.mp (by rw [← p4]; assumption))])
              | (rw [if_neg (b01_eq.mp (by rw [← p4]; assumption))])
          · refine x_iconst dX8_layMinutes_59 ?_
            refine x_goto (tgt := 64) dX8_layMinutes_60 (by decide) ?_
            refine x_iadd dX8_layMinutes_64 ?_
            refine x_putI dX8_layMinutes_65 flX8_396 rfl rfl rfl ?_
            refine x_iinc (lv' := [(0, _), (1, _), (2, _)]) dX8_layMinutes_68 2 rfl rfl rfl ?_
            refine x_goto (tgt := 12) dX8_layMinutes_71 (by decide) ?_
            refine ih _ ((hE.up (by unfold sce per; omega)).up (by unfold sce per; omega)) ?_ ?_
            · rw [m_up_nj (by decide), m_up_eq, p5, f1]
              refine Eq.trans ?_ (mnF_s _ _).symm
              first
              | (rw [if_pos (b01_ne.mp (by rw [← p3]; assumption))])
              | (rw [if_neg (b01_eq.mp (by rw [← p3]; assumption))])
            · rw [m_up_eq, p6, f2]
              refine Eq.trans ?_ (mnF_s _ _).symm
              first
              | (rw [if_pos (b01_ne.mp (by rw [← p4]; assumption))])
              | (rw [if_neg (b01_eq.mp (by rw [← p4]; assumption))])
    · intro J hJ f1 f2
      have j14 : J 0 14 = κ 0 14 := hJ.at (by unfold sce per; omega)
      refine x_iload_n dX8_layMinutes_12 2 rfl rfl ?_
      refine x_aload_n dX8_layMinutes_13 0 rfl rfl ?_
      refine x_getI dX8_layMinutes_14 flX8_99 rfl rfl ?_
      refine x_ic_ge (tgt := 74) dX8_layMinutes_17 (by decide) (by first | omega | exact b01_rI _) (fun h17 => ?_) (fun h17 => ?_)
      · refine x_vret dX8_layMinutes_74 rfl ?_
        rw [← hQ]
        exact ⟨rfl, hJ, rfl, rfl, f1, f2⟩
      · exfalso; omega
  refine x_aload_n dX8_layMinutes_0 0 rfl rfl ?_
  refine x_iconst dX8_layMinutes_1 ?_
  refine x_putI dX8_layMinutes_2 flX8_393 rfl rfl rfl ?_
  refine x_aload_n dX8_layMinutes_5 0 rfl rfl ?_
  refine x_iconst dX8_layMinutes_6 ?_
  refine x_putI dX8_layMinutes_7 flX8_396 rfl rfl rfl ?_
  refine x_iconst dX8_layMinutes_10 ?_
  refine x_istore_n (lv' := [(0, _), (1, _), (2, _)]) dX8_layMinutes_11 rfl rfl rfl ?_
  exact tl 0 (by omega) _ ((h0.up (by unfold sce per; omega)).up (by unfold sce per; omega)) (by rw [m_up_nj (by decide), m_up_eq]; rfl) (by rw [m_up_eq]; rfl)
theorem s_X8_passes {d : Int} (hH : iHs I) (hE : iEvs I) (h1 : rI d) : Sp G mtX8_passes [mr 0, mi d] shM I L rM (qi (fun z I' L' R' => z = (s_passes d I).1 ∧ Pe (s_passes d I).2 I' ∧ LF L L' ∧ R' = rM)) := by
  refine Sp.of pnX8_passes rfl ?_
  show Rn G mtX8_passes _ 0 [(0, mr 0), (1, mi d)] [] shM I L rM
  generalize hQ : (qi (fun z I' L' R' => z = (s_passes d I).1 ∧ Pe (s_passes d I).2 I' ∧ LF L L' ∧ R' = rM)) = Q
  have hW := hH.2.2.1
  have hT := hH.2.2.2.1
  have hR := hH.1
  have hl := KA_lst hH (wo := 0) (k := I 0 13)
  have hnn := nst_le (KA_H hH) (KA_S hH hE)
  have hu := KA_us hH
  have hEn := hE.1
  have hDn := hH.2.1
  refine x_aload_n dX8_passes_0 0 rfl rfl ?_
  refine x_iload_n dX8_passes_1 1 rfl rfl ?_
  refine x_callVi (as := [_]) dX8_passes_2 lvX8_192 rfl rfl rfl rfl rfl rfl rfl ⟨rfl, rfl⟩ (s_X8_isDoor (by omega) (by omega)) (fun z2 I2 L2 R2 hq2 => ?_)
  obtain ⟨rfl, rfl, rfl, rfl⟩ := hq2
  refine y_ifb_ne (tgt := 10) dX8_passes_5 (by decide) (fun h5 => ?_) (fun h5 => ?_)
  · refine x_aload_n dX8_passes_10 0 rfl rfl ?_
    refine x_callVi (as := []) dX8_passes_11 lvX8_342 rfl rfl rfl rfl rfl rfl rfl ⟨rfl, rfl⟩ (s_X8_layAll hH hE) (fun z11 I11 L11 R11 hq11 => ?_)
    obtain ⟨rfl, hE2, hLF, rfl, hTb⟩ := hq11
    refine y_ifb_ne (tgt := 23) dX8_passes_14 (by decide) (fun h14 => ?_) (fun h14 => ?_)
    · refine x_aload_n dX8_passes_23 0 rfl rfl ?_
      refine x_iload_n dX8_passes_24 1 rfl rfl ?_
      refine x_callVv (as := [_]) dX8_passes_25 lvX8_399 rfl rfl rfl rfl rfl rfl rfl ⟨rfl, rfl⟩ (s_X8_layMinutes hE2 (KA_H hH) (KA_S hH hE) (hTb (b01_1.mpr (by assumption))) h1) (fun I25 L25 R25 hq25 => ?_)
      obtain ⟨hE5, rfl, rfl, hf5, hm5⟩ := hq25
      refine x_aload_n dX8_passes_28 0 rfl rfl ?_
      refine x_aload_n dX8_passes_29 0 rfl rfl ?_
      refine x_getI dX8_passes_30 flX8_396 rfl rfl ?_
      refine x_aload_n dX8_passes_33 0 rfl rfl ?_
      refine x_getI dX8_passes_34 flX8_393 rfl rfl ?_
      rw [hf5, hm5]
      refine x_callVi (as := [_, _]) dX8_passes_37 lvX8_130 rfl rfl rfl rfl rfl rfl rfl ⟨rfl, rfl⟩ (s_X8_tells) (fun z37 I37 L37 R37 hq37 => ?_)
      obtain ⟨rfl, rfl, rfl, rfl⟩ := hq37
      refine x_iret dX8_passes_40 rfl ?_
      rw [← hQ]
      have hs : s_passes d I = (pmn (kap I 0 (I 0 13)) d, a_tl I (pmx (kap I 0 (I 0 13)) d)) := by
        unfold s_passes
        rw [if_neg (by omega), if_neg (by rw [Bool.not_eq_false]; assumption)]
      rw [hs]
      exact ⟨_, rfl, rfl, (kap_pe hE5).tl _, hLF, rfl⟩
    · refine x_aload_n dX8_passes_17 0 rfl rfl ?_
      refine x_iconst dX8_passes_18 ?_
      refine x_callVi (as := [_]) dX8_passes_19 lvX8_122 rfl rfl rfl rfl rfl rfl rfl ⟨rfl, rfl⟩ (s_X8_meets (by omega)) (fun z19 I19 L19 R19 hq19 => ?_)
      obtain ⟨rfl, rfl, rfl, rfl⟩ := hq19
      refine x_iret dX8_passes_22 rfl ?_
      rw [← hQ]
      have hs : s_passes d I = (-3, a_mt I 4) := by
        unfold s_passes
        rw [if_neg (by omega), if_pos (by rw [← Bool.not_eq_true]; assumption)]
      rw [hs]
      exact ⟨_, rfl, rfl, (kap_pe hE2).mt 4, hLF, rfl⟩
  · refine x_iconst dX8_passes_8 ?_
    refine x_iret dX8_passes_9 rfl ?_
    rw [← hQ]
    have hs : s_passes d I = (-1, I) := by unfold s_passes; rw [if_pos (by omega)]
    rw [hs]
    exact ⟨_, rfl, rfl, Pe.rf _, LF.rf _, rfl⟩
theorem s_X8_third  (hH : iHs I) (hE : iEvs I) : Sp G mtX8_third [mr 0] shM I L rM (qi (fun z I' L' R' => z = (s_third I).1 ∧ Pe (s_third I).2 I' ∧ LF L L' ∧ R' = rM)) := by
  refine Sp.of pnX8_third rfl ?_
  show Rn G mtX8_third _ 0 [(0, mr 0)] [] shM I L rM
  generalize hQ : (qi (fun z I' L' R' => z = (s_third I).1 ∧ Pe (s_third I).2 I' ∧ LF L L' ∧ R' = rM)) = Q
  have hW := hH.2.2.1
  have hT := hH.2.2.2.1
  have hR := hH.1
  have hl := KA_lst hH (wo := 0) (k := I 0 13)
  have hnn := nst_le (KA_H hH) (KA_S hH hE)
  have hu := KA_us hH
  have hEn := hE.1
  have hDn := hH.2.1
  refine x_aload_n dX8_third_0 0 rfl rfl ?_
  refine x_callVi (as := []) dX8_third_1 lvX8_342 rfl rfl rfl rfl rfl rfl rfl ⟨rfl, rfl⟩ (s_X8_layAll hH hE) (fun z1 I1 L1 R1 hq1 => ?_)
  obtain ⟨rfl, hE2, hLF, rfl, hTb⟩ := hq1
  refine y_ifb_ne (tgt := 13) dX8_third_4 (by decide) (fun h4 => ?_) (fun h4 => ?_)
  · refine x_bipush dX8_third_13 (by decide) ?_
    refine x_istore_n (lv' := [(0, _), (1, _)]) dX8_third_15 rfl rfl rfl ?_
    refine x_iconst dX8_third_16 ?_
    refine x_istore_n (lv' := [(0, _), (1, _), (2, _)]) dX8_third_17 rfl rfl rfl ?_
    refine x_iconst dX8_third_18 ?_
    refine x_istore_n (lv' := [(0, _), (1, _), (2, _), (3, _)]) dX8_third_19 rfl rfl rfl ?_
    have hok : okA I = true := by assumption
    have hB := hTb (b01_1.mpr hok)
    have dl : ∀ d : Nat, d ≤ (I 0 12).toNat → ∀ J : MI, E1 (kap I 0 (I 0 13)) J → Rn G mtX8_third Q 20 [(0, mr 0), (1, mi (thF (kap I 0 (I 0 13)) d).1), (2, mi (thF (kap I 0 (I 0 13)) d).2), (3, mi (d : Int))] [] shM J L1 rM := by
      refine lpn _ (fun d hd ih => ?_) ?_
      · intro J hJ
        have j12 : J 0 12 = I 0 12 := by rw [hJ.at (by unfold sce per; omega), kap_per (by unfold per; omega)]
        have j7 : J 7 (3 * (d : Int) + 2) = I 7 (3 * (d : Int) + 2) := by rw [hJ.at (by unfold sce per; omega), kap_per (by unfold per; omega)]
        have k7 : (kap I 0 (I 0 13)) 7 (3 * (d : Int) + 2) = I 7 (3 * (d : Int) + 2) := kap_per (by unfold per; omega)
        have hdo := hH.2.2.2.2.1 (d : Int) (by omega) (by omega)
        have hth := thF_r (κ := kap I 0 (I 0 13)) d
        have hpn := mnF_r (fun t => pAny (kap I 0 (I 0 13)) d t (nst (kap I 0 (I 0 13)))) (lst (kap I 0 (I 0 13)))
        have hpx := mnF_r (fun t => pAll (kap I 0 (I 0 13)) d t (nst (kap I 0 (I 0 13)))) (lst (kap I 0 (I 0 13)))
        have en : pmn (kap I 0 (I 0 13)) d = mnF (fun t => pAny (kap I 0 (I 0 13)) d t (nst (kap I 0 (I 0 13)))) (lst (kap I 0 (I 0 13))) := rfl
        have ex : pmx (kap I 0 (I 0 13)) d = mnF (fun t => pAll (kap I 0 (I 0 13)) d t (nst (kap I 0 (I 0 13)))) (lst (kap I 0 (I 0 13))) := rfl
        refine x_iload_n dX8_third_20 3 rfl rfl ?_
        refine x_aload_n dX8_third_21 0 rfl rfl ?_
        refine x_getI dX8_third_22 flX8_183 rfl rfl ?_
        refine x_ic_ge (tgt := 72) dX8_third_25 (by decide) (by omega) (fun h25 => ?_) (fun h25 => ?_)
        · exfalso; omega
        · refine x_aload_n dX8_third_28 0 rfl rfl ?_
          refine x_iload_n dX8_third_29 3 rfl rfl ?_
          refine x_callVi (as := [_]) dX8_third_30 lvX8_195 rfl rfl rfl rfl rfl rfl rfl ⟨rfl, rfl⟩ (s_X8_hasBoard (by omega) (by omega)) (fun z30 I30 L30 R30 hq30 => ?_)
          obtain ⟨rfl, rfl, rfl, rfl⟩ := hq30
          refine y_ifb_ne (tgt := 66) dX8_third_33 (by decide) (fun h33 => ?_) (fun h33 => ?_)
          · refine x_iinc (lv' := [(0, _), (1, _), (2, _), (3, _)]) dX8_third_66 3 rfl rfl rfl ?_
            refine x_goto (tgt := 20) dX8_third_69 (by decide) ?_
            first
            | (have h9 := ih _ hE5
               unfold thF at h9
               rw [if_pos ⟨by omega, by omega⟩] at h9
               exact h9)
            | (have h9 := ih _ hE5
               unfold thF at h9
               rw [if_neg (by rintro ⟨x1, x2⟩; omega)] at h9
               exact h9)
            | (have h9 := ih _ hJ
               unfold thF at h9
               rw [if_neg (by rintro ⟨x1, x2⟩; omega)] at h9
               exact h9)
          · refine x_aload_n dX8_third_36 0 rfl rfl ?_
            refine x_iload_n dX8_third_37 3 rfl rfl ?_
            refine x_callVv (as := [_]) dX8_third_38 lvX8_399 rfl rfl rfl rfl rfl rfl rfl ⟨rfl, rfl⟩ (s_X8_layMinutes hJ (KA_H hH) (KA_S hH hE) hB (by omega)) (fun I38 L38 R38 hq38 => ?_)
            obtain ⟨hE5, rfl, rfl, hf5, hm5⟩ := hq38
            refine x_aload_n dX8_third_41 0 rfl rfl ?_
            refine x_getI dX8_third_42 flX8_393 rfl rfl ?_
            refine x_aload_n dX8_third_45 0 rfl rfl ?_
            refine x_getI dX8_third_46 flX8_396 rfl rfl ?_
            rw [hf5, hm5]
            refine x_isub dX8_third_49 ?_
            refine x_iload_n dX8_third_50 2 rfl rfl ?_
            refine x_ic_le (tgt := 66) dX8_third_51 (by decide) (by omega) (fun h51 => ?_) (fun h51 => ?_)
            · refine x_iinc (lv' := [(0, _), (1, _), (2, _), (3, _)]) dX8_third_66 3 rfl rfl rfl ?_
              refine x_goto (tgt := 20) dX8_third_69 (by decide) ?_
              first
              | (have h9 := ih _ hE5
                 unfold thF at h9
                 rw [if_pos ⟨by omega, by omega⟩] at h9
                 exact h9)
              | (have h9 := ih _ hE5
                 unfold thF at h9
                 rw [if_neg (by rintro ⟨x1, x2⟩; omega)] at h9
                 exact h9)
              | (have h9 := ih _ hJ
                 unfold thF at h9
                 rw [if_neg (by rintro ⟨x1, x2⟩; omega)] at h9
                 exact h9)
            · refine x_iload_n dX8_third_54 3 rfl rfl ?_
              refine x_istore_n (lv' := [(0, _), (1, _), (2, _), (3, _)]) dX8_third_55 rfl rfl rfl ?_
              refine x_aload_n dX8_third_56 0 rfl rfl ?_
              refine x_getI dX8_third_57 flX8_393 rfl rfl ?_
              refine x_aload_n dX8_third_60 0 rfl rfl ?_
              refine x_getI dX8_third_61 flX8_396 rfl rfl ?_
              rw [hf5, hm5]
              refine x_isub dX8_third_64 ?_
              refine x_istore_n (lv' := [(0, _), (1, _), (2, _), (3, _)]) dX8_third_65 rfl rfl rfl ?_
              refine x_iinc (lv' := [(0, _), (1, _), (2, _), (3, _)]) dX8_third_66 3 rfl rfl rfl ?_
              refine x_goto (tgt := 20) dX8_third_69 (by decide) ?_
              first
              | (have h9 := ih _ hE5
                 unfold thF at h9
                 rw [if_pos ⟨by omega, by omega⟩] at h9
                 exact h9)
              | (have h9 := ih _ hE5
                 unfold thF at h9
                 rw [if_neg (by rintro ⟨x1, x2⟩; omega)] at h9
                 exact h9)
              | (have h9 := ih _ hJ
                 unfold thF at h9
                 rw [if_neg (by rintro ⟨x1, x2⟩; omega)] at h9
                 exact h9)
      · intro J hJ
        have j12 : J 0 12 = I 0 12 := by rw [hJ.at (by unfold sce per; omega), kap_per (by unfold per; omega)]
        have hth := thF_r (κ := kap I 0 (I 0 13)) (I 0 12).toNat
        refine x_iload_n dX8_third_20 3 rfl rfl ?_
        refine x_aload_n dX8_third_21 0 rfl rfl ?_
        refine x_getI dX8_third_22 flX8_183 rfl rfl ?_
        refine x_ic_ge (tgt := 72) dX8_third_25 (by decide) (by omega) (fun h25 => ?_) (fun h25 => ?_)
        · refine x_iload_n dX8_third_72 1 rfl rfl ?_
          refine x_bipush dX8_third_73 (by decide) ?_
          refine x_ic_ne (tgt := 83) dX8_third_75 (by decide) (by omega) (fun h75 => ?_) (fun h75 => ?_)
          · refine x_aload_n dX8_third_83 0 rfl rfl ?_
            refine x_iload_n dX8_third_84 2 rfl rfl ?_
            refine x_iload_n dX8_third_85 1 rfl rfl ?_
            refine x_callVi (as := [_, _]) dX8_third_86 lvX8_130 rfl rfl rfl rfl rfl rfl rfl ⟨rfl, rfl⟩ (s_X8_tells) (fun z86 I86 L86 R86 hq86 => ?_)
            obtain ⟨rfl, rfl, rfl, rfl⟩ := hq86
            refine x_iret dX8_third_89 rfl ?_
            rw [← hQ]
            first
            | (have hs : s_third I = (-9, I) := by
                 unfold s_third
                 rw [if_neg (by rw [hok]; decide), if_pos (by omega)]
               rw [hs]
               exact ⟨_, rfl, rfl, kap_pe hJ, hLF, rfl⟩)
            | (have hs : s_third I = ((thF (kap I 0 (I 0 13)) (I 0 12).toNat).1, a_tl I (thF (kap I 0 (I 0 13)) (I 0 12).toNat).2) := by
                 unfold s_third
                 rw [if_neg (by rw [hok]; decide), if_neg (by omega)]
               rw [hs]
               exact ⟨_, rfl, rfl, (kap_pe hJ).tl _, hLF, rfl⟩)
          · refine x_bipush dX8_third_78 (by decide) ?_
            refine x_goto (tgt := 89) dX8_third_80 (by decide) ?_
            refine x_iret dX8_third_89 rfl ?_
            rw [← hQ]
            first
            | (have hs : s_third I = (-9, I) := by
                 unfold s_third
                 rw [if_neg (by rw [hok]; decide), if_pos (by omega)]
               rw [hs]
               exact ⟨_, rfl, rfl, kap_pe hJ, hLF, rfl⟩)
            | (have hs : s_third I = ((thF (kap I 0 (I 0 13)) (I 0 12).toNat).1, a_tl I (thF (kap I 0 (I 0 13)) (I 0 12).toNat).2) := by
                 unfold s_third
                 rw [if_neg (by rw [hok]; decide), if_neg (by omega)]
               rw [hs]
               exact ⟨_, rfl, rfl, (kap_pe hJ).tl _, hLF, rfl⟩)
        · exfalso; omega
    exact dl 0 (by omega) _ hE2
  · refine x_aload_n dX8_third_7 0 rfl rfl ?_
    refine x_iconst dX8_third_8 ?_
    refine x_callVi (as := [_]) dX8_third_9 lvX8_122 rfl rfl rfl rfl rfl rfl rfl ⟨rfl, rfl⟩ (s_X8_meets (by omega)) (fun z9 I9 L9 R9 hq9 => ?_)
    obtain ⟨rfl, rfl, rfl, rfl⟩ := hq9
    refine x_iret dX8_third_12 rfl ?_
    rw [← hQ]
    have hs : s_third I = (-3, a_mt I 4) := by
      unfold s_third
      rw [if_pos (by rw [← Bool.not_eq_true]; assumption)]
    rw [hs]
    exact ⟨_, rfl, rfl, (kap_pe hE2).mt 4, hLF, rfl⟩
theorem s_X8_whose {e : Int} (hH : iHs I) (hE : iEvs I) (hL : iEvL I) (h1 : rI e) : Sp G mtX8_whose [mr 0, mi e] shM I L rM (qi (fun z I' L' R' => z = (s_whose e I).1 ∧ Pe (s_whose e I).2 I' ∧ LF L L' ∧ R' = rM)) := by
  refine Sp.of pnX8_whose rfl ?_
  show Rn G mtX8_whose _ 0 [(0, mr 0), (1, mi e)] [] shM I L rM
  generalize hQ : (qi (fun z I' L' R' => z = (s_whose e I).1 ∧ Pe (s_whose e I).2 I' ∧ LF L L' ∧ R' = rM)) = Q
  have hW := hH.2.2.1
  have hT := hH.2.2.2.1
  have hR := hH.1
  have hl := KA_lst hH (wo := 0) (k := I 0 13)
  have hnn := nst_le (KA_H hH) (KA_S hH hE)
  have hu := KA_us hH
  have hEn := hE.1
  have hDn := hH.2.1
  have hev : 0 ≤ e → e < I 0 25 → iEv I e := fun h1 h2 => by have := hE.2 e.toNat (by omega); rw [show ((e.toNat : Nat) : Int) = e by omega] at this; exact this
  refine x_aload_n dX8_whose_0 0 rfl rfl ?_
  refine x_iload_n dX8_whose_1 1 rfl rfl ?_
  refine x_callVi (as := [_]) dX8_whose_2 lvX8_231 rfl rfl rfl rfl rfl rfl rfl ⟨rfl, rfl⟩ (s_X8_isEvent (by omega) (by omega)) (fun z2 I2 L2 R2 hq2 => ?_)
  obtain ⟨rfl, rfl, rfl, rfl⟩ := hq2
  refine y_ifb_ne (tgt := 10) dX8_whose_5 (by decide) (fun h5 => ?_) (fun h5 => ?_)
  · obtain ⟨v1, v2, v3, v4, v5, v6⟩ := hev (by omega) (by omega)
    obtain ⟨u1, u2, u3, u4, u5⟩ := hL e (by omega) (by omega)
    refine x_aload_n dX8_whose_10 0 rfl rfl ?_
    refine x_iload_n dX8_whose_11 1 rfl rfl ?_
    refine x_iconst dX8_whose_12 ?_
    refine x_callVi (as := [_, _]) dX8_whose_13 lvX8_234 rfl rfl rfl rfl rfl rfl rfl ⟨rfl, rfl⟩ (s_X8_eventAt (by omega)) (fun z13 I13 L13 R13 hq13 => ?_)
    obtain ⟨rfl, rfl, rfl, rfl⟩ := hq13
    refine x_iconst dX8_whose_16 ?_
    refine x_ic_eq (tgt := 26) dX8_whose_17 (by decide) (by first | omega | exact z_and_r _ _ | exact z_or_r _ _ | exact z_xor_r _ _) (fun h17 => ?_) (fun h17 => ?_)
    · refine x_aload_n dX8_whose_26 0 rfl rfl ?_
      refine x_callVi (as := []) dX8_whose_27 lvX8_342 rfl rfl rfl rfl rfl rfl rfl ⟨rfl, rfl⟩ (s_X8_layAll hH hE) (fun z27 I27 L27 R27 hq27 => ?_)
      obtain ⟨rfl, hE2, hLF, rfl, hTb⟩ := hq27
      refine y_ifb_ne (tgt := 39) dX8_whose_30 (by decide) (fun h30 => ?_) (fun h30 => ?_)
      · refine x_aload_n dX8_whose_39 0 rfl rfl ?_
        refine x_aload_n dX8_whose_40 0 rfl rfl ?_
        refine x_iload_n dX8_whose_41 1 rfl rfl ?_
        refine x_iconst dX8_whose_42 ?_
        refine x_callVi (as := [_, _]) dX8_whose_43 lvX8_234 rfl rfl rfl rfl rfl rfl rfl ⟨rfl, rfl⟩ (s_X8_eventAt (by omega)) (fun z43 I43 L43 R43 hq43 => ?_)
        obtain ⟨rfl, rfl, rfl, rfl⟩ := hq43
        rw [show I27 11 (4 * e + 1) = I 11 (4 * e + 1) by rw [hE2.at (by unfold sce per; omega), kap_per (by unfold per; omega)]]
        refine x_aload_n dX8_whose_46 0 rfl rfl ?_
        refine x_iload_n dX8_whose_47 1 rfl rfl ?_
        refine x_iconst dX8_whose_48 ?_
        refine x_callVi (as := [_, _]) dX8_whose_49 lvX8_234 rfl rfl rfl rfl rfl rfl rfl ⟨rfl, rfl⟩ (s_X8_eventAt (by omega)) (fun z49 I49 L49 R49 hq49 => ?_)
        obtain ⟨rfl, rfl, rfl, rfl⟩ := hq49
        rw [show I27 11 (4 * e + 3) = I 11 (4 * e + 3) by rw [hE2.at (by unfold sce per; omega), kap_per (by unfold per; omega)]]
        obtain ⟨n, hn⟩ : ∃ n : Nat, I 11 (4 * e + 3) = n := ⟨(I 11 (4 * e + 3)).toNat, by omega⟩
        rw [hn]
        refine x_callVv (as := [_, _]) dX8_whose_52 lvX8_390 rfl rfl rfl rfl rfl rfl rfl ⟨rfl, rfl⟩ (s_X8_layPassing (t := n) hE2 (KA_H hH) (KA_S hH hE) (hTb (b01_1.mpr (by assumption))) (by omega) (by omega)) (fun I52 L52 R52 hq52 => ?_)
        obtain ⟨hE5, rfl, rfl, p1, p2, -⟩ := hq52
        refine x_aload_n dX8_whose_55 0 rfl rfl ?_
        refine x_aload_n dX8_whose_56 0 rfl rfl ?_
        refine x_getI dX8_whose_57 flX8_380 rfl rfl ?_
        refine x_aload_n dX8_whose_60 0 rfl rfl ?_
        refine x_getI dX8_whose_61 flX8_377 rfl rfl ?_
        rw [p2, p1]
        refine x_callVi (as := [_, _]) dX8_whose_64 lvX8_130 rfl rfl rfl rfl rfl rfl rfl ⟨rfl, rfl⟩ (s_X8_tells) (fun z64 I64 L64 R64 hq64 => ?_)
        obtain ⟨rfl, rfl, rfl, rfl⟩ := hq64
        refine x_iret dX8_whose_67 rfl ?_
        rw [← hQ]
        have hs : s_whose e I = (pMay (kap I 0 (I 0 13)) (I 11 (4 * e + 1)) n (nst (kap I 0 (I 0 13))), a_tl I (pMus (kap I 0 (I 0 13)) (I 11 (4 * e + 1)) n (nst (kap I 0 (I 0 13))))) := by
          unfold s_whose
          rw [if_neg (by omega), if_neg (by omega), if_neg (by rw [Bool.not_eq_false]; assumption), hn, Int.toNat_natCast]
        rw [hs]
        exact ⟨_, rfl, rfl, (kap_pe hE5).tl _, hLF, rfl⟩
      · refine x_aload_n dX8_whose_33 0 rfl rfl ?_
        refine x_iconst dX8_whose_34 ?_
        refine x_callVi (as := [_]) dX8_whose_35 lvX8_122 rfl rfl rfl rfl rfl rfl rfl ⟨rfl, rfl⟩ (s_X8_meets (by omega)) (fun z35 I35 L35 R35 hq35 => ?_)
        obtain ⟨rfl, rfl, rfl, rfl⟩ := hq35
        refine x_iret dX8_whose_38 rfl ?_
        rw [← hQ]
        have hs : s_whose e I = (-3, a_mt I 4) := by
          unfold s_whose
          rw [if_neg (by omega), if_neg (by omega), if_pos (by rw [← Bool.not_eq_true]; assumption)]
        rw [hs]
        exact ⟨_, rfl, rfl, (kap_pe hE2).mt 4, hLF, rfl⟩
    · refine x_aload_n dX8_whose_20 0 rfl rfl ?_
      refine x_iconst dX8_whose_21 ?_
      refine x_callVi (as := [_]) dX8_whose_22 lvX8_122 rfl rfl rfl rfl rfl rfl rfl ⟨rfl, rfl⟩ (s_X8_meets (by omega)) (fun z22 I22 L22 R22 hq22 => ?_)
      obtain ⟨rfl, rfl, rfl, rfl⟩ := hq22
      refine x_iret dX8_whose_25 rfl ?_
      rw [← hQ]
      have hs : s_whose e I = (-3, a_mt I 3) := by
        unfold s_whose
        rw [if_neg (by omega), if_pos (by omega)]
      rw [hs]
      exact ⟨_, rfl, rfl, Pe.rf _, LF.rf _, rfl⟩
  · refine x_iconst dX8_whose_8 ?_
    refine x_iret dX8_whose_9 rfl ?_
    rw [← hQ]
    have hs : s_whose e I = (-1, I) := by unfold s_whose; rw [if_pos (by omega)]
    rw [hs]
    exact ⟨_, rfl, rfl, Pe.rf _, LF.rf _, rfl⟩
theorem s_X8_same {e : Int} (hH : iHs I) (hE : iEvs I) (hL : iEvL I) (h1 : rI e) : Sp G mtX8_same [mr 0, mi e] shM I L rM (qi (fun z I' L' R' => z = (s_same e I).1 ∧ Pe (s_same e I).2 I' ∧ LF L L' ∧ R' = rM)) := by
  refine Sp.of pnX8_same rfl ?_
  show Rn G mtX8_same _ 0 [(0, mr 0), (1, mi e)] [] shM I L rM
  generalize hQ : (qi (fun z I' L' R' => z = (s_same e I).1 ∧ Pe (s_same e I).2 I' ∧ LF L L' ∧ R' = rM)) = Q
  have hW := hH.2.2.1
  have hT := hH.2.2.2.1
  have hR := hH.1
  have hl := KA_lst hH (wo := 0) (k := I 0 13)
  have hnn := nst_le (KA_H hH) (KA_S hH hE)
  have hu := KA_us hH
  have hEn := hE.1
  have hDn := hH.2.1
  have hev : 0 ≤ e → e < I 0 25 → iEv I e := fun h1 h2 => by have := hE.2 e.toNat (by omega); rw [show ((e.toNat : Nat) : Int) = e by omega] at this; exact this
  refine x_aload_n dX8_same_0 0 rfl rfl ?_
  refine x_iload_n dX8_same_1 1 rfl rfl ?_
  refine x_callVi (as := [_]) dX8_same_2 lvX8_231 rfl rfl rfl rfl rfl rfl rfl ⟨rfl, rfl⟩ (s_X8_isEvent (by omega) (by omega)) (fun z2 I2 L2 R2 hq2 => ?_)
  obtain ⟨rfl, rfl, rfl, rfl⟩ := hq2
  refine y_ifb_ne (tgt := 10) dX8_same_5 (by decide) (fun h5 => ?_) (fun h5 => ?_)
  · obtain ⟨v1, v2, v3, v4, v5, v6⟩ := hev (by omega) (by omega)
    obtain ⟨u1, u2, u3, u4, u5⟩ := hL e (by omega) (by omega)
    refine x_aload_n dX8_same_10 0 rfl rfl ?_
    refine x_iload_n dX8_same_11 1 rfl rfl ?_
    refine x_iconst dX8_same_12 ?_
    refine x_callVi (as := [_, _]) dX8_same_13 lvX8_237 rfl rfl rfl rfl rfl rfl rfl ⟨rfl, rfl⟩ (s_X8_isOf (by omega) (by omega) (by omega)) (fun z13 I13 L13 R13 hq13 => ?_)
    obtain ⟨rfl, rfl, rfl, rfl⟩ := hq13
    refine y_ifb_ne (tgt := 25) dX8_same_16 (by decide) (fun h16 => ?_) (fun h16 => ?_)
    · refine x_aload_n dX8_same_25 0 rfl rfl ?_
      refine x_callVi (as := []) dX8_same_26 lvX8_342 rfl rfl rfl rfl rfl rfl rfl ⟨rfl, rfl⟩ (s_X8_layAll hH hE) (fun z26 I26 L26 R26 hq26 => ?_)
      obtain ⟨rfl, hE2, hLF, rfl, hTb⟩ := hq26
      refine y_ifb_ne (tgt := 38) dX8_same_29 (by decide) (fun h29 => ?_) (fun h29 => ?_)
      · refine x_iconst dX8_same_38 ?_
        refine x_istore_n (lv' := [(0, _), (1, _), (2, _)]) dX8_same_39 rfl rfl rfl ?_
        refine x_iconst dX8_same_40 ?_
        refine x_aload_n dX8_same_41 0 rfl rfl ?_
        refine x_getI dX8_same_42 flX8_240 rfl rfl ?_
        refine x_ishl dX8_same_45 ?_
        refine x_iconst dX8_same_46 ?_
        refine x_isub dX8_same_47 ?_
        rw [show I26 0 34 = (kap I 0 (I 0 13)) 0 34 by exact hE2.at (by unfold sce per; omega)]
        refine x_istore_n (lv' := [(0, _), (1, _), (2, _), (3, _)]) dX8_same_48 rfl rfl rfl ?_
        refine x_iconst dX8_same_49 ?_
        refine x_istore (lv' := [(0, _), (1, _), (2, _), (3, _), (4, _)]) dX8_same_50 rfl rfl ?_
        obtain ⟨n, hn⟩ : ∃ n : Nat, I 11 (4 * e + 3) = n := ⟨(I 11 (4 * e + 3)).toNat, by omega⟩
        have hok : okA I = true := by assumption
        have hB := hTb (b01_1.mpr hok)
        have ea : I26 11 (4 * e + 1) = I 11 (4 * e + 1) := by rw [hE2.at (by unfold sce per; omega), kap_per (by unfold per; omega)]
        have et : I26 11 (4 * e + 3) = (n : Int) := by rw [hE2.at (by unfold sce per; omega), kap_per (by unfold per; omega), hn]
        have e34 : I26 0 34 = (kap I 0 (I 0 13)) 0 34 := hE2.at (by unfold sce per; omega)
        have hsm : s_same e I = (smMay (kap I 0 (I 0 13)) (I 11 (4 * e + 1)) n (nst (kap I 0 (I 0 13))), a_tl I (smMus (kap I 0 (I 0 13)) (I 11 (4 * e + 1)) n (nst (kap I 0 (I 0 13))))) := by
          unfold s_same
          rw [if_neg (by omega), if_neg (by omega), if_neg (by rw [hok]; decide), hn, Int.toNat_natCast]
        have hu2 := us_le (KA_H hH) (KA_S hH hE)
        have sl : ∀ s : Nat, s ≤ nst (kap I 0 (I 0 13)) → Rn G mtX8_same Q 52 [(0, mr 0), (1, mi e), (2, mi (smMay (kap I 0 (I 0 13)) (I 11 (4 * e + 1)) n s)), (3, mi (smMus (kap I 0 (I 0 13)) (I 11 (4 * e + 1)) n s)), (4, mi (s : Int))] [] shM I26 L26 rM := by
          refine lpn _ (fun s hs ih => ?_) ?_
          · have hs2 : s < 1728 := by omega
            have hB2 := hB n s (by omega) hs
            have wl : alv (kap I 0 (I 0 13)) n s = true → ∀ w : Nat, w ≤ us (kap I 0 (I 0 13)) → Rn G mtX8_same Q 82 [(0, mr 0), (1, mi e), (2, mi (smMay (kap I 0 (I 0 13)) (I 11 (4 * e + 1)) n s)), (3, mi (smMus (kap I 0 (I 0 13)) (I 11 (4 * e + 1)) n s)), (4, mi (s : Int)), (5, mi (orf (fun w => if (rm s w : Int) = I 11 (4 * e + 1) then z_shl 1 (w : Int) else 0) w)), (6, mi (w : Int))] [] shM I26 L26 rM := by
              intro hal
              refine lpn _ (fun w hw ihw => ?_) ?_
              · have hrm := rm_lt (w := w) hs2
                refine x_iload dX8_same_82 6 rfl ?_
                refine x_aload_n dX8_same_84 0 rfl rfl ?_
                refine x_getI dX8_same_85 flX8_240 rfl rfl ?_
                refine x_ic_ge (tgt := 127) dX8_same_88 (by decide) (by omega) (fun h88 => ?_) (fun h88 => ?_)
                · exfalso; omega
                · refine x_iload dX8_same_91 5 rfl ?_
                  refine x_aload_n dX8_same_93 0 rfl rfl ?_
                  refine x_iload dX8_same_94 4 rfl ?_
                  refine x_iload dX8_same_96 6 rfl ?_
                  refine x_callVi (as := [_, _]) dX8_same_98 lvX8_261 rfl rfl rfl rfl rfl rfl rfl ⟨rfl, rfl⟩ (s_X8_roomOf (by omega) (by omega)) (fun z98 I98 L98 R98 hq98 => ?_)
                  obtain ⟨rfl, rfl, rfl, rfl⟩ := hq98
                  refine x_aload_n dX8_same_101 0 rfl rfl ?_
                  refine x_iload_n dX8_same_102 1 rfl rfl ?_
                  refine x_iconst dX8_same_103 ?_
                  refine x_callVi (as := [_, _]) dX8_same_104 lvX8_234 rfl rfl rfl rfl rfl rfl rfl ⟨rfl, rfl⟩ (s_X8_eventAt (by omega)) (fun z104 I104 L104 R104 hq104 => ?_)
                  obtain ⟨rfl, rfl, rfl, rfl⟩ := hq104
                  rw [ea]
                  refine x_ic_ne (tgt := 117) dX8_same_107 (by decide) (by omega) (fun h107 => ?_) (fun h107 => ?_)
                  · refine x_iconst dX8_same_117 ?_
                    refine x_ior dX8_same_118 ?_
                    refine x_istore (lv' := [(0, _), (1, _), (2, _), (3, _), (4, _), (5, _), (6, _)]) dX8_same_119 rfl rfl ?_
                    refine x_iinc (lv' := [(0, _), (1, _), (2, _), (3, _), (4, _), (5, _), (6, _)]) dX8_same_121 6 rfl rfl rfl ?_
                    refine x_goto (tgt := 82) dX8_same_124 (by decide) ?_
                    unfold orf at ihw
                    first
                    | (rw [if_pos (by omega)] at ihw; exact ihw)
                    | (rw [if_neg (by omega)] at ihw; exact ihw)
                  · refine x_iconst dX8_same_110 ?_
                    refine x_iload dX8_same_111 6 rfl ?_
                    refine x_ishl dX8_same_113 ?_
                    refine x_goto (tgt := 118) dX8_same_114 (by decide) ?_
                    refine x_ior dX8_same_118 ?_
                    refine x_istore (lv' := [(0, _), (1, _), (2, _), (3, _), (4, _), (5, _), (6, _)]) dX8_same_119 rfl rfl ?_
                    refine x_iinc (lv' := [(0, _), (1, _), (2, _), (3, _), (4, _), (5, _), (6, _)]) dX8_same_121 6 rfl rfl rfl ?_
                    refine x_goto (tgt := 82) dX8_same_124 (by decide) ?_
                    unfold orf at ihw
                    first
                    | (rw [if_pos (by omega)] at ihw; exact ihw)
                    | (rw [if_neg (by omega)] at ihw; exact ihw)
              · have e1 : smMay (kap I 0 (I 0 13)) (I 11 (4 * e + 1)) n (s + 1) = z_or (smMay (kap I 0 (I 0 13)) (I 11 (4 * e + 1)) n s) (smS (kap I 0 (I 0 13)) (I 11 (4 * e + 1)) s) := foC_t hal
                have e2 : smMus (kap I 0 (I 0 13)) (I 11 (4 * e + 1)) n (s + 1) = z_and (smMus (kap I 0 (I 0 13)) (I 11 (4 * e + 1)) n s) (smS (kap I 0 (I 0 13)) (I 11 (4 * e + 1)) s) := foC_t hal
                refine x_iload dX8_same_82 6 rfl ?_
                refine x_aload_n dX8_same_84 0 rfl rfl ?_
                refine x_getI dX8_same_85 flX8_240 rfl rfl ?_
                refine x_ic_ge (tgt := 127) dX8_same_88 (by decide) (by omega) (fun h88 => ?_) (fun h88 => ?_)
                · refine x_iload_n dX8_same_127 2 rfl rfl ?_
                  refine x_iload dX8_same_128 5 rfl ?_
                  refine x_ior dX8_same_130 ?_
                  refine x_istore_n (lv' := [(0, _), (1, _), (2, _), (3, _), (4, _), (5, _), (6, _)]) dX8_same_131 rfl rfl rfl ?_
                  refine x_iload_n dX8_same_132 3 rfl rfl ?_
                  refine x_iload dX8_same_133 5 rfl ?_
                  refine x_iand dX8_same_135 ?_
                  refine x_istore_n (lv' := [(0, _), (1, _), (2, _), (3, _), (4, _), (5, _), (6, _)]) dX8_same_136 rfl rfl rfl ?_
                  refine x_iinc (lv' := [(0, _), (1, _), (2, _), (3, _), (4, _), (5, _), (6, _)]) dX8_same_137 4 rfl rfl rfl ?_
                  refine x_goto (tgt := 52) dX8_same_140 (by decide) ?_
                  refine x_top (lv' := [(0, _), (1, _), (2, _), (3, _), (4, _)]) 5 rfl ?_
                  rw [e1, e2] at ih
                  exact ih
                · exfalso; omega
            refine x_iload dX8_same_52 4 rfl ?_
            refine x_aload_n dX8_same_54 0 rfl rfl ?_
            refine x_callVi (as := []) dX8_same_55 lvX8_286 rfl rfl rfl rfl rfl rfl rfl ⟨rfl, rfl⟩ (s_X8_states hE2 (KA_H hH) (KA_S hH hE)) (fun z55 I55 L55 R55 hq55 => ?_)
            obtain ⟨rfl, rfl, rfl, rfl⟩ := hq55
            refine x_ic_ge (tgt := 143) dX8_same_58 (by decide) (by omega) (fun h58 => ?_) (fun h58 => ?_)
            · exfalso; omega
            · refine x_aload_n dX8_same_61 0 rfl rfl ?_
              refine x_aload_n dX8_same_62 0 rfl rfl ?_
              refine x_iload_n dX8_same_63 1 rfl rfl ?_
              refine x_iconst dX8_same_64 ?_
              refine x_callVi (as := [_, _]) dX8_same_65 lvX8_234 rfl rfl rfl rfl rfl rfl rfl ⟨rfl, rfl⟩ (s_X8_eventAt (by omega)) (fun z65 I65 L65 R65 hq65 => ?_)
              obtain ⟨rfl, rfl, rfl, rfl⟩ := hq65
              rw [et]
              refine x_iload dX8_same_68 4 rfl ?_
              refine x_callVi (as := [_, _]) dX8_same_70 lvX8_333 rfl rfl rfl rfl rfl rfl rfl ⟨rfl, rfl⟩ (s_X8_isAlive (t := n) (KA_H hH) (KA_S hH hE) (by omega) hs hB2.1 hB2.2) (fun z70 I70 L70 R70 hq70 => ?_)
              obtain ⟨rfl, rfl, rfl, rfl⟩ := hq70
              refine y_ifb_eq (tgt := 137) dX8_same_73 (by decide) (fun h73 => ?_) (fun h73 => ?_)
              · refine x_iinc (lv' := [(0, _), (1, _), (2, _), (3, _), (4, _)]) dX8_same_137 4 rfl rfl rfl ?_
                refine x_goto (tgt := 52) dX8_same_140 (by decide) ?_
                have hna : ¬ alv (kap I 0 (I 0 13)) n s = true := by assumption
                unfold smMay smMus at ih
                rw [foC_f hna, foC_f hna] at ih
                exact ih
              · refine x_iconst dX8_same_76 ?_
                refine x_istore (lv' := [(0, _), (1, _), (2, _), (3, _), (4, _), (5, _)]) dX8_same_77 rfl rfl ?_
                refine x_iconst dX8_same_79 ?_
                refine x_istore (lv' := [(0, _), (1, _), (2, _), (3, _), (4, _), (5, _), (6, _)]) dX8_same_80 rfl rfl ?_
                exact wl (by assumption) 0 (by omega)
          · refine x_iload dX8_same_52 4 rfl ?_
            refine x_aload_n dX8_same_54 0 rfl rfl ?_
            refine x_callVi (as := []) dX8_same_55 lvX8_286 rfl rfl rfl rfl rfl rfl rfl ⟨rfl, rfl⟩ (s_X8_states hE2 (KA_H hH) (KA_S hH hE)) (fun z55 I55 L55 R55 hq55 => ?_)
            obtain ⟨rfl, rfl, rfl, rfl⟩ := hq55
            refine x_ic_ge (tgt := 143) dX8_same_58 (by decide) (by omega) (fun h58 => ?_) (fun h58 => ?_)
            · refine x_aload_n dX8_same_143 0 rfl rfl ?_
              refine x_iload_n dX8_same_144 3 rfl rfl ?_
              refine x_iload_n dX8_same_145 2 rfl rfl ?_
              refine x_callVi (as := [_, _]) dX8_same_146 lvX8_130 rfl rfl rfl rfl rfl rfl rfl ⟨rfl, rfl⟩ (s_X8_tells) (fun z146 I146 L146 R146 hq146 => ?_)
              obtain ⟨rfl, rfl, rfl, rfl⟩ := hq146
              refine x_iret dX8_same_149 rfl ?_
              rw [← hQ, hsm]
              exact ⟨_, rfl, rfl, (kap_pe hE2).tl _, hLF, rfl⟩
            · exfalso; omega
        exact sl 0 (by omega)
      · refine x_aload_n dX8_same_32 0 rfl rfl ?_
        refine x_iconst dX8_same_33 ?_
        refine x_callVi (as := [_]) dX8_same_34 lvX8_122 rfl rfl rfl rfl rfl rfl rfl ⟨rfl, rfl⟩ (s_X8_meets (by omega)) (fun z34 I34 L34 R34 hq34 => ?_)
        obtain ⟨rfl, rfl, rfl, rfl⟩ := hq34
        refine x_iret dX8_same_37 rfl ?_
        rw [← hQ]
        have hs : s_same e I = (-3, a_mt I 4) := by
          unfold s_same
          rw [if_neg (by omega), if_neg (by omega), if_pos (by rw [← Bool.not_eq_true]; assumption)]
        rw [hs]
        exact ⟨_, rfl, rfl, (kap_pe hE2).mt 4, hLF, rfl⟩
    · refine x_aload_n dX8_same_19 0 rfl rfl ?_
      refine x_iconst dX8_same_20 ?_
      refine x_callVi (as := [_]) dX8_same_21 lvX8_122 rfl rfl rfl rfl rfl rfl rfl ⟨rfl, rfl⟩ (s_X8_meets (by omega)) (fun z21 I21 L21 R21 hq21 => ?_)
      obtain ⟨rfl, rfl, rfl, rfl⟩ := hq21
      refine x_iret dX8_same_24 rfl ?_
      rw [← hQ]
      have hs : s_same e I = (-3, a_mt I 3) := by
        unfold s_same
        rw [if_neg (by omega), if_pos (by omega)]
      rw [hs]
      exact ⟨_, rfl, rfl, Pe.rf _, LF.rf _, rfl⟩
  · refine x_iconst dX8_same_8 ?_
    refine x_iret dX8_same_9 rfl ?_
    rw [← hQ]
    have hs : s_same e I = (-1, I) := by unfold s_same; rw [if_pos (by omega)]
    rw [hs]
    exact ⟨_, rfl, rfl, Pe.rf _, LF.rf _, rfl⟩
end

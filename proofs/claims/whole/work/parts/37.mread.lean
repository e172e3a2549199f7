/-! THE REFERENCE: calls on nights, events; what is told. -/
section
variable {G : GT} {sh : MS} {I L : MI} {R : MR} {κ : MI} {t : Int} {B : Nat → Int}

set_option maxHeartbeats 1500000 in
theorem s_X8_night {t : Int} (hH : iHs I) (hE : iEvs I) (hX : iTexts I) (h1 : rI t) : Sp G mtX8_night [mr 0, mi t] shM I L rM (qi (fun z I' L' R' => (okN t I → z = ((nigF (BY I t) I (I 5 t).toNat).2.2.length : Int) ∧ nsI I (nigF (BY I t) I (I 5 t).toNat).2.2 I') ∧ (¬ okN t I → z = (s_night1 t I).1 ∧ Pe (s_night1 t I).2 I') ∧ L = L' ∧ R' = rM)) := by
  refine Sp.of pnX8_night rfl ?_
  show Rn G mtX8_night _ 0 [(0, mr 0), (1, mi t)] [] shM I L rM
  generalize hQ : (qi (fun z I' L' R' => (okN t I → z = ((nigF (BY I t) I (I 5 t).toNat).2.2.length : Int) ∧ nsI I (nigF (BY I t) I (I 5 t).toNat).2.2 I') ∧ (¬ okN t I → z = (s_night1 t I).1 ∧ Pe (s_night1 t I).2 I') ∧ L = L' ∧ R' = rM)) = Q
  refine x_iload_n dX8_night_0 1 rfl rfl ?_
  refine x_callSi (as := [_]) dX8_night_1 lvX8_133 rfl rfl rfl rfl ⟨rfl, rfl⟩ (s_X8_isText (by omega)) (fun z1 I1 L1 R1 hq1 => ?_)
  obtain ⟨rfl, rfl, rfl, rfl⟩ := hq1
  refine y_ifb_ne (tgt := 9) dX8_night_4 (by decide) (fun h4 => ?_) (fun h4 => ?_)
  · have hx := hX.1 t (by omega) (by omega)
    have hRT := BY_RT hX (t := t) (by omega)
    refine x_aload_n dX8_night_9 0 rfl rfl ?_
    refine x_getR dX8_night_10 flX8_22 rfl rfl rfl ?_
    refine x_iload_n dX8_night_13 1 rfl rfl ?_
    refine x_iald dX8_night_14 rfl (by omega) ?_
    refine x_if_ge (tgt := 24) dX8_night_15 (by decide) (by first | omega | exact z_and_r _ _ | exact z_or_r _ _ | exact z_xor_r _ _) (fun h15 => ?_) (fun h15 => ?_)
    · refine x_aload_n dX8_night_24 0 rfl rfl ?_
      refine x_iload_n dX8_night_25 1 rfl rfl ?_
      refine x_callVi (as := [_]) dX8_night_26 lvX8_211 rfl rfl rfl rfl rfl rfl rfl ⟨rfl, rfl⟩ (s_X8_nightFault hRT hH (by omega)) (fun z26 I26 L26 R26 hq26 => ?_)
      obtain ⟨rfl, hRE, rfl, rfl, hNR⟩ := hq26
      have hzr := nigF_r (BY I t) I (I 5 t).toNat
      refine x_bipush dX8_night_29 (by decide) ?_
      refine x_ic_eq (tgt := 37) dX8_night_31 (by decide) (by first | omega | exact z_and_r _ _ | exact z_or_r _ _ | exact z_xor_r _ _) (fun h31 => ?_) (fun h31 => ?_)
      · obtain ⟨⟨n1, n2, n3, n4⟩, n5⟩ := hNR (by assumption)
        obtain ⟨es, hes⟩ : ∃ x, x = (nigF (BY I t) I (I 5 t).toNat).2.2 := ⟨_, rfl⟩
        rw [← hes] at n3 n4 n5
        have hEn := hE.1
        have e25 : I26 0 25 = I 0 25 := hRE.pe 0 25 (by unfold per; omega)
        refine x_aload_n dX8_night_37 0 rfl rfl ?_
        refine x_getI dX8_night_38 flX8_217 rfl rfl ?_
        refine x_aload_n dX8_night_41 0 rfl rfl ?_
        refine x_getI dX8_night_42 flX8_189 rfl rfl ?_
        rw [e25, n3]
        refine x_iadd dX8_night_45 ?_
        refine x_bipush dX8_night_46 (by decide) ?_
        refine x_ic_le (tgt := 54) dX8_night_48 (by decide) (by first | omega | exact z_and_r _ _ | exact z_or_r _ _ | exact z_xor_r _ _) (fun h48 => ?_) (fun h48 => ?_)
        · refine x_iconst dX8_night_54 ?_
          refine x_istore_n (lv' := [(0, _), (1, _), (2, _)]) dX8_night_55 rfl rfl rfl ?_
          have hok : okN t I := ⟨by omega, by omega, by assumption, by rw [← hes]; omega⟩
          have loop : ∀ k : Nat, k ≤ es.length → ∀ J : MI, (∀ c j, ¬ (c = 11 ∧ 4 * I 0 25 ≤ j) → ¬ (c = 0 ∧ j = 25) → J c j = I26 c j) → J 0 25 = I 0 25 + (k : Int) → (∀ (i : Nat) q, i < k → es[i]? = some q → J 11 (4 * (I 0 25 + (i : Int))) = q.1 ∧ J 11 (4 * (I 0 25 + (i : Int)) + 1) = q.2.1 ∧ J 11 (4 * (I 0 25 + (i : Int)) + 2) = q.2.2.1 ∧ J 11 (4 * (I 0 25 + (i : Int)) + 3) = q.2.2.2) → Rn G mtX8_night Q 56 [(0, mr 0), (1, mi t), (2, mi (k : Int))] [] shM J L rM := by
            refine lpn _ (fun k hk ih => ?_) ?_
            · intro J hJ h25 hA
              have j27 : J 0 27 = (es.length : Int) := by rw [hJ 0 27 (by omega) (by omega)]; exact n3
              have j12 : ∀ x, J 12 x = I26 12 x := fun x => hJ 12 x (by omega) (by omega)
              refine x_iload_n dX8_night_56 2 rfl rfl ?_
              refine x_aload_n dX8_night_57 0 rfl rfl ?_
              refine x_getI dX8_night_58 flX8_189 rfl rfl ?_
              refine x_ic_ge (tgt := 113) dX8_night_61 (by decide) (by first | omega | exact z_and_r _ _ | exact z_or_r _ _ | exact z_xor_r _ _) (fun h61 => ?_) (fun h61 => ?_)
              · exfalso; omega
              · refine x_aload_n dX8_night_64 0 rfl rfl ?_
                refine x_aload_n dX8_night_65 0 rfl rfl ?_
                refine x_getR dX8_night_66 flX8_44 rfl rfl rfl ?_
                refine x_iconst dX8_night_69 ?_
                refine x_iload_n dX8_night_70 2 rfl rfl ?_
                refine x_imul dX8_night_71 ?_
                refine x_iald dX8_night_72 rfl (by omega) ?_
                refine x_aload_n dX8_night_73 0 rfl rfl ?_
                refine x_getR dX8_night_74 flX8_44 rfl rfl rfl ?_
                refine x_iconst dX8_night_77 ?_
                refine x_iload_n dX8_night_78 2 rfl rfl ?_
                refine x_imul dX8_night_79 ?_
                refine x_iconst dX8_night_80 ?_
                refine x_iadd dX8_night_81 ?_
                refine x_iald dX8_night_82 rfl (by omega) ?_
                refine x_aload_n dX8_night_83 0 rfl rfl ?_
                refine x_getR dX8_night_84 flX8_44 rfl rfl rfl ?_
                refine x_iconst dX8_night_87 ?_
                refine x_iload_n dX8_night_88 2 rfl rfl ?_
                refine x_imul dX8_night_89 ?_
                refine x_iconst dX8_night_90 ?_
                refine x_iadd dX8_night_91 ?_
                refine x_iald dX8_night_92 rfl (by omega) ?_
                refine x_aload_n dX8_night_93 0 rfl rfl ?_
                refine x_getR dX8_night_94 flX8_44 rfl rfl rfl ?_
                refine x_iconst dX8_night_97 ?_
                refine x_iload_n dX8_night_98 2 rfl rfl ?_
                refine x_imul dX8_night_99 ?_
                refine x_iconst dX8_night_100 ?_
                refine x_iadd dX8_night_101 ?_
                refine x_iald dX8_night_102 rfl (by omega) ?_
                refine x_callVi (as := [_, _, _, _]) dX8_night_103 lvX8_220 rfl rfl rfl rfl rfl rfl rfl ⟨rfl, rfl⟩ (s_X8_comes (by omega)) (fun z103 I103 L103 R103 hq103 => ?_)
                obtain ⟨rfl, hI103, rfl, rfl⟩ := hq103
                refine x_pop dX8_night_106 rfl ?_
                refine x_iinc (lv' := [(0, _), (1, _), (2, _)]) dX8_night_107 2 rfl rfl rfl ?_
                refine x_goto (tgt := 56) dX8_night_110 (by decide) ?_
                rw [hI103]
                unfold cmE
                refine ih _ (fun c j q1 q2 => ?_) ?_ (fun i q hi hq => ?_)
                · unfold m_up
                  rw [if_neg (by omega), if_neg (by omega), if_neg (by omega), if_neg (by omega), if_neg (by omega)]
                  exact hJ c j q1 q2
                · rw [m_up_eq, h25]
                  omega
                · by_cases e : i = k
                  · subst e
                    obtain ⟨a1, a2, a3, a4⟩ := n4 i q hq
                    rw [h25, m_up_ne (by decide), m_up_nj (by omega), m_up_nj (by omega), m_up_nj (by omega), m_up_eq, m_up_ne (by decide), m_up_nj (by omega), m_up_nj (by omega), m_up_eq, m_up_ne (by decide), m_up_nj (by omega), m_up_eq, m_up_ne (by decide), m_up_eq, j12, j12, j12, j12]
                    exact ⟨a1, a2, a3, a4⟩
                  · obtain ⟨a1, a2, a3, a4⟩ := hA i q (by omega) hq
                    have u : ∀ x, x < 4 * J 0 25 → m_up (m_up (m_up (m_up (m_up J 11 (4 * J 0 25) (J 12 (4 * (k : Int)))) 11 (4 * J 0 25 + 1) (J 12 (4 * (k : Int) + 1))) 11 (4 * J 0 25 + 2) (J 12 (4 * (k : Int) + 2))) 11 (4 * J 0 25 + 3) (J 12 (4 * (k : Int) + 3))) 0 25 (J 0 25 + 1) 11 x = J 11 x := fun x hx => by
                      rw [m_up_ne (by decide), m_up_nj (by omega), m_up_nj (by omega), m_up_nj (by omega), m_up_nj (by omega)]
                    rw [u _ (by omega), u _ (by omega), u _ (by omega), u _ (by omega)]
                    exact ⟨a1, a2, a3, a4⟩
            · intro J hJ h25 hA
              have j27 : J 0 27 = (es.length : Int) := by rw [hJ 0 27 (by omega) (by omega)]; exact n3
              refine x_iload_n dX8_night_56 2 rfl rfl ?_
              refine x_aload_n dX8_night_57 0 rfl rfl ?_
              refine x_getI dX8_night_58 flX8_189 rfl rfl ?_
              refine x_ic_ge (tgt := 113) dX8_night_61 (by decide) (by first | omega | exact z_and_r _ _ | exact z_or_r _ _ | exact z_xor_r _ _) (fun h61 => ?_) (fun h61 => ?_)
              · refine x_aload_n dX8_night_113 0 rfl rfl ?_
                refine x_getI dX8_night_114 flX8_189 rfl rfl ?_
                refine x_iret dX8_night_117 rfl ?_
                rw [← hQ]
                refine ⟨_, rfl, fun _ => ?_, fun h => absurd hok h, rfl, rfl⟩
                rw [← hes]
                refine ⟨j27, h25, fun i q hq => hA i q (List.getElem?_eq_some_iff.mp hq).1 hq, fun c j q1 q2 q3 => ?_⟩
                rw [hJ c j q2 q3]
                exact hRE.pe c j q1
              · exfalso; omega
          exact loop 0 (by omega) _ (fun _ _ _ _ => rfl) (by rw [e25]; exact (Int.add_zero _).symm) (fun i q hi => by omega)
        · refine x_bipush dX8_night_51 (by decide) ?_
          refine x_iret dX8_night_53 rfl ?_
          rw [← hQ]
          have hs : s_night1 t I = (-2, I) := by
            unfold s_night1
            rw [if_neg (by omega), if_neg (by omega), if_neg (by omega)]
          refine ⟨_, rfl, fun h => ?_, fun _ => ?_, rfl, rfl⟩
          · exfalso
            obtain ⟨x1, x2, x3, x4⟩ := h
            rw [← hes] at x4; omega
          · rw [hs]
            exact ⟨rfl, hRE.pe⟩
      · refine x_bipush dX8_night_34 (by decide) ?_
        refine x_iret dX8_night_36 rfl ?_
        rw [← hQ]
        have hs : s_night1 t I = (-4, I) := by
          unfold s_night1
          rw [if_neg (by omega), if_neg (by omega), if_pos (by assumption)]
        refine ⟨_, rfl, fun h => ?_, fun _ => ?_, rfl, rfl⟩
        · exfalso
          obtain ⟨x1, x2, x3, x4⟩ := h
          exact absurd x3 (by assumption)
        · rw [hs]
          exact ⟨rfl, hRE.pe⟩
    · refine x_aload_n dX8_night_18 0 rfl rfl ?_
      refine x_iconst dX8_night_19 ?_
      refine x_callVi (as := [_]) dX8_night_20 lvX8_122 rfl rfl rfl rfl rfl rfl rfl ⟨rfl, rfl⟩ (s_X8_meets (by omega)) (fun z20 I20 L20 R20 hq20 => ?_)
      obtain ⟨rfl, rfl, rfl, rfl⟩ := hq20
      refine x_iret dX8_night_23 rfl ?_
      rw [← hQ]
      have hs : s_night1 t I = (-3, a_mt I 1) := by
        unfold s_night1
        rw [if_neg (by omega), if_pos (by omega)]
      refine ⟨_, rfl, fun h => ?_, fun _ => ?_, rfl, rfl⟩
      · exfalso
        obtain ⟨x1, x2, x3, x4⟩ := h
        omega
      · rw [hs]
        exact ⟨rfl, Pe.rf _⟩
  · refine x_iconst dX8_night_7 ?_
    refine x_iret dX8_night_8 rfl ?_
    rw [← hQ]
    have hs : s_night1 t I = (-1, I) := by
      unfold s_night1
      rw [if_pos (by omega)]
    refine ⟨_, rfl, fun h => ?_, fun _ => ?_, rfl, rfl⟩
    · exfalso
      obtain ⟨x1, x2, x3, x4⟩ := h
      omega
    · rw [hs]
      exact ⟨rfl, Pe.rf _⟩
theorem s_X8_isEventTold {k a b t : Int} (hH : iHs I) (h1 : rI k) (h2 : rI a) (h3 : rI b) (h4 : rI t) : Sp G mtX8_isEventTold [mr 0, mi k, mi a, mi b, mi t] shM I L rM (qi (pu (b01 (etQ I k a b t = true)) I L rM)) := by
  refine Sp.of pnX8_isEventTold rfl ?_
  show Rn G mtX8_isEventTold _ 0 [(0, mr 0), (1, mi k), (2, mi a), (3, mi b), (4, mi t)] [] shM I L rM
  generalize hQ : (qi (pu (b01 (etQ I k a b t = true)) I L rM)) = Q
  have hR := hH.1
  have hD := hH.2.1
  have hW := hH.2.2.1
  have hT := hH.2.2.2.1
  have hdo := hH.2.2.2.2.1 a
  have h7 : 0 ≤ a → a ≤ I 0 12 - 1 → rI (I 7 (3 * a + 2)) := fun q1 q2 => by have := hdo q1 (by omega); omega
  have hk : k = 1 ∨ k = 2 ∨ k = 3 ∨ k = 4 ∨ k = 5 ∨ (k < 1 ∨ 5 < k) := by omega
  refine x_iload_n dX8_isEventTold_0 1 rfl rfl ?_
  rcases hk with sw1 | sw1 | sw1 | sw1 | sw1 | sw1
  · rw [sw1]
    refine x_tswIn (off := 35) (tgt := 36) dX8_isEventTold_1 (by decide) (by decide) rfl (by decide) ?_
    refine x_aload_n dX8_isEventTold_36 0 rfl rfl ?_
    refine x_iload_n dX8_isEventTold_37 2 rfl rfl ?_
    refine x_callVi (as := [_]) dX8_isEventTold_38 lvX8_192 rfl rfl rfl rfl rfl rfl rfl ⟨rfl, rfl⟩ (s_X8_isDoor (by omega) (by omega)) (fun z38 I38 L38 R38 hq38 => ?_)
    obtain ⟨rfl, rfl, rfl, rfl⟩ := hq38
    refine y_ifb_eq (tgt := 71) dX8_isEventTold_41 (by decide) (fun h41 => ?_) (fun h41 => ?_)
    · refine x_iconst dX8_isEventTold_71 ?_
      refine x_zret dX8_isEventTold_72 rfl (by omega) ?_
      rw [← hQ]
      refine ⟨_, rfl, ?_, rfl, rfl, rfl⟩
      unfold etQ
      first
      | (rw [if_pos (by omega)]; first | exact b01_t (by rw [decide_eq_true_eq]; omega) | exact b01_f (by rw [decide_eq_true_eq]; omega))
      | (rw [if_neg (by omega), if_pos (by omega)]; first | exact b01_t (by rw [decide_eq_true_eq]; omega) | exact b01_f (by rw [decide_eq_true_eq]; omega))
      | (rw [if_neg (by omega), if_neg (by omega), if_pos (by omega)]; first | exact b01_t (by rw [decide_eq_true_eq]; omega) | exact b01_f (by rw [decide_eq_true_eq]; omega))
      | (rw [if_neg (by omega), if_neg (by omega), if_neg (by omega), if_pos (by omega)]; first | exact b01_t (by rw [decide_eq_true_eq]; omega) | exact b01_f (by rw [decide_eq_true_eq]; omega))
      | (rw [if_neg (by omega), if_neg (by omega), if_neg (by omega), if_neg (by omega), if_pos (by omega)]; first | exact b01_t (by rw [decide_eq_true_eq]; omega) | exact b01_f (by rw [decide_eq_true_eq]; omega))
      | (rw [if_neg (by omega), if_neg (by omega), if_neg (by omega), if_neg (by omega), if_neg (by omega)]; exact b01_f (by decide))
    · refine x_aload_n dX8_isEventTold_44 0 rfl rfl ?_
      refine x_iload_n dX8_isEventTold_45 2 rfl rfl ?_
      refine x_callVi (as := [_]) dX8_isEventTold_46 lvX8_195 rfl rfl rfl rfl rfl rfl rfl ⟨rfl, rfl⟩ (s_X8_hasBoard (by omega) (h7 (by omega) (by omega))) (fun z46 I46 L46 R46 hq46 => ?_)
      obtain ⟨rfl, rfl, rfl, rfl⟩ := hq46
      refine y_ifb_eq (tgt := 71) dX8_isEventTold_49 (by decide) (fun h49 => ?_) (fun h49 => ?_)
      · refine x_iconst dX8_isEventTold_71 ?_
        refine x_zret dX8_isEventTold_72 rfl (by omega) ?_
        rw [← hQ]
        refine ⟨_, rfl, ?_, rfl, rfl, rfl⟩
        unfold etQ
        first
        | (rw [if_pos (by omega)]; first | exact b01_t (by rw [decide_eq_true_eq]; omega) | exact b01_f (by rw [decide_eq_true_eq]; omega))
        | (rw [if_neg (by omega), if_pos (by omega)]; first | exact b01_t (by rw [decide_eq_true_eq]; omega) | exact b01_f (by rw [decide_eq_true_eq]; omega))
        | (rw [if_neg (by omega), if_neg (by omega), if_pos (by omega)]; first | exact b01_t (by rw [decide_eq_true_eq]; omega) | exact b01_f (by rw [decide_eq_true_eq]; omega))
        | (rw [if_neg (by omega), if_neg (by omega), if_neg (by omega), if_pos (by omega)]; first | exact b01_t (by rw [decide_eq_true_eq]; omega) | exact b01_f (by rw [decide_eq_true_eq]; omega))
        | (rw [if_neg (by omega), if_neg (by omega), if_neg (by omega), if_neg (by omega), if_pos (by omega)]; first | exact b01_t (by rw [decide_eq_true_eq]; omega) | exact b01_f (by rw [decide_eq_true_eq]; omega))
        | (rw [if_neg (by omega), if_neg (by omega), if_neg (by omega), if_neg (by omega), if_neg (by omega)]; exact b01_f (by decide))
      · refine x_iload dX8_isEventTold_52 4 rfl ?_
        refine x_iconst dX8_isEventTold_54 ?_
        refine x_aload_n dX8_isEventTold_55 0 rfl rfl ?_
        refine x_getI dX8_isEventTold_56 flX8_99 rfl rfl ?_
        refine x_iconst dX8_isEventTold_59 ?_
        refine x_isub dX8_isEventTold_60 ?_
        refine x_callSi (as := [_, _, _]) dX8_isEventTold_61 lvX8_105 rfl rfl rfl rfl ⟨rfl, rfl⟩ (s_X8_in (by omega) (by omega) (by omega)) (fun z61 I61 L61 R61 hq61 => ?_)
        obtain ⟨rfl, rfl, rfl, rfl⟩ := hq61
        refine y_ifb_eq (tgt := 71) dX8_isEventTold_64 (by decide) (fun h64 => ?_) (fun h64 => ?_)
        · refine x_iconst dX8_isEventTold_71 ?_
          refine x_zret dX8_isEventTold_72 rfl (by omega) ?_
          rw [← hQ]
          refine ⟨_, rfl, ?_, rfl, rfl, rfl⟩
          unfold etQ
          first
          | (rw [if_pos (by omega)]; first | exact b01_t (by rw [decide_eq_true_eq]; omega) | exact b01_f (by rw [decide_eq_true_eq]; omega))
          | (rw [if_neg (by omega), if_pos (by omega)]; first | exact b01_t (by rw [decide_eq_true_eq]; omega) | exact b01_f (by rw [decide_eq_true_eq]; omega))
          | (rw [if_neg (by omega), if_neg (by omega), if_pos (by omega)]; first | exact b01_t (by rw [decide_eq_true_eq]; omega) | exact b01_f (by rw [decide_eq_true_eq]; omega))
          | (rw [if_neg (by omega), if_neg (by omega), if_neg (by omega), if_pos (by omega)]; first | exact b01_t (by rw [decide_eq_true_eq]; omega) | exact b01_f (by rw [decide_eq_true_eq]; omega))
          | (rw [if_neg (by omega), if_neg (by omega), if_neg (by omega), if_neg (by omega), if_pos (by omega)]; first | exact b01_t (by rw [decide_eq_true_eq]; omega) | exact b01_f (by rw [decide_eq_true_eq]; omega))
          | (rw [if_neg (by omega), if_neg (by omega), if_neg (by omega), if_neg (by omega), if_neg (by omega)]; exact b01_f (by decide))
        · refine x_iconst dX8_isEventTold_67 ?_
          refine x_goto (tgt := 72) dX8_isEventTold_68 (by decide) ?_
          refine x_zret dX8_isEventTold_72 rfl (by omega) ?_
          rw [← hQ]
          refine ⟨_, rfl, ?_, rfl, rfl, rfl⟩
          unfold etQ
          first
          | (rw [if_pos (by omega)]; first | exact b01_t (by rw [decide_eq_true_eq]; omega) | exact b01_f (by rw [decide_eq_true_eq]; omega))
          | (rw [if_neg (by omega), if_pos (by omega)]; first | exact b01_t (by rw [decide_eq_true_eq]; omega) | exact b01_f (by rw [decide_eq_true_eq]; omega))
          | (rw [if_neg (by omega), if_neg (by omega), if_pos (by omega)]; first | exact b01_t (by rw [decide_eq_true_eq]; omega) | exact b01_f (by rw [decide_eq_true_eq]; omega))
          | (rw [if_neg (by omega), if_neg (by omega), if_neg (by omega), if_pos (by omega)]; first | exact b01_t (by rw [decide_eq_true_eq]; omega) | exact b01_f (by rw [decide_eq_true_eq]; omega))
          | (rw [if_neg (by omega), if_neg (by omega), if_neg (by omega), if_neg (by omega), if_pos (by omega)]; first | exact b01_t (by rw [decide_eq_true_eq]; omega) | exact b01_f (by rw [decide_eq_true_eq]; omega))
          | (rw [if_neg (by omega), if_neg (by omega), if_neg (by omega), if_neg (by omega), if_neg (by omega)]; exact b01_f (by decide))
  · rw [sw1]
    refine x_tswIn (off := 72) (tgt := 73) dX8_isEventTold_1 (by decide) (by decide) rfl (by decide) ?_
    refine x_aload_n dX8_isEventTold_73 0 rfl rfl ?_
    refine x_iload_n dX8_isEventTold_74 2 rfl rfl ?_
    refine x_callVi (as := [_]) dX8_isEventTold_75 lvX8_198 rfl rfl rfl rfl rfl rfl rfl ⟨rfl, rfl⟩ (s_X8_isRoom (by omega) (by omega)) (fun z75 I75 L75 R75 hq75 => ?_)
    obtain ⟨rfl, rfl, rfl, rfl⟩ := hq75
    refine y_ifb_eq (tgt := 98) dX8_isEventTold_78 (by decide) (fun h78 => ?_) (fun h78 => ?_)
    · refine x_iconst dX8_isEventTold_98 ?_
      refine x_zret dX8_isEventTold_99 rfl (by omega) ?_
      rw [← hQ]
      refine ⟨_, rfl, ?_, rfl, rfl, rfl⟩
      unfold etQ
      first
      | (rw [if_pos (by omega)]; first | exact b01_t (by rw [decide_eq_true_eq]; omega) | exact b01_f (by rw [decide_eq_true_eq]; omega))
      | (rw [if_neg (by omega), if_pos (by omega)]; first | exact b01_t (by rw [decide_eq_true_eq]; omega) | exact b01_f (by rw [decide_eq_true_eq]; omega))
      | (rw [if_neg (by omega), if_neg (by omega), if_pos (by omega)]; first | exact b01_t (by rw [decide_eq_true_eq]; omega) | exact b01_f (by rw [decide_eq_true_eq]; omega))
      | (rw [if_neg (by omega), if_neg (by omega), if_neg (by omega), if_pos (by omega)]; first | exact b01_t (by rw [decide_eq_true_eq]; omega) | exact b01_f (by rw [decide_eq_true_eq]; omega))
      | (rw [if_neg (by omega), if_neg (by omega), if_neg (by omega), if_neg (by omega), if_pos (by omega)]; first | exact b01_t (by rw [decide_eq_true_eq]; omega) | exact b01_f (by rw [decide_eq_true_eq]; omega))
      | (rw [if_neg (by omega), if_neg (by omega), if_neg (by omega), if_neg (by omega), if_neg (by omega)]; exact b01_f (by decide))
    · refine x_iload dX8_isEventTold_81 4 rfl ?_
      refine x_iconst dX8_isEventTold_83 ?_
      refine x_aload_n dX8_isEventTold_84 0 rfl rfl ?_
      refine x_getI dX8_isEventTold_85 flX8_99 rfl rfl ?_
      refine x_callSi (as := [_, _, _]) dX8_isEventTold_88 lvX8_105 rfl rfl rfl rfl ⟨rfl, rfl⟩ (s_X8_in (by omega) (by omega) (by omega)) (fun z88 I88 L88 R88 hq88 => ?_)
      obtain ⟨rfl, rfl, rfl, rfl⟩ := hq88
      refine y_ifb_eq (tgt := 98) dX8_isEventTold_91 (by decide) (fun h91 => ?_) (fun h91 => ?_)
      · refine x_iconst dX8_isEventTold_98 ?_
        refine x_zret dX8_isEventTold_99 rfl (by omega) ?_
        rw [← hQ]
        refine ⟨_, rfl, ?_, rfl, rfl, rfl⟩
        unfold etQ
        first
        | (rw [if_pos (by omega)]; first | exact b01_t (by rw [decide_eq_true_eq]; omega) | exact b01_f (by rw [decide_eq_true_eq]; omega))
        | (rw [if_neg (by omega), if_pos (by omega)]; first | exact b01_t (by rw [decide_eq_true_eq]; omega) | exact b01_f (by rw [decide_eq_true_eq]; omega))
        | (rw [if_neg (by omega), if_neg (by omega), if_pos (by omega)]; first | exact b01_t (by rw [decide_eq_true_eq]; omega) | exact b01_f (by rw [decide_eq_true_eq]; omega))
        | (rw [if_neg (by omega), if_neg (by omega), if_neg (by omega), if_pos (by omega)]; first | exact b01_t (by rw [decide_eq_true_eq]; omega) | exact b01_f (by rw [decide_eq_true_eq]; omega))
        | (rw [if_neg (by omega), if_neg (by omega), if_neg (by omega), if_neg (by omega), if_pos (by omega)]; first | exact b01_t (by rw [decide_eq_true_eq]; omega) | exact b01_f (by rw [decide_eq_true_eq]; omega))
        | (rw [if_neg (by omega), if_neg (by omega), if_neg (by omega), if_neg (by omega), if_neg (by omega)]; exact b01_f (by decide))
      · refine x_iconst dX8_isEventTold_94 ?_
        refine x_goto (tgt := 99) dX8_isEventTold_95 (by decide) ?_
        refine x_zret dX8_isEventTold_99 rfl (by omega) ?_
        rw [← hQ]
        refine ⟨_, rfl, ?_, rfl, rfl, rfl⟩
        unfold etQ
        first
        | (rw [if_pos (by omega)]; first | exact b01_t (by rw [decide_eq_true_eq]; omega) | exact b01_f (by rw [decide_eq_true_eq]; omega))
        | (rw [if_neg (by omega), if_pos (by omega)]; first | exact b01_t (by rw [decide_eq_true_eq]; omega) | exact b01_f (by rw [decide_eq_true_eq]; omega))
        | (rw [if_neg (by omega), if_neg (by omega), if_pos (by omega)]; first | exact b01_t (by rw [decide_eq_true_eq]; omega) | exact b01_f (by rw [decide_eq_true_eq]; omega))
        | (rw [if_neg (by omega), if_neg (by omega), if_neg (by omega), if_pos (by omega)]; first | exact b01_t (by rw [decide_eq_true_eq]; omega) | exact b01_f (by rw [decide_eq_true_eq]; omega))
        | (rw [if_neg (by omega), if_neg (by omega), if_neg (by omega), if_neg (by omega), if_pos (by omega)]; first | exact b01_t (by rw [decide_eq_true_eq]; omega) | exact b01_f (by rw [decide_eq_true_eq]; omega))
        | (rw [if_neg (by omega), if_neg (by omega), if_neg (by omega), if_neg (by omega), if_neg (by omega)]; exact b01_f (by decide))
  · rw [sw1]
    refine x_tswIn (off := 99) (tgt := 100) dX8_isEventTold_1 (by decide) (by decide) rfl (by decide) ?_
    refine x_aload_n dX8_isEventTold_100 0 rfl rfl ?_
    refine x_iload_n dX8_isEventTold_101 2 rfl rfl ?_
    refine x_callVi (as := [_]) dX8_isEventTold_102 lvX8_198 rfl rfl rfl rfl rfl rfl rfl ⟨rfl, rfl⟩ (s_X8_isRoom (by omega) (by omega)) (fun z102 I102 L102 R102 hq102 => ?_)
    obtain ⟨rfl, rfl, rfl, rfl⟩ := hq102
    refine y_ifb_eq (tgt := 133) dX8_isEventTold_105 (by decide) (fun h105 => ?_) (fun h105 => ?_)
    · refine x_iconst dX8_isEventTold_133 ?_
      refine x_zret dX8_isEventTold_134 rfl (by omega) ?_
      rw [← hQ]
      refine ⟨_, rfl, ?_, rfl, rfl, rfl⟩
      unfold etQ
      first
      | (rw [if_pos (by omega)]; first | exact b01_t (by rw [decide_eq_true_eq]; omega) | exact b01_f (by rw [decide_eq_true_eq]; omega))
      | (rw [if_neg (by omega), if_pos (by omega)]; first | exact b01_t (by rw [decide_eq_true_eq]; omega) | exact b01_f (by rw [decide_eq_true_eq]; omega))
      | (rw [if_neg (by omega), if_neg (by omega), if_pos (by omega)]; first | exact b01_t (by rw [decide_eq_true_eq]; omega) | exact b01_f (by rw [decide_eq_true_eq]; omega))
      | (rw [if_neg (by omega), if_neg (by omega), if_neg (by omega), if_pos (by omega)]; first | exact b01_t (by rw [decide_eq_true_eq]; omega) | exact b01_f (by rw [decide_eq_true_eq]; omega))
      | (rw [if_neg (by omega), if_neg (by omega), if_neg (by omega), if_neg (by omega), if_pos (by omega)]; first | exact b01_t (by rw [decide_eq_true_eq]; omega) | exact b01_f (by rw [decide_eq_true_eq]; omega))
      | (rw [if_neg (by omega), if_neg (by omega), if_neg (by omega), if_neg (by omega), if_neg (by omega)]; exact b01_f (by decide))
    · refine x_aload_n dX8_isEventTold_108 0 rfl rfl ?_
      refine x_iload_n dX8_isEventTold_109 3 rfl rfl ?_
      refine x_callVi (as := [_]) dX8_isEventTold_110 lvX8_224 rfl rfl rfl rfl rfl rfl rfl ⟨rfl, rfl⟩ (s_X8_isWalker (by omega) (by omega)) (fun z110 I110 L110 R110 hq110 => ?_)
      obtain ⟨rfl, rfl, rfl, rfl⟩ := hq110
      refine y_ifb_eq (tgt := 133) dX8_isEventTold_113 (by decide) (fun h113 => ?_) (fun h113 => ?_)
      · refine x_iconst dX8_isEventTold_133 ?_
        refine x_zret dX8_isEventTold_134 rfl (by omega) ?_
        rw [← hQ]
        refine ⟨_, rfl, ?_, rfl, rfl, rfl⟩
        unfold etQ
        first
        | (rw [if_pos (by omega)]; first | exact b01_t (by rw [decide_eq_true_eq]; omega) | exact b01_f (by rw [decide_eq_true_eq]; omega))
        | (rw [if_neg (by omega), if_pos (by omega)]; first | exact b01_t (by rw [decide_eq_true_eq]; omega) | exact b01_f (by rw [decide_eq_true_eq]; omega))
        | (rw [if_neg (by omega), if_neg (by omega), if_pos (by omega)]; first | exact b01_t (by rw [decide_eq_true_eq]; omega) | exact b01_f (by rw [decide_eq_true_eq]; omega))
        | (rw [if_neg (by omega), if_neg (by omega), if_neg (by omega), if_pos (by omega)]; first | exact b01_t (by rw [decide_eq_true_eq]; omega) | exact b01_f (by rw [decide_eq_true_eq]; omega))
        | (rw [if_neg (by omega), if_neg (by omega), if_neg (by omega), if_neg (by omega), if_pos (by omega)]; first | exact b01_t (by rw [decide_eq_true_eq]; omega) | exact b01_f (by rw [decide_eq_true_eq]; omega))
        | (rw [if_neg (by omega), if_neg (by omega), if_neg (by omega), if_neg (by omega), if_neg (by omega)]; exact b01_f (by decide))
      · refine x_iload dX8_isEventTold_116 4 rfl ?_
        refine x_iconst dX8_isEventTold_118 ?_
        refine x_aload_n dX8_isEventTold_119 0 rfl rfl ?_
        refine x_getI dX8_isEventTold_120 flX8_99 rfl rfl ?_
        refine x_callSi (as := [_, _, _]) dX8_isEventTold_123 lvX8_105 rfl rfl rfl rfl ⟨rfl, rfl⟩ (s_X8_in (by omega) (by omega) (by omega)) (fun z123 I123 L123 R123 hq123 => ?_)
        obtain ⟨rfl, rfl, rfl, rfl⟩ := hq123
        refine y_ifb_eq (tgt := 133) dX8_isEventTold_126 (by decide) (fun h126 => ?_) (fun h126 => ?_)
        · refine x_iconst dX8_isEventTold_133 ?_
          refine x_zret dX8_isEventTold_134 rfl (by omega) ?_
          rw [← hQ]
          refine ⟨_, rfl, ?_, rfl, rfl, rfl⟩
          unfold etQ
          first
          | (rw [if_pos (by omega)]; first | exact b01_t (by rw [decide_eq_true_eq]; omega) | exact b01_f (by rw [decide_eq_true_eq]; omega))
          | (rw [if_neg (by omega), if_pos (by omega)]; first | exact b01_t (by rw [decide_eq_true_eq]; omega) | exact b01_f (by rw [decide_eq_true_eq]; omega))
          | (rw [if_neg (by omega), if_neg (by omega), if_pos (by omega)]; first | exact b01_t (by rw [decide_eq_true_eq]; omega) | exact b01_f (by rw [decide_eq_true_eq]; omega))
          | (rw [if_neg (by omega), if_neg (by omega), if_neg (by omega), if_pos (by omega)]; first | exact b01_t (by rw [decide_eq_true_eq]; omega) | exact b01_f (by rw [decide_eq_true_eq]; omega))
          | (rw [if_neg (by omega), if_neg (by omega), if_neg (by omega), if_neg (by omega), if_pos (by omega)]; first | exact b01_t (by rw [decide_eq_true_eq]; omega) | exact b01_f (by rw [decide_eq_true_eq]; omega))
          | (rw [if_neg (by omega), if_neg (by omega), if_neg (by omega), if_neg (by omega), if_neg (by omega)]; exact b01_f (by decide))
        · refine x_iconst dX8_isEventTold_129 ?_
          refine x_goto (tgt := 134) dX8_isEventTold_130 (by decide) ?_
          refine x_zret dX8_isEventTold_134 rfl (by omega) ?_
          rw [← hQ]
          refine ⟨_, rfl, ?_, rfl, rfl, rfl⟩
          unfold etQ
          first
          | (rw [if_pos (by omega)]; first | exact b01_t (by rw [decide_eq_true_eq]; omega) | exact b01_f (by rw [decide_eq_true_eq]; omega))
          | (rw [if_neg (by omega), if_pos (by omega)]; first | exact b01_t (by rw [decide_eq_true_eq]; omega) | exact b01_f (by rw [decide_eq_true_eq]; omega))
          | (rw [if_neg (by omega), if_neg (by omega), if_pos (by omega)]; first | exact b01_t (by rw [decide_eq_true_eq]; omega) | exact b01_f (by rw [decide_eq_true_eq]; omega))
          | (rw [if_neg (by omega), if_neg (by omega), if_neg (by omega), if_pos (by omega)]; first | exact b01_t (by rw [decide_eq_true_eq]; omega) | exact b01_f (by rw [decide_eq_true_eq]; omega))
          | (rw [if_neg (by omega), if_neg (by omega), if_neg (by omega), if_neg (by omega), if_pos (by omega)]; first | exact b01_t (by rw [decide_eq_true_eq]; omega) | exact b01_f (by rw [decide_eq_true_eq]; omega))
          | (rw [if_neg (by omega), if_neg (by omega), if_neg (by omega), if_neg (by omega), if_neg (by omega)]; exact b01_f (by decide))
  · rw [sw1]
    refine x_tswIn (off := 134) (tgt := 135) dX8_isEventTold_1 (by decide) (by decide) rfl (by decide) ?_
    refine x_aload_n dX8_isEventTold_135 0 rfl rfl ?_
    refine x_iload_n dX8_isEventTold_136 2 rfl rfl ?_
    refine x_callVi (as := [_]) dX8_isEventTold_137 lvX8_198 rfl rfl rfl rfl rfl rfl rfl ⟨rfl, rfl⟩ (s_X8_isRoom (by omega) (by omega)) (fun z137 I137 L137 R137 hq137 => ?_)
    obtain ⟨rfl, rfl, rfl, rfl⟩ := hq137
    refine y_ifb_eq (tgt := 160) dX8_isEventTold_140 (by decide) (fun h140 => ?_) (fun h140 => ?_)
    · refine x_iconst dX8_isEventTold_160 ?_
      refine x_zret dX8_isEventTold_161 rfl (by omega) ?_
      rw [← hQ]
      refine ⟨_, rfl, ?_, rfl, rfl, rfl⟩
      unfold etQ
      first
      | (rw [if_pos (by omega)]; first | exact b01_t (by rw [decide_eq_true_eq]; omega) | exact b01_f (by rw [decide_eq_true_eq]; omega))
      | (rw [if_neg (by omega), if_pos (by omega)]; first | exact b01_t (by rw [decide_eq_true_eq]; omega) | exact b01_f (by rw [decide_eq_true_eq]; omega))
      | (rw [if_neg (by omega), if_neg (by omega), if_pos (by omega)]; first | exact b01_t (by rw [decide_eq_true_eq]; omega) | exact b01_f (by rw [decide_eq_true_eq]; omega))
      | (rw [if_neg (by omega), if_neg (by omega), if_neg (by omega), if_pos (by omega)]; first | exact b01_t (by rw [decide_eq_true_eq]; omega) | exact b01_f (by rw [decide_eq_true_eq]; omega))
      | (rw [if_neg (by omega), if_neg (by omega), if_neg (by omega), if_neg (by omega), if_pos (by omega)]; first | exact b01_t (by rw [decide_eq_true_eq]; omega) | exact b01_f (by rw [decide_eq_true_eq]; omega))
      | (rw [if_neg (by omega), if_neg (by omega), if_neg (by omega), if_neg (by omega), if_neg (by omega)]; exact b01_f (by decide))
    · refine x_iload dX8_isEventTold_143 4 rfl ?_
      refine x_iconst dX8_isEventTold_145 ?_
      refine x_aload_n dX8_isEventTold_146 0 rfl rfl ?_
      refine x_getI dX8_isEventTold_147 flX8_99 rfl rfl ?_
      refine x_callSi (as := [_, _, _]) dX8_isEventTold_150 lvX8_105 rfl rfl rfl rfl ⟨rfl, rfl⟩ (s_X8_in (by omega) (by omega) (by omega)) (fun z150 I150 L150 R150 hq150 => ?_)
      obtain ⟨rfl, rfl, rfl, rfl⟩ := hq150
      refine y_ifb_eq (tgt := 160) dX8_isEventTold_153 (by decide) (fun h153 => ?_) (fun h153 => ?_)
      · refine x_iconst dX8_isEventTold_160 ?_
        refine x_zret dX8_isEventTold_161 rfl (by omega) ?_
        rw [← hQ]
        refine ⟨_, rfl, ?_, rfl, rfl, rfl⟩
        unfold etQ
        first
        | (rw [if_pos (by omega)]; first | exact b01_t (by rw [decide_eq_true_eq]; omega) | exact b01_f (by rw [decide_eq_true_eq]; omega))
        | (rw [if_neg (by omega), if_pos (by omega)]; first | exact b01_t (by rw [decide_eq_true_eq]; omega) | exact b01_f (by rw [decide_eq_true_eq]; omega))
        | (rw [if_neg (by omega), if_neg (by omega), if_pos (by omega)]; first | exact b01_t (by rw [decide_eq_true_eq]; omega) | exact b01_f (by rw [decide_eq_true_eq]; omega))
        | (rw [if_neg (by omega), if_neg (by omega), if_neg (by omega), if_pos (by omega)]; first | exact b01_t (by rw [decide_eq_true_eq]; omega) | exact b01_f (by rw [decide_eq_true_eq]; omega))
        | (rw [if_neg (by omega), if_neg (by omega), if_neg (by omega), if_neg (by omega), if_pos (by omega)]; first | exact b01_t (by rw [decide_eq_true_eq]; omega) | exact b01_f (by rw [decide_eq_true_eq]; omega))
        | (rw [if_neg (by omega), if_neg (by omega), if_neg (by omega), if_neg (by omega), if_neg (by omega)]; exact b01_f (by decide))
      · refine x_iconst dX8_isEventTold_156 ?_
        refine x_goto (tgt := 161) dX8_isEventTold_157 (by decide) ?_
        refine x_zret dX8_isEventTold_161 rfl (by omega) ?_
        rw [← hQ]
        refine ⟨_, rfl, ?_, rfl, rfl, rfl⟩
        unfold etQ
        first
        | (rw [if_pos (by omega)]; first | exact b01_t (by rw [decide_eq_true_eq]; omega) | exact b01_f (by rw [decide_eq_true_eq]; omega))
        | (rw [if_neg (by omega), if_pos (by omega)]; first | exact b01_t (by rw [decide_eq_true_eq]; omega) | exact b01_f (by rw [decide_eq_true_eq]; omega))
        | (rw [if_neg (by omega), if_neg (by omega), if_pos (by omega)]; first | exact b01_t (by rw [decide_eq_true_eq]; omega) | exact b01_f (by rw [decide_eq_true_eq]; omega))
        | (rw [if_neg (by omega), if_neg (by omega), if_neg (by omega), if_pos (by omega)]; first | exact b01_t (by rw [decide_eq_true_eq]; omega) | exact b01_f (by rw [decide_eq_true_eq]; omega))
        | (rw [if_neg (by omega), if_neg (by omega), if_neg (by omega), if_neg (by omega), if_pos (by omega)]; first | exact b01_t (by rw [decide_eq_true_eq]; omega) | exact b01_f (by rw [decide_eq_true_eq]; omega))
        | (rw [if_neg (by omega), if_neg (by omega), if_neg (by omega), if_neg (by omega), if_neg (by omega)]; exact b01_f (by decide))
  · rw [sw1]
    refine x_tswIn (off := 161) (tgt := 162) dX8_isEventTold_1 (by decide) (by decide) rfl (by decide) ?_
    refine x_aload_n dX8_isEventTold_162 0 rfl rfl ?_
    refine x_iload_n dX8_isEventTold_163 2 rfl rfl ?_
    refine x_callVi (as := [_]) dX8_isEventTold_164 lvX8_192 rfl rfl rfl rfl rfl rfl rfl ⟨rfl, rfl⟩ (s_X8_isDoor (by omega) (by omega)) (fun z164 I164 L164 R164 hq164 => ?_)
    obtain ⟨rfl, rfl, rfl, rfl⟩ := hq164
    refine y_ifb_eq (tgt := 204) dX8_isEventTold_167 (by decide) (fun h167 => ?_) (fun h167 => ?_)
    · refine x_iconst dX8_isEventTold_204 ?_
      refine x_zret dX8_isEventTold_205 rfl (by omega) ?_
      rw [← hQ]
      refine ⟨_, rfl, ?_, rfl, rfl, rfl⟩
      unfold etQ
      first
      | (rw [if_pos (by omega)]; first | exact b01_t (by rw [decide_eq_true_eq]; omega) | exact b01_f (by rw [decide_eq_true_eq]; omega))
      | (rw [if_neg (by omega), if_pos (by omega)]; first | exact b01_t (by rw [decide_eq_true_eq]; omega) | exact b01_f (by rw [decide_eq_true_eq]; omega))
      | (rw [if_neg (by omega), if_neg (by omega), if_pos (by omega)]; first | exact b01_t (by rw [decide_eq_true_eq]; omega) | exact b01_f (by rw [decide_eq_true_eq]; omega))
      | (rw [if_neg (by omega), if_neg (by omega), if_neg (by omega), if_pos (by omega)]; first | exact b01_t (by rw [decide_eq_true_eq]; omega) | exact b01_f (by rw [decide_eq_true_eq]; omega))
      | (rw [if_neg (by omega), if_neg (by omega), if_neg (by omega), if_neg (by omega), if_pos (by omega)]; first | exact b01_t (by rw [decide_eq_true_eq]; omega) | exact b01_f (by rw [decide_eq_true_eq]; omega))
      | (rw [if_neg (by omega), if_neg (by omega), if_neg (by omega), if_neg (by omega), if_neg (by omega)]; exact b01_f (by decide))
    · refine x_iload dX8_isEventTold_170 4 rfl ?_
      refine x_iconst dX8_isEventTold_172 ?_
      refine x_aload_n dX8_isEventTold_173 0 rfl rfl ?_
      refine x_getI dX8_isEventTold_174 flX8_99 rfl rfl ?_
      refine x_iconst dX8_isEventTold_177 ?_
      refine x_isub dX8_isEventTold_178 ?_
      refine x_callSi (as := [_, _, _]) dX8_isEventTold_179 lvX8_105 rfl rfl rfl rfl ⟨rfl, rfl⟩ (s_X8_in (by omega) (by omega) (by omega)) (fun z179 I179 L179 R179 hq179 => ?_)
      obtain ⟨rfl, rfl, rfl, rfl⟩ := hq179
      refine y_ifb_eq (tgt := 204) dX8_isEventTold_182 (by decide) (fun h182 => ?_) (fun h182 => ?_)
      · refine x_iconst dX8_isEventTold_204 ?_
        refine x_zret dX8_isEventTold_205 rfl (by omega) ?_
        rw [← hQ]
        refine ⟨_, rfl, ?_, rfl, rfl, rfl⟩
        unfold etQ
        first
        | (rw [if_pos (by omega)]; first | exact b01_t (by rw [decide_eq_true_eq]; omega) | exact b01_f (by rw [decide_eq_true_eq]; omega))
        | (rw [if_neg (by omega), if_pos (by omega)]; first | exact b01_t (by rw [decide_eq_true_eq]; omega) | exact b01_f (by rw [decide_eq_true_eq]; omega))
        | (rw [if_neg (by omega), if_neg (by omega), if_pos (by omega)]; first | exact b01_t (by rw [decide_eq_true_eq]; omega) | exact b01_f (by rw [decide_eq_true_eq]; omega))
        | (rw [if_neg (by omega), if_neg (by omega), if_neg (by omega), if_pos (by omega)]; first | exact b01_t (by rw [decide_eq_true_eq]; omega) | exact b01_f (by rw [decide_eq_true_eq]; omega))
        | (rw [if_neg (by omega), if_neg (by omega), if_neg (by omega), if_neg (by omega), if_pos (by omega)]; first | exact b01_t (by rw [decide_eq_true_eq]; omega) | exact b01_f (by rw [decide_eq_true_eq]; omega))
        | (rw [if_neg (by omega), if_neg (by omega), if_neg (by omega), if_neg (by omega), if_neg (by omega)]; exact b01_f (by decide))
      · refine x_iload_n dX8_isEventTold_185 3 rfl rfl ?_
        refine x_iload dX8_isEventTold_186 4 rfl ?_
        refine x_aload_n dX8_isEventTold_188 0 rfl rfl ?_
        refine x_getI dX8_isEventTold_189 flX8_99 rfl rfl ?_
        refine x_iconst dX8_isEventTold_192 ?_
        refine x_isub dX8_isEventTold_193 ?_
        refine x_callSi (as := [_, _, _]) dX8_isEventTold_194 lvX8_105 rfl rfl rfl rfl ⟨rfl, rfl⟩ (s_X8_in (by omega) (by omega) (by omega)) (fun z194 I194 L194 R194 hq194 => ?_)
        obtain ⟨rfl, rfl, rfl, rfl⟩ := hq194
        refine y_ifb_eq (tgt := 204) dX8_isEventTold_197 (by decide) (fun h197 => ?_) (fun h197 => ?_)
        · refine x_iconst dX8_isEventTold_204 ?_
          refine x_zret dX8_isEventTold_205 rfl (by omega) ?_
          rw [← hQ]
          refine ⟨_, rfl, ?_, rfl, rfl, rfl⟩
          unfold etQ
          first
          | (rw [if_pos (by omega)]; first | exact b01_t (by rw [decide_eq_true_eq]; omega) | exact b01_f (by rw [decide_eq_true_eq]; omega))
          | (rw [if_neg (by omega), if_pos (by omega)]; first | exact b01_t (by rw [decide_eq_true_eq]; omega) | exact b01_f (by rw [decide_eq_true_eq]; omega))
          | (rw [if_neg (by omega), if_neg (by omega), if_pos (by omega)]; first | exact b01_t (by rw [decide_eq_true_eq]; omega) | exact b01_f (by rw [decide_eq_true_eq]; omega))
          | (rw [if_neg (by omega), if_neg (by omega), if_neg (by omega), if_pos (by omega)]; first | exact b01_t (by rw [decide_eq_true_eq]; omega) | exact b01_f (by rw [decide_eq_true_eq]; omega))
          | (rw [if_neg (by omega), if_neg (by omega), if_neg (by omega), if_neg (by omega), if_pos (by omega)]; first | exact b01_t (by rw [decide_eq_true_eq]; omega) | exact b01_f (by rw [decide_eq_true_eq]; omega))
          | (rw [if_neg (by omega), if_neg (by omega), if_neg (by omega), if_neg (by omega), if_neg (by omega)]; exact b01_f (by decide))
        · refine x_iconst dX8_isEventTold_200 ?_
          refine x_goto (tgt := 205) dX8_isEventTold_201 (by decide) ?_
          refine x_zret dX8_isEventTold_205 rfl (by omega) ?_
          rw [← hQ]
          refine ⟨_, rfl, ?_, rfl, rfl, rfl⟩
          unfold etQ
          first
          | (rw [if_pos (by omega)]; first | exact b01_t (by rw [decide_eq_true_eq]; omega) | exact b01_f (by rw [decide_eq_true_eq]; omega))
          | (rw [if_neg (by omega), if_pos (by omega)]; first | exact b01_t (by rw [decide_eq_true_eq]; omega) | exact b01_f (by rw [decide_eq_true_eq]; omega))
          | (rw [if_neg (by omega), if_neg (by omega), if_pos (by omega)]; first | exact b01_t (by rw [decide_eq_true_eq]; omega) | exact b01_f (by rw [decide_eq_true_eq]; omega))
          | (rw [if_neg (by omega), if_neg (by omega), if_neg (by omega), if_pos (by omega)]; first | exact b01_t (by rw [decide_eq_true_eq]; omega) | exact b01_f (by rw [decide_eq_true_eq]; omega))
          | (rw [if_neg (by omega), if_neg (by omega), if_neg (by omega), if_neg (by omega), if_pos (by omega)]; first | exact b01_t (by rw [decide_eq_true_eq]; omega) | exact b01_f (by rw [decide_eq_true_eq]; omega))
          | (rw [if_neg (by omega), if_neg (by omega), if_neg (by omega), if_neg (by omega), if_neg (by omega)]; exact b01_f (by decide))
  · refine x_tswOut (tgt := 206) dX8_isEventTold_1 (by first | omega | exact z_and_r _ _ | exact z_or_r _ _ | exact z_xor_r _ _) (by omega) (by decide) ?_
    refine x_iconst dX8_isEventTold_206 ?_
    refine x_zret dX8_isEventTold_207 rfl (by omega) ?_
    rw [← hQ]
    refine ⟨_, rfl, ?_, rfl, rfl, rfl⟩
    unfold etQ
    first
    | (rw [if_pos (by omega)]; first | exact b01_t (by rw [decide_eq_true_eq]; omega) | exact b01_f (by rw [decide_eq_true_eq]; omega))
    | (rw [if_neg (by omega), if_pos (by omega)]; first | exact b01_t (by rw [decide_eq_true_eq]; omega) | exact b01_f (by rw [decide_eq_true_eq]; omega))
    | (rw [if_neg (by omega), if_neg (by omega), if_pos (by omega)]; first | exact b01_t (by rw [decide_eq_true_eq]; omega) | exact b01_f (by rw [decide_eq_true_eq]; omega))
    | (rw [if_neg (by omega), if_neg (by omega), if_neg (by omega), if_pos (by omega)]; first | exact b01_t (by rw [decide_eq_true_eq]; omega) | exact b01_f (by rw [decide_eq_true_eq]; omega))
    | (rw [if_neg (by omega), if_neg (by omega), if_neg (by omega), if_neg (by omega), if_pos (by omega)]; first | exact b01_t (by rw [decide_eq_true_eq]; omega) | exact b01_f (by rw [decide_eq_true_eq]; omega))
    | (rw [if_neg (by omega), if_neg (by omega), if_neg (by omega), if_neg (by omega), if_neg (by omega)]; exact b01_f (by decide))
theorem s_X8_event {k a b t : Int} (hH : iHs I) (hE : iEvs I) (h1 : rI k) (h2 : rI a) (h3 : rI b) (h4 : rI t) : Sp G mtX8_event [mr 0, mi k, mi a, mi b, mi t] shM I L rM (qi (fun z I' L' R' => z = (s_event k a b t I).1 ∧ Pe (s_event k a b t I).2 I' ∧ L = L' ∧ R' = rM)) := by
  refine Sp.of pnX8_event rfl ?_
  show Rn G mtX8_event _ 0 [(0, mr 0), (1, mi k), (2, mi a), (3, mi b), (4, mi t)] [] shM I L rM
  generalize hQ : (qi (fun z I' L' R' => z = (s_event k a b t I).1 ∧ Pe (s_event k a b t I).2 I' ∧ L = L' ∧ R' = rM)) = Q
  have hEn := hE.1
  refine x_aload_n dX8_event_0 0 rfl rfl ?_
  refine x_iload_n dX8_event_1 1 rfl rfl ?_
  refine x_iload_n dX8_event_2 2 rfl rfl ?_
  refine x_iload_n dX8_event_3 3 rfl rfl ?_
  refine x_iload dX8_event_4 4 rfl ?_
  refine x_callVi (as := [_, _, _, _]) dX8_event_6 lvX8_227 rfl rfl rfl rfl rfl rfl rfl ⟨rfl, rfl⟩ (s_X8_isEventTold hH h1 h2 h3 h4) (fun z6 I6 L6 R6 hq6 => ?_)
  obtain ⟨rfl, rfl, rfl, rfl⟩ := hq6
  refine y_ifb_ne (tgt := 14) dX8_event_9 (by decide) (fun h9 => ?_) (fun h9 => ?_)
  · refine x_aload_n dX8_event_14 0 rfl rfl ?_
    refine x_getI dX8_event_15 flX8_217 rfl rfl ?_
    refine x_bipush dX8_event_18 (by decide) ?_
    refine x_ic_ne (tgt := 28) dX8_event_20 (by decide) (by first | omega | exact z_and_r _ _ | exact z_or_r _ _ | exact z_xor_r _ _) (fun h20 => ?_) (fun h20 => ?_)
    · refine x_aload_n dX8_event_28 0 rfl rfl ?_
      refine x_iload_n dX8_event_29 1 rfl rfl ?_
      refine x_iload_n dX8_event_30 2 rfl rfl ?_
      refine x_iload_n dX8_event_31 1 rfl rfl ?_
      refine x_iconst dX8_event_32 ?_
      refine x_ic_eq (tgt := 41) dX8_event_33 (by decide) (by first | omega | exact z_and_r _ _ | exact z_or_r _ _ | exact z_xor_r _ _) (fun h33 => ?_) (fun h33 => ?_)
      · refine x_iload_n dX8_event_41 3 rfl rfl ?_
        refine x_goto (tgt := 46) dX8_event_42 (by decide) ?_
        refine x_iload dX8_event_46 4 rfl ?_
        refine x_callVi (as := [_, _, _, _]) dX8_event_48 lvX8_220 rfl rfl rfl rfl rfl rfl rfl ⟨rfl, rfl⟩ (s_X8_comes (by omega)) (fun z48 I48 L48 R48 hq48 => ?_)
        obtain ⟨rfl, rfl, rfl, rfl⟩ := hq48
        refine x_iret dX8_event_51 rfl ?_
        have he : ¬ etQ I k a b t = false := by rw [Bool.not_eq_false]; assumption
        rw [← hQ]
        first
        | (have hs : s_event k a b t I = (-2, I) := by unfold s_event; rw [if_neg he, if_pos (by omega)]
           rw [hs]
           exact ⟨_, rfl, rfl, Pe.rf _, rfl, rfl⟩)
        | (have hs : s_event k a b t I = (I 0 25, cmE I k a b t) := by unfold s_event; rw [if_neg he, if_neg (by omega), if_pos (by omega)]
           rw [hs]
           exact ⟨_, rfl, rfl, Pe.rf _, rfl, rfl⟩)
        | (have hs : s_event k a b t I = (I 0 25, cmE I k a 0 t) := by unfold s_event; rw [if_neg he, if_neg (by omega), if_neg (by omega)]
           rw [hs]
           exact ⟨_, rfl, rfl, Pe.rf _, rfl, rfl⟩)
      · refine x_iload_n dX8_event_36 1 rfl rfl ?_
        refine x_iconst dX8_event_37 ?_
        refine x_ic_ne (tgt := 45) dX8_event_38 (by decide) (by first | omega | exact z_and_r _ _ | exact z_or_r _ _ | exact z_xor_r _ _) (fun h38 => ?_) (fun h38 => ?_)
        · refine x_iconst dX8_event_45 ?_
          refine x_iload dX8_event_46 4 rfl ?_
          refine x_callVi (as := [_, _, _, _]) dX8_event_48 lvX8_220 rfl rfl rfl rfl rfl rfl rfl ⟨rfl, rfl⟩ (s_X8_comes (by omega)) (fun z48 I48 L48 R48 hq48 => ?_)
          obtain ⟨rfl, rfl, rfl, rfl⟩ := hq48
          refine x_iret dX8_event_51 rfl ?_
          have he : ¬ etQ I k a b t = false := by rw [Bool.not_eq_false]; assumption
          rw [← hQ]
          first
          | (have hs : s_event k a b t I = (-2, I) := by unfold s_event; rw [if_neg he, if_pos (by omega)]
             rw [hs]
             exact ⟨_, rfl, rfl, Pe.rf _, rfl, rfl⟩)
          | (have hs : s_event k a b t I = (I 0 25, cmE I k a b t) := by unfold s_event; rw [if_neg he, if_neg (by omega), if_pos (by omega)]
             rw [hs]
             exact ⟨_, rfl, rfl, Pe.rf _, rfl, rfl⟩)
          | (have hs : s_event k a b t I = (I 0 25, cmE I k a 0 t) := by unfold s_event; rw [if_neg he, if_neg (by omega), if_neg (by omega)]
             rw [hs]
             exact ⟨_, rfl, rfl, Pe.rf _, rfl, rfl⟩)
        · refine x_iload_n dX8_event_41 3 rfl rfl ?_
          refine x_goto (tgt := 46) dX8_event_42 (by decide) ?_
          refine x_iload dX8_event_46 4 rfl ?_
          refine x_callVi (as := [_, _, _, _]) dX8_event_48 lvX8_220 rfl rfl rfl rfl rfl rfl rfl ⟨rfl, rfl⟩ (s_X8_comes (by omega)) (fun z48 I48 L48 R48 hq48 => ?_)
          obtain ⟨rfl, rfl, rfl, rfl⟩ := hq48
          refine x_iret dX8_event_51 rfl ?_
          have he : ¬ etQ I k a b t = false := by rw [Bool.not_eq_false]; assumption
          rw [← hQ]
          first
          | (have hs : s_event k a b t I = (-2, I) := by unfold s_event; rw [if_neg he, if_pos (by omega)]
             rw [hs]
             exact ⟨_, rfl, rfl, Pe.rf _, rfl, rfl⟩)
          | (have hs : s_event k a b t I = (I 0 25, cmE I k a b t) := by unfold s_event; rw [if_neg he, if_neg (by omega), if_pos (by omega)]
             rw [hs]
             exact ⟨_, rfl, rfl, Pe.rf _, rfl, rfl⟩)
          | (have hs : s_event k a b t I = (I 0 25, cmE I k a 0 t) := by unfold s_event; rw [if_neg he, if_neg (by omega), if_neg (by omega)]
             rw [hs]
             exact ⟨_, rfl, rfl, Pe.rf _, rfl, rfl⟩)
    · refine x_bipush dX8_event_23 (by decide) ?_
      refine x_goto (tgt := 51) dX8_event_25 (by decide) ?_
      refine x_iret dX8_event_51 rfl ?_
      have he : ¬ etQ I k a b t = false := by rw [Bool.not_eq_false]; assumption
      rw [← hQ]
      first
      | (have hs : s_event k a b t I = (-2, I) := by unfold s_event; rw [if_neg he, if_pos (by omega)]
         rw [hs]
         exact ⟨_, rfl, rfl, Pe.rf _, rfl, rfl⟩)
      | (have hs : s_event k a b t I = (I 0 25, cmE I k a b t) := by unfold s_event; rw [if_neg he, if_neg (by omega), if_pos (by omega)]
         rw [hs]
         exact ⟨_, rfl, rfl, Pe.rf _, rfl, rfl⟩)
      | (have hs : s_event k a b t I = (I 0 25, cmE I k a 0 t) := by unfold s_event; rw [if_neg he, if_neg (by omega), if_neg (by omega)]
         rw [hs]
         exact ⟨_, rfl, rfl, Pe.rf _, rfl, rfl⟩)
  · refine x_iconst dX8_event_12 ?_
    refine x_iret dX8_event_13 rfl ?_
    rw [← hQ]
    have hs : s_event k a b t I = (-1, I) := by
      unfold s_event
      rw [if_pos (by rw [← Bool.not_eq_true]; assumption)]
    rw [hs]
    exact ⟨_, rfl, rfl, Pe.rf _, rfl, rfl⟩
theorem s_X8_back {n : Int} (hH : iHs I) (hE : iEvs I) (h1 : rI n) : Sp G mtX8_back [mr 0, mi n] shM I L rM (qi (fun z I' L' R' => z = (s_back n I).1 ∧ Pe (s_back n I).2 I' ∧ L = L' ∧ R' = rM)) := by
  refine Sp.of pnX8_back rfl ?_
  show Rn G mtX8_back _ 0 [(0, mr 0), (1, mi n)] [] shM I L rM
  generalize hQ : (qi (fun z I' L' R' => z = (s_back n I).1 ∧ Pe (s_back n I).2 I' ∧ L = L' ∧ R' = rM)) = Q
  have hEn := hE.1
  refine x_iload_n dX8_back_0 1 rfl rfl ?_
  refine x_iconst dX8_back_1 ?_
  refine x_aload_n dX8_back_2 0 rfl rfl ?_
  refine x_getI dX8_back_3 flX8_217 rfl rfl ?_
  refine x_callSi (as := [_, _, _]) dX8_back_6 lvX8_105 rfl rfl rfl rfl ⟨rfl, rfl⟩ (s_X8_in (by omega) (by omega) (by omega)) (fun z6 I6 L6 R6 hq6 => ?_)
  obtain ⟨rfl, rfl, rfl, rfl⟩ := hq6
  refine y_ifb_ne (tgt := 14) dX8_back_9 (by decide) (fun h9 => ?_) (fun h9 => ?_)
  · refine x_aload_n dX8_back_14 0 rfl rfl ?_
    refine x_getI dX8_back_15 flX8_217 rfl rfl ?_
    refine x_iload_n dX8_back_18 1 rfl rfl ?_
    refine x_isub dX8_back_19 ?_
    refine x_istore_n (lv' := [(0, _), (1, _), (2, _)]) dX8_back_20 rfl rfl rfl ?_
    refine x_aload_n dX8_back_21 0 rfl rfl ?_
    refine x_iload_n dX8_back_22 1 rfl rfl ?_
    refine x_putI dX8_back_23 flX8_217 rfl rfl rfl ?_
    refine x_iload_n dX8_back_26 2 rfl rfl ?_
    refine x_iret dX8_back_27 rfl ?_
    rw [← hQ]
    have hs : s_back n I = (I 0 25 - n, m_up I 0 25 n) := by
      unfold s_back
      rw [if_neg (by omega)]
    rw [hs]
    exact ⟨_, rfl, rfl, Pe.rf _, rfl, rfl⟩
  · refine x_iconst dX8_back_12 ?_
    refine x_iret dX8_back_13 rfl ?_
    rw [← hQ]
    have hs : s_back n I = (-1, I) := by
      unfold s_back
      rw [if_pos (by omega)]
    rw [hs]
    exact ⟨_, rfl, rfl, Pe.rf _, rfl, rfl⟩
theorem s_X8_told {e w : Int} (hH : iHs I) (hE : iEvs I) (h1 : rI e) (h2 : rI w) : Sp G mtX8_told [mr 0, mi e, mi w] shM I L rM (qi (fun z I' L' R' => z = (s_told e w I).1 ∧ Pe (s_told e w I).2 I' ∧ L = L' ∧ R' = rM)) := by
  refine Sp.of pnX8_told rfl ?_
  show Rn G mtX8_told _ 0 [(0, mr 0), (1, mi e), (2, mi w)] [] shM I L rM
  generalize hQ : (qi (fun z I' L' R' => z = (s_told e w I).1 ∧ Pe (s_told e w I).2 I' ∧ L = L' ∧ R' = rM)) = Q
  have hEn := hE.1
  refine x_aload_n dX8_told_0 0 rfl rfl ?_
  refine x_iload_n dX8_told_1 1 rfl rfl ?_
  refine x_callVi (as := [_]) dX8_told_2 lvX8_231 rfl rfl rfl rfl rfl rfl rfl ⟨rfl, rfl⟩ (s_X8_isEvent (by omega) (by omega)) (fun z2 I2 L2 R2 hq2 => ?_)
  obtain ⟨rfl, rfl, rfl, rfl⟩ := hq2
  refine y_ifb_eq (tgt := 31) dX8_told_5 (by decide) (fun h5 => ?_) (fun h5 => ?_)
  · refine x_iconst dX8_told_31 ?_
    refine x_iret dX8_told_32 rfl ?_
    first
    | (rw [← hQ]
       have hs : s_told e w I = (-1, I) := by
         unfold s_told
         rw [if_pos (by omega)]
       rw [hs]
       exact ⟨_, rfl, rfl, Pe.rf _, rfl, rfl⟩)
    | (rw [← hQ]
       have hs : s_told e w I = (1, a_tl I (I 11 (4 * e + w))) := by
         unfold s_told
         rw [if_neg (by omega)]
       rw [hs]
       exact ⟨_, rfl, rfl, Pe.rf _, rfl, rfl⟩)
  · refine x_iload_n dX8_told_8 2 rfl rfl ?_
    refine x_iconst dX8_told_9 ?_
    refine x_iconst dX8_told_10 ?_
    refine x_callSi (as := [_, _, _]) dX8_told_11 lvX8_105 rfl rfl rfl rfl ⟨rfl, rfl⟩ (s_X8_in (by omega) (by omega) (by omega)) (fun z11 I11 L11 R11 hq11 => ?_)
    obtain ⟨rfl, rfl, rfl, rfl⟩ := hq11
    refine y_ifb_eq (tgt := 31) dX8_told_14 (by decide) (fun h14 => ?_) (fun h14 => ?_)
    · refine x_iconst dX8_told_31 ?_
      refine x_iret dX8_told_32 rfl ?_
      first
      | (rw [← hQ]
         have hs : s_told e w I = (-1, I) := by
           unfold s_told
           rw [if_pos (by omega)]
         rw [hs]
         exact ⟨_, rfl, rfl, Pe.rf _, rfl, rfl⟩)
      | (rw [← hQ]
         have hs : s_told e w I = (1, a_tl I (I 11 (4 * e + w))) := by
           unfold s_told
           rw [if_neg (by omega)]
         rw [hs]
         exact ⟨_, rfl, rfl, Pe.rf _, rfl, rfl⟩)
    · refine x_aload_n dX8_told_17 0 rfl rfl ?_
      refine x_aload_n dX8_told_18 0 rfl rfl ?_
      refine x_iload_n dX8_told_19 1 rfl rfl ?_
      refine x_iload_n dX8_told_20 2 rfl rfl ?_
      refine x_callVi (as := [_, _]) dX8_told_21 lvX8_234 rfl rfl rfl rfl rfl rfl rfl ⟨rfl, rfl⟩ (s_X8_eventAt (by omega)) (fun z21 I21 L21 R21 hq21 => ?_)
      obtain ⟨rfl, rfl, rfl, rfl⟩ := hq21
      refine x_iconst dX8_told_24 ?_
      refine x_callVi (as := [_, _]) dX8_told_25 lvX8_130 rfl rfl rfl rfl rfl rfl rfl ⟨rfl, rfl⟩ (s_X8_tells) (fun z25 I25 L25 R25 hq25 => ?_)
      obtain ⟨rfl, rfl, rfl, rfl⟩ := hq25
      refine x_goto (tgt := 32) dX8_told_28 (by decide) ?_
      refine x_iret dX8_told_32 rfl ?_
      first
      | (rw [← hQ]
         have hs : s_told e w I = (-1, I) := by
           unfold s_told
           rw [if_pos (by omega)]
         rw [hs]
         exact ⟨_, rfl, rfl, Pe.rf _, rfl, rfl⟩)
      | (rw [← hQ]
         have hs : s_told e w I = (1, a_tl I (I 11 (4 * e + w))) := by
           unfold s_told
           rw [if_neg (by omega)]
         rw [hs]
         exact ⟨_, rfl, rfl, Pe.rf _, rfl, rfl⟩)
theorem s_X8_mark {e k : Int} (hH : iHs I) (hE : iEvs I) (h1 : rI e) (h2 : rI k) : Sp G mtX8_mark [mr 0, mi e, mi k] shM I L rM (qi (fun z I' L' R' => z = (s_mark e k I).1 ∧ Pe (s_mark e k I).2 I' ∧ L = L' ∧ R' = rM)) := by
  refine Sp.of pnX8_mark rfl ?_
  show Rn G mtX8_mark _ 0 [(0, mr 0), (1, mi e), (2, mi k)] [] shM I L rM
  generalize hQ : (qi (fun z I' L' R' => z = (s_mark e k I).1 ∧ Pe (s_mark e k I).2 I' ∧ L = L' ∧ R' = rM)) = Q
  have hEn := hE.1
  have hev : 0 ≤ e → e < I 0 25 → iEv I e := fun h1 h2 => by have := hE.2 e.toNat (by omega); rw [show ((e.toNat : Nat) : Int) = e by omega] at this; exact this
  refine x_aload_n dX8_mark_0 0 rfl rfl ?_
  refine x_iload_n dX8_mark_1 1 rfl rfl ?_
  refine x_callVi (as := [_]) dX8_mark_2 lvX8_231 rfl rfl rfl rfl rfl rfl rfl ⟨rfl, rfl⟩ (s_X8_isEvent (by omega) (by omega)) (fun z2 I2 L2 R2 hq2 => ?_)
  obtain ⟨rfl, rfl, rfl, rfl⟩ := hq2
  refine y_ifb_eq (tgt := 17) dX8_mark_5 (by decide) (fun h5 => ?_) (fun h5 => ?_)
  · refine x_iconst dX8_mark_17 ?_
    refine x_iret dX8_mark_18 rfl ?_
    rw [← hQ]
    have hs : s_mark e k I = (-1, I) := by
      unfold s_mark
      rw [if_pos (by omega)]
    rw [hs]
    exact ⟨_, rfl, rfl, Pe.rf _, rfl, rfl⟩
  · refine x_iload_n dX8_mark_8 2 rfl rfl ?_
    refine x_iconst dX8_mark_9 ?_
    refine x_iconst dX8_mark_10 ?_
    refine x_callSi (as := [_, _, _]) dX8_mark_11 lvX8_105 rfl rfl rfl rfl ⟨rfl, rfl⟩ (s_X8_in (by omega) (by omega) (by omega)) (fun z11 I11 L11 R11 hq11 => ?_)
    obtain ⟨rfl, rfl, rfl, rfl⟩ := hq11
    refine y_ifb_ne (tgt := 19) dX8_mark_14 (by decide) (fun h14 => ?_) (fun h14 => ?_)
    · obtain ⟨v1, v2, v3, v4, v5, v6⟩ := hev (by omega) (by omega)
      refine x_aload_n dX8_mark_19 0 rfl rfl ?_
      refine x_iload_n dX8_mark_20 1 rfl rfl ?_
      refine x_iload_n dX8_mark_21 2 rfl rfl ?_
      refine x_callVi (as := [_, _]) dX8_mark_22 lvX8_237 rfl rfl rfl rfl rfl rfl rfl ⟨rfl, rfl⟩ (s_X8_isOf (by omega) (by omega) (by omega)) (fun z22 I22 L22 R22 hq22 => ?_)
      obtain ⟨rfl, rfl, rfl, rfl⟩ := hq22
      refine y_ifb_ne (tgt := 34) dX8_mark_25 (by decide) (fun h25 => ?_) (fun h25 => ?_)
      · refine x_iload_n dX8_mark_34 2 rfl rfl ?_
        refine x_iconst dX8_mark_35 ?_
        refine x_ic_ne (tgt := 48) dX8_mark_36 (by decide) (by first | omega | exact z_and_r _ _ | exact z_or_r _ _ | exact z_xor_r _ _) (fun h36 => ?_) (fun h36 => ?_)
        · refine x_iload_n dX8_mark_48 2 rfl rfl ?_
          refine x_iconst dX8_mark_49 ?_
          refine x_ic_ne (tgt := 71) dX8_mark_50 (by decide) (by first | omega | exact z_and_r _ _ | exact z_or_r _ _ | exact z_xor_r _ _) (fun h50 => ?_) (fun h50 => ?_)
          · refine x_aload_n dX8_mark_71 0 rfl rfl ?_
            refine x_iload_n dX8_mark_72 1 rfl rfl ?_
            refine x_iconst dX8_mark_73 ?_
            refine x_callVi (as := [_, _]) dX8_mark_74 lvX8_234 rfl rfl rfl rfl rfl rfl rfl ⟨rfl, rfl⟩ (s_X8_eventAt (by omega)) (fun z74 I74 L74 R74 hq74 => ?_)
            obtain ⟨rfl, rfl, rfl, rfl⟩ := hq74
            refine x_iret dX8_mark_77 rfl ?_
            first
            | (rw [← hQ]
               have hs : s_mark e k I = (I 11 (4 * e + 2), I) := by
                 unfold s_mark
                 rw [if_neg (by omega), if_neg (by omega), if_pos (by omega)]
               rw [hs]
               exact ⟨_, rfl, rfl, Pe.rf _, rfl, rfl⟩)
            | (rw [← hQ]
               have hs : s_mark e k I = (I 11 (4 * e + 2) - I 11 (4 * e + 3) + 1, I) := by
                 unfold s_mark
                 rw [if_neg (by omega), if_neg (by omega), if_neg (by omega), if_pos (by omega)]
               rw [hs]
               exact ⟨_, rfl, rfl, Pe.rf _, rfl, rfl⟩)
            | (rw [← hQ]
               have hs : s_mark e k I = (I 11 (4 * e + 1), I) := by
                 unfold s_mark
                 rw [if_neg (by omega), if_neg (by omega), if_neg (by omega), if_neg (by omega)]
               rw [hs]
               exact ⟨_, rfl, rfl, Pe.rf _, rfl, rfl⟩)
          · refine x_aload_n dX8_mark_53 0 rfl rfl ?_
            refine x_iload_n dX8_mark_54 1 rfl rfl ?_
            refine x_iconst dX8_mark_55 ?_
            refine x_callVi (as := [_, _]) dX8_mark_56 lvX8_234 rfl rfl rfl rfl rfl rfl rfl ⟨rfl, rfl⟩ (s_X8_eventAt (by omega)) (fun z56 I56 L56 R56 hq56 => ?_)
            obtain ⟨rfl, rfl, rfl, rfl⟩ := hq56
            refine x_aload_n dX8_mark_59 0 rfl rfl ?_
            refine x_iload_n dX8_mark_60 1 rfl rfl ?_
            refine x_iconst dX8_mark_61 ?_
            refine x_callVi (as := [_, _]) dX8_mark_62 lvX8_234 rfl rfl rfl rfl rfl rfl rfl ⟨rfl, rfl⟩ (s_X8_eventAt (by omega)) (fun z62 I62 L62 R62 hq62 => ?_)
            obtain ⟨rfl, rfl, rfl, rfl⟩ := hq62
            refine x_isub dX8_mark_65 ?_
            refine x_iconst dX8_mark_66 ?_
            refine x_iadd dX8_mark_67 ?_
            refine x_goto (tgt := 77) dX8_mark_68 (by decide) ?_
            refine x_iret dX8_mark_77 rfl ?_
            first
            | (rw [← hQ]
               have hs : s_mark e k I = (I 11 (4 * e + 2), I) := by
                 unfold s_mark
                 rw [if_neg (by omega), if_neg (by omega), if_pos (by omega)]
               rw [hs]
               exact ⟨_, rfl, rfl, Pe.rf _, rfl, rfl⟩)
            | (rw [← hQ]
               have hs : s_mark e k I = (I 11 (4 * e + 2) - I 11 (4 * e + 3) + 1, I) := by
                 unfold s_mark
                 rw [if_neg (by omega), if_neg (by omega), if_neg (by omega), if_pos (by omega)]
               rw [hs]
               exact ⟨_, rfl, rfl, Pe.rf _, rfl, rfl⟩)
            | (rw [← hQ]
               have hs : s_mark e k I = (I 11 (4 * e + 1), I) := by
                 unfold s_mark
                 rw [if_neg (by omega), if_neg (by omega), if_neg (by omega), if_neg (by omega)]
               rw [hs]
               exact ⟨_, rfl, rfl, Pe.rf _, rfl, rfl⟩)
        · refine x_aload_n dX8_mark_39 0 rfl rfl ?_
          refine x_iload_n dX8_mark_40 1 rfl rfl ?_
          refine x_iconst dX8_mark_41 ?_
          refine x_callVi (as := [_, _]) dX8_mark_42 lvX8_234 rfl rfl rfl rfl rfl rfl rfl ⟨rfl, rfl⟩ (s_X8_eventAt (by omega)) (fun z42 I42 L42 R42 hq42 => ?_)
          obtain ⟨rfl, rfl, rfl, rfl⟩ := hq42
          refine x_goto (tgt := 77) dX8_mark_45 (by decide) ?_
          refine x_iret dX8_mark_77 rfl ?_
          first
          | (rw [← hQ]
             have hs : s_mark e k I = (I 11 (4 * e + 2), I) := by
               unfold s_mark
               rw [if_neg (by omega), if_neg (by omega), if_pos (by omega)]
             rw [hs]
             exact ⟨_, rfl, rfl, Pe.rf _, rfl, rfl⟩)
          | (rw [← hQ]
             have hs : s_mark e k I = (I 11 (4 * e + 2) - I 11 (4 * e + 3) + 1, I) := by
               unfold s_mark
               rw [if_neg (by omega), if_neg (by omega), if_neg (by omega), if_pos (by omega)]
             rw [hs]
             exact ⟨_, rfl, rfl, Pe.rf _, rfl, rfl⟩)
          | (rw [← hQ]
             have hs : s_mark e k I = (I 11 (4 * e + 1), I) := by
               unfold s_mark
               rw [if_neg (by omega), if_neg (by omega), if_neg (by omega), if_neg (by omega)]
             rw [hs]
             exact ⟨_, rfl, rfl, Pe.rf _, rfl, rfl⟩)
      · refine x_aload_n dX8_mark_28 0 rfl rfl ?_
        refine x_iconst dX8_mark_29 ?_
        refine x_callVi (as := [_]) dX8_mark_30 lvX8_122 rfl rfl rfl rfl rfl rfl rfl ⟨rfl, rfl⟩ (s_X8_meets (by omega)) (fun z30 I30 L30 R30 hq30 => ?_)
        obtain ⟨rfl, rfl, rfl, rfl⟩ := hq30
        refine x_iret dX8_mark_33 rfl ?_
        rw [← hQ]
        have hs : s_mark e k I = (-3, a_mt I 3) := by
          unfold s_mark
          rw [if_neg (by omega), if_pos (by assumption)]
        rw [hs]
        exact ⟨_, rfl, rfl, Pe.rf _, rfl, rfl⟩
    · refine x_iconst dX8_mark_17 ?_
      refine x_iret dX8_mark_18 rfl ?_
      rw [← hQ]
      have hs : s_mark e k I = (-1, I) := by
        unfold s_mark
        rw [if_pos (by omega)]
      rw [hs]
      exact ⟨_, rfl, rfl, Pe.rf _, rfl, rfl⟩
theorem s_X8_door {d w : Int} (hH : iHs I) (hE : iEvs I) (h1 : rI d) (h2 : rI w) : Sp G mtX8_door [mr 0, mi d, mi w] shM I L rM (qi (fun z I' L' R' => z = (s_door d w I).1 ∧ Pe (s_door d w I).2 I' ∧ L = L' ∧ R' = rM)) := by
  refine Sp.of pnX8_door rfl ?_
  show Rn G mtX8_door _ 0 [(0, mr 0), (1, mi d), (2, mi w)] [] shM I L rM
  generalize hQ : (qi (fun z I' L' R' => z = (s_door d w I).1 ∧ Pe (s_door d w I).2 I' ∧ L = L' ∧ R' = rM)) = Q
  have hEn := hH.2.1
  refine x_aload_n dX8_door_0 0 rfl rfl ?_
  refine x_iload_n dX8_door_1 1 rfl rfl ?_
  refine x_callVi (as := [_]) dX8_door_2 lvX8_192 rfl rfl rfl rfl rfl rfl rfl ⟨rfl, rfl⟩ (s_X8_isDoor (by omega) (by omega)) (fun z2 I2 L2 R2 hq2 => ?_)
  obtain ⟨rfl, rfl, rfl, rfl⟩ := hq2
  refine y_ifb_eq (tgt := 35) dX8_door_5 (by decide) (fun h5 => ?_) (fun h5 => ?_)
  · refine x_iconst dX8_door_35 ?_
    refine x_iret dX8_door_36 rfl ?_
    first
    | (rw [← hQ]
       have hs : s_door d w I = (-1, I) := by
         unfold s_door
         rw [if_pos (by omega)]
       rw [hs]
       exact ⟨_, rfl, rfl, Pe.rf _, rfl, rfl⟩)
    | (rw [← hQ]
       have hs : s_door d w I = (1, a_tl I (I 7 (3 * d + w))) := by
         unfold s_door
         rw [if_neg (by omega)]
       rw [hs]
       exact ⟨_, rfl, rfl, Pe.rf _, rfl, rfl⟩)
  · refine x_iload_n dX8_door_8 2 rfl rfl ?_
    refine x_iconst dX8_door_9 ?_
    refine x_iconst dX8_door_10 ?_
    refine x_callSi (as := [_, _, _]) dX8_door_11 lvX8_105 rfl rfl rfl rfl ⟨rfl, rfl⟩ (s_X8_in (by omega) (by omega) (by omega)) (fun z11 I11 L11 R11 hq11 => ?_)
    obtain ⟨rfl, rfl, rfl, rfl⟩ := hq11
    refine y_ifb_eq (tgt := 35) dX8_door_14 (by decide) (fun h14 => ?_) (fun h14 => ?_)
    · refine x_iconst dX8_door_35 ?_
      refine x_iret dX8_door_36 rfl ?_
      first
      | (rw [← hQ]
         have hs : s_door d w I = (-1, I) := by
           unfold s_door
           rw [if_pos (by omega)]
         rw [hs]
         exact ⟨_, rfl, rfl, Pe.rf _, rfl, rfl⟩)
      | (rw [← hQ]
         have hs : s_door d w I = (1, a_tl I (I 7 (3 * d + w))) := by
           unfold s_door
           rw [if_neg (by omega)]
         rw [hs]
         exact ⟨_, rfl, rfl, Pe.rf _, rfl, rfl⟩)
    · refine x_aload_n dX8_door_17 0 rfl rfl ?_
      refine x_aload_n dX8_door_18 0 rfl rfl ?_
      refine x_getR dX8_door_19 flX8_29 rfl rfl rfl ?_
      refine x_iconst dX8_door_22 ?_
      refine x_iload_n dX8_door_23 1 rfl rfl ?_
      refine x_imul dX8_door_24 ?_
      refine x_iload_n dX8_door_25 2 rfl rfl ?_
      refine x_iadd dX8_door_26 ?_
      refine x_iald dX8_door_27 rfl (by omega) ?_
      refine x_iconst dX8_door_28 ?_
      refine x_callVi (as := [_, _]) dX8_door_29 lvX8_130 rfl rfl rfl rfl rfl rfl rfl ⟨rfl, rfl⟩ (s_X8_tells) (fun z29 I29 L29 R29 hq29 => ?_)
      obtain ⟨rfl, rfl, rfl, rfl⟩ := hq29
      refine x_goto (tgt := 36) dX8_door_32 (by decide) ?_
      refine x_iret dX8_door_36 rfl ?_
      first
      | (rw [← hQ]
         have hs : s_door d w I = (-1, I) := by
           unfold s_door
           rw [if_pos (by omega)]
         rw [hs]
         exact ⟨_, rfl, rfl, Pe.rf _, rfl, rfl⟩)
      | (rw [← hQ]
         have hs : s_door d w I = (1, a_tl I (I 7 (3 * d + w))) := by
           unfold s_door
           rw [if_neg (by omega)]
         rw [hs]
         exact ⟨_, rfl, rfl, Pe.rf _, rfl, rfl⟩)
theorem s_X8_walker {d w : Int} (hH : iHs I) (hE : iEvs I) (h1 : rI d) (h2 : rI w) : Sp G mtX8_walker [mr 0, mi d, mi w] shM I L rM (qi (fun z I' L' R' => z = (s_walker d w I).1 ∧ Pe (s_walker d w I).2 I' ∧ L = L' ∧ R' = rM)) := by
  refine Sp.of pnX8_walker rfl ?_
  show Rn G mtX8_walker _ 0 [(0, mr 0), (1, mi d), (2, mi w)] [] shM I L rM
  generalize hQ : (qi (fun z I' L' R' => z = (s_walker d w I).1 ∧ Pe (s_walker d w I).2 I' ∧ L = L' ∧ R' = rM)) = Q
  have hEn := hH.2.2.1
  refine x_aload_n dX8_walker_0 0 rfl rfl ?_
  refine x_iload_n dX8_walker_1 1 rfl rfl ?_
  refine x_callVi (as := [_]) dX8_walker_2 lvX8_224 rfl rfl rfl rfl rfl rfl rfl ⟨rfl, rfl⟩ (s_X8_isWalker (by omega) (by omega)) (fun z2 I2 L2 R2 hq2 => ?_)
  obtain ⟨rfl, rfl, rfl, rfl⟩ := hq2
  refine y_ifb_eq (tgt := 35) dX8_walker_5 (by decide) (fun h5 => ?_) (fun h5 => ?_)
  · refine x_iconst dX8_walker_35 ?_
    refine x_iret dX8_walker_36 rfl ?_
    first
    | (rw [← hQ]
       have hs : s_walker d w I = (-1, I) := by
         unfold s_walker
         rw [if_pos (by omega)]
       rw [hs]
       exact ⟨_, rfl, rfl, Pe.rf _, rfl, rfl⟩)
    | (rw [← hQ]
       have hs : s_walker d w I = (1, a_tl I (I 8 (2 * d + w))) := by
         unfold s_walker
         rw [if_neg (by omega)]
       rw [hs]
       exact ⟨_, rfl, rfl, Pe.rf _, rfl, rfl⟩)
  · refine x_iload_n dX8_walker_8 2 rfl rfl ?_
    refine x_iconst dX8_walker_9 ?_
    refine x_iconst dX8_walker_10 ?_
    refine x_callSi (as := [_, _, _]) dX8_walker_11 lvX8_105 rfl rfl rfl rfl ⟨rfl, rfl⟩ (s_X8_in (by omega) (by omega) (by omega)) (fun z11 I11 L11 R11 hq11 => ?_)
    obtain ⟨rfl, rfl, rfl, rfl⟩ := hq11
    refine y_ifb_eq (tgt := 35) dX8_walker_14 (by decide) (fun h14 => ?_) (fun h14 => ?_)
    · refine x_iconst dX8_walker_35 ?_
      refine x_iret dX8_walker_36 rfl ?_
      first
      | (rw [← hQ]
         have hs : s_walker d w I = (-1, I) := by
           unfold s_walker
           rw [if_pos (by omega)]
         rw [hs]
         exact ⟨_, rfl, rfl, Pe.rf _, rfl, rfl⟩)
      | (rw [← hQ]
         have hs : s_walker d w I = (1, a_tl I (I 8 (2 * d + w))) := by
           unfold s_walker
           rw [if_neg (by omega)]
         rw [hs]
         exact ⟨_, rfl, rfl, Pe.rf _, rfl, rfl⟩)
    · refine x_aload_n dX8_walker_17 0 rfl rfl ?_
      refine x_aload_n dX8_walker_18 0 rfl rfl ?_
      refine x_getR dX8_walker_19 flX8_32 rfl rfl rfl ?_
      refine x_iconst dX8_walker_22 ?_
      refine x_iload_n dX8_walker_23 1 rfl rfl ?_
      refine x_imul dX8_walker_24 ?_
      refine x_iload_n dX8_walker_25 2 rfl rfl ?_
      refine x_iadd dX8_walker_26 ?_
      refine x_iald dX8_walker_27 rfl (by omega) ?_
      refine x_iconst dX8_walker_28 ?_
      refine x_callVi (as := [_, _]) dX8_walker_29 lvX8_130 rfl rfl rfl rfl rfl rfl rfl ⟨rfl, rfl⟩ (s_X8_tells) (fun z29 I29 L29 R29 hq29 => ?_)
      obtain ⟨rfl, rfl, rfl, rfl⟩ := hq29
      refine x_goto (tgt := 36) dX8_walker_32 (by decide) ?_
      refine x_iret dX8_walker_36 rfl ?_
      first
      | (rw [← hQ]
         have hs : s_walker d w I = (-1, I) := by
           unfold s_walker
           rw [if_pos (by omega)]
         rw [hs]
         exact ⟨_, rfl, rfl, Pe.rf _, rfl, rfl⟩)
      | (rw [← hQ]
         have hs : s_walker d w I = (1, a_tl I (I 8 (2 * d + w))) := by
           unfold s_walker
           rw [if_neg (by omega)]
         rw [hs]
         exact ⟨_, rfl, rfl, Pe.rf _, rfl, rfl⟩)
end

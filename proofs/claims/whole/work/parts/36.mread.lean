/-! THE REFERENCE: calls on houses, nights, events. -/
theorem BY_RT {I : MI} (h : iTexts I) {t : Int} (ht : 0 ≤ t ∧ t ≤ 3) : RT t (BY I t) I := ⟨h, ht, fun _ => rfl⟩
section
variable {G : GT} {sh : MS} {I L : MI} {R : MR} {κ : MI} {t : Int} {B : Nat → Int}

theorem s_X8_fault {t nb : Int} (hH : iHs I) (hE : iEvs I) (hX : iTexts I) (h1 : rI t) (h2 : rI nb) : Sp G mtX8_fault [mr 0, mi t, mi nb] shM I L rM (qi (fun z I' L' R' => z = (s_fault t nb I).1 ∧ Pe (s_fault t nb I).2 I' ∧ L = L' ∧ R' = rM)) := by
  refine Sp.of pnX8_fault rfl ?_
  show Rn G mtX8_fault _ 0 [(0, mr 0), (1, mi t), (2, mi nb)] [] shM I L rM
  generalize hQ : (qi (fun z I' L' R' => z = (s_fault t nb I).1 ∧ Pe (s_fault t nb I).2 I' ∧ L = L' ∧ R' = rM)) = Q
  refine x_iload_n dX8_fault_0 1 rfl rfl ?_
  refine x_callSi (as := [_]) dX8_fault_1 lvX8_133 rfl rfl rfl rfl ⟨rfl, rfl⟩ (s_X8_isText (by omega)) (fun z1 I1 L1 R1 hq1 => ?_)
  obtain ⟨rfl, rfl, rfl, rfl⟩ := hq1
  refine y_ifb_ne (tgt := 9) dX8_fault_4 (by decide) (fun h4 => ?_) (fun h4 => ?_)
  · have hx := hX.1 t (by omega) (by omega)
    have hRT := BY_RT hX (t := t) (by omega)
    refine x_aload_n dX8_fault_9 0 rfl rfl ?_
    refine x_getR dX8_fault_10 flX8_22 rfl rfl rfl ?_
    refine x_iload_n dX8_fault_13 1 rfl rfl ?_
    refine x_iald dX8_fault_14 rfl (by omega) ?_
    refine x_if_ge (tgt := 26) dX8_fault_15 (by decide) (by first | omega | exact z_and_r _ _ | exact z_or_r _ _ | exact z_xor_r _ _) (fun h15 => ?_) (fun h15 => ?_)
    · refine x_iload_n dX8_fault_26 2 rfl rfl ?_
      refine x_if_eq (tgt := 38) dX8_fault_27 (by decide) (by first | omega | exact z_and_r _ _ | exact z_or_r _ _ | exact z_xor_r _ _) (fun h27 => ?_) (fun h27 => ?_)
      · refine x_aload_n dX8_fault_38 0 rfl rfl ?_
        refine x_iload_n dX8_fault_39 1 rfl rfl ?_
        refine x_callVi (as := [_]) dX8_fault_40 lvX8_214 rfl rfl rfl rfl rfl rfl rfl ⟨rfl, rfl⟩ (s_X8_houseFault hRT (by omega)) (fun z40 I40 L40 R40 hq40 => ?_)
        obtain ⟨rfl, hRE, rfl, rfl, hHR⟩ := hq40
        refine x_iret dX8_fault_43 rfl ?_
        first
        | (rw [← hQ]
           have hs : s_fault t nb I = (-3, a_mt I 1) := by
             unfold s_fault
             rw [if_neg (by omega), if_pos (by omega)]
           rw [hs]
           exact ⟨_, rfl, rfl, Pe.rf _, rfl, rfl⟩)
        | (rw [← hQ]
           have hs : s_fault t nb I = ((nigF (BY I t) I (I 5 t).toNat).1, I) := by
             unfold s_fault
             rw [if_neg (by omega), if_neg (by omega), if_pos (by assumption)]
           rw [hs]
           exact ⟨_, rfl, rfl, hRE.pe, rfl, rfl⟩)
        | (rw [← hQ]
           have hs : s_fault t nb I = ((houF (BY I t) (I 5 t).toNat).1, I) := by
             unfold s_fault
             rw [if_neg (by omega), if_neg (by omega), if_neg (by omega)]
           rw [hs]
           exact ⟨_, rfl, rfl, hRE.pe, rfl, rfl⟩)
      · refine x_aload_n dX8_fault_30 0 rfl rfl ?_
        refine x_iload_n dX8_fault_31 1 rfl rfl ?_
        refine x_callVi (as := [_]) dX8_fault_32 lvX8_211 rfl rfl rfl rfl rfl rfl rfl ⟨rfl, rfl⟩ (s_X8_nightFault hRT hH (by omega)) (fun z32 I32 L32 R32 hq32 => ?_)
        obtain ⟨rfl, hRE, rfl, rfl, hNR⟩ := hq32
        refine x_goto (tgt := 43) dX8_fault_35 (by decide) ?_
        refine x_iret dX8_fault_43 rfl ?_
        first
        | (rw [← hQ]
           have hs : s_fault t nb I = (-3, a_mt I 1) := by
             unfold s_fault
             rw [if_neg (by omega), if_pos (by omega)]
           rw [hs]
           exact ⟨_, rfl, rfl, Pe.rf _, rfl, rfl⟩)
        | (rw [← hQ]
           have hs : s_fault t nb I = ((nigF (BY I t) I (I 5 t).toNat).1, I) := by
             unfold s_fault
             rw [if_neg (by omega), if_neg (by omega), if_pos (by assumption)]
           rw [hs]
           exact ⟨_, rfl, rfl, hRE.pe, rfl, rfl⟩)
        | (rw [← hQ]
           have hs : s_fault t nb I = ((houF (BY I t) (I 5 t).toNat).1, I) := by
             unfold s_fault
             rw [if_neg (by omega), if_neg (by omega), if_neg (by omega)]
           rw [hs]
           exact ⟨_, rfl, rfl, hRE.pe, rfl, rfl⟩)
    · refine x_aload_n dX8_fault_18 0 rfl rfl ?_
      refine x_iconst dX8_fault_19 ?_
      refine x_callVi (as := [_]) dX8_fault_20 lvX8_122 rfl rfl rfl rfl rfl rfl rfl ⟨rfl, rfl⟩ (s_X8_meets (by omega)) (fun z20 I20 L20 R20 hq20 => ?_)
      obtain ⟨rfl, rfl, rfl, rfl⟩ := hq20
      refine x_goto (tgt := 43) dX8_fault_23 (by decide) ?_
      refine x_iret dX8_fault_43 rfl ?_
      first
      | (rw [← hQ]
         have hs : s_fault t nb I = (-3, a_mt I 1) := by
           unfold s_fault
           rw [if_neg (by omega), if_pos (by omega)]
         rw [hs]
         exact ⟨_, rfl, rfl, Pe.rf _, rfl, rfl⟩)
      | (rw [← hQ]
         have hs : s_fault t nb I = ((nigF (BY I t) I (I 5 t).toNat).1, I) := by
           unfold s_fault
           rw [if_neg (by omega), if_neg (by omega), if_pos (by assumption)]
         rw [hs]
         exact ⟨_, rfl, rfl, hRE.pe, rfl, rfl⟩)
      | (rw [← hQ]
         have hs : s_fault t nb I = ((houF (BY I t) (I 5 t).toNat).1, I) := by
           unfold s_fault
           rw [if_neg (by omega), if_neg (by omega), if_neg (by omega)]
         rw [hs]
         exact ⟨_, rfl, rfl, hRE.pe, rfl, rfl⟩)
  · refine x_iconst dX8_fault_7 ?_
    refine x_iret dX8_fault_8 rfl ?_
    rw [← hQ]
    have hs : s_fault t nb I = (-1, I) := by
      unfold s_fault
      rw [if_pos (by omega)]
    rw [hs]
    exact ⟨_, rfl, rfl, Pe.rf _, rfl, rfl⟩
set_option maxHeartbeats 1500000 in
theorem s_X8_house {t : Int} (hH : iHs I) (hE : iEvs I) (hX : iTexts I) (h1 : rI t) : Sp G mtX8_house [mr 0, mi t] shM I L rM (qi (fun z I' L' R' => (okH t I → z = ((houF (BY I t) (I 5 t).toNat).2.2.2.1.length : Int) ∧ hsI I (houF (BY I t) (I 5 t).toNat).2.1 (houF (BY I t) (I 5 t).toNat).2.2 I') ∧ (¬ okH t I → z = (s_house1 t I).1 ∧ Pe (s_house1 t I).2 I') ∧ L = L' ∧ R' = rM)) := by
  refine Sp.of pnX8_house rfl ?_
  show Rn G mtX8_house _ 0 [(0, mr 0), (1, mi t)] [] shM I L rM
  generalize hQ : (qi (fun z I' L' R' => (okH t I → z = ((houF (BY I t) (I 5 t).toNat).2.2.2.1.length : Int) ∧ hsI I (houF (BY I t) (I 5 t).toNat).2.1 (houF (BY I t) (I 5 t).toNat).2.2 I') ∧ (¬ okH t I → z = (s_house1 t I).1 ∧ Pe (s_house1 t I).2 I') ∧ L = L' ∧ R' = rM)) = Q
  have hrr : ∀ n : Nat, rI (houF (BY I t) n).1 := fun n => houF_r _ n
  refine x_iload_n dX8_house_0 1 rfl rfl ?_
  refine x_callSi (as := [_]) dX8_house_1 lvX8_133 rfl rfl rfl rfl ⟨rfl, rfl⟩ (s_X8_isText (by omega)) (fun z1 I1 L1 R1 hq1 => ?_)
  obtain ⟨rfl, rfl, rfl, rfl⟩ := hq1
  refine y_ifb_ne (tgt := 9) dX8_house_4 (by decide) (fun h4 => ?_) (fun h4 => ?_)
  · have hx := hX.1 t (by omega) (by omega)
    have hRT := BY_RT hX (t := t) (by omega)
    refine x_aload_n dX8_house_9 0 rfl rfl ?_
    refine x_getR dX8_house_10 flX8_22 rfl rfl rfl ?_
    refine x_iload_n dX8_house_13 1 rfl rfl ?_
    refine x_iald dX8_house_14 rfl (by omega) ?_
    refine x_if_ge (tgt := 24) dX8_house_15 (by decide) (by first | omega | exact z_and_r _ _ | exact z_or_r _ _ | exact z_xor_r _ _) (fun h15 => ?_) (fun h15 => ?_)
    · refine x_aload_n dX8_house_24 0 rfl rfl ?_
      refine x_iload_n dX8_house_25 1 rfl rfl ?_
      refine x_callVi (as := [_]) dX8_house_26 lvX8_214 rfl rfl rfl rfl rfl rfl rfl ⟨rfl, rfl⟩ (s_X8_houseFault hRT (by omega)) (fun z26 I26 L26 R26 hq26 => ?_)
      obtain ⟨rfl, hRE, rfl, rfl, hHR⟩ := hq26
      have hzr : rI (houF (BY I t) (I 5 t).toNat).1 := hrr _
      refine x_bipush dX8_house_29 (by decide) ?_
      refine x_ic_eq (tgt := 37) dX8_house_31 (by decide) (by first | omega | exact z_and_r _ _ | exact z_or_r _ _ | exact z_xor_r _ _) (fun h31 => ?_) (fun h31 => ?_)
      · refine x_aload_n dX8_house_37 0 rfl rfl ?_
        refine x_aload_n dX8_house_38 0 rfl rfl ?_
        refine x_getI dX8_house_39 flX8_148 rfl rfl ?_
        refine x_putI dX8_house_42 flX8_95 rfl rfl rfl ?_
        refine x_aload_n dX8_house_45 0 rfl rfl ?_
        refine x_aload_n dX8_house_46 0 rfl rfl ?_
        refine y_getI dX8_house_47 flX8_145 rfl rfl (m_up_nj (by decide)) ?_
        refine x_putI dX8_house_50 flX8_183 rfl rfl rfl ?_
        refine x_aload_n dX8_house_53 0 rfl rfl ?_
        refine x_aload_n dX8_house_54 0 rfl rfl ?_
        refine y_getI dX8_house_55 flX8_158 rfl rfl (((m_up_nj (by decide)).trans (m_up_nj (by decide)))) ?_
        refine x_putI dX8_house_58 flX8_186 rfl rfl rfl ?_
        refine x_aload_n dX8_house_61 0 rfl rfl ?_
        refine x_aload_n dX8_house_62 0 rfl rfl ?_
        refine y_getI dX8_house_63 flX8_164 rfl rfl (((m_up_nj (by decide)).trans (((m_up_nj (by decide)).trans (m_up_nj (by decide)))))) ?_
        refine x_putI dX8_house_66 flX8_99 rfl rfl rfl ?_
        refine x_iconst dX8_house_69 ?_
        refine x_istore_n (lv' := [(0, _), (1, _), (2, _)]) dX8_house_70 rfl rfl rfl ?_
        obtain ⟨f1, f2, f3, f4, f5, f6, f7, f8, f9, f10⟩ := hHR (by assumption)
        obtain ⟨R0, hR0⟩ : ∃ x, x = (houF (BY I t) (I 5 t).toNat).2.1 := ⟨_, rfl⟩
        obtain ⟨σ, hσ⟩ : ∃ x, x = (houF (BY I t) (I 5 t).toNat).2.2 := ⟨_, rfl⟩
        rw [← hR0] at f2
        rw [← hσ] at f3 f4 f5 f6 f7 f8 f9 f10
        obtain ⟨J1, hJ1⟩ : ∃ J1 : MI, J1 = m_up (m_up (m_up (m_up I26 0 11 (I26 0 19)) 0 12 (I26 0 20)) 0 13 (I26 0 21)) 0 14 (I26 0 22) := ⟨_, rfl⟩
        have g9 : ∀ j, J1 9 j = I26 9 j := fun j => by rw [hJ1, m_up_ne (by decide), m_up_ne (by decide), m_up_ne (by decide), m_up_ne (by decide)]
        have g10 : ∀ j, J1 10 j = I26 10 j := fun j => by rw [hJ1, m_up_ne (by decide), m_up_ne (by decide), m_up_ne (by decide), m_up_ne (by decide)]
        have l2 : ∀ w : Nat, w ≤ 6 → ∀ J : MI, (∀ c j, c ≠ 7 → c ≠ 8 → J c j = J1 c j) → (∀ d : Nat, d < 24 → J 7 (d : Int) = I26 9 (d : Int)) → (∀ x : Nat, x < w → J 8 (x : Int) = I26 10 (x : Int)) → Rn G mtX8_house Q 97 [(0, mr 0), (1, mi t), (2, mi (w : Int))] [] shM J L rM := by
          refine lpn 6 (fun w hw ih => ?_) ?_
          · intro J hJ hA hB
            refine x_iload_n dX8_house_97 2 rfl rfl ?_
            refine x_bipush dX8_house_98 (by decide) ?_
            refine x_ic_ge (tgt := 121) dX8_house_100 (by decide) (by first | omega | exact z_and_r _ _ | exact z_or_r _ _ | exact z_xor_r _ _) (fun h100 => ?_) (fun h100 => ?_)
            · exfalso; omega
            · refine x_aload_n dX8_house_103 0 rfl rfl ?_
              refine x_getR dX8_house_104 flX8_32 rfl rfl rfl ?_
              refine x_iload_n dX8_house_107 2 rfl rfl ?_
              refine x_aload_n dX8_house_108 0 rfl rfl ?_
              refine x_getR dX8_house_109 flX8_38 rfl rfl rfl ?_
              refine x_iload_n dX8_house_112 2 rfl rfl ?_
              refine x_iald dX8_house_113 rfl (by omega) ?_
              refine x_iast dX8_house_114 rfl (by omega) ?_
              refine x_iinc (lv' := [(0, _), (1, _), (2, _)]) dX8_house_115 2 rfl rfl rfl ?_
              refine x_goto (tgt := 97) dX8_house_118 (by decide) ?_
              refine ih _ (fun c j q1 q2 => by rw [m_up_ne q2]; exact hJ c j q1 q2) (fun d hd => by rw [m_up_ne (by decide)]; exact hA d hd) (fun x hx => ?_)
              by_cases e : x = w
              · subst e; rw [m_up_eq, hJ 10 _ (by decide) (by decide), g10]
              · rw [m_up_nj (by omega)]; exact hB x (by omega)
          · intro J hJ hA hB
            refine x_iload_n dX8_house_97 2 rfl rfl ?_
            refine x_bipush dX8_house_98 (by decide) ?_
            refine x_ic_ge (tgt := 121) dX8_house_100 (by decide) (by first | omega | exact z_and_r _ _ | exact z_or_r _ _ | exact z_xor_r _ _) (fun h100 => ?_) (fun h100 => ?_)
            · refine x_aload_n dX8_house_121 0 rfl rfl ?_
              refine x_iconst dX8_house_122 ?_
              refine x_putI dX8_house_123 flX8_217 rfl rfl rfl ?_
              refine x_aload_n dX8_house_126 0 rfl rfl ?_
              refine y_getI dX8_house_127 flX8_183 rfl rfl (m_up_nj (by decide)) ?_
              refine x_iret dX8_house_130 rfl ?_
              rw [← hQ]
              have a11 : J1 0 11 = R0 := by rw [hJ1, m_up_nj (by decide), m_up_nj (by decide), m_up_nj (by decide), m_up_eq]; exact f2
              have a12 : J1 0 12 = (σ.2.1.length : Int) := by rw [hJ1, m_up_nj (by decide), m_up_nj (by decide), m_up_eq]; exact f4
              have a13 : J1 0 13 = (σ.2.2.1.length : Int) := by rw [hJ1, m_up_nj (by decide), m_up_eq]; exact f5
              have a14 : J1 0 14 = σ.2.2.2 := by rw [hJ1, m_up_eq]; exact f6
              have hok : okH t I := ⟨by omega, by omega, by assumption⟩
              refine ⟨_, rfl, fun _ => ?_, fun h => absurd hok h, rfl, rfl⟩
              rw [← hR0, ← hσ]
              refine ⟨by rw [hJ 0 12 (by decide) (by decide), a12], ?_, ?_, ?_, ?_, fun i q hq => ?_, fun i q hq => ?_, m_up_eq, fun c j q1 q2 q3 q4 => ?_, f9, f10⟩
              · rw [m_up_nj (by decide), hJ 0 11 (by decide) (by decide), a11]
              · rw [m_up_nj (by decide), hJ 0 12 (by decide) (by decide), a12]
              · rw [m_up_nj (by decide), hJ 0 13 (by decide) (by decide), a13]
              · rw [m_up_nj (by decide), hJ 0 14 (by decide) (by decide), a14]
              · have hil := (List.getElem?_eq_some_iff.mp hq).1
                have b0 := hA (3 * i) (by omega)
                have b1 := hA (3 * i + 1) (by omega)
                have b2 := hA (3 * i + 2) (by omega)
                rw [show ((3 * i : Nat) : Int) = 3 * (i : Int) by omega] at b0
                rw [show ((3 * i + 1 : Nat) : Int) = 3 * (i : Int) + 1 by omega] at b1
                rw [show ((3 * i + 2 : Nat) : Int) = 3 * (i : Int) + 2 by omega] at b2
                rw [m_up_ne (by decide), m_up_ne (by decide), m_up_ne (by decide), b0, b1, b2]
                exact f7 i q hq
              · have hil := (List.getElem?_eq_some_iff.mp hq).1
                have b0 := hB (2 * i) (by omega)
                have b1 := hB (2 * i + 1) (by omega)
                rw [show ((2 * i : Nat) : Int) = 2 * (i : Int) by omega] at b0
                rw [show ((2 * i + 1 : Nat) : Int) = 2 * (i : Int) + 1 by omega] at b1
                rw [m_up_ne (by decide), m_up_ne (by decide), b0, b1]
                exact f8 i q hq
              · have e25 : ¬ (c = 0 ∧ j = 25) := by omega
                unfold m_up
                rw [if_neg e25, hJ c j q2 q3, hJ1]
                unfold m_up
                rw [if_neg (by omega), if_neg (by omega), if_neg (by omega), if_neg (by omega)]
                exact hRE.pe c j q1
            · exfalso; omega
        have l1 : ∀ d : Nat, d ≤ 24 → ∀ J : MI, (∀ c j, c ≠ 7 → J c j = J1 c j) → (∀ x : Nat, x < d → J 7 (x : Int) = I26 9 (x : Int)) → Rn G mtX8_house Q 71 [(0, mr 0), (1, mi t), (2, mi (d : Int))] [] shM J L rM := by
          refine lpn 24 (fun d hd ih => ?_) ?_
          · intro J hJ hA
            refine x_iload_n dX8_house_71 2 rfl rfl ?_
            refine x_bipush dX8_house_72 (by decide) ?_
            refine x_ic_ge (tgt := 95) dX8_house_74 (by decide) (by first | omega | exact z_and_r _ _ | exact z_or_r _ _ | exact z_xor_r _ _) (fun h74 => ?_) (fun h74 => ?_)
            · exfalso; omega
            · refine x_aload_n dX8_house_77 0 rfl rfl ?_
              refine x_getR dX8_house_78 flX8_29 rfl rfl rfl ?_
              refine x_iload_n dX8_house_81 2 rfl rfl ?_
              refine x_aload_n dX8_house_82 0 rfl rfl ?_
              refine x_getR dX8_house_83 flX8_35 rfl rfl rfl ?_
              refine x_iload_n dX8_house_86 2 rfl rfl ?_
              refine x_iald dX8_house_87 rfl (by omega) ?_
              refine x_iast dX8_house_88 rfl (by omega) ?_
              refine x_iinc (lv' := [(0, _), (1, _), (2, _)]) dX8_house_89 2 rfl rfl rfl ?_
              refine x_goto (tgt := 71) dX8_house_92 (by decide) ?_
              refine ih _ (fun c j q => by rw [m_up_ne q]; exact hJ c j q) (fun x hx => ?_)
              by_cases e : x = d
              · subst e; rw [m_up_eq, hJ 9 _ (by decide), g9]
              · rw [m_up_nj (by omega)]; exact hA x (by omega)
          · intro J hJ hA
            refine x_iload_n dX8_house_71 2 rfl rfl ?_
            refine x_bipush dX8_house_72 (by decide) ?_
            refine x_ic_ge (tgt := 95) dX8_house_74 (by decide) (by first | omega | exact z_and_r _ _ | exact z_or_r _ _ | exact z_xor_r _ _) (fun h74 => ?_) (fun h74 => ?_)
            · refine x_iconst dX8_house_95 ?_
              refine x_istore_n (lv' := [(0, _), (1, _), (2, _)]) dX8_house_96 rfl rfl rfl ?_
              exact l2 0 (by omega) J (fun c j q _ => hJ c j q) (fun d hd => hA d hd) (fun x hx => by omega)
            · exfalso; omega
        have h9 := l1 0 (by omega) J1 (fun _ _ _ => rfl) (fun x hx => by omega)
        rw [hJ1] at h9
        exact h9
      · refine x_bipush dX8_house_34 (by decide) ?_
        refine x_iret dX8_house_36 rfl ?_
        rw [← hQ]
        have hs : s_house1 t I = (-4, I) := by
          unfold s_house1
          rw [if_neg (by omega), if_neg (by omega)]
        refine ⟨_, rfl, fun h => ?_, fun _ => ?_, rfl, rfl⟩
        · exfalso
          obtain ⟨x1, x2, x3⟩ := h
          omega
        · rw [hs]
          exact ⟨rfl, hRE.pe⟩
    · refine x_aload_n dX8_house_18 0 rfl rfl ?_
      refine x_iconst dX8_house_19 ?_
      refine x_callVi (as := [_]) dX8_house_20 lvX8_122 rfl rfl rfl rfl rfl rfl rfl ⟨rfl, rfl⟩ (s_X8_meets (by omega)) (fun z20 I20 L20 R20 hq20 => ?_)
      obtain ⟨rfl, rfl, rfl, rfl⟩ := hq20
      refine x_iret dX8_house_23 rfl ?_
      rw [← hQ]
      have hs : s_house1 t I = (-3, a_mt I 1) := by
        unfold s_house1
        rw [if_neg (by omega), if_pos (by omega)]
      refine ⟨_, rfl, fun h => ?_, fun _ => ?_, rfl, rfl⟩
      · exfalso
        obtain ⟨x1, x2, x3⟩ := h
        omega
      · rw [hs]
        exact ⟨rfl, Pe.rf _⟩
  · refine x_iconst dX8_house_7 ?_
    refine x_iret dX8_house_8 rfl ?_
    rw [← hQ]
    have hs : s_house1 t I = (-1, I) := by
      unfold s_house1
      rw [if_pos (by omega)]
    refine ⟨_, rfl, fun h => ?_, fun _ => ?_, rfl, rfl⟩
    · exfalso
      obtain ⟨x1, x2, x3⟩ := h
      omega
    · rw [hs]
      exact ⟨rfl, Pe.rf _⟩
theorem s_X8_comes {k a b t : Int} (h : 0 ≤ I 0 25 ∧ I 0 25 < 24) : Sp G mtX8_comes [mr 0, mi k, mi a, mi b, mi t] shM I L rM (qi (fun z I' L' R' => z = I 0 25 ∧ I' = cmE I k a b t ∧ L = L' ∧ R' = rM)) := by
  refine Sp.of pnX8_comes rfl ?_
  show Rn G mtX8_comes _ 0 [(0, mr 0), (1, mi k), (2, mi a), (3, mi b), (4, mi t)] [] shM I L rM
  generalize hQ : (qi (fun z I' L' R' => z = I 0 25 ∧ I' = cmE I k a b t ∧ L = L' ∧ R' = rM)) = Q
  refine x_aload_n dX8_comes_0 0 rfl rfl ?_
  refine x_getR dX8_comes_1 flX8_41 rfl rfl rfl ?_
  refine x_iconst dX8_comes_4 ?_
  refine x_aload_n dX8_comes_5 0 rfl rfl ?_
  refine x_getI dX8_comes_6 flX8_217 rfl rfl ?_
  refine x_imul dX8_comes_9 ?_
  refine x_iload_n dX8_comes_10 1 rfl rfl ?_
  refine x_iast dX8_comes_11 rfl (by omega) ?_
  refine x_aload_n dX8_comes_12 0 rfl rfl ?_
  refine x_getR dX8_comes_13 flX8_41 rfl rfl rfl ?_
  refine x_iconst dX8_comes_16 ?_
  refine x_aload_n dX8_comes_17 0 rfl rfl ?_
  refine y_getI dX8_comes_18 flX8_217 rfl rfl (m_up_ne (by decide) _) ?_
  refine x_imul dX8_comes_21 ?_
  refine x_iconst dX8_comes_22 ?_
  refine x_iadd dX8_comes_23 ?_
  refine x_iload_n dX8_comes_24 2 rfl rfl ?_
  refine x_iast dX8_comes_25 rfl (by omega) ?_
  refine x_aload_n dX8_comes_26 0 rfl rfl ?_
  refine x_getR dX8_comes_27 flX8_41 rfl rfl rfl ?_
  refine x_iconst dX8_comes_30 ?_
  refine x_aload_n dX8_comes_31 0 rfl rfl ?_
  refine y_getI dX8_comes_32 flX8_217 rfl rfl (((m_up_ne (by decide) _).trans (m_up_ne (by decide) _))) ?_
  refine x_imul dX8_comes_35 ?_
  refine x_iconst dX8_comes_36 ?_
  refine x_iadd dX8_comes_37 ?_
  refine x_iload_n dX8_comes_38 3 rfl rfl ?_
  refine x_iast dX8_comes_39 rfl (by omega) ?_
  refine x_aload_n dX8_comes_40 0 rfl rfl ?_
  refine x_getR dX8_comes_41 flX8_41 rfl rfl rfl ?_
  refine x_iconst dX8_comes_44 ?_
  refine x_aload_n dX8_comes_45 0 rfl rfl ?_
  refine y_getI dX8_comes_46 flX8_217 rfl rfl (((m_up_ne (by decide) _).trans (((m_up_ne (by decide) _).trans (m_up_ne (by decide) _))))) ?_
  refine x_imul dX8_comes_49 ?_
  refine x_iconst dX8_comes_50 ?_
  refine x_iadd dX8_comes_51 ?_
  refine x_iload dX8_comes_52 4 rfl ?_
  refine x_iast dX8_comes_54 rfl (by omega) ?_
  refine x_aload_n dX8_comes_55 0 rfl rfl ?_
  refine x_dup dX8_comes_56 rfl ?_
  refine y_getI dX8_comes_57 flX8_217 rfl rfl (((m_up_ne (by decide) _).trans (((m_up_ne (by decide) _).trans (((m_up_ne (by decide) _).trans (m_up_ne (by decide) _))))))) ?_
  refine x_iconst dX8_comes_60 ?_
  refine x_iadd dX8_comes_61 ?_
  refine x_putI dX8_comes_62 flX8_217 rfl rfl rfl ?_
  refine x_aload_n dX8_comes_65 0 rfl rfl ?_
  refine y_getI dX8_comes_66 flX8_217 rfl rfl (m_up_eq) ?_
  refine x_iconst dX8_comes_69 ?_
  refine x_isub dX8_comes_70 ?_
  refine x_iret dX8_comes_71 rfl ?_
  rw [← hQ]
  exact ⟨_, rfl, by omega, rfl, rfl, rfl⟩
end

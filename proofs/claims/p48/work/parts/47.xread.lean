/-! THE CLASS: Reader, an item of a house; a house. -/
theorem itm_fail {B : Nat → Int} {R0 : Int} {p : Nat} {τ : HT} (h8 : τ.1.length ≤ 8) (h3 : τ.2.1.length ≤ 3) (h : (B p = 100 ∨ B p = 68) ∧ 8 ≤ τ.1.length ∨ B p = 119 ∧ 3 ≤ τ.2.1.length ∨ (B p ≠ 100 ∧ B p ≠ 68 ∧ B p ≠ 119 ∧ B p ≠ 109)) : (itmP B R0 (p, τ)).1 = false ∧ (itmP B R0 (p, τ)).2.1 = p := by
  unfold itmP
  simp only
  rcases h with ⟨h1, h2⟩ | ⟨h1, h2⟩ | h1
  · rw [if_pos h1]
    have : dorP B R0 τ.1.length p = (false, p, 0, 0) := by unfold dorP; rw [if_pos (by omega)]
    rw [this]
    exact ⟨rfl, rfl⟩
  · rw [if_neg (by omega), if_neg (by omega), if_pos h1]
    have : wlkP B R0 τ.2.1.length p = (false, p, 0, 0) := by unfold wlkP; rw [if_pos (by omega)]
    rw [this]
    exact ⟨rfl, rfl⟩
  · rw [if_neg (by omega), if_neg (by omega), if_neg (by omega)]
    exact ⟨rfl, rfl⟩
theorem HX.lst {h : Nat} {R0 : Int} {τ : HT} {I : MI} (k : HX h R0 τ I) (v : Int) : HX h R0 (τ.1, τ.2.1, v) (m_up I h 3 v) := by
  obtain ⟨x1, x2, x3, x4, x5, x6, x7, x8, x9⟩ := k
  have e : ∀ c j, ¬ (c = h ∧ j = 3) → m_up I h 3 v c j = I c j := fun c j q => by unfold m_up; rw [if_neg q]
  exact ⟨by rw [e _ _ (by omega)]; exact x1, by rw [e _ _ (by omega)]; exact x2, by rw [e _ _ (by omega)]; exact x3, m_up_eq, fun i q hq => by rw [e _ _ (by omega), e _ _ (by omega)]; exact x5 i q hq, by rw [e _ _ (by omega)]; exact x6, fun i q hq => by rw [e _ _ (by omega), e _ _ (by omega)]; exact x7 i q hq, x8, x9⟩
section
variable {G : GT} {I L : MI} {R : MR} {tx n p h : Nat} {B : Nat → Int} {f R0 : Int} {τ : HT}

set_option maxHeartbeats 1500000 in
theorem s_X4_readHouseItem  (hX : XT tx B n I R) (hh : isH R h) (hH : HX h R0 τ I) (hR0 : 1 ≤ R0 ∧ R0 ≤ 6) (hp : I 17 2 = (p : Int)) (hf : I 17 3 = 0) (hp2 : p ≤ 900) : Sp G mtX4_readHouseItem [mr 17, mr h] shX I L R (qv (fun I' L' R' => I' 17 2 = ((itmP B R0 (p, τ)).2.1 : Int) ∧ I' 17 3 = (if (itmP B R0 (p, τ)).1 then 0 else 1) ∧ XHo h I I' ∧ ((itmP B R0 (p, τ)).1 = true → HX h R0 (itmP B R0 (p, τ)).2.2 I') ∧ L = L' ∧ R = R')) := by
  refine Sp.of pnX4_readHouseItem rfl ?_
  show Rn G mtX4_readHouseItem _ 0 [(0, mr 17), (1, mr h)] [] shX I L R
  generalize hQ : (qv (fun I' L' R' => I' 17 2 = ((itmP B R0 (p, τ)).2.1 : Int) ∧ I' 17 3 = (if (itmP B R0 (p, τ)).1 then 0 else 1) ∧ XHo h I I' ∧ ((itmP B R0 (p, τ)).1 = true → HX h R0 (itmP B R0 (p, τ)).2.2 I') ∧ L = L' ∧ R = R')) = Q
  obtain ⟨x1, x2, x3, x4, x5, x6, x7⟩ := id hX
  have hb := x7 p
  have hz : n ≤ p → B p = 0 := x6 p
  have hin : (p : Int) < I 17 1 → I tx (I 17 2) = B p := fun q => by rw [hp]; exact x5 p (by omega)
  have hh1 := hh.1
  have hf2 : (0 : Int) = 0 ∨ (0 : Int) = 1 := Or.inl rfl
  obtain ⟨y1, y2, y3, y4, y5, y6, y7, y8, y9⟩ := id hH
  have fl : (B p = 100 ∨ B p = 68) ∧ 8 ≤ τ.1.length ∨ B p = 119 ∧ 3 ≤ τ.2.1.length ∨ (B p ≠ 100 ∧ B p ≠ 68 ∧ B p ≠ 119 ∧ B p ≠ 109) → ∀ d4 d5 d6 : Int, Rn G mtX4_readHouseItem Q 85 [(0, mr 17), (1, mr h), (2, mi d4), (3, mi d5), (4, mi d6)] [] shX I L R := by
    intro hc d4 d5 d6
    obtain ⟨f1, f2⟩ := itm_fail (R0 := R0) (τ := τ) y8 y9 hc
    refine x_aload_n dX4_readHouseItem_85 0 rfl rfl ?_
    refine x_iconst dX4_readHouseItem_86 ?_
    refine x_putZ dX4_readHouseItem_87 flX4_28 rfl rfl rfl (by omega) ?_
    refine x_goto (tgt := 149) dX4_readHouseItem_90 (by decide) ?_
    refine x_vret dX4_readHouseItem_149 rfl ?_
    rw [← hQ, f1, f2]
    exact ⟨rfl, by rw [m_up_nj (by decide)]; exact hp, by rw [m_up_eq, if_neg (by decide)], ((XS.rf I).up (Or.inr rfl) _).ho h, fun q => absurd q (by decide), rfl, rfl⟩
  have jd : (B p = 100 ∨ B p = 68) → τ.1.length < 8 → ∀ d5 d6 : Int, Rn G mtX4_readHouseItem Q 93 [(0, mr 17), (1, mr h), (2, mi 1), (3, mi d5), (4, mi d6)] [] shX I L R := by
    intro hc hc2 d5 d6
    have hi : itmP B R0 (p, τ) = ((dorP B R0 τ.1.length p).1, (dorP B R0 τ.1.length p).2.1, (if (dorP B R0 τ.1.length p).1 then τ.1 ++ [((dorP B R0 τ.1.length p).2.2.1, (dorP B R0 τ.1.length p).2.2.2, if B p = 68 then 1 else 0)] else τ.1), τ.2) := by
      unfold itmP; simp only; rw [if_pos hc]
    refine x_iload_n dX4_readHouseItem_93 2 rfl rfl ?_
    refine x_if_eq (tgt := 105) dX4_readHouseItem_94 (by decide) (by first | omega | exact z_and_r _ _ | exact z_or_r _ _ | exact z_xor_r _ _) (fun h94 => ?_) (fun h94 => ?_)
    · exfalso; omega
    · refine x_aload_n dX4_readHouseItem_97 0 rfl rfl ?_
      refine x_aload_n dX4_readHouseItem_98 1 rfl rfl ?_
      refine x_callVv (as := [_]) dX4_readHouseItem_99 lvX4_75 rfl rfl rfl rfl rfl rfl rfl ⟨rfl, rfl⟩ (s_X4_readDoor hX hh hH hR0 hp hf hp2 (by omega)) (fun I99 L99 R99 hq99 => ?_)
      obtain ⟨k1, k2, k3, k4, rfl, rfl⟩ := hq99
      refine x_goto (tgt := 149) dX4_readHouseItem_102 (by decide) ?_
      refine x_vret dX4_readHouseItem_149 rfl ?_
      rw [← hQ, hi]
      exact ⟨rfl, k1, k2, k3, fun _ => k4, rfl, rfl⟩
  have jw : B p = 119 → τ.2.1.length < 3 → ∀ d6 : Int, Rn G mtX4_readHouseItem Q 93 [(0, mr 17), (1, mr h), (2, mi 0), (3, mi (b01 ((0 : Int) = 0 ∧ B p = 119))), (4, mi d6)] [] shX I L R := by
    intro hc hc2 d6
    have hi : itmP B R0 (p, τ) = ((wlkP B R0 τ.2.1.length p).1, (wlkP B R0 τ.2.1.length p).2.1, τ.1, (if (wlkP B R0 τ.2.1.length p).1 then τ.2.1 ++ [((wlkP B R0 τ.2.1.length p).2.2.1, (wlkP B R0 τ.2.1.length p).2.2.2)] else τ.2.1), τ.2.2) := by
      unfold itmP; simp only; rw [if_neg (by omega), if_neg (by omega), if_pos hc]
    refine x_iload_n dX4_readHouseItem_93 2 rfl rfl ?_
    refine x_if_eq (tgt := 105) dX4_readHouseItem_94 (by decide) (by first | omega | exact z_and_r _ _ | exact z_or_r _ _ | exact z_xor_r _ _) (fun h94 => ?_) (fun h94 => ?_)
    · refine x_iload_n dX4_readHouseItem_105 3 rfl rfl ?_
      refine y_ifb_eq (tgt := 117) dX4_readHouseItem_106 (by decide) (fun h106 => ?_) (fun h106 => ?_)
      · exfalso; omega
      · refine x_aload_n dX4_readHouseItem_109 0 rfl rfl ?_
        refine x_aload_n dX4_readHouseItem_110 1 rfl rfl ?_
        refine x_callVv (as := [_]) dX4_readHouseItem_111 lvX4_78 rfl rfl rfl rfl rfl rfl rfl ⟨rfl, rfl⟩ (s_X4_readWalker hX hh hH hR0 hp hf hp2 (by omega)) (fun I111 L111 R111 hq111 => ?_)
        obtain ⟨k1, k2, k3, k4, rfl, rfl⟩ := hq111
        refine x_goto (tgt := 149) dX4_readHouseItem_114 (by decide) ?_
        refine x_vret dX4_readHouseItem_149 rfl ?_
        rw [← hQ, hi]
        exact ⟨rfl, k1, k2, k3, fun _ => k4, rfl, rfl⟩
    · exfalso; omega
  have jm : B p = 109 → ∀ d6 : Int, Rn G mtX4_readHouseItem Q 93 [(0, mr 17), (1, mr h), (2, mi 0), (3, mi (b01 ((0 : Int) = 0 ∧ B p = 119))), (4, mi d6)] [] shX I L R := by
    intro hc d6
    have hi : itmP B R0 (p, τ) = (mnQ B 1 30 (p + 1), mnP B (p + 1), τ.1, τ.2.1, mnV B (p + 1)) := by
      unfold itmP; simp only; rw [if_neg (by omega), if_pos hc]
    refine x_iload_n dX4_readHouseItem_93 2 rfl rfl ?_
    refine x_if_eq (tgt := 105) dX4_readHouseItem_94 (by decide) (by first | omega | exact z_and_r _ _ | exact z_or_r _ _ | exact z_xor_r _ _) (fun h94 => ?_) (fun h94 => ?_)
    · refine x_iload_n dX4_readHouseItem_105 3 rfl rfl ?_
      refine y_ifb_eq (tgt := 117) dX4_readHouseItem_106 (by decide) (fun h106 => ?_) (fun h106 => ?_)
      · refine x_aload_n dX4_readHouseItem_117 0 rfl rfl ?_
        refine x_dup dX4_readHouseItem_118 rfl ?_
        refine x_getI dX4_readHouseItem_119 flX4_25 rfl rfl ?_
        rw [hp]
        refine x_iconst dX4_readHouseItem_122 ?_
        refine x_iadd dX4_readHouseItem_123 ?_
        refine x_putI dX4_readHouseItem_124 flX4_25 rfl rfl rfl ?_
        refine x_aload_n dX4_readHouseItem_127 0 rfl rfl ?_
        refine x_iconst dX4_readHouseItem_128 ?_
        refine x_bipush dX4_readHouseItem_129 (by decide) ?_
        refine x_callVi (as := [_, _]) dX4_readHouseItem_131 lvX4_81 rfl rfl rfl rfl rfl rfl rfl ⟨rfl, rfl⟩ (s_X4_readMinute (I := m_up I 17 2 ((p : Int) + 1)) (p := p + 1) (((XS.rf I).up (Or.inl rfl) _).xt hX) m_up_eq ((m_up_nj (by decide)).trans hf) (Or.inl rfl) (by omega) (by omega) (by omega)) (fun z131 I131 L131 R131 hq131 => ?_)
        obtain ⟨k0, k1, k2, k3, rfl, rfl⟩ := hq131
        rw [if_pos rfl] at k1
        have xm := (((XS.rf I).up (Or.inl rfl) _).tr k3 : XS I I131)
        have hHm := hH.xs hh xm
        refine x_istore (lv' := [(0, _), (1, _), (2, _), (3, _), (4, _), (5, _)]) dX4_readHouseItem_134 rfl rfl ?_
        refine x_aload_n dX4_readHouseItem_136 0 rfl rfl ?_
        refine x_getI dX4_readHouseItem_137 flX4_28 rfl rfl ?_
        rw [k2]
        refine x_if_ne (tgt := 149) dX4_readHouseItem_140 (by decide) (by first | omega | exact z_and_r _ _ | exact z_or_r _ _ | exact z_xor_r _ _) (fun h140 => ?_) (fun h140 => ?_)
        · refine x_vret dX4_readHouseItem_149 rfl ?_
          rw [← hQ, hi]
          first
          | (have hm : mnQ B 1 30 (p + 1) = true := by
               apply Classical.byContradiction
               intro q
               rw [if_neg (fun q2 => q q2.2)] at h140
               omega
             rw [if_pos ⟨rfl, hm⟩] at k0 k2
             rw [hm, k0]
             exact ⟨rfl, by rw [m_up_ne (by omega)]; exact k1, by rw [m_up_ne (by omega), k2]; rfl, (xm.ho h).tr (fun c j q1 q2 => m_up_ne (by omega) _), fun _ => hHm.lst _, rfl, rfl⟩)
          | (have hm : mnQ B 1 30 (p + 1) = false := by
               cases q : mnQ B 1 30 (p + 1)
               · rfl
               · rw [if_pos ⟨rfl, q⟩] at h140
                 omega
             rw [if_neg (fun q => by rw [hm] at q; exact Bool.noConfusion q.2)] at k0 k2
             rw [hm]
             exact ⟨rfl, k1, k2, xm.ho h, fun q => Bool.noConfusion q, rfl, rfl⟩)
        · refine x_aload_n dX4_readHouseItem_143 1 rfl rfl ?_
          refine x_iload dX4_readHouseItem_144 5 rfl ?_
          refine x_putI dX4_readHouseItem_146 flX4_84 rfl (shH0 hh) rfl ?_
          refine x_vret dX4_readHouseItem_149 rfl ?_
          rw [← hQ, hi]
          first
          | (have hm : mnQ B 1 30 (p + 1) = true := by
               apply Classical.byContradiction
               intro q
               rw [if_neg (fun q2 => q q2.2)] at h140
               omega
             rw [if_pos ⟨rfl, hm⟩] at k0 k2
             rw [hm, k0]
             exact ⟨rfl, by rw [m_up_ne (by omega)]; exact k1, by rw [m_up_ne (by omega), k2]; rfl, (xm.ho h).tr (fun c j q1 q2 => m_up_ne (by omega) _), fun _ => hHm.lst _, rfl, rfl⟩)
          | (have hm : mnQ B 1 30 (p + 1) = false := by
               cases q : mnQ B 1 30 (p + 1)
               · rfl
               · rw [if_pos ⟨rfl, q⟩] at h140
                 omega
             rw [if_neg (fun q => by rw [hm] at q; exact Bool.noConfusion q.2)] at k0 k2
             rw [hm]
             exact ⟨rfl, k1, k2, xm.ho h, fun q => Bool.noConfusion q, rfl, rfl⟩)
      · exfalso; omega
    · exfalso; omega
  refine x_aload_n dX4_readHouseItem_0 0 rfl rfl ?_
  refine x_bipush dX4_readHouseItem_1 (by decide) ?_
  refine x_callVi (as := [_]) dX4_readHouseItem_3 lvX4_65 rfl rfl rfl rfl rfl rfl rfl ⟨rfl, rfl⟩ (s_X4_ahead hX hp hf hf2 (by omega) (by omega)) (fun z3 I3 L3 R3 hq3 => ?_)
  obtain ⟨rfl, rfl, rfl, rfl⟩ := hq3
  refine y_ifb_ne (tgt := 18) dX4_readHouseItem_6 (by decide) (fun h6 => ?_) (fun h6 => ?_)
  · refine x_iconst dX4_readHouseItem_18 ?_
    refine x_goto (tgt := 23) dX4_readHouseItem_19 (by decide) ?_
    refine x_istore_n (lv' := [(0, _), (1, _), (2, _)]) dX4_readHouseItem_23 rfl rfl rfl ?_
    refine x_aload_n dX4_readHouseItem_24 0 rfl rfl ?_
    refine x_bipush dX4_readHouseItem_25 (by decide) ?_
    refine x_callVi (as := [_]) dX4_readHouseItem_27 lvX4_65 rfl rfl rfl rfl rfl rfl rfl ⟨rfl, rfl⟩ (s_X4_ahead hX hp hf hf2 (by omega) (by omega)) (fun z27 I27 L27 R27 hq27 => ?_)
    obtain ⟨rfl, rfl, rfl, rfl⟩ := hq27
    refine x_istore_n (lv' := [(0, _), (1, _), (2, _), (3, _)]) dX4_readHouseItem_30 rfl rfl rfl ?_
    refine x_iload_n dX4_readHouseItem_31 2 rfl rfl ?_
    refine x_if_eq (tgt := 44) dX4_readHouseItem_32 (by decide) (by first | omega | exact z_and_r _ _ | exact z_or_r _ _ | exact z_xor_r _ _) (fun h32 => ?_) (fun h32 => ?_)
    · exfalso; omega
    · refine x_aload_n dX4_readHouseItem_35 1 rfl rfl ?_
      refine x_getI dX4_readHouseItem_36 flX4_69 (shH0 hh) rfl ?_
      refine x_bipush dX4_readHouseItem_39 (by decide) ?_
      refine x_ic_ge (tgt := 56) dX4_readHouseItem_41 (by decide) (by first | omega | exact z_and_r _ _ | exact z_or_r _ _ | exact z_xor_r _ _) (fun h41 => ?_) (fun h41 => ?_)
      · refine x_iconst dX4_readHouseItem_56 ?_
        refine x_goto (tgt := 61) dX4_readHouseItem_57 (by decide) ?_
        refine x_istore (lv' := [(0, _), (1, _), (2, _), (3, _), (4, _)]) dX4_readHouseItem_61 rfl rfl ?_
        refine x_iload dX4_readHouseItem_63 4 rfl ?_
        refine x_if_ne (tgt := 85) dX4_readHouseItem_65 (by decide) (by first | omega | exact z_and_r _ _ | exact z_or_r _ _ | exact z_xor_r _ _) (fun h65 => ?_) (fun h65 => ?_)
        · exact fl (by omega) _ _ _
        · exfalso; omega
      · refine x_iload_n dX4_readHouseItem_44 3 rfl rfl ?_
        refine y_ifb_eq (tgt := 60) dX4_readHouseItem_45 (by decide) (fun h45 => ?_) (fun h45 => ?_)
        · refine x_iconst dX4_readHouseItem_60 ?_
          refine x_istore (lv' := [(0, _), (1, _), (2, _), (3, _), (4, _)]) dX4_readHouseItem_61 rfl rfl ?_
          refine x_iload dX4_readHouseItem_63 4 rfl ?_
          refine x_if_ne (tgt := 85) dX4_readHouseItem_65 (by decide) (by first | omega | exact z_and_r _ _ | exact z_or_r _ _ | exact z_xor_r _ _) (fun h65 => ?_) (fun h65 => ?_)
          · exfalso; omega
          · refine x_iload_n dX4_readHouseItem_68 2 rfl rfl ?_
            refine x_if_ne (tgt := 93) dX4_readHouseItem_69 (by decide) (by first | omega | exact z_and_r _ _ | exact z_or_r _ _ | exact z_xor_r _ _) (fun h69 => ?_) (fun h69 => ?_)
            · first
              | exact jd (by omega) (by omega) _ _
              | exact jw (by omega) (by omega) _
              | exact jm (by omega) _
            · exfalso; omega
        · refine x_aload_n dX4_readHouseItem_48 1 rfl rfl ?_
          refine x_getI dX4_readHouseItem_49 flX4_72 (shH0 hh) rfl ?_
          refine x_iconst dX4_readHouseItem_52 ?_
          refine x_ic_lt (tgt := 60) dX4_readHouseItem_53 (by decide) (by first | omega | exact z_and_r _ _ | exact z_or_r _ _ | exact z_xor_r _ _) (fun h53 => ?_) (fun h53 => ?_)
          · refine x_iconst dX4_readHouseItem_60 ?_
            refine x_istore (lv' := [(0, _), (1, _), (2, _), (3, _), (4, _)]) dX4_readHouseItem_61 rfl rfl ?_
            refine x_iload dX4_readHouseItem_63 4 rfl ?_
            refine x_if_ne (tgt := 85) dX4_readHouseItem_65 (by decide) (by first | omega | exact z_and_r _ _ | exact z_or_r _ _ | exact z_xor_r _ _) (fun h65 => ?_) (fun h65 => ?_)
            · exfalso; omega
            · refine x_iload_n dX4_readHouseItem_68 2 rfl rfl ?_
              refine x_if_ne (tgt := 93) dX4_readHouseItem_69 (by decide) (by first | omega | exact z_and_r _ _ | exact z_or_r _ _ | exact z_xor_r _ _) (fun h69 => ?_) (fun h69 => ?_)
              · first
                | exact jd (by omega) (by omega) _ _
                | exact jw (by omega) (by omega) _
                | exact jm (by omega) _
              · exfalso; omega
          · refine x_iconst dX4_readHouseItem_56 ?_
            refine x_goto (tgt := 61) dX4_readHouseItem_57 (by decide) ?_
            refine x_istore (lv' := [(0, _), (1, _), (2, _), (3, _), (4, _)]) dX4_readHouseItem_61 rfl rfl ?_
            refine x_iload dX4_readHouseItem_63 4 rfl ?_
            refine x_if_ne (tgt := 85) dX4_readHouseItem_65 (by decide) (by first | omega | exact z_and_r _ _ | exact z_or_r _ _ | exact z_xor_r _ _) (fun h65 => ?_) (fun h65 => ?_)
            · exact fl (by omega) _ _ _
            · exfalso; omega
  · refine x_aload_n dX4_readHouseItem_9 0 rfl rfl ?_
    refine x_bipush dX4_readHouseItem_10 (by decide) ?_
    refine x_callVi (as := [_]) dX4_readHouseItem_12 lvX4_65 rfl rfl rfl rfl rfl rfl rfl ⟨rfl, rfl⟩ (s_X4_ahead hX hp hf hf2 (by omega) (by omega)) (fun z12 I12 L12 R12 hq12 => ?_)
    obtain ⟨rfl, rfl, rfl, rfl⟩ := hq12
    refine y_ifb_eq (tgt := 22) dX4_readHouseItem_15 (by decide) (fun h15 => ?_) (fun h15 => ?_)
    · refine x_iconst dX4_readHouseItem_22 ?_
      refine x_istore_n (lv' := [(0, _), (1, _), (2, _)]) dX4_readHouseItem_23 rfl rfl rfl ?_
      refine x_aload_n dX4_readHouseItem_24 0 rfl rfl ?_
      refine x_bipush dX4_readHouseItem_25 (by decide) ?_
      refine x_callVi (as := [_]) dX4_readHouseItem_27 lvX4_65 rfl rfl rfl rfl rfl rfl rfl ⟨rfl, rfl⟩ (s_X4_ahead hX hp hf hf2 (by omega) (by omega)) (fun z27 I27 L27 R27 hq27 => ?_)
      obtain ⟨rfl, rfl, rfl, rfl⟩ := hq27
      refine x_istore_n (lv' := [(0, _), (1, _), (2, _), (3, _)]) dX4_readHouseItem_30 rfl rfl rfl ?_
      refine x_iload_n dX4_readHouseItem_31 2 rfl rfl ?_
      refine x_if_eq (tgt := 44) dX4_readHouseItem_32 (by decide) (by first | omega | exact z_and_r _ _ | exact z_or_r _ _ | exact z_xor_r _ _) (fun h32 => ?_) (fun h32 => ?_)
      · refine x_iload_n dX4_readHouseItem_44 3 rfl rfl ?_
        refine y_ifb_eq (tgt := 60) dX4_readHouseItem_45 (by decide) (fun h45 => ?_) (fun h45 => ?_)
        · refine x_iconst dX4_readHouseItem_60 ?_
          refine x_istore (lv' := [(0, _), (1, _), (2, _), (3, _), (4, _)]) dX4_readHouseItem_61 rfl rfl ?_
          refine x_iload dX4_readHouseItem_63 4 rfl ?_
          refine x_if_ne (tgt := 85) dX4_readHouseItem_65 (by decide) (by first | omega | exact z_and_r _ _ | exact z_or_r _ _ | exact z_xor_r _ _) (fun h65 => ?_) (fun h65 => ?_)
          · exfalso; omega
          · refine x_iload_n dX4_readHouseItem_68 2 rfl rfl ?_
            refine x_if_ne (tgt := 93) dX4_readHouseItem_69 (by decide) (by first | omega | exact z_and_r _ _ | exact z_or_r _ _ | exact z_xor_r _ _) (fun h69 => ?_) (fun h69 => ?_)
            · exfalso; omega
            · refine x_iload_n dX4_readHouseItem_72 3 rfl rfl ?_
              refine y_ifb_ne (tgt := 93) dX4_readHouseItem_73 (by decide) (fun h73 => ?_) (fun h73 => ?_)
              · first
                | exact jd (by omega) (by omega) _ _
                | exact jw (by omega) (by omega) _
                | exact jm (by omega) _
              · refine x_aload_n dX4_readHouseItem_76 0 rfl rfl ?_
                refine x_bipush dX4_readHouseItem_77 (by decide) ?_
                refine x_callVi (as := [_]) dX4_readHouseItem_79 lvX4_65 rfl rfl rfl rfl rfl rfl rfl ⟨rfl, rfl⟩ (s_X4_ahead hX hp hf hf2 (by omega) (by omega)) (fun z79 I79 L79 R79 hq79 => ?_)
                obtain ⟨rfl, rfl, rfl, rfl⟩ := hq79
                refine y_ifb_ne (tgt := 93) dX4_readHouseItem_82 (by decide) (fun h82 => ?_) (fun h82 => ?_)
                · first
                  | exact jd (by omega) (by omega) _ _
                  | exact jw (by omega) (by omega) _
                  | exact jm (by omega) _
                · exact fl (by omega) _ _ _
        · refine x_aload_n dX4_readHouseItem_48 1 rfl rfl ?_
          refine x_getI dX4_readHouseItem_49 flX4_72 (shH0 hh) rfl ?_
          refine x_iconst dX4_readHouseItem_52 ?_
          refine x_ic_lt (tgt := 60) dX4_readHouseItem_53 (by decide) (by first | omega | exact z_and_r _ _ | exact z_or_r _ _ | exact z_xor_r _ _) (fun h53 => ?_) (fun h53 => ?_)
          · refine x_iconst dX4_readHouseItem_60 ?_
            refine x_istore (lv' := [(0, _), (1, _), (2, _), (3, _), (4, _)]) dX4_readHouseItem_61 rfl rfl ?_
            refine x_iload dX4_readHouseItem_63 4 rfl ?_
            refine x_if_ne (tgt := 85) dX4_readHouseItem_65 (by decide) (by first | omega | exact z_and_r _ _ | exact z_or_r _ _ | exact z_xor_r _ _) (fun h65 => ?_) (fun h65 => ?_)
            · exfalso; omega
            · refine x_iload_n dX4_readHouseItem_68 2 rfl rfl ?_
              refine x_if_ne (tgt := 93) dX4_readHouseItem_69 (by decide) (by first | omega | exact z_and_r _ _ | exact z_or_r _ _ | exact z_xor_r _ _) (fun h69 => ?_) (fun h69 => ?_)
              · exfalso; omega
              · refine x_iload_n dX4_readHouseItem_72 3 rfl rfl ?_
                refine y_ifb_ne (tgt := 93) dX4_readHouseItem_73 (by decide) (fun h73 => ?_) (fun h73 => ?_)
                · first
                  | exact jd (by omega) (by omega) _ _
                  | exact jw (by omega) (by omega) _
                  | exact jm (by omega) _
                · refine x_aload_n dX4_readHouseItem_76 0 rfl rfl ?_
                  refine x_bipush dX4_readHouseItem_77 (by decide) ?_
                  refine x_callVi (as := [_]) dX4_readHouseItem_79 lvX4_65 rfl rfl rfl rfl rfl rfl rfl ⟨rfl, rfl⟩ (s_X4_ahead hX hp hf hf2 (by omega) (by omega)) (fun z79 I79 L79 R79 hq79 => ?_)
                  obtain ⟨rfl, rfl, rfl, rfl⟩ := hq79
                  refine y_ifb_ne (tgt := 93) dX4_readHouseItem_82 (by decide) (fun h82 => ?_) (fun h82 => ?_)
                  · first
                    | exact jd (by omega) (by omega) _ _
                    | exact jw (by omega) (by omega) _
                    | exact jm (by omega) _
                  · exact fl (by omega) _ _ _
          · refine x_iconst dX4_readHouseItem_56 ?_
            refine x_goto (tgt := 61) dX4_readHouseItem_57 (by decide) ?_
            refine x_istore (lv' := [(0, _), (1, _), (2, _), (3, _), (4, _)]) dX4_readHouseItem_61 rfl rfl ?_
            refine x_iload dX4_readHouseItem_63 4 rfl ?_
            refine x_if_ne (tgt := 85) dX4_readHouseItem_65 (by decide) (by first | omega | exact z_and_r _ _ | exact z_or_r _ _ | exact z_xor_r _ _) (fun h65 => ?_) (fun h65 => ?_)
            · exact fl (by omega) _ _ _
            · exfalso; omega
      · exfalso; omega
    · refine x_iconst dX4_readHouseItem_18 ?_
      refine x_goto (tgt := 23) dX4_readHouseItem_19 (by decide) ?_
      refine x_istore_n (lv' := [(0, _), (1, _), (2, _)]) dX4_readHouseItem_23 rfl rfl rfl ?_
      refine x_aload_n dX4_readHouseItem_24 0 rfl rfl ?_
      refine x_bipush dX4_readHouseItem_25 (by decide) ?_
      refine x_callVi (as := [_]) dX4_readHouseItem_27 lvX4_65 rfl rfl rfl rfl rfl rfl rfl ⟨rfl, rfl⟩ (s_X4_ahead hX hp hf hf2 (by omega) (by omega)) (fun z27 I27 L27 R27 hq27 => ?_)
      obtain ⟨rfl, rfl, rfl, rfl⟩ := hq27
      refine x_istore_n (lv' := [(0, _), (1, _), (2, _), (3, _)]) dX4_readHouseItem_30 rfl rfl rfl ?_
      refine x_iload_n dX4_readHouseItem_31 2 rfl rfl ?_
      refine x_if_eq (tgt := 44) dX4_readHouseItem_32 (by decide) (by first | omega | exact z_and_r _ _ | exact z_or_r _ _ | exact z_xor_r _ _) (fun h32 => ?_) (fun h32 => ?_)
      · exfalso; omega
      · refine x_aload_n dX4_readHouseItem_35 1 rfl rfl ?_
        refine x_getI dX4_readHouseItem_36 flX4_69 (shH0 hh) rfl ?_
        refine x_bipush dX4_readHouseItem_39 (by decide) ?_
        refine x_ic_ge (tgt := 56) dX4_readHouseItem_41 (by decide) (by first | omega | exact z_and_r _ _ | exact z_or_r _ _ | exact z_xor_r _ _) (fun h41 => ?_) (fun h41 => ?_)
        · refine x_iconst dX4_readHouseItem_56 ?_
          refine x_goto (tgt := 61) dX4_readHouseItem_57 (by decide) ?_
          refine x_istore (lv' := [(0, _), (1, _), (2, _), (3, _), (4, _)]) dX4_readHouseItem_61 rfl rfl ?_
          refine x_iload dX4_readHouseItem_63 4 rfl ?_
          refine x_if_ne (tgt := 85) dX4_readHouseItem_65 (by decide) (by first | omega | exact z_and_r _ _ | exact z_or_r _ _ | exact z_xor_r _ _) (fun h65 => ?_) (fun h65 => ?_)
          · exact fl (by omega) _ _ _
          · exfalso; omega
        · refine x_iload_n dX4_readHouseItem_44 3 rfl rfl ?_
          refine y_ifb_eq (tgt := 60) dX4_readHouseItem_45 (by decide) (fun h45 => ?_) (fun h45 => ?_)
          · refine x_iconst dX4_readHouseItem_60 ?_
            refine x_istore (lv' := [(0, _), (1, _), (2, _), (3, _), (4, _)]) dX4_readHouseItem_61 rfl rfl ?_
            refine x_iload dX4_readHouseItem_63 4 rfl ?_
            refine x_if_ne (tgt := 85) dX4_readHouseItem_65 (by decide) (by first | omega | exact z_and_r _ _ | exact z_or_r _ _ | exact z_xor_r _ _) (fun h65 => ?_) (fun h65 => ?_)
            · exfalso; omega
            · refine x_iload_n dX4_readHouseItem_68 2 rfl rfl ?_
              refine x_if_ne (tgt := 93) dX4_readHouseItem_69 (by decide) (by first | omega | exact z_and_r _ _ | exact z_or_r _ _ | exact z_xor_r _ _) (fun h69 => ?_) (fun h69 => ?_)
              · first
                | exact jd (by omega) (by omega) _ _
                | exact jw (by omega) (by omega) _
                | exact jm (by omega) _
              · exfalso; omega
          · refine x_aload_n dX4_readHouseItem_48 1 rfl rfl ?_
            refine x_getI dX4_readHouseItem_49 flX4_72 (shH0 hh) rfl ?_
            refine x_iconst dX4_readHouseItem_52 ?_
            refine x_ic_lt (tgt := 60) dX4_readHouseItem_53 (by decide) (by first | omega | exact z_and_r _ _ | exact z_or_r _ _ | exact z_xor_r _ _) (fun h53 => ?_) (fun h53 => ?_)
            · refine x_iconst dX4_readHouseItem_60 ?_
              refine x_istore (lv' := [(0, _), (1, _), (2, _), (3, _), (4, _)]) dX4_readHouseItem_61 rfl rfl ?_
              refine x_iload dX4_readHouseItem_63 4 rfl ?_
              refine x_if_ne (tgt := 85) dX4_readHouseItem_65 (by decide) (by first | omega | exact z_and_r _ _ | exact z_or_r _ _ | exact z_xor_r _ _) (fun h65 => ?_) (fun h65 => ?_)
              · exfalso; omega
              · refine x_iload_n dX4_readHouseItem_68 2 rfl rfl ?_
                refine x_if_ne (tgt := 93) dX4_readHouseItem_69 (by decide) (by first | omega | exact z_and_r _ _ | exact z_or_r _ _ | exact z_xor_r _ _) (fun h69 => ?_) (fun h69 => ?_)
                · first
                  | exact jd (by omega) (by omega) _ _
                  | exact jw (by omega) (by omega) _
                  | exact jm (by omega) _
                · exfalso; omega
            · refine x_iconst dX4_readHouseItem_56 ?_
              refine x_goto (tgt := 61) dX4_readHouseItem_57 (by decide) ?_
              refine x_istore (lv' := [(0, _), (1, _), (2, _), (3, _), (4, _)]) dX4_readHouseItem_61 rfl rfl ?_
              refine x_iload dX4_readHouseItem_63 4 rfl ?_
              refine x_if_ne (tgt := 85) dX4_readHouseItem_65 (by decide) (by first | omega | exact z_and_r _ _ | exact z_or_r _ _ | exact z_xor_r _ _) (fun h65 => ?_) (fun h65 => ?_)
              · exact fl (by omega) _ _ _
              · exfalso; omega
end

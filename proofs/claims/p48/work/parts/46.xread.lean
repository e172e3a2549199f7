/-! THE CLASS: Reader, a walker; an item of a house. -/
theorem mkB_6 : mkB 6 1 2 := by unfold mkB; decide
theorem wlk_o {B : Nat → Int} {R0 z16 f16 f20 : Int} {nw p q16 q20 : Nat} (hn : nw < 3)
  (e16 : ((0 : Int) = 0 ∧ fgQ B 1 2 (p + 1) = true) ∧ z16 = B (p + 1) - 48 ∧ f16 = 0 ∧ q16 = p + 1 + 1 ∨ ¬ ((0 : Int) = 0 ∧ fgQ B 1 2 (p + 1) = true) ∧ z16 = 0 ∧ f16 = 1 ∧ q16 = p + 1)
  (e20 : (f16 = 0 ∧ B q16 = 58) ∧ f20 = 0 ∧ q20 = q16 + 1 ∨ ¬ (f16 = 0 ∧ B q16 = 58) ∧ f20 = 1 ∧ q20 = q16) :
  (f20 = 1 → (wlkP B R0 nw p).1 = false ∧ (wlkP B R0 nw p).2.1 = q20) ∧ (f20 = 0 → q20 = p + 3 ∧ (B q20 = 42 → wlkP B R0 nw p = (true, q20 + 1, z16, z_shl 1 R0 - 1)) ∧ (B q20 ≠ 42 → wlkP B R0 nw p = ((risP B R0 8 q20 0 0).1 && decide (0 < (risP B R0 8 q20 0 0).2.2), (risP B R0 8 q20 0 0).2.1, z16, (risP B R0 8 q20 0 0).2.2))) := by
  unfold wlkP
  rw [if_neg (by omega)]
  rcases e16 with ⟨⟨_, a1⟩, a2, a3, a4⟩ | ⟨a1, a2, a3, a4⟩
  · rw [if_neg (by rw [a1]; decide)]
    subst a4
    rcases e20 with ⟨⟨_, b1⟩, b2, b3⟩ | ⟨b1, b2, b3⟩
    · have b1' : B (p + 2) = 58 := b1
      rw [if_neg (by omega)]
      subst b3
      refine ⟨fun q => by omega, fun _ => ⟨by omega, fun q => ?_, fun q => ?_⟩⟩
      · rw [if_pos q, a2]
      · rw [if_neg q, a2]
    · have b1' : B (p + 2) ≠ 58 := fun q => b1 ⟨a3, q⟩
      rw [if_pos b1']
      exact ⟨fun _ => ⟨rfl, by show p + 2 = q20; omega⟩, fun q => by omega⟩
  · have ha : fgQ B 1 2 (p + 1) = false := by
      cases hq : fgQ B 1 2 (p + 1)
      · rfl
      · exact absurd ⟨rfl, hq⟩ a1
    rw [if_pos ha]
    refine ⟨fun _ => ⟨rfl, by show p + 1 = q20; omega⟩, fun q => ?_⟩
    omega
section
variable {G : GT} {I L : MI} {R : MR} {tx n p h : Nat} {B : Nat → Int} {f R0 : Int} {τ : HT}

theorem s_X4_readRising1 {m : Int} (hX : XT tx B n I R) (hp : I 17 2 = (p : Int)) (hf : I 17 3 = 1) (hp2 : p ≤ 920) : Sp G mtX4_readRising [mr 17, mi m] shX I L R (qi (fun z I' L' R' => I' 17 2 = (p : Int) ∧ I' 17 3 = 1 ∧ XS I I' ∧ L = L' ∧ R = R')) := by
  refine Sp.of pnX4_readRising rfl ?_
  show Rn G mtX4_readRising _ 0 [(0, mr 17), (1, mi m)] [] shX I L R
  generalize hQ : (qi (fun z I' L' R' => I' 17 2 = (p : Int) ∧ I' 17 3 = 1 ∧ XS I I' ∧ L = L' ∧ R = R')) = Q
  have l2 : ∀ (J : MI), J 17 2 = (p : Int) → J 17 3 = 1 → XS I J → ∀ s m8 : Int, Rn G mtX4_readRising Q 7 [(0, mr 17), (1, mi m), (2, mi s), (3, mi m8), (4, mi 1)] [] shX J L R := by
    intro J a28 b28 c28 s m8
    have hX28 := c28.xt hX
    have e57 : Rn G mtX4_readRising Q 57 [(0, mr 17), (1, mi m), (2, mi s), (3, mi m8), (4, mi 1)] [] shX J L R := by
      refine x_iload_n dX4_readRising_57 2 rfl rfl ?_
      refine x_iret dX4_readRising_58 rfl ?_
      rw [← hQ]
      exact ⟨_, rfl, a28, b28, c28, rfl, rfl⟩
    refine x_iload dX4_readRising_7 4 rfl ?_
    refine x_bipush dX4_readRising_9 (by decide) ?_
    refine x_ic_gt (tgt := 57) dX4_readRising_11 (by decide) (by first | omega | exact z_and_r _ _ | exact z_or_r _ _ | exact z_xor_r _ _) (fun h11 => ?_) (fun h11 => ?_)
    · first
      | (exfalso; omega)
      | exact e57
    · refine x_iload dX4_readRising_14 4 rfl ?_
      refine x_if_eq (tgt := 26) dX4_readRising_16 (by decide) (by first | omega | exact z_and_r _ _ | exact z_or_r _ _ | exact z_xor_r _ _) (fun h16 => ?_) (fun h16 => ?_)
      · exfalso; omega
      · refine x_aload_n dX4_readRising_19 0 rfl rfl ?_
        refine x_callVi (as := []) dX4_readRising_20 lvX4_102 rfl rfl rfl rfl rfl rfl rfl ⟨rfl, rfl⟩ (s_X4_figureAhead (p := p) hX28 a28 b28 (Or.inr rfl) (by omega)) (fun z20 I20 L20 R20 hq20 => ?_)
        obtain ⟨rfl, rfl, rfl, rfl⟩ := hq20
        refine y_ifb_eq (tgt := 57) dX4_readRising_23 (by decide) (fun h23 => ?_) (fun h23 => ?_)
        · first
          | (exfalso; omega)
          | exact e57
        · first
          | (exfalso; omega)
          | (exfalso
             have := (show (1 : Int) = 0 ∧ dgt B p = true by assumption).1
             omega)
  have l1 : Rn G mtX4_readRising Q 7 [(0, mr 17), (1, mi m), (2, mi 0), (3, mi m), (4, mi 0)] [] shX I L R := by
    refine x_iload dX4_readRising_7 4 rfl ?_
    refine x_bipush dX4_readRising_9 (by decide) ?_
    refine x_ic_gt (tgt := 57) dX4_readRising_11 (by decide) (by first | omega | exact z_and_r _ _ | exact z_or_r _ _ | exact z_xor_r _ _) (fun h11 => ?_) (fun h11 => ?_)
    · exfalso; omega
    · refine x_iload dX4_readRising_14 4 rfl ?_
      refine x_if_eq (tgt := 26) dX4_readRising_16 (by decide) (by first | omega | exact z_and_r _ _ | exact z_or_r _ _ | exact z_xor_r _ _) (fun h16 => ?_) (fun h16 => ?_)
      · refine x_aload_n dX4_readRising_26 0 rfl rfl ?_
        refine x_iload_n dX4_readRising_27 3 rfl rfl ?_
        refine x_callVi (as := [_]) dX4_readRising_28 lvX4_45 rfl rfl rfl rfl rfl rfl rfl ⟨rfl, rfl⟩ (s_X4_figure hX hp hf (Or.inr rfl) (by omega)) (fun z28 I28 L28 R28 hq28 => ?_)
        obtain ⟨zz28, a28, b28, c28, rfl, rfl⟩ := hq28
        have c928 : ∀ x : Bool, ¬ ((1 : Int) = 0 ∧ x = true) := fun x q => absurd q.1 (by decide)
        rw [if_neg (c928 _)] at a28 b28
        have hX28 := c28.xt hX
        --obtain ⟨q28, f28, a28, b28, g28, r28, e28⟩ := fig_o zz28 a28 b28
        refine x_istore (lv' := [(0, _), (1, _), (2, _), (3, _), (4, _), (5, _)]) dX4_readRising_31 rfl rfl ?_
        refine x_iload_n dX4_readRising_33 2 rfl rfl ?_
        refine x_iconst dX4_readRising_34 ?_
        refine x_iload dX4_readRising_35 5 rfl ?_
        refine x_ishl dX4_readRising_37 ?_
        refine x_ior dX4_readRising_38 ?_
        refine x_istore_n (lv' := [(0, _), (1, _), (2, _), (3, _), (4, _), (5, _)]) dX4_readRising_39 rfl rfl rfl ?_
        refine x_iload_n dX4_readRising_40 3 rfl rfl ?_
        refine x_iconst dX4_readRising_41 ?_
        refine x_iload dX4_readRising_42 5 rfl ?_
        refine x_ishl dX4_readRising_44 ?_
        refine x_iconst dX4_readRising_45 ?_
        refine x_isub dX4_readRising_46 ?_
        refine x_iconst dX4_readRising_47 ?_
        refine x_ixor dX4_readRising_48 ?_
        refine x_iand dX4_readRising_49 ?_
        refine x_istore_n (lv' := [(0, _), (1, _), (2, _), (3, _), (4, _), (5, _)]) dX4_readRising_50 rfl rfl rfl ?_
        refine x_iinc (lv' := [(0, _), (1, _), (2, _), (3, _), (4, _), (5, _)]) dX4_readRising_51 4 rfl rfl rfl ?_
        refine x_goto (tgt := 7) dX4_readRising_54 (by decide) ?_
        refine x_top (lv' := [(0, _), (1, _), (2, _), (3, _), (4, _)]) 5 rfl ?_
        first
        | exact l1
        | exact l2 I28 a28 b28 c28 _ _
      · exfalso; omega
  refine x_iconst dX4_readRising_0 ?_
  refine x_istore_n (lv' := [(0, _), (1, _), (2, _)]) dX4_readRising_1 rfl rfl rfl ?_
  refine x_iload_n dX4_readRising_2 1 rfl rfl ?_
  refine x_istore_n (lv' := [(0, _), (1, _), (2, _), (3, _)]) dX4_readRising_3 rfl rfl rfl ?_
  refine x_iconst dX4_readRising_4 ?_
  refine x_istore (lv' := [(0, _), (1, _), (2, _), (3, _), (4, _)]) dX4_readRising_5 rfl rfl ?_
  first
  | exact l1
  | exact l2 I28 a28 b28 c28 _ _
set_option maxHeartbeats 1500000 in
theorem s_X4_readWalker  (hX : XT tx B n I R) (hh : isH R h) (hH : HX h R0 τ I) (hR0 : 1 ≤ R0 ∧ R0 ≤ 6) (hp : I 17 2 = (p : Int)) (hf : I 17 3 = 0) (hp2 : p ≤ 900) (hn : τ.2.1.length < 3) : Sp G mtX4_readWalker [mr 17, mr h] shX I L R (qv (fun I' L' R' => I' 17 2 = ((wlkP B R0 τ.2.1.length p).2.1 : Int) ∧ I' 17 3 = (if (wlkP B R0 τ.2.1.length p).1 then 0 else 1) ∧ XHo h I I' ∧ HX h R0 (τ.1, (if (wlkP B R0 τ.2.1.length p).1 then τ.2.1 ++ [((wlkP B R0 τ.2.1.length p).2.2.1, (wlkP B R0 τ.2.1.length p).2.2.2)] else τ.2.1), τ.2.2) I' ∧ L = L' ∧ R = R')) := by
  refine Sp.of pnX4_readWalker rfl ?_
  show Rn G mtX4_readWalker _ 0 [(0, mr 17), (1, mr h)] [] shX I L R
  generalize hQ : (qv (fun I' L' R' => I' 17 2 = ((wlkP B R0 τ.2.1.length p).2.1 : Int) ∧ I' 17 3 = (if (wlkP B R0 τ.2.1.length p).1 then 0 else 1) ∧ XHo h I I' ∧ HX h R0 (τ.1, (if (wlkP B R0 τ.2.1.length p).1 then τ.2.1 ++ [((wlkP B R0 τ.2.1.length p).2.2.1, (wlkP B R0 τ.2.1.length p).2.2.2)] else τ.2.1), τ.2.2) I' ∧ L = L' ∧ R = R')) = Q
  obtain ⟨x1, x2, x3, x4, x5, x6, x7⟩ := id hX
  have hb := x7 p
  have hz : n ≤ p → B p = 0 := x6 p
  have hin : (p : Int) < I 17 1 → I tx (I 17 2) = B p := fun q => by rw [hp]; exact x5 p (by omega)
  have hh1 := hh.1
  have hf2 : (0 : Int) = 0 ∨ (0 : Int) = 1 := Or.inl rfl
  have jn : ∀ (J : MI) (q : Nat) (g z2 z3 : Int), J 17 2 = (q : Int) → J 17 3 = g → (g = 0 ∨ g = 1) → XS I J → (g = 0 → wlkP B R0 τ.2.1.length p = (true, q, z2, z3)) → (g = 1 → (wlkP B R0 τ.2.1.length p).1 = false ∧ (wlkP B R0 τ.2.1.length p).2.1 = q) → Rn G mtX4_readWalker Q 59 [(0, mr 17), (1, mr h), (2, mi z2), (3, mi z3)] [] shX J L R := by
    intro J q g z2 z3 g1 g2 g3 g4 g5 g6
    have hHJ := hH.xs hh g4
    refine x_aload_n dX4_readWalker_59 0 rfl rfl ?_
    refine x_getI dX4_readWalker_60 flX4_28 rfl rfl ?_
    rw [g2]
    refine x_if_ne (tgt := 72) dX4_readWalker_63 (by decide) (by first | omega | exact z_and_r _ _ | exact z_or_r _ _ | exact z_xor_r _ _) (fun h63 => ?_) (fun h63 => ?_)
    · refine x_vret dX4_readWalker_72 rfl ?_
      rw [← hQ]
      first
      | (have hg : ¬ g = 0 := by assumption
         obtain ⟨d1, d2⟩ := g6 (by omega)
         rw [if_neg (by rw [d1]; decide), if_neg (by rw [d1]; decide), d2]
         exact ⟨rfl, g1, by omega, g4.ho h, hHJ, rfl, rfl⟩)
      | (have hg : g = 0 := by assumption
         rw [g5 hg]
         have e1 : J h 2 = (τ.2.1.length : Int) := hHJ.2.2.1
         refine ⟨rfl, ?_, ?_, ?_, ?_, rfl, rfl⟩
         · rw [k5 17 2 (by omega) (by omega) (by omega)]; exact g1
         · rw [k5 17 3 (by omega) (by omega) (by omega), g2]; exact hg
         · exact (g4.ho h).tr (fun c j q1 q2 => k5 c j (by omega) (by omega) (by omega))
         · exact hHJ.walk hn k1 k2 k3 k5)
    · refine x_aload_n dX4_readWalker_66 1 rfl rfl ?_
      refine x_iload_n dX4_readWalker_67 2 rfl rfl ?_
      refine x_iload_n dX4_readWalker_68 3 rfl rfl ?_
      refine x_callVv (as := [_, _]) dX4_readWalker_69 lvX4_98 rfl (shH0 hh) rfl rfl rfl rfl rfl ⟨rfl, rfl⟩ (s_X0_addWalker hh (by have := hHJ.2.2.1; omega)) (fun I69 L69 R69 hq69 => ?_)
      obtain ⟨k1, k2, k3, k5, rfl, rfl⟩ := hq69
      refine x_vret dX4_readWalker_72 rfl ?_
      rw [← hQ]
      first
      | (have hg : ¬ g = 0 := by assumption
         obtain ⟨d1, d2⟩ := g6 (by omega)
         rw [if_neg (by rw [d1]; decide), if_neg (by rw [d1]; decide), d2]
         exact ⟨rfl, g1, by omega, g4.ho h, hHJ, rfl, rfl⟩)
      | (have hg : g = 0 := by assumption
         rw [g5 hg]
         have e1 : J h 2 = (τ.2.1.length : Int) := hHJ.2.2.1
         refine ⟨rfl, ?_, ?_, ?_, ?_, rfl, rfl⟩
         · rw [k5 17 2 (by omega) (by omega) (by omega)]; exact g1
         · rw [k5 17 3 (by omega) (by omega) (by omega), g2]; exact hg
         · exact (g4.ho h).tr (fun c j q1 q2 => k5 c j (by omega) (by omega) (by omega))
         · exact hHJ.walk hn k1 k2 k3 k5)
  refine x_aload_n dX4_readWalker_0 0 rfl rfl ?_
  refine x_dup dX4_readWalker_1 rfl ?_
  refine x_getI dX4_readWalker_2 flX4_25 rfl rfl ?_
  rw [hp]
  refine x_iconst dX4_readWalker_5 ?_
  refine x_iadd dX4_readWalker_6 ?_
  refine x_putI dX4_readWalker_7 flX4_25 rfl rfl rfl ?_
  refine x_aload_n dX4_readWalker_10 0 rfl rfl ?_
  refine x_bipush dX4_readWalker_11 (by decide) ?_
  refine x_callVi (as := [_]) dX4_readWalker_13 lvX4_45 rfl rfl rfl rfl rfl rfl rfl ⟨rfl, rfl⟩ (s_X4_figure (I := m_up I 17 2 ((p : Int) + 1)) (p := p + 1) (((XS.rf I).up (Or.inl rfl) _).xt hX) m_up_eq ((m_up_nj (by decide)).trans hf) (Or.inl rfl) (by omega)) (fun z13 I13 L13 R13 hq13 => ?_)
  obtain ⟨zz13, a13, b13, c13, rfl, rfl⟩ := hq13
  obtain ⟨q13, f13, a13, b13, g13, r13, e13⟩ := fig_o zz13 a13 b13
  refine x_istore_n (lv' := [(0, _), (1, _), (2, _)]) dX4_readWalker_16 rfl rfl rfl ?_
  rw [fgK_q mkB_6] at e13
  have x17 := (((XS.rf I).up (Or.inl rfl) _).tr c13 : XS I I13)
  have hX17 := x17.xt hX
  refine x_aload_n dX4_readWalker_17 0 rfl rfl ?_
  refine x_bipush dX4_readWalker_18 (by decide) ?_
  refine x_callVv (as := [_]) dX4_readWalker_20 lvX4_41 rfl rfl rfl rfl rfl rfl rfl ⟨rfl, rfl⟩ (s_X4_expect hX17 a13 b13 g13 (by omega) (by omega)) (fun I20 L20 R20 hq20 => ?_)
  obtain ⟨a20, b20, c20, rfl, rfl⟩ := hq20
  obtain ⟨q20, f20, a20, b20, g20, r20, e20⟩ := exp_o a20 b20
  have x23 := x17.tr c20
  have hX23 := x23.xt hX
  have hH23 := hH.xs hh x23
  obtain ⟨wo1, wo2⟩ := wlk_o (R0 := R0) hn e13 e20
  refine x_aload_n dX4_readWalker_23 1 rfl rfl ?_
  refine x_callVi (as := []) dX4_readWalker_24 lvX4_87 rfl (shH0 hh) rfl rfl rfl rfl rfl ⟨rfl, rfl⟩ (s_X0_roomBits hh) (fun z24 I24 L24 R24 hq24 => ?_)
  obtain ⟨rfl, rfl, rfl, rfl⟩ := hq24
  rw [hH23.1]
  refine x_istore_n (lv' := [(0, _), (1, _), (2, _), (3, _)]) dX4_readWalker_27 rfl rfl rfl ?_
  refine x_aload_n dX4_readWalker_28 0 rfl rfl ?_
  refine x_bipush dX4_readWalker_29 (by decide) ?_
  refine x_callVi (as := [_]) dX4_readWalker_31 lvX4_65 rfl rfl rfl rfl rfl rfl rfl ⟨rfl, rfl⟩ (s_X4_ahead hX23 a20 b20 g20 (by omega) (by omega)) (fun z31 I31 L31 R31 hq31 => ?_)
  obtain ⟨rfl, rfl, rfl, rfl⟩ := hq31
  refine y_ifb_eq (tgt := 50) dX4_readWalker_34 (by decide) (fun h34 => ?_) (fun h34 => ?_)
  · rcases g20 with q | q
    · refine x_aload_n dX4_readWalker_50 0 rfl rfl ?_
      refine x_aload_n dX4_readWalker_51 1 rfl rfl ?_
      refine x_callVi (as := []) dX4_readWalker_52 lvX4_87 rfl (shH0 hh) rfl rfl rfl rfl rfl ⟨rfl, rfl⟩ (s_X0_roomBits hh) (fun z52 I52 L52 R52 hq52 => ?_)
      obtain ⟨rfl, rfl, rfl, rfl⟩ := hq52
      rw [hH23.1]
      refine x_callVi (as := [_]) dX4_readWalker_55 lvX4_95 rfl rfl rfl rfl rfl rfl rfl ⟨rfl, rfl⟩ (s_X4_readRising (p := q20) hX23 hR0 a20 (b20.trans q) (by omega) (mkB_low (by omega))) (fun z55 I55 L55 R55 hq55 => ?_)
      obtain ⟨q55, f55, a55, b55, g55, r55, s55, t55, u55, c55, rfl, rfl⟩ := hq55
      refine x_istore_n (lv' := [(0, _), (1, _), (2, _), (3, _)]) dX4_readWalker_58 rfl rfl rfl ?_
      have nb : B q20 ≠ 42 := fun k => absurd (⟨q, k⟩ : f20 = 0 ∧ B q20 = 42) (by assumption)
      have hw := (wo2 q).2.2 nb
      refine jn _ q55 f55 _ _ a55 b55 g55 (x23.tr c55) (fun k => ?_) (fun k => ?_)
      · rw [hw, u55 k, s55, (t55.mp k).1, decide_eq_true (t55.mp k).2]; rfl
      · rw [hw]
        refine ⟨?_, s55.symm⟩
        cases hk : (risP B R0 8 q20 0 0).1
        · rfl
        · show (true && decide (0 < (risP B R0 8 q20 0 0).2.2)) = false
          rw [Bool.true_and, decide_eq_false_iff_not]
          exact fun k2 => by have := t55.mpr ⟨hk, k2⟩; omega
    · refine x_aload_n dX4_readWalker_50 0 rfl rfl ?_
      refine x_aload_n dX4_readWalker_51 1 rfl rfl ?_
      refine x_callVi (as := []) dX4_readWalker_52 lvX4_87 rfl (shH0 hh) rfl rfl rfl rfl rfl ⟨rfl, rfl⟩ (s_X0_roomBits hh) (fun z52 I52 L52 R52 hq52 => ?_)
      obtain ⟨rfl, rfl, rfl, rfl⟩ := hq52
      rw [hH23.1]
      refine x_callVi (as := [_]) dX4_readWalker_55 lvX4_95 rfl rfl rfl rfl rfl rfl rfl ⟨rfl, rfl⟩ (s_X4_readRising1 (p := q20) hX23 a20 (b20.trans q) (by omega)) (fun z55 I55 L55 R55 hq55 => ?_)
      obtain ⟨a55, b55, c55, rfl, rfl⟩ := hq55
      refine x_istore_n (lv' := [(0, _), (1, _), (2, _), (3, _)]) dX4_readWalker_58 rfl rfl rfl ?_
      exact jn _ q20 1 _ _ a55 b55 (Or.inr rfl) (x23.tr c55) (fun k => by omega) (fun _ => wo1 q)
  · refine x_aload_n dX4_readWalker_37 0 rfl rfl ?_
    have c38 : f20 = 0 ∧ B q20 = 42 := by assumption
    refine x_dup dX4_readWalker_38 rfl ?_
    refine x_getI dX4_readWalker_39 flX4_25 rfl rfl ?_
    refine x_iconst dX4_readWalker_42 ?_
    refine x_iadd dX4_readWalker_43 ?_
    refine x_putI dX4_readWalker_44 flX4_25 rfl rfl rfl ?_
    refine x_goto (tgt := 59) dX4_readWalker_47 (by decide) ?_
    exact jn _ (q20 + 1) f20 _ _ (by rw [m_up_eq, a20]; rfl) ((m_up_nj (by decide)).trans b20) g20 (x23.up (Or.inl rfl) _) (fun _ => (wo2 c38.1).2.1 c38.2) (fun k => by omega)
end

/-! THE CLASS: Reader. -/
def XT (tx : Nat) (B : Nat → Int) (n : Nat) (I : MI) (R : MR) : Prop := R 17 0 = some tx ∧ (12 ≤ tx ∧ tx ≤ 15) ∧ I 17 1 = (n : Int) ∧ n ≤ 80 ∧ (∀ i : Nat, i < n → I tx (i : Int) = B i) ∧ (∀ i : Nat, n ≤ i → B i = 0) ∧ ∀ i : Nat, -128 ≤ B i ∧ B i ≤ 127
theorem shT {tx : Nat} (h : 12 ≤ tx ∧ tx ≤ 15) : shX[tx]? = some (.inr (0, 80)) := by
  have : tx = 12 ∨ tx = 13 ∨ tx = 14 ∨ tx = 15 := by omega
  rcases this with rfl | rfl | rfl | rfl <;> rfl
def XS (I I' : MI) : Prop := ∀ c j, ¬ (c = 17 ∧ (j = 2 ∨ j = 3)) → I' c j = I c j
theorem XS.rf (I : MI) : XS I I := fun _ _ _ => rfl
theorem XS.tr {I J K : MI} (h : XS I J) (k : XS J K) : XS I K := fun c j q => (k c j q).trans (h c j q)
theorem XS.up {I J : MI} (h : XS I J) {j : Int} (hj : j = 2 ∨ j = 3) (v : Int) : XS I (m_up J 17 j v) := fun c i q => by unfold m_up; rw [if_neg (by omega)]; exact h c i q
theorem XS.xt {I J : MI} {R : MR} {tx n : Nat} {B : Nat → Int} (h : XS I J) (k : XT tx B n I R) : XT tx B n J R := by
  obtain ⟨a, b, c, d, e, f, g⟩ := k
  exact ⟨a, b, by rw [h 17 1 (by omega)]; exact c, d, fun i hi => by rw [h tx _ (by omega)]; exact e i hi, f, g⟩
def fgK (B : Nat → Int) (m : Int) (p : Nat) : Bool := dgt B p && tb m (B p - 48).toNat
theorem tb_1023 : ∀ v : Nat, v < 10 → tb 1023 v = true := by decide
section
variable {G : GT} {I L : MI} {R : MR} {tx n p : Nat} {B : Nat → Int} {f : Int}

theorem s_X4_ahead {sg : Int} (hX : XT tx B n I R) (hp : I 17 2 = (p : Int)) (hf : I 17 3 = f) (hf2 : f = 0 ∨ f = 1) (hp2 : p ≤ 1000) (hs : 1 ≤ sg ∧ sg ≤ 127) : Sp G mtX4_ahead [mr 17, mi sg] shX I L R (qi (pu (b01 (f = 0 ∧ B p = sg)) I L R)) := by
  refine Sp.of pnX4_ahead rfl ?_
  show Rn G mtX4_ahead _ 0 [(0, mr 17), (1, mi sg)] [] shX I L R
  generalize hQ : (qi (pu (b01 (f = 0 ∧ B p = sg)) I L R)) = Q
  obtain ⟨x1, x2, x3, x4, x5, x6, x7⟩ := id hX
  have hb := x7 p
  have hz : n ≤ p → B p = 0 := x6 p
  have hin : (p : Int) < I 17 1 → I tx (I 17 2) = B p := fun q => by rw [hp]; exact x5 p (by omega)
  refine x_aload_n dX4_ahead_0 0 rfl rfl ?_
  refine x_getI dX4_ahead_1 flX4_28 rfl rfl ?_
  refine x_if_ne (tgt := 35) dX4_ahead_4 (by decide) (by first | omega | exact z_and_r _ _ | exact z_or_r _ _ | exact z_xor_r _ _) (fun h4 => ?_) (fun h4 => ?_)
  · refine x_iconst dX4_ahead_35 ?_
    refine x_zret dX4_ahead_36 rfl (by omega) ?_
    rw [← hQ]
    first | exact ⟨_, rfl, b01_t (by omega), rfl, rfl, rfl⟩ | exact ⟨_, rfl, b01_f (by omega), rfl, rfl, rfl⟩
  · refine x_aload_n dX4_ahead_7 0 rfl rfl ?_
    refine x_getI dX4_ahead_8 flX4_25 rfl rfl ?_
    refine x_aload_n dX4_ahead_11 0 rfl rfl ?_
    refine x_getI dX4_ahead_12 flX4_21 rfl rfl ?_
    refine x_ic_ge (tgt := 35) dX4_ahead_15 (by decide) (by first | omega | exact z_and_r _ _ | exact z_or_r _ _ | exact z_xor_r _ _) (fun h15 => ?_) (fun h15 => ?_)
    · refine x_iconst dX4_ahead_35 ?_
      refine x_zret dX4_ahead_36 rfl (by omega) ?_
      rw [← hQ]
      first | exact ⟨_, rfl, b01_t (by omega), rfl, rfl, rfl⟩ | exact ⟨_, rfl, b01_f (by omega), rfl, rfl, rfl⟩
    · refine x_aload_n dX4_ahead_18 0 rfl rfl ?_
      refine x_getR dX4_ahead_19 flX4_9 rfl rfl hX.1 ?_
      refine x_aload_n dX4_ahead_22 0 rfl rfl ?_
      refine x_getI dX4_ahead_23 flX4_25 rfl rfl ?_
      refine x_iald dX4_ahead_26 (shT hX.2.1) (by omega) ?_
      have hi2 := hin (by omega)
      refine x_iload_n dX4_ahead_27 1 rfl rfl ?_
      refine x_ic_ne (tgt := 35) dX4_ahead_28 (by decide) (by first | omega | exact z_and_r _ _ | exact z_or_r _ _ | exact z_xor_r _ _) (fun h28 => ?_) (fun h28 => ?_)
      · refine x_iconst dX4_ahead_35 ?_
        refine x_zret dX4_ahead_36 rfl (by omega) ?_
        rw [← hQ]
        first | exact ⟨_, rfl, b01_t (by omega), rfl, rfl, rfl⟩ | exact ⟨_, rfl, b01_f (by omega), rfl, rfl, rfl⟩
      · refine x_iconst dX4_ahead_31 ?_
        refine x_goto (tgt := 36) dX4_ahead_32 (by decide) ?_
        refine x_zret dX4_ahead_36 rfl (by omega) ?_
        rw [← hQ]
        first | exact ⟨_, rfl, b01_t (by omega), rfl, rfl, rfl⟩ | exact ⟨_, rfl, b01_f (by omega), rfl, rfl, rfl⟩
theorem s_X4_figureAhead  (hX : XT tx B n I R) (hp : I 17 2 = (p : Int)) (hf : I 17 3 = f) (hf2 : f = 0 ∨ f = 1) (hp2 : p ≤ 1000) : Sp G mtX4_figureAhead [mr 17] shX I L R (qi (pu (b01 (f = 0 ∧ dgt B p = true)) I L R)) := by
  refine Sp.of pnX4_figureAhead rfl ?_
  show Rn G mtX4_figureAhead _ 0 [(0, mr 17)] [] shX I L R
  generalize hQ : (qi (pu (b01 (f = 0 ∧ dgt B p = true)) I L R)) = Q
  obtain ⟨x1, x2, x3, x4, x5, x6, x7⟩ := id hX
  have hb := x7 p
  have hz : n ≤ p → B p = 0 := x6 p
  have hin : (p : Int) < I 17 1 → I tx (I 17 2) = B p := fun q => by rw [hp]; exact x5 p (by omega)
  have hd : dgt B p = true ↔ 48 ≤ B p ∧ B p ≤ 57 := by unfold dgt; rw [decide_eq_true_eq]
  refine x_aload_n dX4_figureAhead_0 0 rfl rfl ?_
  refine x_getI dX4_figureAhead_1 flX4_28 rfl rfl ?_
  refine x_if_ne (tgt := 50) dX4_figureAhead_4 (by decide) (by first | omega | exact z_and_r _ _ | exact z_or_r _ _ | exact z_xor_r _ _) (fun h4 => ?_) (fun h4 => ?_)
  · refine x_iconst dX4_figureAhead_50 ?_
    refine x_zret dX4_figureAhead_51 rfl (by omega) ?_
    rw [← hQ]
    first | exact ⟨_, rfl, b01_t ⟨by omega, hd.mpr (by omega)⟩, rfl, rfl, rfl⟩ | exact ⟨_, rfl, b01_f (fun q => by have := hd.mp q.2; have := q.1; omega), rfl, rfl, rfl⟩
  · refine x_aload_n dX4_figureAhead_7 0 rfl rfl ?_
    refine x_getI dX4_figureAhead_8 flX4_25 rfl rfl ?_
    refine x_aload_n dX4_figureAhead_11 0 rfl rfl ?_
    refine x_getI dX4_figureAhead_12 flX4_21 rfl rfl ?_
    refine x_ic_ge (tgt := 50) dX4_figureAhead_15 (by decide) (by first | omega | exact z_and_r _ _ | exact z_or_r _ _ | exact z_xor_r _ _) (fun h15 => ?_) (fun h15 => ?_)
    · refine x_iconst dX4_figureAhead_50 ?_
      refine x_zret dX4_figureAhead_51 rfl (by omega) ?_
      rw [← hQ]
      first | exact ⟨_, rfl, b01_t ⟨by omega, hd.mpr (by omega)⟩, rfl, rfl, rfl⟩ | exact ⟨_, rfl, b01_f (fun q => by have := hd.mp q.2; have := q.1; omega), rfl, rfl, rfl⟩
    · refine x_aload_n dX4_figureAhead_18 0 rfl rfl ?_
      refine x_getR dX4_figureAhead_19 flX4_9 rfl rfl hX.1 ?_
      refine x_aload_n dX4_figureAhead_22 0 rfl rfl ?_
      refine x_getI dX4_figureAhead_23 flX4_25 rfl rfl ?_
      refine x_iald dX4_figureAhead_26 (shT hX.2.1) (by omega) ?_
      have hi2 := hin (by omega)
      refine x_bipush dX4_figureAhead_27 (by decide) ?_
      refine x_ic_lt (tgt := 50) dX4_figureAhead_29 (by decide) (by first | omega | exact z_and_r _ _ | exact z_or_r _ _ | exact z_xor_r _ _) (fun h29 => ?_) (fun h29 => ?_)
      · refine x_iconst dX4_figureAhead_50 ?_
        refine x_zret dX4_figureAhead_51 rfl (by omega) ?_
        rw [← hQ]
        first | exact ⟨_, rfl, b01_t ⟨by omega, hd.mpr (by omega)⟩, rfl, rfl, rfl⟩ | exact ⟨_, rfl, b01_f (fun q => by have := hd.mp q.2; have := q.1; omega), rfl, rfl, rfl⟩
      · refine x_aload_n dX4_figureAhead_32 0 rfl rfl ?_
        refine x_getR dX4_figureAhead_33 flX4_9 rfl rfl hX.1 ?_
        refine x_aload_n dX4_figureAhead_36 0 rfl rfl ?_
        refine x_getI dX4_figureAhead_37 flX4_25 rfl rfl ?_
        refine x_iald dX4_figureAhead_40 (shT hX.2.1) (by omega) ?_
        refine x_bipush dX4_figureAhead_41 (by decide) ?_
        refine x_ic_gt (tgt := 50) dX4_figureAhead_43 (by decide) (by first | omega | exact z_and_r _ _ | exact z_or_r _ _ | exact z_xor_r _ _) (fun h43 => ?_) (fun h43 => ?_)
        · refine x_iconst dX4_figureAhead_50 ?_
          refine x_zret dX4_figureAhead_51 rfl (by omega) ?_
          rw [← hQ]
          first | exact ⟨_, rfl, b01_t ⟨by omega, hd.mpr (by omega)⟩, rfl, rfl, rfl⟩ | exact ⟨_, rfl, b01_f (fun q => by have := hd.mp q.2; have := q.1; omega), rfl, rfl, rfl⟩
        · refine x_iconst dX4_figureAhead_46 ?_
          refine x_goto (tgt := 51) dX4_figureAhead_47 (by decide) ?_
          refine x_zret dX4_figureAhead_51 rfl (by omega) ?_
          rw [← hQ]
          first | exact ⟨_, rfl, b01_t ⟨by omega, hd.mpr (by omega)⟩, rfl, rfl, rfl⟩ | exact ⟨_, rfl, b01_f (fun q => by have := hd.mp q.2; have := q.1; omega), rfl, rfl, rfl⟩
theorem s_X4_expect {sg : Int} (hX : XT tx B n I R) (hp : I 17 2 = (p : Int)) (hf : I 17 3 = f) (hf2 : f = 0 ∨ f = 1) (hp2 : p ≤ 1000) (hs : 1 ≤ sg ∧ sg ≤ 127) : Sp G mtX4_expect [mr 17, mi sg] shX I L R (qv (fun I' L' R' => I' 17 2 = (if f = 0 ∧ B p = sg then (p : Int) + 1 else p) ∧ I' 17 3 = (if f = 0 ∧ B p = sg then 0 else 1) ∧ XS I I' ∧ L = L' ∧ R = R')) := by
  refine Sp.of pnX4_expect rfl ?_
  show Rn G mtX4_expect _ 0 [(0, mr 17), (1, mi sg)] [] shX I L R
  generalize hQ : (qv (fun I' L' R' => I' 17 2 = (if f = 0 ∧ B p = sg then (p : Int) + 1 else p) ∧ I' 17 3 = (if f = 0 ∧ B p = sg then 0 else 1) ∧ XS I I' ∧ L = L' ∧ R = R')) = Q
  obtain ⟨x1, x2, x3, x4, x5, x6, x7⟩ := id hX
  have hb := x7 p
  have hz : n ≤ p → B p = 0 := x6 p
  have hin : (p : Int) < I 17 1 → I tx (I 17 2) = B p := fun q => by rw [hp]; exact x5 p (by omega)
  refine x_aload_n dX4_expect_0 0 rfl rfl ?_
  refine x_iload_n dX4_expect_1 1 rfl rfl ?_
  refine x_callVi (as := [_]) dX4_expect_2 lvX4_65 rfl rfl rfl rfl rfl rfl rfl ⟨rfl, rfl⟩ (s_X4_ahead hX hp hf hf2 (by omega) (by omega)) (fun z2 I2 L2 R2 hq2 => ?_)
  obtain ⟨rfl, rfl, rfl, rfl⟩ := hq2
  refine y_ifb_eq (tgt := 21) dX4_expect_5 (by decide) (fun h5 => ?_) (fun h5 => ?_)
  · refine x_aload_n dX4_expect_21 0 rfl rfl ?_
    refine x_iconst dX4_expect_22 ?_
    refine x_putZ dX4_expect_23 flX4_28 rfl rfl rfl (by omega) ?_
    refine x_vret dX4_expect_26 rfl ?_
    rw [← hQ]
    first
    | (have hc : f = 0 ∧ B p = sg := by assumption
       rw [if_pos hc, if_pos hc]
       exact ⟨rfl, m_up_eq, by rw [m_up_nj (by decide), hf]; omega, (XS.rf I).up (Or.inl rfl) _, rfl, rfl⟩)
    | (have hc : ¬ (f = 0 ∧ B p = sg) := by assumption
       rw [if_neg hc, if_neg hc]
       exact ⟨rfl, by rw [m_up_nj (by decide), hp], m_up_eq, (XS.rf I).up (Or.inr rfl) _, rfl, rfl⟩)
  · refine x_aload_n dX4_expect_8 0 rfl rfl ?_
    refine x_dup dX4_expect_9 rfl ?_
    refine x_getI dX4_expect_10 flX4_25 rfl rfl ?_
    rw [hp]
    refine x_iconst dX4_expect_13 ?_
    refine x_iadd dX4_expect_14 ?_
    refine x_putI dX4_expect_15 flX4_25 rfl rfl rfl ?_
    refine x_goto (tgt := 26) dX4_expect_18 (by decide) ?_
    refine x_vret dX4_expect_26 rfl ?_
    rw [← hQ]
    first
    | (have hc : f = 0 ∧ B p = sg := by assumption
       rw [if_pos hc, if_pos hc]
       exact ⟨rfl, m_up_eq, by rw [m_up_nj (by decide), hf]; omega, (XS.rf I).up (Or.inl rfl) _, rfl, rfl⟩)
    | (have hc : ¬ (f = 0 ∧ B p = sg) := by assumption
       rw [if_neg hc, if_neg hc]
       exact ⟨rfl, by rw [m_up_nj (by decide), hp], m_up_eq, (XS.rf I).up (Or.inr rfl) _, rfl, rfl⟩)
theorem s_X4_figure {m : Int} (hX : XT tx B n I R) (hp : I 17 2 = (p : Int)) (hf : I 17 3 = f) (hf2 : f = 0 ∨ f = 1) (hp2 : p ≤ 1000) : Sp G mtX4_figure [mr 17, mi m] shX I L R (qi (fun z I' L' R' => z = (if f = 0 ∧ fgK B m p = true then B p - 48 else 0) ∧ I' 17 2 = (if f = 0 ∧ fgK B m p = true then (p : Int) + 1 else p) ∧ I' 17 3 = (if f = 0 ∧ fgK B m p = true then 0 else 1) ∧ XS I I' ∧ L = L' ∧ R = R')) := by
  refine Sp.of pnX4_figure rfl ?_
  show Rn G mtX4_figure _ 0 [(0, mr 17), (1, mi m)] [] shX I L R
  have hix : f = 0 ∧ dgt B p = true → 0 ≤ I 17 2 ∧ I 17 2 < ((80 : Nat) : Int) ∧ I 17 2 ≤ 2147483647 := fun q => by
    have q1 : 48 ≤ B p ∧ B p ≤ 57 := by have := q.2; unfold dgt at this; rw [decide_eq_true_eq] at this; exact this
    have q2 : ¬ n ≤ p := fun q3 => by have := hX.2.2.2.2.2.1 p q3; omega
    have := hX.2.2.2.1
    omega
  generalize hQ : (qi (fun z I' L' R' => z = (if f = 0 ∧ fgK B m p = true then B p - 48 else 0) ∧ I' 17 2 = (if f = 0 ∧ fgK B m p = true then (p : Int) + 1 else p) ∧ I' 17 3 = (if f = 0 ∧ fgK B m p = true then 0 else 1) ∧ XS I I' ∧ L = L' ∧ R = R')) = Q
  obtain ⟨x1, x2, x3, x4, x5, x6, x7⟩ := id hX
  have hb := x7 p
  have hz : n ≤ p → B p = 0 := x6 p
  have hin : (p : Int) < I 17 1 → I tx (I 17 2) = B p := fun q => by rw [hp]; exact x5 p (by omega)
  have hd : dgt B p = true ↔ 48 ≤ B p ∧ B p ≤ 57 := by unfold dgt; rw [decide_eq_true_eq]
  have hk : fgK B m p = true ↔ dgt B p = true ∧ tb m (B p - 48).toNat = true := by unfold fgK; rw [Bool.and_eq_true]
  refine x_aload_n dX4_figure_0 0 rfl rfl ?_
  refine x_callVi (as := []) dX4_figure_1 lvX4_102 rfl rfl rfl rfl rfl rfl rfl ⟨rfl, rfl⟩ (s_X4_figureAhead hX hp hf hf2 (by omega)) (fun z1 I1 L1 R1 hq1 => ?_)
  obtain ⟨rfl, rfl, rfl, rfl⟩ := hq1
  refine y_ifb_eq (tgt := 22) dX4_figure_4 (by decide) (fun h4 => ?_) (fun h4 => ?_)
  · refine x_iconst dX4_figure_22 ?_
    refine x_istore_n (lv' := [(0, _), (1, _), (2, _)]) dX4_figure_23 rfl rfl rfl ?_
    refine x_iload_n dX4_figure_24 2 rfl rfl ?_
    refine x_if_lt (tgt := 36) dX4_figure_25 (by decide) (by first | omega | exact b01_rI _) (fun h25 => ?_) (fun h25 => ?_)
    · refine x_aload_n dX4_figure_36 0 rfl rfl ?_
      refine x_iconst dX4_figure_37 ?_
      refine x_putZ dX4_figure_38 flX4_28 rfl rfl rfl (by omega) ?_
      refine x_iconst dX4_figure_41 ?_
      refine x_iret dX4_figure_42 rfl ?_
      rw [← hQ]
      first
      | (have hc : f = 0 ∧ fgK B m p = true := ⟨by have := (show f = 0 ∧ dgt B p = true by assumption).1; exact this, hk.mpr ⟨(show f = 0 ∧ dgt B p = true by assumption).2, b01_ne.mp (by assumption)⟩⟩
         rw [if_pos hc, if_pos hc, if_pos hc]
         exact ⟨_, rfl, rfl, m_up_eq, by rw [m_up_nj (by decide), hf]; exact hc.1, (XS.rf I).up (Or.inl rfl) _, rfl, rfl⟩)
      | (have hc : ¬ (f = 0 ∧ fgK B m p = true) := by
           rintro ⟨q1, q2⟩
           have q3 := hk.mp q2
           first
           | exact absurd q3.2 (b01_eq.mp (by assumption))
           | exact absurd (⟨q1, q3.1⟩ : f = 0 ∧ dgt B p = true) (by assumption)
           | (have := hd.mp q3.1; omega)
         rw [if_neg hc, if_neg hc, if_neg hc]
         exact ⟨_, rfl, rfl, by rw [m_up_nj (by decide), hp], m_up_eq, (XS.rf I).up (Or.inr rfl) _, rfl, rfl⟩)
    · exfalso; omega
  · refine x_aload_n dX4_figure_7 0 rfl rfl ?_
    refine x_getR dX4_figure_8 flX4_9 rfl rfl hX.1 ?_
    refine x_aload_n dX4_figure_11 0 rfl rfl ?_
    refine x_getI dX4_figure_12 flX4_25 rfl rfl ?_
    refine x_iald dX4_figure_15 (shT hX.2.1) (by first | omega | exact hix (by assumption)) ?_
    have hdg : f = 0 ∧ dgt B p = true := by assumption
    have hd2 := hd.mp hdg.2
    have hnp : (p : Int) < I 17 1 := by
      apply Classical.byContradiction
      intro q
      have := hz (by omega)
      omega
    rw [hin hnp]
    refine x_bipush dX4_figure_16 (by decide) ?_
    refine x_isub dX4_figure_18 ?_
    refine x_goto (tgt := 23) dX4_figure_19 (by decide) ?_
    refine x_istore_n (lv' := [(0, _), (1, _), (2, _)]) dX4_figure_23 rfl rfl rfl ?_
    refine x_iload_n dX4_figure_24 2 rfl rfl ?_
    refine x_if_lt (tgt := 36) dX4_figure_25 (by decide) (by first | omega | exact b01_rI _) (fun h25 => ?_) (fun h25 => ?_)
    · refine x_aload_n dX4_figure_36 0 rfl rfl ?_
      refine x_iconst dX4_figure_37 ?_
      refine x_putZ dX4_figure_38 flX4_28 rfl rfl rfl (by omega) ?_
      refine x_iconst dX4_figure_41 ?_
      refine x_iret dX4_figure_42 rfl ?_
      rw [← hQ]
      first
      | (have hc : f = 0 ∧ fgK B m p = true := ⟨by have := (show f = 0 ∧ dgt B p = true by assumption).1; exact this, hk.mpr ⟨(show f = 0 ∧ dgt B p = true by assumption).2, b01_ne.mp (by assumption)⟩⟩
         rw [if_pos hc, if_pos hc, if_pos hc]
         exact ⟨_, rfl, rfl, m_up_eq, by rw [m_up_nj (by decide), hf]; exact hc.1, (XS.rf I).up (Or.inl rfl) _, rfl, rfl⟩)
      | (have hc : ¬ (f = 0 ∧ fgK B m p = true) := by
           rintro ⟨q1, q2⟩
           have q3 := hk.mp q2
           first
           | exact absurd q3.2 (b01_eq.mp (by assumption))
           | exact absurd (⟨q1, q3.1⟩ : f = 0 ∧ dgt B p = true) (by assumption)
           | (have := hd.mp q3.1; omega)
         rw [if_neg hc, if_neg hc, if_neg hc]
         exact ⟨_, rfl, rfl, by rw [m_up_nj (by decide), hp], m_up_eq, (XS.rf I).up (Or.inr rfl) _, rfl, rfl⟩)
    · refine x_iload_n dX4_figure_28 1 rfl rfl ?_
      refine x_iload_n dX4_figure_29 2 rfl rfl ?_
      refine x_ishr dX4_figure_30 ?_
      refine x_iconst dX4_figure_31 ?_
      refine x_iand dX4_figure_32 ?_
      try rw [z_bit (by omega)]
      try have hbr := b01_r (tb m (B p - 48).toNat = true)
      refine x_if_ne (tgt := 43) dX4_figure_33 (by decide) (by first | omega | exact b01_rI _) (fun h33 => ?_) (fun h33 => ?_)
      · refine x_aload_n dX4_figure_43 0 rfl rfl ?_
        refine x_dup dX4_figure_44 rfl ?_
        refine x_getI dX4_figure_45 flX4_25 rfl rfl ?_
        rw [hp]
        refine x_iconst dX4_figure_48 ?_
        refine x_iadd dX4_figure_49 ?_
        refine x_putI dX4_figure_50 flX4_25 rfl rfl rfl ?_
        refine x_iload_n dX4_figure_53 2 rfl rfl ?_
        refine x_iret dX4_figure_54 rfl ?_
        rw [← hQ]
        first
        | (have hc : f = 0 ∧ fgK B m p = true := ⟨by have := (show f = 0 ∧ dgt B p = true by assumption).1; exact this, hk.mpr ⟨(show f = 0 ∧ dgt B p = true by assumption).2, b01_ne.mp (by assumption)⟩⟩
           rw [if_pos hc, if_pos hc, if_pos hc]
           exact ⟨_, rfl, rfl, m_up_eq, by rw [m_up_nj (by decide), hf]; exact hc.1, (XS.rf I).up (Or.inl rfl) _, rfl, rfl⟩)
        | (have hc : ¬ (f = 0 ∧ fgK B m p = true) := by
             rintro ⟨q1, q2⟩
             have q3 := hk.mp q2
             first
             | exact absurd q3.2 (b01_eq.mp (by assumption))
             | exact absurd (⟨q1, q3.1⟩ : f = 0 ∧ dgt B p = true) (by assumption)
             | (have := hd.mp q3.1; omega)
           rw [if_neg hc, if_neg hc, if_neg hc]
           exact ⟨_, rfl, rfl, by rw [m_up_nj (by decide), hp], m_up_eq, (XS.rf I).up (Or.inr rfl) _, rfl, rfl⟩)
      · refine x_aload_n dX4_figure_36 0 rfl rfl ?_
        refine x_iconst dX4_figure_37 ?_
        refine x_putZ dX4_figure_38 flX4_28 rfl rfl rfl (by omega) ?_
        refine x_iconst dX4_figure_41 ?_
        refine x_iret dX4_figure_42 rfl ?_
        rw [← hQ]
        first
        | (have hc : f = 0 ∧ fgK B m p = true := ⟨by have := (show f = 0 ∧ dgt B p = true by assumption).1; exact this, hk.mpr ⟨(show f = 0 ∧ dgt B p = true by assumption).2, b01_ne.mp (by assumption)⟩⟩
           rw [if_pos hc, if_pos hc, if_pos hc]
           exact ⟨_, rfl, rfl, m_up_eq, by rw [m_up_nj (by decide), hf]; exact hc.1, (XS.rf I).up (Or.inl rfl) _, rfl, rfl⟩)
        | (have hc : ¬ (f = 0 ∧ fgK B m p = true) := by
             rintro ⟨q1, q2⟩
             have q3 := hk.mp q2
             first
             | exact absurd q3.2 (b01_eq.mp (by assumption))
             | exact absurd (⟨q1, q3.1⟩ : f = 0 ∧ dgt B p = true) (by assumption)
             | (have := hd.mp q3.1; omega)
           rw [if_neg hc, if_neg hc, if_neg hc]
           exact ⟨_, rfl, rfl, by rw [m_up_nj (by decide), hp], m_up_eq, (XS.rf I).up (Or.inr rfl) _, rfl, rfl⟩)
end

/-! THE CLASS: Reader, a house. -/
theorem HX.room {h : Nat} {R0 : Int} {τ : HT} {I : MI} (k : HX h R0 τ I) (v : Int) : HX h v τ (m_up I h 0 v) := by
  obtain ⟨x1, x2, x3, x4, x5, x6, x7, x8, x9⟩ := k
  have e : ∀ c j, ¬ (c = h ∧ j = 0) → m_up I h 0 v c j = I c j := fun c j q => by unfold m_up; rw [if_neg q]
  exact ⟨m_up_eq, by rw [e _ _ (by omega)]; exact x2, by rw [e _ _ (by omega)]; exact x3, by rw [e _ _ (by omega)]; exact x4, fun i q hq => by rw [e _ _ (by omega), e _ _ (by omega)]; exact x5 i q hq, by rw [e _ _ (by omega)]; exact x6, fun i q hq => by rw [e _ _ (by omega), e _ _ (by omega)]; exact x7 i q hq, x8, x9⟩
theorem mkB_126 : mkB 126 1 6 := by unfold mkB; decide
theorem clr_o {h : Nat} {I J : MI} (e : J = m_up (m_up (m_up (m_up (m_up I h 0 1) h 1 0) h 2 0) h 3 12) h 4 0) : HX h 1 ([], [], 12) J ∧ XHo h I J ∧ ∀ c j, c < h → J c j = I c j := by
  subst e
  refine ⟨⟨?_, ?_, ?_, ?_, fun i q hq => by simp at hq, ⟨?_, fun i hi => ?_⟩, fun i q hq => by simp at hq, by decide, by decide⟩, fun c j q1 q2 => ?_, fun c j q1 => ?_⟩
  · rw [m_up_nj (by decide), m_up_nj (by decide), m_up_nj (by decide), m_up_nj (by decide), m_up_eq]
  · rw [m_up_nj (by decide), m_up_nj (by decide), m_up_nj (by decide), m_up_eq]; rfl
  · rw [m_up_nj (by decide), m_up_nj (by decide), m_up_eq]; rfl
  · rw [m_up_nj (by decide), m_up_eq]
  · rw [m_up_eq]; omega
  · rw [m_up_eq, tb_0]
    exact ⟨fun q => Bool.noConfusion q, fun ⟨q, hq, _⟩ => by simp at hq⟩
  · rw [m_up_ne (by omega), m_up_ne (by omega), m_up_ne (by omega), m_up_ne (by omega), m_up_ne (by omega)]
  · rw [m_up_ne (by omega), m_up_ne (by omega), m_up_ne (by omega), m_up_ne (by omega), m_up_ne (by omega)]
theorem hou_o {B : Nat → Int} {n : Nat} {z18 f12 f18 : Int} {q12 q18 : Nat}
  (e12 : ((0 : Int) = 0 ∧ B (skp B 0) = 114) ∧ f12 = 0 ∧ q12 = skp B 0 + 1 ∨ ¬ ((0 : Int) = 0 ∧ B (skp B 0) = 114) ∧ f12 = 1 ∧ q12 = skp B 0)
  (e18 : (f12 = 0 ∧ fgQ B 1 6 q12 = true) ∧ z18 = B q12 - 48 ∧ f18 = 0 ∧ q18 = q12 + 1 ∨ ¬ (f12 = 0 ∧ fgQ B 1 6 q12 = true) ∧ z18 = 0 ∧ f18 = 1 ∧ q18 = q12) :
  (f18 = 1 → (houF B n).1 = (q18 : Int)) ∧ (f18 = 0 → (houF B n).2.1 = z18 ∧ (1 ≤ z18 ∧ z18 ≤ 6) ∧ ((houF B n).1, (houF B n).2.2) = houL B z18 n (81 - 0) (skp B q18, [], [], 12)) := by
  unfold houF
  rcases e12 with ⟨⟨_, a1⟩, a2, a3⟩ | ⟨a1, a2, a3⟩
  · rw [if_neg (by omega)]
    subst a3
    rcases e18 with ⟨⟨_, b1⟩, b2, b3, b4⟩ | ⟨b1, b2, b3, b4⟩
    · have hr := fgQ_r b1
      rw [if_neg (by rw [b1]; decide)]
      subst b4
      exact ⟨fun q => by omega, fun _ => ⟨b2.symm, by omega, by rw [b2]⟩⟩
    · have hb : fgQ B 1 6 (skp B 0 + 1) = false := by
        cases hq : fgQ B 1 6 (skp B 0 + 1)
        · rfl
        · exact absurd ⟨a2, hq⟩ b1
      rw [if_pos hb]
      exact ⟨fun _ => by rw [b4], fun q => by omega⟩
  · rw [if_pos (fun q => a1 ⟨rfl, q⟩)]
    rcases e18 with ⟨⟨b0, b1⟩, b2, b3, b4⟩ | ⟨b1, b2, b3, b4⟩
    · omega
    · exact ⟨fun _ => by show ((skp B 0 : Nat) : Int) = q18; omega, fun q => by omega⟩
section
variable {G : GT} {I L : MI} {R : MR} {tx n p h : Nat} {B : Nat → Int} {f R0 : Int} {τ : HT}

set_option maxHeartbeats 1500000 in
theorem s_X4_readHouse  (hX : XT tx B n I R) (hh : isH R h) (hp : I 17 2 = 0) (hf : I 17 3 = 0) : Sp G mtX4_readHouse [mr 17, mr h] shX I L R (qv (fun I' L' R' => ∃ (q : Nat) (g : Int), I' 17 2 = (q : Int) ∧ I' 17 3 = g ∧ (g = 0 ∧ (houF B n).1 = -9 ∧ HX h (houF B n).2.1 (houF B n).2.2.2 I' ∧ (1 ≤ (houF B n).2.1 ∧ (houF B n).2.1 ≤ 6) ∨ g = 1 ∧ (houF B n).1 = (q : Int)) ∧ XHo h I I' ∧ L = L' ∧ R = R')) := by
  refine Sp.of pnX4_readHouse rfl ?_
  show Rn G mtX4_readHouse _ 0 [(0, mr 17), (1, mr h)] [] shX I L R
  generalize hQ : (qv (fun I' L' R' => ∃ (q : Nat) (g : Int), I' 17 2 = (q : Int) ∧ I' 17 3 = g ∧ (g = 0 ∧ (houF B n).1 = -9 ∧ HX h (houF B n).2.1 (houF B n).2.2.2 I' ∧ (1 ≤ (houF B n).2.1 ∧ (houF B n).2.1 ≤ 6) ∨ g = 1 ∧ (houF B n).1 = (q : Int)) ∧ XHo h I I' ∧ L = L' ∧ R = R')) = Q
  have hh1 := hh.1
  obtain ⟨x1, x2, x3, x4, x5, x6, x7⟩ := id hX
  obtain ⟨rr, hrr⟩ : ∃ rr, rr = houF B n := ⟨_, rfl⟩
  have hsk : ∀ q, q ≤ 200 → q ≤ skp B q ∧ (skp B q = q ∨ skp B q ≤ n) := fun q _ => by
    have := skF_r B (n := (n : Int)) (fun i hi => x6 i (by omega)) 100 q
    unfold skp
    omega
  have ex : ∀ (J : MI) (q : Nat) (g : Int), J 17 2 = (q : Int) → J 17 3 = g → (g = 0 ∧ rr.1 = -9 ∧ HX h rr.2.1 rr.2.2.2 J ∧ (1 ≤ rr.2.1 ∧ rr.2.1 ≤ 6) ∨ g = 1 ∧ rr.1 = (q : Int)) → XHo h I J → ∀ i r0, Rn G mtX4_readHouse Q 61 [(0, mr 17), (1, mr h), (2, mi r0), (3, mi i)] [] shX J L R := by
    intro J q g g1 g2 g3 g4 i r0
    refine x_vret dX4_readHouse_61 rfl ?_
    rw [← hQ, ← hrr]
    exact ⟨rfl, q, g, g1, g2, g3, g4, rfl, rfl⟩
  have ex2 : ∀ (J : MI) (q : Nat), J 17 2 = (q : Int) → J 17 3 = 1 → rr.1 = (q : Int) → XHo h I J → ∀ r0, Rn G mtX4_readHouse Q 29 [(0, mr 17), (1, mr h), (2, mi r0)] [] shX J L R := by
    intro J q g1 g2 g3 g4 r0
    refine x_vret dX4_readHouse_29 rfl ?_
    rw [← hQ, ← hrr]
    exact ⟨rfl, q, 1, g1, g2, Or.inr ⟨rfl, g3⟩, g4, rfl, rfl⟩
  have dead : ∀ (J : MI) (q : Nat), J 17 2 = (q : Int) → J 17 3 = 1 → q ≤ 200 → rr.1 = (q : Int) → XHo h I J → ∀ i r0, rI i → Rn G mtX4_readHouse Q 37 [(0, mr 17), (1, mr h), (2, mi r0), (3, mi i)] [] shX J L R := by
    intro J q g1 g2 g3 g4 g5 i r0 hi
    have hXJ := g5.xt hh hX
    have e61 := ex J q 1 g1 g2 (Or.inr ⟨rfl, g4⟩) g5 i r0
    refine x_iload_n dX4_readHouse_37 3 rfl rfl ?_
    refine x_bipush dX4_readHouse_38 (by decide) ?_
    refine x_ic_ge (tgt := 61) dX4_readHouse_40 (by decide) (by first | omega | exact z_and_r _ _ | exact z_or_r _ _ | exact z_xor_r _ _) (fun h40 => ?_) (fun h40 => ?_)
    · first
      | (have k1b := k1
         rw [if_neg (by decide)] at k1b
         exact ex I44 q 1 k1b k2 (Or.inr ⟨rfl, g4⟩) (g5.tr (k3.ho h)) _ _)
      | exact e61
    · refine x_aload_n dX4_readHouse_43 0 rfl rfl ?_
      refine x_callVi (as := []) dX4_readHouse_44 lvX4_37 rfl rfl rfl rfl rfl rfl rfl ⟨rfl, rfl⟩ (s_X4_findItem (p := q) hXJ g1 g2 (Or.inr rfl) (by omega)) (fun z44 I44 L44 R44 hq44 => ?_)
      obtain ⟨rfl, k1, k2, k3, rfl, rfl⟩ := hq44
      refine y_ifb_eq (tgt := 61) dX4_readHouse_47 (by decide) (fun h47 => ?_) (fun h47 => ?_)
      · first
        | (have k1b := k1
           rw [if_neg (by decide)] at k1b
           exact ex I44 q 1 k1b k2 (Or.inr ⟨rfl, g4⟩) (g5.tr (k3.ho h)) _ _)
        | exact e61
      · exfalso
        have := (show (1 : Int) = 0 ∧ skp B q < n by assumption).1
        omega
  have loop : ∀ i : Nat, i ≤ 80 → ∀ (J : MI) (q : Nat) (τ : HT) (R1 : Int), J 17 2 = (q : Int) → J 17 3 = 0 → XHo h I J → HX h R1 τ J → (1 ≤ R1 ∧ R1 ≤ 6) → i ≤ q → q ≤ 100 → rr.2.1 = R1 → (rr.1, rr.2.2) = houL B R1 n (81 - i) (skp B q, τ) → ∀ r0, Rn G mtX4_readHouse Q 37 [(0, mr 17), (1, mr h), (2, mi r0), (3, mi (i : Int))] [] shX J L R := by
    refine lpn 80 (fun i hi ih => ?_) ?_
    · intro J q τ R1 g1 g2 g3 g4 g5 g6 g7 g8 g9 r0
      have hXJ := g3.xt hh hX
      have hsq := hsk q (by omega)
      rw [show 81 - i = (81 - (i + 1)) + 1 by omega] at g9
      refine x_iload_n dX4_readHouse_37 3 rfl rfl ?_
      refine x_bipush dX4_readHouse_38 (by decide) ?_
      refine x_ic_ge (tgt := 61) dX4_readHouse_40 (by decide) (by first | omega | exact z_and_r _ _ | exact z_or_r _ _ | exact z_xor_r _ _) (fun h40 => ?_) (fun h40 => ?_)
      · first
        | (exfalso; omega)
        | (have hge : n ≤ skp B q := by
             apply Classical.byContradiction
             intro c
             exact absurd (⟨rfl, by omega⟩ : (0 : Int) = 0 ∧ skp B q < n) (by assumption)
           rw [houL_e hge] at g9
           exact ex I44 (skp B q) 0 k1 k2 (Or.inl ⟨rfl, congrArg Prod.fst g9, by rw [g8, (Prod.mk.inj g9).2]; exact g4.xs hh k3, by rw [g8]; exact g5⟩) (g3.tr (k3.ho h)) _ _)
      · refine x_aload_n dX4_readHouse_43 0 rfl rfl ?_
        refine x_callVi (as := []) dX4_readHouse_44 lvX4_37 rfl rfl rfl rfl rfl rfl rfl ⟨rfl, rfl⟩ (s_X4_findItem (p := q) hXJ g1 g2 (Or.inl rfl) (by omega)) (fun z44 I44 L44 R44 hq44 => ?_)
        obtain ⟨rfl, k1, k2, k3, rfl, rfl⟩ := hq44
        rw [if_pos rfl] at k1
        refine y_ifb_eq (tgt := 61) dX4_readHouse_47 (by decide) (fun h47 => ?_) (fun h47 => ?_)
        · first
          | (exfalso; omega)
          | (have hge : n ≤ skp B q := by
               apply Classical.byContradiction
               intro c
               exact absurd (⟨rfl, by omega⟩ : (0 : Int) = 0 ∧ skp B q < n) (by assumption)
             rw [houL_e hge] at g9
             exact ex I44 (skp B q) 0 k1 k2 (Or.inl ⟨rfl, congrArg Prod.fst g9, by rw [g8, (Prod.mk.inj g9).2]; exact g4.xs hh k3, by rw [g8]; exact g5⟩) (g3.tr (k3.ho h)) _ _)
        · refine x_aload_n dX4_readHouse_50 0 rfl rfl ?_
          refine x_aload_n dX4_readHouse_51 1 rfl rfl ?_
          refine x_callVv (as := [_]) dX4_readHouse_52 lvX4_52 rfl rfl rfl rfl rfl rfl rfl ⟨rfl, rfl⟩ (s_X4_readHouseItem (k3.xt hXJ) hh (g4.xs hh k3) g5 k1 k2 (by have : skp B q < n := (show (0 : Int) = 0 ∧ skp B q < n by assumption).2; omega)) (fun I52 L52 R52 hq52 => ?_)
          obtain ⟨m1, m2, m3, m4, rfl, rfl⟩ := hq52
          refine x_iinc (lv' := [(0, _), (1, _), (2, _), (3, _)]) dX4_readHouse_55 3 rfl rfl rfl ?_
          refine x_goto (tgt := 37) dX4_readHouse_58 (by decide) ?_
          have hlt : skp B q < n := (show (0 : Int) = 0 ∧ skp B q < n by assumption).2
          have hr := itmP_r B R1 (skp B q, τ)
          have hx := (g3.tr (k3.ho h)).tr m3
          simp only at hr
          by_cases hk : (itmP B R1 (skp B q, τ)).1 = true
          · have hs := itmP_s B R1 (skp B q, τ) hk
            simp only at hs
            rw [houL_t (by show ¬ n ≤ skp B q; omega) hk] at g9
            rw [if_pos hk] at m2
            exact ih I52 _ _ R1 m1 m2 hx (m4 hk) g5 (by omega) (by omega) g8 g9 r0
          · rw [houL_f (by show ¬ n ≤ skp B q; omega) hk] at g9
            rw [if_neg hk] at m2
            exact dead I52 _ m1 m2 (by omega) (congrArg Prod.fst g9) hx _ _ (by omega)
    · intro J q τ R1 g1 g2 g3 g4 g5 g6 g7 g8 g9 r0
      have hsq := hsk q (by omega)
      rw [houL_e (by show n ≤ skp B q; omega)] at g9
      have e61 := ex J q 0 g1 g2 (Or.inl ⟨rfl, congrArg Prod.fst g9, by rw [g8, (Prod.mk.inj g9).2]; exact g4, by rw [g8]; exact g5⟩) g3 (80 : Nat) r0
      refine x_iload_n dX4_readHouse_37 3 rfl rfl ?_
      refine x_bipush dX4_readHouse_38 (by decide) ?_
      refine x_ic_ge (tgt := 61) dX4_readHouse_40 (by decide) (by first | omega | exact z_and_r _ _ | exact z_or_r _ _ | exact z_xor_r _ _) (fun h40 => ?_) (fun h40 => ?_)
      · exact e61
      · exfalso; omega
  refine x_aload_n dX4_readHouse_0 1 rfl rfl ?_
  refine x_callVv (as := []) dX4_readHouse_1 lvX4_32 rfl (shH0 hh) rfl rfl rfl rfl rfl ⟨rfl, rfl⟩ (s_X0_clear hh) (fun I1 L1 R1 hq1 => ?_)
  obtain ⟨ec, rfl, rfl⟩ := hq1
  have hq1 := ec
  obtain ⟨hc4, xc4, xc5⟩ := clr_o hq1
  have hX4 := xc4.xt hh hX
  have hp4 : I1 17 2 = ((0 : Nat) : Int) := (xc5 17 2 (by omega)).trans hp
  have hf4 : I1 17 3 = 0 := (xc5 17 3 (by omega)).trans hf
  have hs0 := hsk 0 (by omega)
  refine x_aload_n dX4_readHouse_4 0 rfl rfl ?_
  refine x_callVi (as := []) dX4_readHouse_5 lvX4_37 rfl rfl rfl rfl rfl rfl rfl ⟨rfl, rfl⟩ (s_X4_findItem (p := 0) hX4 hp4 hf4 (Or.inl rfl) (by omega)) (fun z5 I5 L5 R5 hq5 => ?_)
  obtain ⟨rfl, k1, k2, k3, rfl, rfl⟩ := hq5
  rw [if_pos rfl] at k1
  refine x_pop dX4_readHouse_8 rfl ?_
  have hX9 := k3.xt hX4
  refine x_aload_n dX4_readHouse_9 0 rfl rfl ?_
  refine x_bipush dX4_readHouse_10 (by decide) ?_
  refine x_callVv (as := [_]) dX4_readHouse_12 lvX4_41 rfl rfl rfl rfl rfl rfl rfl ⟨rfl, rfl⟩ (s_X4_expect hX9 k1 k2 (Or.inl rfl) (by omega) (by omega)) (fun I12 L12 R12 hq12 => ?_)
  obtain ⟨a12, b12, c12, rfl, rfl⟩ := hq12
  obtain ⟨q12, f12, a12, b12, g12, r12, e12⟩ := exp_o a12 b12
  have hX15 := c12.xt hX9
  refine x_aload_n dX4_readHouse_15 0 rfl rfl ?_
  refine x_bipush dX4_readHouse_16 (by decide) ?_
  refine x_callVi (as := [_]) dX4_readHouse_18 lvX4_45 rfl rfl rfl rfl rfl rfl rfl ⟨rfl, rfl⟩ (s_X4_figure hX15 a12 b12 g12 (by omega)) (fun z18 I18 L18 R18 hq18 => ?_)
  obtain ⟨zz18, a18, b18, c18, rfl, rfl⟩ := hq18
  obtain ⟨q18, f18, a18, b18, g18, r18, e18⟩ := fig_o zz18 a18 b18
  refine x_istore_n (lv' := [(0, _), (1, _), (2, _)]) dX4_readHouse_21 rfl rfl rfl ?_
  rw [fgK_q mkB_126] at e18
  have xs22 := (k3.tr c12).tr c18
  have hH22 := hc4.xs hh xs22
  have xh22 := xc4.tr (xs22.ho h)
  obtain ⟨ho1, ho2⟩ := hou_o e12 e18
  refine x_aload_n dX4_readHouse_22 0 rfl rfl ?_
  refine x_getI dX4_readHouse_23 flX4_28 rfl rfl ?_
  rw [b18]
  refine x_if_eq (tgt := 30) dX4_readHouse_26 (by decide) (by first | omega | exact z_and_r _ _ | exact z_or_r _ _ | exact z_xor_r _ _) (fun h26 => ?_) (fun h26 => ?_)
  · refine x_aload_n dX4_readHouse_30 1 rfl rfl ?_
    refine x_iload_n dX4_readHouse_31 2 rfl rfl ?_
    refine x_putI dX4_readHouse_32 flX4_49 rfl (shH0 hh) rfl ?_
    have r0 := ho2 (by assumption)
    rw [← hrr] at r0
    refine x_iconst dX4_readHouse_35 ?_
    refine x_istore_n (lv' := [(0, _), (1, _), (2, _), (3, _)]) dX4_readHouse_36 rfl rfl rfl ?_
    exact loop 0 (by omega) (m_up I18 h 0 z18) q18 ([], [], 12) z18 (by rw [m_up_ne (by omega)]; exact a18) (by rw [m_up_ne (by omega), b18]; assumption) (xh22.tr (fun c j q1 q2 => m_up_ne (by omega) _)) (hH22.room _) r0.2.1 (by omega) (by omega) r0.1 r0.2.2 _
  · have r0 := ho1 (by omega)
    rw [← hrr] at r0
    exact ex2 I18 _ a18 (by omega) r0 xh22 _
end

/-! THE REFERENCE'S SEARCH: states, moves. -/
section
variable {G : GT} {sh : MS} {I L : MI} {R : MR} {κ : MI}

theorem s_X8_states  (h0 : E1 κ I) (hH : iHs κ) (hS : iSc κ) : Sp G mtX8_states [mr 0] shM I L rM (qi (pu ((nst κ : Int)) I L rM)) := by
  refine Sp.of pnX8_states rfl ?_
  show Rn G mtX8_states _ 0 [(0, mr 0)] [] shM I L rM
  generalize hQ : (qi (pu ((nst κ : Int)) I L rM)) = Q
  have hu := us_le hH hS
  have e34 : I 0 34 = κ 0 34 := h0.at (by unfold sce per; omega)
  have loop : ∀ k, k ≤ us κ → Rn G mtX8_states Q 4 [(0, mr 0), (1, mi ((12 ^ k : Nat) : Int)), (2, mi (k : Int))] [] shM I L rM := by
    refine lpn (us κ) (fun k hk ih => ?_) ?_
    · refine x_iload_n dX8_states_4 2 rfl rfl ?_
      refine x_aload_n dX8_states_5 0 rfl rfl ?_
      refine x_getI dX8_states_6 flX8_240 rfl rfl ?_
      rw [e34]
      refine x_ic_ge (tgt := 23) dX8_states_9 (by decide) (by first | omega | exact z_and_r _ _ | exact z_or_r _ _ | exact z_xor_r _ _) (fun h9 => ?_) (fun h9 => ?_)
      · exfalso; omega
      · refine x_iload_n dX8_states_12 1 rfl rfl ?_
        refine x_bipush dX8_states_13 (by decide) ?_
        refine x_imul dX8_states_15 ?_
        refine x_istore_n (lv' := [(0, _), (1, _), (2, _)]) dX8_states_16 rfl rfl rfl ?_
        refine x_iinc (lv' := [(0, _), (1, _), (2, _)]) dX8_states_17 2 rfl rfl rfl ?_
        refine x_goto (tgt := 4) dX8_states_20 (by decide) ?_
        rw [show (12 ^ (k + 1) : Nat) = 12 ^ k * 12 from Nat.pow_succ 12 k] at ih
        rw [Int.natCast_mul] at ih
        exact ih
    · refine x_iload_n dX8_states_4 2 rfl rfl ?_
      refine x_aload_n dX8_states_5 0 rfl rfl ?_
      refine x_getI dX8_states_6 flX8_240 rfl rfl ?_
      rw [e34]
      refine x_ic_ge (tgt := 23) dX8_states_9 (by decide) (by first | omega | exact z_and_r _ _ | exact z_or_r _ _ | exact z_xor_r _ _) (fun h9 => ?_) (fun h9 => ?_)
      · refine x_iload_n dX8_states_23 1 rfl rfl ?_
        refine x_iret dX8_states_24 rfl ?_
        rw [← hQ]
        exact ⟨_, rfl, rfl, rfl, rfl, rfl⟩
      · exfalso; omega
  refine x_iconst dX8_states_0 ?_
  refine x_istore_n (lv' := [(0, _), (1, _)]) dX8_states_1 rfl rfl rfl ?_
  refine x_iconst dX8_states_2 ?_
  refine x_istore_n (lv' := [(0, _), (1, _), (2, _)]) dX8_states_3 rfl rfl rfl ?_
  exact loop 0 (by omega)
theorem s_X8_placeOf {s w : Nat} (hs : s < 1728) (hw : w < 3) : Sp G mtX8_placeOf [mi ↑s, mi ↑w] sh I L R (qi (pu ((pl s w : Int)) I L R)) := by
  refine Sp.of pnX8_placeOf rfl ?_
  show Rn G mtX8_placeOf _ 0 [(0, mi ↑s), (1, mi ↑w)] [] sh I L R
  generalize hQ : (qi (pu ((pl s w : Int)) I L R)) = Q
  have hp := pl_lt (w := w) hs
  refine x_iload_n dX8_placeOf_0 1 rfl rfl ?_
  refine x_if_ne (tgt := 11) dX8_placeOf_1 (by decide) (by first | omega | exact z_and_r _ _ | exact z_or_r _ _ | exact z_xor_r _ _) (fun h1 => ?_) (fun h1 => ?_)
  · refine x_iload_n dX8_placeOf_11 1 rfl rfl ?_
    refine x_iconst dX8_placeOf_12 ?_
    refine x_ic_ne (tgt := 26) dX8_placeOf_13 (by decide) (by first | omega | exact z_and_r _ _ | exact z_or_r _ _ | exact z_xor_r _ _) (fun h13 => ?_) (fun h13 => ?_)
    · refine x_iload_n dX8_placeOf_26 0 rfl rfl ?_
      refine x_sipush dX8_placeOf_27 (by decide) ?_
      refine y_idiv dX8_placeOf_30 (by first | omega | exact z_and_r _ _ | exact z_or_r _ _ | exact z_xor_r _ _) (by first | omega | exact z_and_r _ _ | exact z_or_r _ _ | exact z_xor_r _ _) ?_
      refine x_iret dX8_placeOf_31 rfl ?_
      rw [← hQ]
      refine ⟨_, rfl, ?_, rfl, rfl, rfl⟩
      unfold pl
      first | (rw [if_pos (by omega)]; omega) | (rw [if_neg (by omega), if_pos (by omega)]; omega) | (rw [if_neg (by omega), if_neg (by omega)]; omega)
    · refine x_iload_n dX8_placeOf_16 0 rfl rfl ?_
      refine x_bipush dX8_placeOf_17 (by decide) ?_
      refine y_idiv dX8_placeOf_19 (by first | omega | exact z_and_r _ _ | exact z_or_r _ _ | exact z_xor_r _ _) (by first | omega | exact z_and_r _ _ | exact z_or_r _ _ | exact z_xor_r _ _) ?_
      refine x_bipush dX8_placeOf_20 (by decide) ?_
      refine y_irem dX8_placeOf_22 (by first | omega | exact z_and_r _ _ | exact z_or_r _ _ | exact z_xor_r _ _) (by first | omega | exact z_and_r _ _ | exact z_or_r _ _ | exact z_xor_r _ _) ?_
      refine x_goto (tgt := 31) dX8_placeOf_23 (by decide) ?_
      refine x_iret dX8_placeOf_31 rfl ?_
      rw [← hQ]
      refine ⟨_, rfl, ?_, rfl, rfl, rfl⟩
      unfold pl
      first | (rw [if_pos (by omega)]; omega) | (rw [if_neg (by omega), if_pos (by omega)]; omega) | (rw [if_neg (by omega), if_neg (by omega)]; omega)
  · refine x_iload_n dX8_placeOf_4 0 rfl rfl ?_
    refine x_bipush dX8_placeOf_5 (by decide) ?_
    refine y_irem dX8_placeOf_7 (by first | omega | exact z_and_r _ _ | exact z_or_r _ _ | exact z_xor_r _ _) (by first | omega | exact z_and_r _ _ | exact z_or_r _ _ | exact z_xor_r _ _) ?_
    refine x_goto (tgt := 31) dX8_placeOf_8 (by decide) ?_
    refine x_iret dX8_placeOf_31 rfl ?_
    rw [← hQ]
    refine ⟨_, rfl, ?_, rfl, rfl, rfl⟩
    unfold pl
    first | (rw [if_pos (by omega)]; omega) | (rw [if_neg (by omega), if_pos (by omega)]; omega) | (rw [if_neg (by omega), if_neg (by omega)]; omega)
theorem s_X8_roomOf {s w : Nat} (hs : s < 1728) (hw : w < 3) : Sp G mtX8_roomOf [mr 0, mi ↑s, mi ↑w] shM I L rM (qi (pu ((rm s w : Int)) I L rM)) := by
  refine Sp.of pnX8_roomOf rfl ?_
  show Rn G mtX8_roomOf _ 0 [(0, mr 0), (1, mi ↑s), (2, mi ↑w)] [] shM I L rM
  generalize hQ : (qi (pu ((rm s w : Int)) I L rM)) = Q
  have hp := pl_lt (w := w) hs
  refine x_iload_n dX8_roomOf_0 1 rfl rfl ?_
  refine x_iload_n dX8_roomOf_1 2 rfl rfl ?_
  refine x_callSi (as := [_, _]) dX8_roomOf_2 lvX8_258 rfl rfl rfl rfl ⟨rfl, rfl⟩ (s_X8_placeOf (by omega) (by omega)) (fun z2 I2 L2 R2 hq2 => ?_)
  obtain ⟨rfl, rfl, rfl, rfl⟩ := hq2
  refine x_iconst dX8_roomOf_5 ?_
  refine y_idiv dX8_roomOf_6 (by first | omega | exact z_and_r _ _ | exact z_or_r _ _ | exact z_xor_r _ _) (by first | omega | exact z_and_r _ _ | exact z_or_r _ _ | exact z_xor_r _ _) ?_
  refine x_iret dX8_roomOf_7 rfl ?_
  rw [← hQ]
  refine ⟨_, rfl, ?_, rfl, rfl, rfl⟩
  unfold rm
  omega
theorem s_X8_roomsOf {s : Nat} (h0 : E1 κ I) (hH : iHs κ) (hS : iSc κ) (hs : s < 1728) : Sp G mtX8_roomsOf [mr 0, mi ↑s] shM I L rM (qi (pu (rsK κ s) I L rM)) := by
  refine Sp.of pnX8_roomsOf rfl ?_
  show Rn G mtX8_roomsOf _ 0 [(0, mr 0), (1, mi ↑s)] [] shM I L rM
  generalize hQ : (qi (pu (rsK κ s) I L rM)) = Q
  have hu := us_le hH hS
  have e34 : I 0 34 = κ 0 34 := h0.at (by unfold sce per; omega)
  have loop : ∀ k, k ≤ us κ → Rn G mtX8_roomsOf Q 4 [(0, mr 0), (1, mi ↑s), (2, mi (orf (fun w => z_shl 1 (rm s w : Int)) k)), (3, mi (k : Int))] [] shM I L rM := by
    refine lpn (us κ) (fun k hk ih => ?_) ?_
    · refine x_iload_n dX8_roomsOf_4 3 rfl rfl ?_
      refine x_aload_n dX8_roomsOf_5 0 rfl rfl ?_
      refine x_getI dX8_roomsOf_6 flX8_240 rfl rfl ?_
      rw [e34]
      refine x_ic_ge (tgt := 29) dX8_roomsOf_9 (by decide) (by first | omega | exact z_and_r _ _ | exact z_or_r _ _ | exact z_xor_r _ _) (fun h9 => ?_) (fun h9 => ?_)
      · exfalso; omega
      · refine x_iload_n dX8_roomsOf_12 2 rfl rfl ?_
        refine x_iconst dX8_roomsOf_13 ?_
        refine x_aload_n dX8_roomsOf_14 0 rfl rfl ?_
        refine x_iload_n dX8_roomsOf_15 1 rfl rfl ?_
        refine x_iload_n dX8_roomsOf_16 3 rfl rfl ?_
        refine x_callVi (as := [_, _]) dX8_roomsOf_17 lvX8_261 rfl rfl rfl rfl rfl rfl rfl ⟨rfl, rfl⟩ (s_X8_roomOf (by omega) (by omega)) (fun z17 I17 L17 R17 hq17 => ?_)
        obtain ⟨rfl, rfl, rfl, rfl⟩ := hq17
        refine x_ishl dX8_roomsOf_20 ?_
        refine x_ior dX8_roomsOf_21 ?_
        refine x_istore_n (lv' := [(0, _), (1, _), (2, _), (3, _)]) dX8_roomsOf_22 rfl rfl rfl ?_
        refine x_iinc (lv' := [(0, _), (1, _), (2, _), (3, _)]) dX8_roomsOf_23 3 rfl rfl rfl ?_
        refine x_goto (tgt := 4) dX8_roomsOf_26 (by decide) ?_
        exact ih
    · refine x_iload_n dX8_roomsOf_4 3 rfl rfl ?_
      refine x_aload_n dX8_roomsOf_5 0 rfl rfl ?_
      refine x_getI dX8_roomsOf_6 flX8_240 rfl rfl ?_
      rw [e34]
      refine x_ic_ge (tgt := 29) dX8_roomsOf_9 (by decide) (by first | omega | exact z_and_r _ _ | exact z_or_r _ _ | exact z_xor_r _ _) (fun h9 => ?_) (fun h9 => ?_)
      · refine x_iload_n dX8_roomsOf_29 2 rfl rfl ?_
        refine x_iret dX8_roomsOf_30 rfl ?_
        rw [← hQ]
        exact ⟨_, rfl, rfl, rfl, rfl, rfl⟩
      · exfalso; omega
  refine x_iconst dX8_roomsOf_0 ?_
  refine x_istore_n (lv' := [(0, _), (1, _), (2, _)]) dX8_roomsOf_1 rfl rfl rfl ?_
  refine x_iconst dX8_roomsOf_2 ?_
  refine x_istore_n (lv' := [(0, _), (1, _), (2, _), (3, _)]) dX8_roomsOf_3 rfl rfl rfl ?_
  exact loop 0 (by omega)
theorem s_X8_canBe {t : Int} {s : Nat} (h0 : E1 κ I) (hH : iHs κ) (hS : iSc κ) (ht : 0 ≤ t ∧ t ≤ 30) (hs : s < 1728) : Sp G mtX8_canBe [mr 0, mi t, mi ↑s] shM I L rM (qi (pu (b01 (okb κ t s = true)) I L rM)) := by
  refine Sp.of pnX8_canBe rfl ?_
  show Rn G mtX8_canBe _ 0 [(0, mr 0), (1, mi t), (2, mi ↑s)] [] shM I L rM
  generalize hQ : (qi (pu (b01 (okb κ t s = true)) I L rM)) = Q
  have hu := us_le hH hS
  have e34 : I 0 34 = κ 0 34 := h0.at (by unfold sce per; omega)
  have hR := hH.1
  have hW := hH.2.2.1
  obtain ⟨r13, r14, r15, r16, r17⟩ := hS.2.2.2.2 t ht.1 ht.2
  have e11 : I 0 11 = κ 0 11 := h0.at (by unfold sce per; omega)
  have e15 : I 15 t = κ 15 t := h0.at (by unfold sce per; omega)
  have e16 : I 16 t = κ 16 t := h0.at (by unfold sce per; omega)
  have e17 : ∀ k : Int, 0 ≤ k → k < 3 → I 17 (3 * t + k) = κ 17 (3 * t + k) := fun k h1 h2 => h0.at (by unfold sce per; omega)
  have n1 : z_and (I 15 t) (z_xor (rsK κ s) (-1)) = z_and (κ 15 t) (z_xor (rsK κ s) (-1)) := by rw [e15]
  have n2 : z_and (I 16 t) (rsK κ s) = z_and (κ 16 t) (rsK κ s) := by rw [e16]
  have fin : ∀ (k : Nat) (c : Int), k ≤ us κ → c = b01 (((z_and (κ 15 t) (z_xor (rsK κ s) (-1)) == 0 && z_and (κ 16 t) (rsK κ s) == 0) && al (fun w => decide ((rm s w : Int) < κ 0 11) && (κ 17 (3 * t + w) == -1 || κ 17 (3 * t + w) == (rm s w : Int))) k) = true) → (k = us κ ∨ c = 0) → c = b01 (okb κ t s = true) := fun k c hk hc hx => b01_stop hk hc hx
  have loop : ∀ k, k ≤ us κ → ∀ c, c = b01 (((z_and (κ 15 t) (z_xor (rsK κ s) (-1)) == 0 && z_and (κ 16 t) (rsK κ s) == 0) && al (fun w => decide ((rm s w : Int) < κ 0 11) && (κ 17 (3 * t + w) == -1 || κ 17 (3 * t + w) == (rm s w : Int))) k) = true) → Rn G mtX8_canBe Q 40 [(0, mr 0), (1, mi t), (2, mi ↑s), (3, mi (rsK κ s)), (4, mi c), (5, mi (k : Int))] [] shM I L rM := by
    refine lpn (us κ) (fun k hk ih => ?_) ?_
    · intro c hc
      have hc2 : 0 ≤ c ∧ c ≤ 1 := by rw [hc]; exact b01_r _
      have hr := rm_lt (w := k) hs
      have q17 := e17 (k : Int) (by omega) (by omega)
      have q18 := r17 (k : Int) (by omega) (by omega)
      refine x_iload dX8_canBe_40 5 rfl ?_
      refine x_aload_n dX8_canBe_42 0 rfl rfl ?_
      refine x_getI dX8_canBe_43 flX8_240 rfl rfl ?_
      refine x_ic_ge (tgt := 112) dX8_canBe_46 (by decide) (by first | omega | exact z_and_r _ _ | exact z_or_r _ _ | exact z_xor_r _ _) (fun h46 => ?_) (fun h46 => ?_)
      · refine x_iload dX8_canBe_112 4 rfl ?_
        refine x_zret dX8_canBe_114 rfl (by omega) ?_
        first | (exfalso; omega) | (rw [← hQ]; exact ⟨_, rfl, fin k c (by omega) hc (Or.inr (by assumption)), rfl, rfl, rfl⟩)
      · refine x_iload dX8_canBe_49 4 rfl ?_
        refine x_if_eq (tgt := 112) dX8_canBe_51 (by decide) (by first | omega | exact z_and_r _ _ | exact z_or_r _ _ | exact z_xor_r _ _) (fun h51 => ?_) (fun h51 => ?_)
        · refine x_iload dX8_canBe_112 4 rfl ?_
          refine x_zret dX8_canBe_114 rfl (by omega) ?_
          first | (exfalso; omega) | (rw [← hQ]; exact ⟨_, rfl, fin k c (by omega) hc (Or.inr (by assumption)), rfl, rfl, rfl⟩)
        · refine x_aload_n dX8_canBe_54 0 rfl rfl ?_
          refine x_getR dX8_canBe_55 flX8_59 rfl rfl rfl ?_
          refine x_iconst dX8_canBe_58 ?_
          refine x_iload_n dX8_canBe_59 1 rfl rfl ?_
          refine x_imul dX8_canBe_60 ?_
          refine x_iload dX8_canBe_61 5 rfl ?_
          refine x_iadd dX8_canBe_63 ?_
          refine x_iald dX8_canBe_64 rfl (by omega) ?_
          refine x_istore (lv' := [(0, _), (1, _), (2, _), (3, _), (4, _), (5, _), (6, _)]) dX8_canBe_65 rfl rfl ?_
          refine x_aload_n dX8_canBe_67 0 rfl rfl ?_
          refine x_iload_n dX8_canBe_68 2 rfl rfl ?_
          refine x_iload dX8_canBe_69 5 rfl ?_
          refine x_callVi (as := [_, _]) dX8_canBe_71 lvX8_261 rfl rfl rfl rfl rfl rfl rfl ⟨rfl, rfl⟩ (s_X8_roomOf (by omega) (by omega)) (fun z71 I71 L71 R71 hq71 => ?_)
          obtain ⟨rfl, rfl, rfl, rfl⟩ := hq71
          refine x_aload_n dX8_canBe_74 0 rfl rfl ?_
          refine x_getI dX8_canBe_75 flX8_95 rfl rfl ?_
          refine x_ic_ge (tgt := 103) dX8_canBe_78 (by decide) (by first | omega | exact z_and_r _ _ | exact z_or_r _ _ | exact z_xor_r _ _) (fun h78 => ?_) (fun h78 => ?_)
          · refine x_iconst dX8_canBe_103 ?_
            refine x_istore (lv' := [(0, _), (1, _), (2, _), (3, _), (4, _), (5, _), (6, _)]) dX8_canBe_104 rfl rfl ?_
            refine x_iinc (lv' := [(0, _), (1, _), (2, _), (3, _), (4, _), (5, _), (6, _)]) dX8_canBe_106 5 rfl rfl rfl ?_
            refine x_goto (tgt := 40) dX8_canBe_109 (by decide) ?_
            refine x_top (lv' := [(0, _), (1, _), (2, _), (3, _), (4, _), (5, _)]) 6 rfl ?_
            refine ih _ (b01_al (b01_1.mp (by omega)) ?_)
            first | exact b01_t (by simp only [Bool.and_eq_true, Bool.or_eq_true, beq_iff_eq, decide_eq_true_eq]; omega) | exact b01_f (by simp only [Bool.and_eq_true, Bool.or_eq_true, beq_iff_eq, decide_eq_true_eq]; omega)
          · refine x_iload dX8_canBe_81 6 rfl ?_
            refine x_iconst dX8_canBe_83 ?_
            refine x_ic_eq (tgt := 99) dX8_canBe_84 (by decide) (by first | omega | exact z_and_r _ _ | exact z_or_r _ _ | exact z_xor_r _ _) (fun h84 => ?_) (fun h84 => ?_)
            · refine x_iconst dX8_canBe_99 ?_
              refine x_goto (tgt := 104) dX8_canBe_100 (by decide) ?_
              refine x_istore (lv' := [(0, _), (1, _), (2, _), (3, _), (4, _), (5, _), (6, _)]) dX8_canBe_104 rfl rfl ?_
              refine x_iinc (lv' := [(0, _), (1, _), (2, _), (3, _), (4, _), (5, _), (6, _)]) dX8_canBe_106 5 rfl rfl rfl ?_
              refine x_goto (tgt := 40) dX8_canBe_109 (by decide) ?_
              refine x_top (lv' := [(0, _), (1, _), (2, _), (3, _), (4, _), (5, _)]) 6 rfl ?_
              refine ih _ (b01_al (b01_1.mp (by omega)) ?_)
              first | exact b01_t (by simp only [Bool.and_eq_true, Bool.or_eq_true, beq_iff_eq, decide_eq_true_eq]; omega) | exact b01_f (by simp only [Bool.and_eq_true, Bool.or_eq_true, beq_iff_eq, decide_eq_true_eq]; omega)
            · refine x_iload dX8_canBe_87 6 rfl ?_
              refine x_aload_n dX8_canBe_89 0 rfl rfl ?_
              refine x_iload_n dX8_canBe_90 2 rfl rfl ?_
              refine x_iload dX8_canBe_91 5 rfl ?_
              refine x_callVi (as := [_, _]) dX8_canBe_93 lvX8_261 rfl rfl rfl rfl rfl rfl rfl ⟨rfl, rfl⟩ (s_X8_roomOf (by omega) (by omega)) (fun z93 I93 L93 R93 hq93 => ?_)
              obtain ⟨rfl, rfl, rfl, rfl⟩ := hq93
              refine x_ic_ne (tgt := 103) dX8_canBe_96 (by decide) (by first | omega | exact z_and_r _ _ | exact z_or_r _ _ | exact z_xor_r _ _) (fun h96 => ?_) (fun h96 => ?_)
              · refine x_iconst dX8_canBe_103 ?_
                refine x_istore (lv' := [(0, _), (1, _), (2, _), (3, _), (4, _), (5, _), (6, _)]) dX8_canBe_104 rfl rfl ?_
                refine x_iinc (lv' := [(0, _), (1, _), (2, _), (3, _), (4, _), (5, _), (6, _)]) dX8_canBe_106 5 rfl rfl rfl ?_
                refine x_goto (tgt := 40) dX8_canBe_109 (by decide) ?_
                refine x_top (lv' := [(0, _), (1, _), (2, _), (3, _), (4, _), (5, _)]) 6 rfl ?_
                refine ih _ (b01_al (b01_1.mp (by omega)) ?_)
                first | exact b01_t (by simp only [Bool.and_eq_true, Bool.or_eq_true, beq_iff_eq, decide_eq_true_eq]; omega) | exact b01_f (by simp only [Bool.and_eq_true, Bool.or_eq_true, beq_iff_eq, decide_eq_true_eq]; omega)
              · refine x_iconst dX8_canBe_99 ?_
                refine x_goto (tgt := 104) dX8_canBe_100 (by decide) ?_
                refine x_istore (lv' := [(0, _), (1, _), (2, _), (3, _), (4, _), (5, _), (6, _)]) dX8_canBe_104 rfl rfl ?_
                refine x_iinc (lv' := [(0, _), (1, _), (2, _), (3, _), (4, _), (5, _), (6, _)]) dX8_canBe_106 5 rfl rfl rfl ?_
                refine x_goto (tgt := 40) dX8_canBe_109 (by decide) ?_
                refine x_top (lv' := [(0, _), (1, _), (2, _), (3, _), (4, _), (5, _)]) 6 rfl ?_
                refine ih _ (b01_al (b01_1.mp (by omega)) ?_)
                first | exact b01_t (by simp only [Bool.and_eq_true, Bool.or_eq_true, beq_iff_eq, decide_eq_true_eq]; omega) | exact b01_f (by simp only [Bool.and_eq_true, Bool.or_eq_true, beq_iff_eq, decide_eq_true_eq]; omega)
    · intro c hc
      have hc2 : 0 ≤ c ∧ c ≤ 1 := by rw [hc]; exact b01_r _
      refine x_iload dX8_canBe_40 5 rfl ?_
      refine x_aload_n dX8_canBe_42 0 rfl rfl ?_
      refine x_getI dX8_canBe_43 flX8_240 rfl rfl ?_
      refine x_ic_ge (tgt := 112) dX8_canBe_46 (by decide) (by first | omega | exact z_and_r _ _ | exact z_or_r _ _ | exact z_xor_r _ _) (fun h46 => ?_) (fun h46 => ?_)
      · refine x_iload dX8_canBe_112 4 rfl ?_
        refine x_zret dX8_canBe_114 rfl (by omega) ?_
        rw [← hQ]
        exact ⟨_, rfl, fin _ c (by omega) hc (Or.inl rfl), rfl, rfl, rfl⟩
      · exfalso; omega
  refine x_aload_n dX8_canBe_0 0 rfl rfl ?_
  refine x_iload_n dX8_canBe_1 2 rfl rfl ?_
  refine x_callVi (as := [_]) dX8_canBe_2 lvX8_264 rfl rfl rfl rfl rfl rfl rfl ⟨rfl, rfl⟩ (s_X8_roomsOf h0 hH hS (by omega)) (fun z2 I2 L2 R2 hq2 => ?_)
  obtain ⟨rfl, rfl, rfl, rfl⟩ := hq2
  refine x_istore_n (lv' := [(0, _), (1, _), (2, _), (3, _)]) dX8_canBe_5 rfl rfl rfl ?_
  refine x_aload_n dX8_canBe_6 0 rfl rfl ?_
  refine x_getR dX8_canBe_7 flX8_53 rfl rfl rfl ?_
  refine x_iload_n dX8_canBe_10 1 rfl rfl ?_
  refine x_iald dX8_canBe_11 rfl (by omega) ?_
  refine x_iload_n dX8_canBe_12 3 rfl rfl ?_
  refine x_iconst dX8_canBe_13 ?_
  refine x_ixor dX8_canBe_14 ?_
  refine x_iand dX8_canBe_15 ?_
  refine x_if_ne (tgt := 34) dX8_canBe_16 (by decide) (by first | omega | exact z_and_r _ _ | exact z_or_r _ _ | exact z_xor_r _ _) (fun h16 => ?_) (fun h16 => ?_)
  · refine x_iconst dX8_canBe_34 ?_
    refine x_istore (lv' := [(0, _), (1, _), (2, _), (3, _), (4, _)]) dX8_canBe_35 rfl rfl ?_
    refine x_iconst dX8_canBe_37 ?_
    refine x_istore (lv' := [(0, _), (1, _), (2, _), (3, _), (4, _), (5, _)]) dX8_canBe_38 rfl rfl ?_
    refine loop 0 (by omega) _ ?_
    simp only [al, Bool.and_true]
    first | exact b01_t (by simp only [Bool.and_eq_true, Bool.or_eq_true, beq_iff_eq, decide_eq_true_eq]; omega) | exact b01_f (by simp only [Bool.and_eq_true, Bool.or_eq_true, beq_iff_eq, decide_eq_true_eq]; omega)
  · refine x_aload_n dX8_canBe_19 0 rfl rfl ?_
    refine x_getR dX8_canBe_20 flX8_56 rfl rfl rfl ?_
    refine x_iload_n dX8_canBe_23 1 rfl rfl ?_
    refine x_iald dX8_canBe_24 rfl (by omega) ?_
    refine x_iload_n dX8_canBe_25 3 rfl rfl ?_
    refine x_iand dX8_canBe_26 ?_
    refine x_if_ne (tgt := 34) dX8_canBe_27 (by decide) (by first | omega | exact z_and_r _ _ | exact z_or_r _ _ | exact z_xor_r _ _) (fun h27 => ?_) (fun h27 => ?_)
    · refine x_iconst dX8_canBe_34 ?_
      refine x_istore (lv' := [(0, _), (1, _), (2, _), (3, _), (4, _)]) dX8_canBe_35 rfl rfl ?_
      refine x_iconst dX8_canBe_37 ?_
      refine x_istore (lv' := [(0, _), (1, _), (2, _), (3, _), (4, _), (5, _)]) dX8_canBe_38 rfl rfl ?_
      refine loop 0 (by omega) _ ?_
      simp only [al, Bool.and_true]
      first | exact b01_t (by simp only [Bool.and_eq_true, Bool.or_eq_true, beq_iff_eq, decide_eq_true_eq]; omega) | exact b01_f (by simp only [Bool.and_eq_true, Bool.or_eq_true, beq_iff_eq, decide_eq_true_eq]; omega)
    · refine x_iconst dX8_canBe_30 ?_
      refine x_goto (tgt := 35) dX8_canBe_31 (by decide) ?_
      refine x_istore (lv' := [(0, _), (1, _), (2, _), (3, _), (4, _)]) dX8_canBe_35 rfl rfl ?_
      refine x_iconst dX8_canBe_37 ?_
      refine x_istore (lv' := [(0, _), (1, _), (2, _), (3, _), (4, _), (5, _)]) dX8_canBe_38 rfl rfl ?_
      refine loop 0 (by omega) _ ?_
      simp only [al, Bool.and_true]
      first | exact b01_t (by simp only [Bool.and_eq_true, Bool.or_eq_true, beq_iff_eq, decide_eq_true_eq]; omega) | exact b01_f (by simp only [Bool.and_eq_true, Bool.or_eq_true, beq_iff_eq, decide_eq_true_eq]; omega)
theorem s_X8_canBegin {s : Nat} (h0 : E1 κ I) (hH : iHs κ) (hS : iSc κ) (hs : s < 1728) : Sp G mtX8_canBegin [mr 0, mi ↑s] shM I L rM (qi (pu (b01 (begb κ s = true)) I L rM)) := by
  refine Sp.of pnX8_canBegin rfl ?_
  show Rn G mtX8_canBegin _ 0 [(0, mr 0), (1, mi ↑s)] [] shM I L rM
  generalize hQ : (qi (pu (b01 (begb κ s = true)) I L rM)) = Q
  have hu := us_le hH hS
  have e34 : I 0 34 = κ 0 34 := h0.at (by unfold sce per; omega)
  have hW := hH.2.2.1
  have e8 : ∀ j, I 8 j = κ 8 j := fun j => h0.at (by unfold sce per; omega)
  have loop : ∀ k, k ≤ us κ → ∀ c, c = b01 ((okb κ 0 s && al (fun w => pl s w % 2 == 0 && tb (κ 8 (2 * (w : Int) + 1)) (rm s w)) k) = true) → Rn G mtX8_canBegin Q 9 [(0, mr 0), (1, mi ↑s), (2, mi c), (3, mi (k : Int))] [] shM I L rM := by
    refine lpn (us κ) (fun k hk ih => ?_) ?_
    · intro c hc
      have hc2 : 0 ≤ c ∧ c ≤ 1 := by rw [hc]; exact b01_r _
      have hr := rm_lt (w := k) hs
      have hp := pl_lt (w := k) hs
      have q8 := e8 (2 * (k : Int) + 1)
      refine x_iload_n dX8_canBegin_9 3 rfl rfl ?_
      refine x_aload_n dX8_canBegin_10 0 rfl rfl ?_
      refine x_getI dX8_canBegin_11 flX8_240 rfl rfl ?_
      refine x_ic_ge (tgt := 65) dX8_canBegin_14 (by decide) (by first | omega | exact z_and_r _ _ | exact z_or_r _ _ | exact z_xor_r _ _) (fun h14 => ?_) (fun h14 => ?_)
      · refine x_iload_n dX8_canBegin_65 2 rfl rfl ?_
        refine x_zret dX8_canBegin_66 rfl (by omega) ?_
        first | (exfalso; omega) | (rw [← hQ]; exact ⟨_, rfl, b01_stop (by omega) hc (Or.inr (by assumption)), rfl, rfl, rfl⟩)
      · refine x_iload_n dX8_canBegin_17 2 rfl rfl ?_
        refine x_if_eq (tgt := 65) dX8_canBegin_18 (by decide) (by first | omega | exact z_and_r _ _ | exact z_or_r _ _ | exact z_xor_r _ _) (fun h18 => ?_) (fun h18 => ?_)
        · refine x_iload_n dX8_canBegin_65 2 rfl rfl ?_
          refine x_zret dX8_canBegin_66 rfl (by omega) ?_
          first | (exfalso; omega) | (rw [← hQ]; exact ⟨_, rfl, b01_stop (by omega) hc (Or.inr (by assumption)), rfl, rfl, rfl⟩)
        · refine x_iload_n dX8_canBegin_21 1 rfl rfl ?_
          refine x_iload_n dX8_canBegin_22 3 rfl rfl ?_
          refine x_callSi (as := [_, _]) dX8_canBegin_23 lvX8_258 rfl rfl rfl rfl ⟨rfl, rfl⟩ (s_X8_placeOf (by omega) (by omega)) (fun z23 I23 L23 R23 hq23 => ?_)
          obtain ⟨rfl, rfl, rfl, rfl⟩ := hq23
          refine x_iconst dX8_canBegin_26 ?_
          refine y_irem dX8_canBegin_27 (by first | omega | exact z_and_r _ _ | exact z_or_r _ _ | exact z_xor_r _ _) (by first | omega | exact z_and_r _ _ | exact z_or_r _ _ | exact z_xor_r _ _) ?_
          refine x_if_ne (tgt := 57) dX8_canBegin_28 (by decide) (by first | omega | exact z_and_r _ _ | exact z_or_r _ _ | exact z_xor_r _ _) (fun h28 => ?_) (fun h28 => ?_)
          · refine x_iconst dX8_canBegin_57 ?_
            refine x_istore_n (lv' := [(0, _), (1, _), (2, _), (3, _)]) dX8_canBegin_58 rfl rfl rfl ?_
            refine x_iinc (lv' := [(0, _), (1, _), (2, _), (3, _)]) dX8_canBegin_59 3 rfl rfl rfl ?_
            refine x_goto (tgt := 9) dX8_canBegin_62 (by decide) ?_
            refine ih _ (b01_al (b01_1.mp (by omega)) ?_)
            first | exact b01_t (by simp only [Bool.and_eq_true, beq_iff_eq]; exact ⟨by omega, by assumption⟩) | exact b01_f (by simp only [Bool.and_eq_true, beq_iff_eq]; rintro ⟨x1, x2⟩; first | omega | contradiction)
          · refine x_aload_n dX8_canBegin_31 0 rfl rfl ?_
            refine x_getR dX8_canBegin_32 flX8_32 rfl rfl rfl ?_
            refine x_iconst dX8_canBegin_35 ?_
            refine x_iload_n dX8_canBegin_36 3 rfl rfl ?_
            refine x_imul dX8_canBegin_37 ?_
            refine x_iconst dX8_canBegin_38 ?_
            refine x_iadd dX8_canBegin_39 ?_
            refine x_iald dX8_canBegin_40 rfl (by omega) ?_
            refine x_aload_n dX8_canBegin_41 0 rfl rfl ?_
            refine x_iload_n dX8_canBegin_42 1 rfl rfl ?_
            refine x_iload_n dX8_canBegin_43 3 rfl rfl ?_
            refine x_callVi (as := [_, _]) dX8_canBegin_44 lvX8_261 rfl rfl rfl rfl rfl rfl rfl ⟨rfl, rfl⟩ (s_X8_roomOf (by omega) (by omega)) (fun z44 I44 L44 R44 hq44 => ?_)
            obtain ⟨rfl, rfl, rfl, rfl⟩ := hq44
            refine x_callSi (as := [_, _]) dX8_canBegin_47 lvX8_252 rfl rfl rfl rfl ⟨rfl, rfl⟩ (s_X8_has (by omega)) (fun z47 I47 L47 R47 hq47 => ?_)
            obtain ⟨rfl, rfl, rfl, rfl⟩ := hq47
            rw [Int.toNat_natCast, q8]
            refine y_ifb_eq (tgt := 57) dX8_canBegin_50 (by decide) (fun h50 => ?_) (fun h50 => ?_)
            · refine x_iconst dX8_canBegin_57 ?_
              refine x_istore_n (lv' := [(0, _), (1, _), (2, _), (3, _)]) dX8_canBegin_58 rfl rfl rfl ?_
              refine x_iinc (lv' := [(0, _), (1, _), (2, _), (3, _)]) dX8_canBegin_59 3 rfl rfl rfl ?_
              refine x_goto (tgt := 9) dX8_canBegin_62 (by decide) ?_
              refine ih _ (b01_al (b01_1.mp (by omega)) ?_)
              first | exact b01_t (by simp only [Bool.and_eq_true, beq_iff_eq]; exact ⟨by omega, by assumption⟩) | exact b01_f (by simp only [Bool.and_eq_true, beq_iff_eq]; rintro ⟨x1, x2⟩; first | omega | contradiction)
            · refine x_iconst dX8_canBegin_53 ?_
              refine x_goto (tgt := 58) dX8_canBegin_54 (by decide) ?_
              refine x_istore_n (lv' := [(0, _), (1, _), (2, _), (3, _)]) dX8_canBegin_58 rfl rfl rfl ?_
              refine x_iinc (lv' := [(0, _), (1, _), (2, _), (3, _)]) dX8_canBegin_59 3 rfl rfl rfl ?_
              refine x_goto (tgt := 9) dX8_canBegin_62 (by decide) ?_
              refine ih _ (b01_al (b01_1.mp (by omega)) ?_)
              first | exact b01_t (by simp only [Bool.and_eq_true, beq_iff_eq]; exact ⟨by omega, by assumption⟩) | exact b01_f (by simp only [Bool.and_eq_true, beq_iff_eq]; rintro ⟨x1, x2⟩; first | omega | contradiction)
    · intro c hc
      have hc2 : 0 ≤ c ∧ c ≤ 1 := by rw [hc]; exact b01_r _
      refine x_iload_n dX8_canBegin_9 3 rfl rfl ?_
      refine x_aload_n dX8_canBegin_10 0 rfl rfl ?_
      refine x_getI dX8_canBegin_11 flX8_240 rfl rfl ?_
      refine x_ic_ge (tgt := 65) dX8_canBegin_14 (by decide) (by first | omega | exact z_and_r _ _ | exact z_or_r _ _ | exact z_xor_r _ _) (fun h14 => ?_) (fun h14 => ?_)
      · refine x_iload_n dX8_canBegin_65 2 rfl rfl ?_
        refine x_zret dX8_canBegin_66 rfl (by omega) ?_
        rw [← hQ]
        exact ⟨_, rfl, b01_stop (Nat.le_refl _) hc (Or.inl rfl), rfl, rfl, rfl⟩
      · exfalso; omega
  refine x_aload_n dX8_canBegin_0 0 rfl rfl ?_
  refine x_iconst dX8_canBegin_1 ?_
  refine x_iload_n dX8_canBegin_2 1 rfl rfl ?_
  refine x_callVi (as := [_, _]) dX8_canBegin_3 lvX8_267 rfl rfl rfl rfl rfl rfl rfl ⟨rfl, rfl⟩ (s_X8_canBe h0 hH hS (by omega) (by omega)) (fun z3 I3 L3 R3 hq3 => ?_)
  obtain ⟨rfl, rfl, rfl, rfl⟩ := hq3
  refine x_istore_n (lv' := [(0, _), (1, _), (2, _)]) dX8_canBegin_6 rfl rfl rfl ?_
  refine x_iconst dX8_canBegin_7 ?_
  refine x_istore_n (lv' := [(0, _), (1, _), (2, _), (3, _)]) dX8_canBegin_8 rfl rfl rfl ?_
  refine loop 0 (by omega) _ ?_
  simp only [al, Bool.and_true]
set_option maxHeartbeats 4000000 in
theorem s_X8_layMoves {t : Int} {s : Nat} (h0 : E1 κ I) (hH : iHs κ) (hS : iSc κ) (ht : 0 ≤ t ∧ t ≤ 30) (hs : s < 1728) : Sp G mtX8_layMoves [mr 0, mi t, mi ↑s] shM I L rM (qv (fun I' L' R' => L = L' ∧ R' = rM ∧ E3 I I' ∧ E1 κ I' ∧ I' 0 41 = (mal κ t s : Int) ∧ hMv κ t s (us κ) I')) := by
  refine Sp.of pnX8_layMoves rfl ?_
  show Rn G mtX8_layMoves _ 0 [(0, mr 0), (1, mi t), (2, mi ↑s)] [] shM I L rM
  generalize hQ : (qv (fun I' L' R' => L = L' ∧ R' = rM ∧ E3 I I' ∧ E1 κ I' ∧ I' 0 41 = (mal κ t s : Int) ∧ hMv κ t s (us κ) I')) = Q
  have hu := us_le hH hS
  have e34 : I 0 34 = κ 0 34 := h0.at (by unfold sce per; omega)
  have hW := hH.2.2.1
  have hD := hH.2.1
  have hR := hH.1
  have hU := hS.1
  have r14 := (hS.2.2.2.2 t ht.1 ht.2).2.1
  have hll : ∀ w, (mvl κ t s w).length ≤ 9 := fun w => (mvl_len hD t s w).2
  have outer : ∀ k, k ≤ us κ → ∀ J, E3 I J → J 0 41 = (prf (fun w => (mvl κ t s w).length) k : Int) → hMv κ t s k J → Rn G mtX8_layMoves Q 7 [(0, mr 0), (1, mi t), (2, mi ↑s), (3, mi (k : Int))] [] shM J L rM := by
    refine lpn (us κ) (fun k hk ih => ?_) ?_
    · intro J hJ hm hv
      have hr := rm_lt (w := k) hs
      have hp := pl_lt (w := k) hs
      have hr2 : (rm s k : Int) = (pl s k : Int) / 2 := by unfold rm; omega
      have j34 : J 0 34 = κ 0 34 := (h0.tr hJ.e1).at (by unfold sce per; omega)
      have exit : ∀ (n : Nat) (J1 : MI) lv8, lv8 = [(0, mr 0), (1, mi t), (2, mi ↑s), (3, mi (k : Int)), (4, mi (pl s k : Int)), (5, mi (rm s k : Int)), (6, mi (n : Int))] → n = (mvl κ t s k).length → E3 I J1 → J1 0 41 = (prf (fun w => (mvl κ t s w).length) k : Int) → hMv κ t s k J1 → hsg (9 * (k : Int)) (mvl κ t s k) J1 → Rn G mtX8_layMoves Q 208 lv8 [] shM J1 L rM := by
        intro n J1 lv8 hlv hn hJ1 hm1 hv1 hg1
        subst hlv
        refine x_aload_n dX8_layMoves_208 0 rfl rfl ?_
        refine x_getR dX8_layMoves_209 flX8_62 rfl rfl rfl ?_
        refine x_iload_n dX8_layMoves_212 3 rfl rfl ?_
        refine x_iload dX8_layMoves_213 6 rfl ?_
        refine x_iast dX8_layMoves_215 rfl (by omega) ?_
        refine x_aload_n dX8_layMoves_216 0 rfl rfl ?_
        refine x_dup dX8_layMoves_217 rfl ?_
        refine y_getI dX8_layMoves_218 flX8_270 rfl rfl (m_up_ne (by decide) _) ?_
        refine x_iload dX8_layMoves_221 6 rfl ?_
        refine x_imul dX8_layMoves_223 ?_
        refine x_putI dX8_layMoves_224 flX8_270 rfl rfl rfl ?_
        refine x_iinc (lv' := [(0, _), (1, _), (2, _), (3, _), (4, _), (5, _), (6, _)]) dX8_layMoves_227 3 rfl rfl rfl ?_
        refine x_goto (tgt := 7) dX8_layMoves_230 (by decide) ?_
        refine x_top (lv' := [(0, _), (1, _), (2, _), (3, _)]) 4 rfl ?_
        refine ih _ ?_ ?_ ?_
        · exact (hJ1.up (by unfold scr3; omega)).up (by unfold scr3; omega)
        · rw [m_up_eq, hm1, hn]
          exact (Int.natCast_mul _ _).symm
        · have hv2 : hMv κ t s k (m_up (m_up J1 18 (k : Int) (n : Int)) 0 41 (J1 0 41 * (n : Int))) := hMv_same hll hv1 (fun j hj => by rw [m_up_ne (by decide), m_up_nj (by omega)]) (fun j hj => ⟨by rw [m_up_ne (by decide), m_up_ne (by decide)], by rw [m_up_ne (by decide), m_up_ne (by decide)]⟩)
          intro w hw
          by_cases e : w = k
          · subst e
            refine ⟨by rw [m_up_ne (by decide), m_up_eq, hn], fun i q hq => ?_⟩
            rw [m_up_ne (by decide), m_up_ne (by decide), m_up_ne (by decide), m_up_ne (by decide)]
            exact hg1 i q hq
          · exact hv2 w (by omega)
      have inner : ∀ d, d ≤ (κ 0 12).toNat → (pl s k % 2 = 0 ∨ d = 0) → ∀ (n : Nat) (J1 : MI), n = (mlp κ t s k d).length → E3 I J1 → J1 0 41 = (prf (fun w => (mvl κ t s w).length) k : Int) → hMv κ t s k J1 → hsg (9 * (k : Int)) (mlp κ t s k d) J1 → Rn G mtX8_layMoves Q 57 [(0, mr 0), (1, mi t), (2, mi ↑s), (3, mi (k : Int)), (4, mi (pl s k : Int)), (5, mi (rm s k : Int)), (6, mi (n : Int)), (7, mi (d : Int))] [] shM J1 L rM := by
        refine lpn (κ 0 12).toNat (fun d hd ihd => ?_) ?_
        · intro hx n J1 hn hJ1 hm1 hv1 hg1
          have hnl := mlp_len κ t s k d
          have j12 : J1 0 12 = κ 0 12 := (h0.tr hJ1.e1).at (by unfold sce per; omega)
          have e14 : J1 14 t = κ 14 t := (h0.tr hJ1.e1).at (by unfold sce per; omega)
          have q1 : J1 7 (3 * (d : Int)) = κ 7 (3 * (d : Int)) := (h0.tr hJ1.e1).at (by unfold sce per; omega)
          have q2 : J1 7 (3 * (d : Int) + 1) = κ 7 (3 * (d : Int) + 1) := (h0.tr hJ1.e1).at (by unfold sce per; omega)
          have q3 := hH.2.2.2.2.1 (d : Int) (by omega) (by omega)
          have q4 : J1 8 (2 * (k : Int)) = κ 8 (2 * (k : Int)) := (h0.tr hJ1.e1).at (by unfold sce per; omega)
          have q5 := hH.2.2.2.2.2 (k : Int) (by omega) (by omega)
          have j202 : pl s k % 2 = 0 → mcd κ t s k d = false → ∀ c : Int, Rn G mtX8_layMoves Q 202 [(0, mr 0), (1, mi t), (2, mi ↑s), (3, mi (k : Int)), (4, mi (pl s k : Int)), (5, mi (rm s k : Int)), (6, mi (n : Int)), (7, mi (d : Int)), (8, mi c)] [] shM J1 L rM := by
            intro hpe hf c
            refine x_iinc (lv' := [(0, _), (1, _), (2, _), (3, _), (4, _), (5, _), (6, _), (7, _), (8, _)]) dX8_layMoves_202 7 rfl rfl rfl ?_
            refine x_goto (tgt := 57) dX8_layMoves_205 (by decide) ?_
            refine x_top (lv' := [(0, _), (1, _), (2, _), (3, _), (4, _), (5, _), (6, _), (7, _)]) 8 rfl ?_
            exact ihd (Or.inl hpe) n J1 (by rw [mlp_f hf]; exact hn) hJ1 hm1 hv1 (by rw [mlp_f hf]; exact hg1)
          have j197 : pl s k % 2 = 0 → mcd κ t s k d = true → ∀ c x : Int, x = 2 * (J1 7 (3 * (d : Int)) + J1 7 (3 * (d : Int) + 1) - (rm s k : Int)) → c = (if κ 8 (2 * (k : Int)) = 2 then 1 else 0) → Rn G mtX8_layMoves Q 197 [(0, mr 0), (1, mi t), (2, mi ↑s), (3, mi (k : Int)), (4, mi (pl s k : Int)), (5, mi (rm s k : Int)), (6, mi (n : Int)), (7, mi (d : Int)), (8, mi 1)] [mi c, mi x, mi (9 * (k : Int) + (n : Int)), mr 20] shM (m_up J1 19 (9 * (k : Int) + (n : Int)) (d : Int)) L rM := by
            intro hpe hf c x hx hc
            refine x_iadd dX8_layMoves_197 ?_
            refine x_iast dX8_layMoves_198 rfl (by omega) ?_
            refine x_iinc (lv' := [(0, _), (1, _), (2, _), (3, _), (4, _), (5, _), (6, _), (7, _), (8, _)]) dX8_layMoves_199 6 rfl rfl rfl ?_
            refine x_iinc (lv' := [(0, _), (1, _), (2, _), (3, _), (4, _), (5, _), (6, _), (7, _), (8, _)]) dX8_layMoves_202 7 rfl rfl rfl ?_
            refine x_goto (tgt := 57) dX8_layMoves_205 (by decide) ?_
            refine x_top (lv' := [(0, _), (1, _), (2, _), (3, _), (4, _), (5, _), (6, _), (7, _)]) 8 rfl ?_
            refine ihd (Or.inl hpe) (n + 1) _ (by rw [mlp_t hf, List.length_append, hn]; rfl) ?_ ?_ ?_ ?_
            · exact (hJ1.up (by unfold scr3; omega)).up (by unfold scr3; omega)
            · rw [m_up_ne (by decide), m_up_ne (by decide)]; exact hm1
            · exact hMv_same hll hv1 (fun j hj => by rw [m_up_ne (by decide), m_up_ne (by decide)]) (fun j hj => ⟨by rw [m_up_ne (by decide), m_up_nj (by omega)], by rw [m_up_nj (by omega), m_up_ne (by decide)]⟩)
            · rw [show x + c = mto κ s k d by unfold mto; rw [hx, hc, q1, q2], mlp_t hf]
              exact hsg_add hg1 (by rw [hn])
          have j108 : pl s k % 2 = 0 → ∀ c : Int, (c = 1 ∧ (J1 7 (3 * (d : Int)) = (rm s k : Int) ∨ J1 7 (3 * (d : Int) + 1) = (rm s k : Int)) ∨ c = 0 ∧ ¬ (J1 7 (3 * (d : Int)) = (rm s k : Int) ∨ J1 7 (3 * (d : Int) + 1) = (rm s k : Int))) → Rn G mtX8_layMoves Q 108 [(0, mr 0), (1, mi t), (2, mi ↑s), (3, mi (k : Int)), (4, mi (pl s k : Int)), (5, mi (rm s k : Int)), (6, mi (n : Int)), (7, mi (d : Int))] [mi c] shM J1 L rM := by
            intro hpe c hc
            have hc2 : 0 ≤ c ∧ c ≤ 1 := by omega
            refine x_istore (lv' := [(0, _), (1, _), (2, _), (3, _), (4, _), (5, _), (6, _), (7, _), (8, _)]) dX8_layMoves_108 rfl rfl ?_
            refine x_iload dX8_layMoves_110 8 rfl ?_
            refine x_if_eq (tgt := 202) dX8_layMoves_112 (by decide) (by omega) (fun h112 => ?_) (fun h112 => ?_)
            · first
              | (have hx : c = 0 := by assumption
                 refine j202 hpe ?_ _
                 unfold mcd
                 rw [Bool.and_eq_false_iff]
                 left
                 rw [Bool.or_eq_false_iff, beq_eq_false_iff_ne, beq_eq_false_iff_ne]
                 constructor <;> omega)
              | (refine j202 hpe ?_ _
                 unfold mcd
                 rw [Bool.and_eq_false_iff]
                 right
                 rw [Bool.not_eq_false']
                 assumption)
            · have hc1 : c = 1 := by omega
              subst hc1
              refine x_aload_n dX8_layMoves_115 0 rfl rfl ?_
              refine x_getR dX8_layMoves_116 flX8_50 rfl rfl rfl ?_
              refine x_iload_n dX8_layMoves_119 1 rfl rfl ?_
              refine x_iald dX8_layMoves_120 rfl (by omega) ?_
              refine x_iload dX8_layMoves_121 7 rfl ?_
              refine x_callSi (as := [_, _]) dX8_layMoves_123 lvX8_252 rfl rfl rfl rfl ⟨rfl, rfl⟩ (s_X8_has (by omega)) (fun z123 I123 L123 R123 hq123 => ?_)
              obtain ⟨rfl, rfl, rfl, rfl⟩ := hq123
              rw [Int.toNat_natCast, e14]
              refine y_ifb_ne (tgt := 202) dX8_layMoves_126 (by decide) (fun h126 => ?_) (fun h126 => ?_)
              · first
                | (have hx : c = 0 := by assumption
                   refine j202 hpe ?_ _
                   unfold mcd
                   rw [Bool.and_eq_false_iff]
                   left
                   rw [Bool.or_eq_false_iff, beq_eq_false_iff_ne, beq_eq_false_iff_ne]
                   constructor <;> omega)
                | (refine j202 hpe ?_ _
                   unfold mcd
                   rw [Bool.and_eq_false_iff]
                   right
                   rw [Bool.not_eq_false']
                   assumption)
              · refine x_aload_n dX8_layMoves_129 0 rfl rfl ?_
                refine x_getR dX8_layMoves_130 flX8_65 rfl rfl rfl ?_
                refine x_bipush dX8_layMoves_133 (by decide) ?_
                refine x_iload_n dX8_layMoves_135 3 rfl rfl ?_
                refine x_imul dX8_layMoves_136 ?_
                refine x_iload dX8_layMoves_137 6 rfl ?_
                refine x_iadd dX8_layMoves_139 ?_
                refine x_iload dX8_layMoves_140 7 rfl ?_
                refine x_iast dX8_layMoves_142 rfl (by omega) ?_
                refine x_aload_n dX8_layMoves_143 0 rfl rfl ?_
                refine x_getR dX8_layMoves_144 flX8_68 rfl rfl rfl ?_
                refine x_bipush dX8_layMoves_147 (by decide) ?_
                refine x_iload_n dX8_layMoves_149 3 rfl rfl ?_
                refine x_imul dX8_layMoves_150 ?_
                refine x_iload dX8_layMoves_151 6 rfl ?_
                refine x_iadd dX8_layMoves_153 ?_
                refine x_iconst dX8_layMoves_154 ?_
                refine x_aload_n dX8_layMoves_155 0 rfl rfl ?_
                refine x_getR dX8_layMoves_156 flX8_29 rfl rfl rfl ?_
                refine x_iconst dX8_layMoves_159 ?_
                refine x_iload dX8_layMoves_160 7 rfl ?_
                refine x_imul dX8_layMoves_162 ?_
                refine y_iald dX8_layMoves_163 rfl (by omega) (m_up_ne (by decide) _) ?_
                refine x_aload_n dX8_layMoves_164 0 rfl rfl ?_
                refine x_getR dX8_layMoves_165 flX8_29 rfl rfl rfl ?_
                refine x_iconst dX8_layMoves_168 ?_
                refine x_iload dX8_layMoves_169 7 rfl ?_
                refine x_imul dX8_layMoves_171 ?_
                refine x_iconst dX8_layMoves_172 ?_
                refine x_iadd dX8_layMoves_173 ?_
                refine y_iald dX8_layMoves_174 rfl (by omega) (m_up_ne (by decide) _) ?_
                refine x_iadd dX8_layMoves_175 ?_
                refine x_iload dX8_layMoves_176 5 rfl ?_
                refine x_isub dX8_layMoves_178 ?_
                refine x_imul dX8_layMoves_179 ?_
                refine x_aload_n dX8_layMoves_180 0 rfl rfl ?_
                refine x_getR dX8_layMoves_181 flX8_32 rfl rfl rfl ?_
                refine x_iconst dX8_layMoves_184 ?_
                refine x_iload_n dX8_layMoves_185 3 rfl rfl ?_
                refine x_imul dX8_layMoves_186 ?_
                refine y_iald dX8_layMoves_187 rfl (by omega) (m_up_ne (by decide) _) ?_
                refine x_iconst dX8_layMoves_188 ?_
                refine x_ic_ne (tgt := 196) dX8_layMoves_189 (by decide) (by omega) (fun h189 => ?_) (fun h189 => ?_)
                · refine x_iconst dX8_layMoves_196 ?_
                  refine j197 hpe ?_ _ _ rfl ?_
                  · unfold mcd
                    rw [Bool.and_eq_true, Bool.or_eq_true, beq_iff_eq, beq_iff_eq, Bool.not_eq_true']
                    exact ⟨by omega, by rw [← Bool.not_eq_true]; assumption⟩
                  · first | exact (if_pos (by omega)).symm | exact (if_neg (by omega)).symm
                · refine x_iconst dX8_layMoves_192 ?_
                  refine x_goto (tgt := 197) dX8_layMoves_193 (by decide) ?_
                  refine j197 hpe ?_ _ _ rfl ?_
                  · unfold mcd
                    rw [Bool.and_eq_true, Bool.or_eq_true, beq_iff_eq, beq_iff_eq, Bool.not_eq_true']
                    exact ⟨by omega, by rw [← Bool.not_eq_true]; assumption⟩
                  · first | exact (if_pos (by omega)).symm | exact (if_neg (by omega)).symm
          refine x_iload dX8_layMoves_57 7 rfl ?_
          refine x_aload_n dX8_layMoves_59 0 rfl rfl ?_
          refine x_getI dX8_layMoves_60 flX8_183 rfl rfl ?_
          refine x_ic_ge (tgt := 208) dX8_layMoves_63 (by decide) (by omega) (fun h63 => ?_) (fun h63 => ?_)
          · refine x_top (lv' := [(0, _), (1, _), (2, _), (3, _), (4, _), (5, _), (6, _)]) 7 rfl ?_
            rcases hx with hx | hd0
            · exfalso; omega
            subst hd0
            exact exit n J1 _ rfl (by rw [hn, mvl_d (by omega)]) hJ1 hm1 hv1 (by rw [mvl_d (by omega)]; exact hg1)
          · refine x_iload dX8_layMoves_66 4 rfl ?_
            refine x_iconst dX8_layMoves_68 ?_
            refine y_irem dX8_layMoves_69 (by omega) (by omega) ?_
            refine x_if_ne (tgt := 208) dX8_layMoves_70 (by decide) (by omega) (fun h70 => ?_) (fun h70 => ?_)
            · refine x_top (lv' := [(0, _), (1, _), (2, _), (3, _), (4, _), (5, _), (6, _)]) 7 rfl ?_
              rcases hx with hx | hd0
              · exfalso; omega
              subst hd0
              exact exit n J1 _ rfl (by rw [hn, mvl_d (by omega)]) hJ1 hm1 hv1 (by rw [mvl_d (by omega)]; exact hg1)
            · refine x_aload_n dX8_layMoves_73 0 rfl rfl ?_
              refine x_getR dX8_layMoves_74 flX8_29 rfl rfl rfl ?_
              refine x_iconst dX8_layMoves_77 ?_
              refine x_iload dX8_layMoves_78 7 rfl ?_
              refine x_imul dX8_layMoves_80 ?_
              refine x_iald dX8_layMoves_81 rfl (by omega) ?_
              refine x_iload dX8_layMoves_82 5 rfl ?_
              refine x_ic_eq (tgt := 103) dX8_layMoves_84 (by decide) (by omega) (fun h84 => ?_) (fun h84 => ?_)
              · refine x_iconst dX8_layMoves_103 ?_
                refine x_goto (tgt := 108) dX8_layMoves_104 (by decide) ?_
                exact j108 (by omega) _ (by omega)
              · refine x_aload_n dX8_layMoves_87 0 rfl rfl ?_
                refine x_getR dX8_layMoves_88 flX8_29 rfl rfl rfl ?_
                refine x_iconst dX8_layMoves_91 ?_
                refine x_iload dX8_layMoves_92 7 rfl ?_
                refine x_imul dX8_layMoves_94 ?_
                refine x_iconst dX8_layMoves_95 ?_
                refine x_iadd dX8_layMoves_96 ?_
                refine x_iald dX8_layMoves_97 rfl (by omega) ?_
                refine x_iload dX8_layMoves_98 5 rfl ?_
                refine x_ic_ne (tgt := 107) dX8_layMoves_100 (by decide) (by omega) (fun h100 => ?_) (fun h100 => ?_)
                · refine x_iconst dX8_layMoves_107 ?_
                  exact j108 (by omega) _ (by omega)
                · refine x_iconst dX8_layMoves_103 ?_
                  refine x_goto (tgt := 108) dX8_layMoves_104 (by decide) ?_
                  exact j108 (by omega) _ (by omega)
        · intro hx n J1 hn hJ1 hm1 hv1 hg1
          have hnl := mlp_len κ t s k (κ 0 12).toNat
          have j12 : J1 0 12 = κ 0 12 := (h0.tr hJ1.e1).at (by unfold sce per; omega)
          refine x_iload dX8_layMoves_57 7 rfl ?_
          refine x_aload_n dX8_layMoves_59 0 rfl rfl ?_
          refine x_getI dX8_layMoves_60 flX8_183 rfl rfl ?_
          refine x_ic_ge (tgt := 208) dX8_layMoves_63 (by decide) (by omega) (fun h63 => ?_) (fun h63 => ?_)
          · refine x_top (lv' := [(0, _), (1, _), (2, _), (3, _), (4, _), (5, _), (6, _)]) 7 rfl ?_
            refine exit n J1 _ rfl ?_ hJ1 hm1 hv1 ?_
            · by_cases e : pl s k % 2 = 0
              · rw [hn, mvl_u e]
              · rw [hn, mvl_d e, show (κ 0 12).toNat = 0 by omega]
            · by_cases e : pl s k % 2 = 0
              · rw [mvl_u e]; exact hg1
              · rw [mvl_d e]; rw [show (κ 0 12).toNat = 0 by omega] at hg1; exact hg1
          · exfalso; omega
      refine x_iload_n dX8_layMoves_7 3 rfl rfl ?_
      refine x_aload_n dX8_layMoves_8 0 rfl rfl ?_
      refine x_getI dX8_layMoves_9 flX8_240 rfl rfl ?_
      refine x_ic_ge (tgt := 233) dX8_layMoves_12 (by decide) (by omega) (fun h12 => ?_) (fun h12 => ?_)
      · exfalso; omega
      · refine x_iload_n dX8_layMoves_15 2 rfl rfl ?_
        refine x_iload_n dX8_layMoves_16 3 rfl rfl ?_
        refine x_callSi (as := [_, _]) dX8_layMoves_17 lvX8_258 rfl rfl rfl rfl ⟨rfl, rfl⟩ (s_X8_placeOf (by omega) (by omega)) (fun z17 I17 L17 R17 hq17 => ?_)
        obtain ⟨rfl, rfl, rfl, rfl⟩ := hq17
        refine x_istore (lv' := [(0, _), (1, _), (2, _), (3, _), (4, _)]) dX8_layMoves_20 rfl rfl ?_
        refine x_iload dX8_layMoves_22 4 rfl ?_
        refine x_iconst dX8_layMoves_24 ?_
        refine y_idiv dX8_layMoves_25 (by omega) (by omega) ?_
        refine x_istore (lv' := [(0, _), (1, _), (2, _), (3, _), (4, _), (5, _)]) dX8_layMoves_26 rfl rfl ?_
        refine x_aload_n dX8_layMoves_28 0 rfl rfl ?_
        refine x_getR dX8_layMoves_29 flX8_65 rfl rfl rfl ?_
        refine x_bipush dX8_layMoves_32 (by decide) ?_
        refine x_iload_n dX8_layMoves_34 3 rfl rfl ?_
        refine x_imul dX8_layMoves_35 ?_
        refine x_iconst dX8_layMoves_36 ?_
        refine x_iast dX8_layMoves_37 rfl (by omega) ?_
        refine x_aload_n dX8_layMoves_38 0 rfl rfl ?_
        refine x_getR dX8_layMoves_39 flX8_68 rfl rfl rfl ?_
        refine x_bipush dX8_layMoves_42 (by decide) ?_
        refine x_iload_n dX8_layMoves_44 3 rfl rfl ?_
        refine x_imul dX8_layMoves_45 ?_
        refine x_iconst dX8_layMoves_46 ?_
        refine x_iload dX8_layMoves_47 5 rfl ?_
        refine x_imul dX8_layMoves_49 ?_
        refine x_iast dX8_layMoves_50 rfl (by omega) ?_
        refine x_iconst dX8_layMoves_51 ?_
        refine x_istore (lv' := [(0, _), (1, _), (2, _), (3, _), (4, _), (5, _), (6, _)]) dX8_layMoves_52 rfl rfl ?_
        refine x_iconst dX8_layMoves_54 ?_
        refine x_istore (lv' := [(0, _), (1, _), (2, _), (3, _), (4, _), (5, _), (6, _), (7, _)]) dX8_layMoves_55 rfl rfl ?_
        rw [← hr2]
        refine inner 0 (by omega) (Or.inr rfl) 1 _ rfl ?_ ?_ ?_ ?_
        · exact (hJ.up (by unfold scr3; omega)).up (by unfold scr3; omega)
        · rw [m_up_ne (by decide), m_up_ne (by decide)]; exact hm
        · exact hMv_same hll hv (fun j hj => by rw [m_up_ne (by decide), m_up_ne (by decide)]) (fun j hj => ⟨by rw [m_up_ne (by decide), m_up_nj (by omega)], by rw [m_up_nj (by omega), m_up_ne (by decide)]⟩)
        · intro i q hq
          have hi := (List.getElem?_eq_some_iff.mp hq).1
          simp [mlp] at hi
          subst hi
          simp [mlp] at hq
          subst hq
          exact ⟨by rw [m_up_ne (by decide)]; simp [m_up], by simp [m_up]⟩
    · intro J hJ hm hv
      have j34 : J 0 34 = κ 0 34 := (h0.tr hJ.e1).at (by unfold sce per; omega)
      refine x_iload_n dX8_layMoves_7 3 rfl rfl ?_
      refine x_aload_n dX8_layMoves_8 0 rfl rfl ?_
      refine x_getI dX8_layMoves_9 flX8_240 rfl rfl ?_
      refine x_ic_ge (tgt := 233) dX8_layMoves_12 (by decide) (by omega) (fun h12 => ?_) (fun h12 => ?_)
      · refine x_vret dX8_layMoves_233 rfl ?_
        rw [← hQ]
        exact ⟨rfl, rfl, rfl, hJ, h0.tr hJ.e1, hm, hv⟩
      · exfalso; omega
  refine x_aload_n dX8_layMoves_0 0 rfl rfl ?_
  refine x_iconst dX8_layMoves_1 ?_
  refine x_putI dX8_layMoves_2 flX8_270 rfl rfl rfl ?_
  refine x_iconst dX8_layMoves_5 ?_
  refine x_istore_n (lv' := [(0, _), (1, _), (2, _), (3, _)]) dX8_layMoves_6 rfl rfl rfl ?_
  refine outer 0 (by omega) _ ((E3.rf I).up (by unfold scr3; omega)) (by rw [m_up_eq]; rfl) (fun w hw => by omega)
end

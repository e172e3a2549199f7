section
variable {G : GT} {I L : MI} {R : MR} {h : Nat}

theorem s_X0_hasRoom {x : Int} (hh : isH R h) (hx : rI x) (hb : rI (I h 0)) : Sp G mtX0_hasRoom [mr h, mi x] shX I L R (qi (pu (b01 (0 ≤ x ∧ x < I h 0)) I L R)) := by
  refine Sp.of pnX0_hasRoom rfl ?_
  show Rn G mtX0_hasRoom _ 0 [(0, mr h), (1, mi x)] [] shX I L R
  generalize hQ : (qi (pu (b01 (0 ≤ x ∧ x < I h 0)) I L R)) = Q
  refine x_iload_n dX0_hasRoom_0 1 rfl rfl ?_
  refine x_if_lt (tgt := 16) dX0_hasRoom_1 (by decide) (by first | omega | exact z_and_r _ _ | exact z_or_r _ _ | exact z_xor_r _ _) (fun h1 => ?_) (fun h1 => ?_)
  · refine x_iconst dX0_hasRoom_16 ?_
    refine x_zret dX0_hasRoom_17 rfl (by omega) ?_
    rw [← hQ]
    first | exact ⟨_, rfl, b01_t (by omega), rfl, rfl, rfl⟩ | exact ⟨_, rfl, b01_f (by omega), rfl, rfl, rfl⟩
  · refine x_iload_n dX0_hasRoom_4 1 rfl rfl ?_
    refine x_aload_n dX0_hasRoom_5 0 rfl rfl ?_
    refine x_getI dX0_hasRoom_6 flX0_27 (shH0 hh) rfl ?_
    refine x_ic_ge (tgt := 16) dX0_hasRoom_9 (by decide) (by first | omega | exact z_and_r _ _ | exact z_or_r _ _ | exact z_xor_r _ _) (fun h9 => ?_) (fun h9 => ?_)
    · refine x_iconst dX0_hasRoom_16 ?_
      refine x_zret dX0_hasRoom_17 rfl (by omega) ?_
      rw [← hQ]
      first | exact ⟨_, rfl, b01_t (by omega), rfl, rfl, rfl⟩ | exact ⟨_, rfl, b01_f (by omega), rfl, rfl, rfl⟩
    · refine x_iconst dX0_hasRoom_12 ?_
      refine x_goto (tgt := 17) dX0_hasRoom_13 (by decide) ?_
      refine x_zret dX0_hasRoom_17 rfl (by omega) ?_
      rw [← hQ]
      first | exact ⟨_, rfl, b01_t (by omega), rfl, rfl, rfl⟩ | exact ⟨_, rfl, b01_f (by omega), rfl, rfl, rfl⟩
theorem s_X0_hasDoor {x : Int} (hh : isH R h) (hx : rI x) (hb : rI (I h 1)) : Sp G mtX0_hasDoor [mr h, mi x] shX I L R (qi (pu (b01 (0 ≤ x ∧ x < I h 1)) I L R)) := by
  refine Sp.of pnX0_hasDoor rfl ?_
  show Rn G mtX0_hasDoor _ 0 [(0, mr h), (1, mi x)] [] shX I L R
  generalize hQ : (qi (pu (b01 (0 ≤ x ∧ x < I h 1)) I L R)) = Q
  refine x_iload_n dX0_hasDoor_0 1 rfl rfl ?_
  refine x_if_lt (tgt := 16) dX0_hasDoor_1 (by decide) (by first | omega | exact z_and_r _ _ | exact z_or_r _ _ | exact z_xor_r _ _) (fun h1 => ?_) (fun h1 => ?_)
  · refine x_iconst dX0_hasDoor_16 ?_
    refine x_zret dX0_hasDoor_17 rfl (by omega) ?_
    rw [← hQ]
    first | exact ⟨_, rfl, b01_t (by omega), rfl, rfl, rfl⟩ | exact ⟨_, rfl, b01_f (by omega), rfl, rfl, rfl⟩
  · refine x_iload_n dX0_hasDoor_4 1 rfl rfl ?_
    refine x_aload_n dX0_hasDoor_5 0 rfl rfl ?_
    refine x_getI dX0_hasDoor_6 flX0_31 (shH0 hh) rfl ?_
    refine x_ic_ge (tgt := 16) dX0_hasDoor_9 (by decide) (by first | omega | exact z_and_r _ _ | exact z_or_r _ _ | exact z_xor_r _ _) (fun h9 => ?_) (fun h9 => ?_)
    · refine x_iconst dX0_hasDoor_16 ?_
      refine x_zret dX0_hasDoor_17 rfl (by omega) ?_
      rw [← hQ]
      first | exact ⟨_, rfl, b01_t (by omega), rfl, rfl, rfl⟩ | exact ⟨_, rfl, b01_f (by omega), rfl, rfl, rfl⟩
    · refine x_iconst dX0_hasDoor_12 ?_
      refine x_goto (tgt := 17) dX0_hasDoor_13 (by decide) ?_
      refine x_zret dX0_hasDoor_17 rfl (by omega) ?_
      rw [← hQ]
      first | exact ⟨_, rfl, b01_t (by omega), rfl, rfl, rfl⟩ | exact ⟨_, rfl, b01_f (by omega), rfl, rfl, rfl⟩
theorem s_X0_hasWalker {x : Int} (hh : isH R h) (hx : rI x) (hb : rI (I h 2)) : Sp G mtX0_hasWalker [mr h, mi x] shX I L R (qi (pu (b01 (0 ≤ x ∧ x < I h 2)) I L R)) := by
  refine Sp.of pnX0_hasWalker rfl ?_
  show Rn G mtX0_hasWalker _ 0 [(0, mr h), (1, mi x)] [] shX I L R
  generalize hQ : (qi (pu (b01 (0 ≤ x ∧ x < I h 2)) I L R)) = Q
  refine x_iload_n dX0_hasWalker_0 1 rfl rfl ?_
  refine x_if_lt (tgt := 16) dX0_hasWalker_1 (by decide) (by first | omega | exact z_and_r _ _ | exact z_or_r _ _ | exact z_xor_r _ _) (fun h1 => ?_) (fun h1 => ?_)
  · refine x_iconst dX0_hasWalker_16 ?_
    refine x_zret dX0_hasWalker_17 rfl (by omega) ?_
    rw [← hQ]
    first | exact ⟨_, rfl, b01_t (by omega), rfl, rfl, rfl⟩ | exact ⟨_, rfl, b01_f (by omega), rfl, rfl, rfl⟩
  · refine x_iload_n dX0_hasWalker_4 1 rfl rfl ?_
    refine x_aload_n dX0_hasWalker_5 0 rfl rfl ?_
    refine x_getI dX0_hasWalker_6 flX0_34 (shH0 hh) rfl ?_
    refine x_ic_ge (tgt := 16) dX0_hasWalker_9 (by decide) (by first | omega | exact z_and_r _ _ | exact z_or_r _ _ | exact z_xor_r _ _) (fun h9 => ?_) (fun h9 => ?_)
    · refine x_iconst dX0_hasWalker_16 ?_
      refine x_zret dX0_hasWalker_17 rfl (by omega) ?_
      rw [← hQ]
      first | exact ⟨_, rfl, b01_t (by omega), rfl, rfl, rfl⟩ | exact ⟨_, rfl, b01_f (by omega), rfl, rfl, rfl⟩
    · refine x_iconst dX0_hasWalker_12 ?_
      refine x_goto (tgt := 17) dX0_hasWalker_13 (by decide) ?_
      refine x_zret dX0_hasWalker_17 rfl (by omega) ?_
      rw [← hQ]
      first | exact ⟨_, rfl, b01_t (by omega), rfl, rfl, rfl⟩ | exact ⟨_, rfl, b01_f (by omega), rfl, rfl, rfl⟩
theorem s_X0_hasMinute {x : Int} (hh : isH R h) (hx : rI x) (hb : rI (I h 3)) : Sp G mtX0_hasMinute [mr h, mi x] shX I L R (qi (pu (b01 (0 ≤ x ∧ x ≤ I h 3)) I L R)) := by
  refine Sp.of pnX0_hasMinute rfl ?_
  show Rn G mtX0_hasMinute _ 0 [(0, mr h), (1, mi x)] [] shX I L R
  generalize hQ : (qi (pu (b01 (0 ≤ x ∧ x ≤ I h 3)) I L R)) = Q
  refine x_iload_n dX0_hasMinute_0 1 rfl rfl ?_
  refine x_if_lt (tgt := 16) dX0_hasMinute_1 (by decide) (by first | omega | exact z_and_r _ _ | exact z_or_r _ _ | exact z_xor_r _ _) (fun h1 => ?_) (fun h1 => ?_)
  · refine x_iconst dX0_hasMinute_16 ?_
    refine x_zret dX0_hasMinute_17 rfl (by omega) ?_
    rw [← hQ]
    first | exact ⟨_, rfl, b01_t (by omega), rfl, rfl, rfl⟩ | exact ⟨_, rfl, b01_f (by omega), rfl, rfl, rfl⟩
  · refine x_iload_n dX0_hasMinute_4 1 rfl rfl ?_
    refine x_aload_n dX0_hasMinute_5 0 rfl rfl ?_
    refine x_getI dX0_hasMinute_6 flX0_37 (shH0 hh) rfl ?_
    refine x_ic_gt (tgt := 16) dX0_hasMinute_9 (by decide) (by first | omega | exact z_and_r _ _ | exact z_or_r _ _ | exact z_xor_r _ _) (fun h9 => ?_) (fun h9 => ?_)
    · refine x_iconst dX0_hasMinute_16 ?_
      refine x_zret dX0_hasMinute_17 rfl (by omega) ?_
      rw [← hQ]
      first | exact ⟨_, rfl, b01_t (by omega), rfl, rfl, rfl⟩ | exact ⟨_, rfl, b01_f (by omega), rfl, rfl, rfl⟩
    · refine x_iconst dX0_hasMinute_12 ?_
      refine x_goto (tgt := 17) dX0_hasMinute_13 (by decide) ?_
      refine x_zret dX0_hasMinute_17 rfl (by omega) ?_
      rw [← hQ]
      first | exact ⟨_, rfl, b01_t (by omega), rfl, rfl, rfl⟩ | exact ⟨_, rfl, b01_f (by omega), rfl, rfl, rfl⟩
theorem s_X0_hasBoard {d : Int} (hh : isH R h) (hx : rI d) (hb : 0 ≤ I h 1 ∧ I h 1 ≤ 8) : Sp G mtX0_hasBoard [mr h, mi d] shX I L R (qi (pu (b01 ((0 ≤ d ∧ d < I h 1) ∧ tb (I h 4) d.toNat = true)) I L R)) := by
  refine Sp.of pnX0_hasBoard rfl ?_
  show Rn G mtX0_hasBoard _ 0 [(0, mr h), (1, mi d)] [] shX I L R
  generalize hQ : (qi (pu (b01 ((0 ≤ d ∧ d < I h 1) ∧ tb (I h 4) d.toNat = true)) I L R)) = Q
  refine x_aload_n dX0_hasBoard_0 0 rfl rfl ?_
  refine x_iload_n dX0_hasBoard_1 1 rfl rfl ?_
  refine x_callVi (as := [_]) dX0_hasBoard_2 lvX0_52 rfl (shH0 hh) rfl rfl rfl rfl rfl ⟨rfl, rfl⟩ (s_X0_hasDoor hh (by omega) (by omega)) (fun z2 I2 L2 R2 hq2 => ?_)
  obtain ⟨rfl, rfl, rfl, rfl⟩ := hq2
  refine y_ifb_eq (tgt := 23) dX0_hasBoard_5 (by decide) (fun h5 => ?_) (fun h5 => ?_)
  · refine x_iconst dX0_hasBoard_23 ?_
    refine x_zret dX0_hasBoard_24 rfl (by omega) ?_
    rw [← hQ]
    first
    | exact ⟨_, rfl, b01_t ⟨by assumption, b01_ne.mp (by assumption)⟩, rfl, rfl, rfl⟩
    | exact ⟨_, rfl, b01_f (fun q => absurd q.1 (by assumption)), rfl, rfl, rfl⟩
    | exact ⟨_, rfl, b01_f (fun q => absurd q.2 (b01_eq.mp (by assumption))), rfl, rfl, rfl⟩
  · refine x_aload_n dX0_hasBoard_8 0 rfl rfl ?_
    refine x_getI dX0_hasBoard_9 flX0_40 (shH0 hh) rfl ?_
    refine x_iload_n dX0_hasBoard_12 1 rfl rfl ?_
    refine x_ishr dX0_hasBoard_13 ?_
    refine x_iconst dX0_hasBoard_14 ?_
    refine x_iand dX0_hasBoard_15 ?_
    rw [z_bit (by omega)]
    have hbr := b01_r (tb (I h 4) d.toNat = true)
    refine x_if_eq (tgt := 23) dX0_hasBoard_16 (by decide) (by first | omega | exact z_and_r _ _ | exact z_or_r _ _ | exact z_xor_r _ _) (fun h16 => ?_) (fun h16 => ?_)
    · refine x_iconst dX0_hasBoard_23 ?_
      refine x_zret dX0_hasBoard_24 rfl (by omega) ?_
      rw [← hQ]
      first
      | exact ⟨_, rfl, b01_t ⟨by assumption, b01_ne.mp (by assumption)⟩, rfl, rfl, rfl⟩
      | exact ⟨_, rfl, b01_f (fun q => absurd q.1 (by assumption)), rfl, rfl, rfl⟩
      | exact ⟨_, rfl, b01_f (fun q => absurd q.2 (b01_eq.mp (by assumption))), rfl, rfl, rfl⟩
    · refine x_iconst dX0_hasBoard_19 ?_
      refine x_goto (tgt := 24) dX0_hasBoard_20 (by decide) ?_
      refine x_zret dX0_hasBoard_24 rfl (by omega) ?_
      rw [← hQ]
      first
      | exact ⟨_, rfl, b01_t ⟨by assumption, b01_ne.mp (by assumption)⟩, rfl, rfl, rfl⟩
      | exact ⟨_, rfl, b01_f (fun q => absurd q.1 (by assumption)), rfl, rfl, rfl⟩
      | exact ⟨_, rfl, b01_f (fun q => absurd q.2 (b01_eq.mp (by assumption))), rfl, rfl, rfl⟩
theorem s_X0_roomBits  (hh : isH R h) : Sp G mtX0_roomBits [mr h] shX I L R (qi (pu (z_shl 1 (I h 0) - 1) I L R)) := by
  refine Sp.of pnX0_roomBits rfl ?_
  show Rn G mtX0_roomBits _ 0 [(0, mr h)] [] shX I L R
  generalize hQ : (qi (pu (z_shl 1 (I h 0) - 1) I L R)) = Q
  refine x_iconst dX0_roomBits_0 ?_
  refine x_aload_n dX0_roomBits_1 0 rfl rfl ?_
  refine x_getI dX0_roomBits_2 flX0_27 (shH0 hh) rfl ?_
  refine x_ishl dX0_roomBits_5 ?_
  refine x_iconst dX0_roomBits_6 ?_
  refine x_isub dX0_roomBits_7 ?_
  refine x_iret dX0_roomBits_8 rfl ?_
  rw [← hQ]
  exact ⟨_, rfl, rfl, rfl, rfl, rfl⟩
theorem s_X0_doorBits  (hh : isH R h) : Sp G mtX0_doorBits [mr h] shX I L R (qi (pu (z_shl 1 (I h 1) - 1) I L R)) := by
  refine Sp.of pnX0_doorBits rfl ?_
  show Rn G mtX0_doorBits _ 0 [(0, mr h)] [] shX I L R
  generalize hQ : (qi (pu (z_shl 1 (I h 1) - 1) I L R)) = Q
  refine x_iconst dX0_doorBits_0 ?_
  refine x_aload_n dX0_doorBits_1 0 rfl rfl ?_
  refine x_getI dX0_doorBits_2 flX0_31 (shH0 hh) rfl ?_
  refine x_ishl dX0_doorBits_5 ?_
  refine x_iconst dX0_doorBits_6 ?_
  refine x_isub dX0_doorBits_7 ?_
  refine x_iret dX0_doorBits_8 rfl ?_
  rw [← hQ]
  exact ⟨_, rfl, rfl, rfl, rfl, rfl⟩
theorem s_X0_walkerBits  (hh : isH R h) : Sp G mtX0_walkerBits [mr h] shX I L R (qi (pu (z_shl 1 (I h 2) - 1) I L R)) := by
  refine Sp.of pnX0_walkerBits rfl ?_
  show Rn G mtX0_walkerBits _ 0 [(0, mr h)] [] shX I L R
  generalize hQ : (qi (pu (z_shl 1 (I h 2) - 1) I L R)) = Q
  refine x_iconst dX0_walkerBits_0 ?_
  refine x_aload_n dX0_walkerBits_1 0 rfl rfl ?_
  refine x_getI dX0_walkerBits_2 flX0_34 (shH0 hh) rfl ?_
  refine x_ishl dX0_walkerBits_5 ?_
  refine x_iconst dX0_walkerBits_6 ?_
  refine x_isub dX0_walkerBits_7 ?_
  refine x_iret dX0_walkerBits_8 rfl ?_
  rw [← hQ]
  exact ⟨_, rfl, rfl, rfl, rfl, rfl⟩
def alX (I : MI) (h : Nat) (k a b t : Int) : Bool :=
  if k = 1 then decide (((0 ≤ a ∧ a < I h 1) ∧ tb (I h 4) a.toNat = true) ∧ 0 ≤ t ∧ t < I h 3) else if k = 2 then decide ((0 ≤ a ∧ a < I h 0) ∧ 0 ≤ t ∧ t ≤ I h 3)
  else if k = 3 then decide (((0 ≤ a ∧ a < I h 0) ∧ 0 ≤ b ∧ b < I h 2) ∧ 0 ≤ t ∧ t ≤ I h 3) else if k = 4 then decide ((0 ≤ a ∧ a < I h 0) ∧ 0 ≤ t ∧ t ≤ I h 3)
  else if k = 5 then decide (((0 ≤ a ∧ a < I h 1) ∧ 0 ≤ t) ∧ t ≤ b ∧ b < I h 3) else false
theorem s_X0_allows {k a b t : Int} (hh : isH R h) (h1 : rI k) (h2 : rI a) (h3 : rI b) (h4 : rI t) (hb0 : 0 ≤ I h 0 ∧ I h 0 ≤ 6) (hb1 : 0 ≤ I h 1 ∧ I h 1 ≤ 8) (hb2 : 0 ≤ I h 2 ∧ I h 2 ≤ 3) (hb3 : 0 ≤ I h 3 ∧ I h 3 ≤ 30) : Sp G mtX0_allows [mr h, mi k, mi a, mi b, mi t] shX I L R (qi (pu (b01 (alX I h k a b t = true)) I L R)) := by
  refine Sp.of pnX0_allows rfl ?_
  show Rn G mtX0_allows _ 0 [(0, mr h), (1, mi k), (2, mi a), (3, mi b), (4, mi t)] [] shX I L R
  generalize hQ : (qi (pu (b01 (alX I h k a b t = true)) I L R)) = Q
  have hk : k = 1 ∨ k = 2 ∨ k = 3 ∨ k = 4 ∨ k = 5 ∨ (k < 1 ∨ 5 < k) := by omega
  refine x_iload_n dX0_allows_0 1 rfl rfl ?_
  rcases hk with sw1 | sw1 | sw1 | sw1 | sw1 | sw1
  · rw [sw1]
    refine x_tswIn (off := 35) (tgt := 36) dX0_allows_1 (by decide) (by decide) rfl (by decide) ?_
    refine x_aload_n dX0_allows_36 0 rfl rfl ?_
    refine x_iload_n dX0_allows_37 2 rfl rfl ?_
    refine x_callVi (as := [_]) dX0_allows_38 lvX0_56 rfl (shH0 hh) rfl rfl rfl rfl rfl ⟨rfl, rfl⟩ (s_X0_hasBoard hh (by omega) (by omega)) (fun z38 I38 L38 R38 hq38 => ?_)
    obtain ⟨rfl, rfl, rfl, rfl⟩ := hq38
    refine y_ifb_eq (tgt := 62) dX0_allows_41 (by decide) (fun h41 => ?_) (fun h41 => ?_)
    · refine x_iconst dX0_allows_62 ?_
      refine x_zret dX0_allows_63 rfl (by omega) ?_
      rw [← hQ]
      refine ⟨_, rfl, ?_, rfl, rfl, rfl⟩
      unfold alX
      first
      | (rw [if_pos (by omega)]; first | exact b01_t (by rw [decide_eq_true_eq]; first | omega | exact ⟨by assumption, by omega, by omega⟩) | exact b01_f (by rw [decide_eq_true_eq]; rintro ⟨x1, x2⟩; first | omega | contradiction))
      | (rw [if_neg (by omega), if_pos (by omega)]; first | exact b01_t (by rw [decide_eq_true_eq]; first | omega | exact ⟨by assumption, by omega, by omega⟩) | exact b01_f (by rw [decide_eq_true_eq]; rintro ⟨x1, x2⟩; first | omega | contradiction))
      | (rw [if_neg (by omega), if_neg (by omega), if_pos (by omega)]; first | exact b01_t (by rw [decide_eq_true_eq]; first | omega | exact ⟨by assumption, by omega, by omega⟩) | exact b01_f (by rw [decide_eq_true_eq]; rintro ⟨x1, x2⟩; first | omega | contradiction))
      | (rw [if_neg (by omega), if_neg (by omega), if_neg (by omega), if_pos (by omega)]; first | exact b01_t (by rw [decide_eq_true_eq]; first | omega | exact ⟨by assumption, by omega, by omega⟩) | exact b01_f (by rw [decide_eq_true_eq]; rintro ⟨x1, x2⟩; first | omega | contradiction))
      | (rw [if_neg (by omega), if_neg (by omega), if_neg (by omega), if_neg (by omega), if_pos (by omega)]; first | exact b01_t (by rw [decide_eq_true_eq]; first | omega | exact ⟨by assumption, by omega, by omega⟩) | exact b01_f (by rw [decide_eq_true_eq]; rintro ⟨x1, x2⟩; first | omega | contradiction))
      | (rw [if_neg (by omega), if_neg (by omega), if_neg (by omega), if_neg (by omega), if_neg (by omega)]; exact b01_f (by decide))
    · refine x_iload dX0_allows_44 4 rfl ?_
      refine x_if_lt (tgt := 62) dX0_allows_46 (by decide) (by first | omega | exact z_and_r _ _ | exact z_or_r _ _ | exact z_xor_r _ _) (fun h46 => ?_) (fun h46 => ?_)
      · refine x_iconst dX0_allows_62 ?_
        refine x_zret dX0_allows_63 rfl (by omega) ?_
        rw [← hQ]
        refine ⟨_, rfl, ?_, rfl, rfl, rfl⟩
        unfold alX
        first
        | (rw [if_pos (by omega)]; first | exact b01_t (by rw [decide_eq_true_eq]; first | omega | exact ⟨by assumption, by omega, by omega⟩) | exact b01_f (by rw [decide_eq_true_eq]; rintro ⟨x1, x2⟩; first | omega | contradiction))
        | (rw [if_neg (by omega), if_pos (by omega)]; first | exact b01_t (by rw [decide_eq_true_eq]; first | omega | exact ⟨by assumption, by omega, by omega⟩) | exact b01_f (by rw [decide_eq_true_eq]; rintro ⟨x1, x2⟩; first | omega | contradiction))
        | (rw [if_neg (by omega), if_neg (by omega), if_pos (by omega)]; first | exact b01_t (by rw [decide_eq_true_eq]; first | omega | exact ⟨by assumption, by omega, by omega⟩) | exact b01_f (by rw [decide_eq_true_eq]; rintro ⟨x1, x2⟩; first | omega | contradiction))
        | (rw [if_neg (by omega), if_neg (by omega), if_neg (by omega), if_pos (by omega)]; first | exact b01_t (by rw [decide_eq_true_eq]; first | omega | exact ⟨by assumption, by omega, by omega⟩) | exact b01_f (by rw [decide_eq_true_eq]; rintro ⟨x1, x2⟩; first | omega | contradiction))
        | (rw [if_neg (by omega), if_neg (by omega), if_neg (by omega), if_neg (by omega), if_pos (by omega)]; first | exact b01_t (by rw [decide_eq_true_eq]; first | omega | exact ⟨by assumption, by omega, by omega⟩) | exact b01_f (by rw [decide_eq_true_eq]; rintro ⟨x1, x2⟩; first | omega | contradiction))
        | (rw [if_neg (by omega), if_neg (by omega), if_neg (by omega), if_neg (by omega), if_neg (by omega)]; exact b01_f (by decide))
      · refine x_iload dX0_allows_49 4 rfl ?_
        refine x_aload_n dX0_allows_51 0 rfl rfl ?_
        refine x_getI dX0_allows_52 flX0_37 (shH0 hh) rfl ?_
        refine x_ic_ge (tgt := 62) dX0_allows_55 (by decide) (by first | omega | exact z_and_r _ _ | exact z_or_r _ _ | exact z_xor_r _ _) (fun h55 => ?_) (fun h55 => ?_)
        · refine x_iconst dX0_allows_62 ?_
          refine x_zret dX0_allows_63 rfl (by omega) ?_
          rw [← hQ]
          refine ⟨_, rfl, ?_, rfl, rfl, rfl⟩
          unfold alX
          first
          | (rw [if_pos (by omega)]; first | exact b01_t (by rw [decide_eq_true_eq]; first | omega | exact ⟨by assumption, by omega, by omega⟩) | exact b01_f (by rw [decide_eq_true_eq]; rintro ⟨x1, x2⟩; first | omega | contradiction))
          | (rw [if_neg (by omega), if_pos (by omega)]; first | exact b01_t (by rw [decide_eq_true_eq]; first | omega | exact ⟨by assumption, by omega, by omega⟩) | exact b01_f (by rw [decide_eq_true_eq]; rintro ⟨x1, x2⟩; first | omega | contradiction))
          | (rw [if_neg (by omega), if_neg (by omega), if_pos (by omega)]; first | exact b01_t (by rw [decide_eq_true_eq]; first | omega | exact ⟨by assumption, by omega, by omega⟩) | exact b01_f (by rw [decide_eq_true_eq]; rintro ⟨x1, x2⟩; first | omega | contradiction))
          | (rw [if_neg (by omega), if_neg (by omega), if_neg (by omega), if_pos (by omega)]; first | exact b01_t (by rw [decide_eq_true_eq]; first | omega | exact ⟨by assumption, by omega, by omega⟩) | exact b01_f (by rw [decide_eq_true_eq]; rintro ⟨x1, x2⟩; first | omega | contradiction))
          | (rw [if_neg (by omega), if_neg (by omega), if_neg (by omega), if_neg (by omega), if_pos (by omega)]; first | exact b01_t (by rw [decide_eq_true_eq]; first | omega | exact ⟨by assumption, by omega, by omega⟩) | exact b01_f (by rw [decide_eq_true_eq]; rintro ⟨x1, x2⟩; first | omega | contradiction))
          | (rw [if_neg (by omega), if_neg (by omega), if_neg (by omega), if_neg (by omega), if_neg (by omega)]; exact b01_f (by decide))
        · refine x_iconst dX0_allows_58 ?_
          refine x_goto (tgt := 63) dX0_allows_59 (by decide) ?_
          refine x_zret dX0_allows_63 rfl (by omega) ?_
          rw [← hQ]
          refine ⟨_, rfl, ?_, rfl, rfl, rfl⟩
          unfold alX
          first
          | (rw [if_pos (by omega)]; first | exact b01_t (by rw [decide_eq_true_eq]; first | omega | exact ⟨by assumption, by omega, by omega⟩) | exact b01_f (by rw [decide_eq_true_eq]; rintro ⟨x1, x2⟩; first | omega | contradiction))
          | (rw [if_neg (by omega), if_pos (by omega)]; first | exact b01_t (by rw [decide_eq_true_eq]; first | omega | exact ⟨by assumption, by omega, by omega⟩) | exact b01_f (by rw [decide_eq_true_eq]; rintro ⟨x1, x2⟩; first | omega | contradiction))
          | (rw [if_neg (by omega), if_neg (by omega), if_pos (by omega)]; first | exact b01_t (by rw [decide_eq_true_eq]; first | omega | exact ⟨by assumption, by omega, by omega⟩) | exact b01_f (by rw [decide_eq_true_eq]; rintro ⟨x1, x2⟩; first | omega | contradiction))
          | (rw [if_neg (by omega), if_neg (by omega), if_neg (by omega), if_pos (by omega)]; first | exact b01_t (by rw [decide_eq_true_eq]; first | omega | exact ⟨by assumption, by omega, by omega⟩) | exact b01_f (by rw [decide_eq_true_eq]; rintro ⟨x1, x2⟩; first | omega | contradiction))
          | (rw [if_neg (by omega), if_neg (by omega), if_neg (by omega), if_neg (by omega), if_pos (by omega)]; first | exact b01_t (by rw [decide_eq_true_eq]; first | omega | exact ⟨by assumption, by omega, by omega⟩) | exact b01_f (by rw [decide_eq_true_eq]; rintro ⟨x1, x2⟩; first | omega | contradiction))
          | (rw [if_neg (by omega), if_neg (by omega), if_neg (by omega), if_neg (by omega), if_neg (by omega)]; exact b01_f (by decide))
  · rw [sw1]
    refine x_tswIn (off := 63) (tgt := 64) dX0_allows_1 (by decide) (by decide) rfl (by decide) ?_
    refine x_aload_n dX0_allows_64 0 rfl rfl ?_
    refine x_iload_n dX0_allows_65 2 rfl rfl ?_
    refine x_callVi (as := [_]) dX0_allows_66 lvX0_59 rfl (shH0 hh) rfl rfl rfl rfl rfl ⟨rfl, rfl⟩ (s_X0_hasRoom hh (by omega) (by omega)) (fun z66 I66 L66 R66 hq66 => ?_)
    obtain ⟨rfl, rfl, rfl, rfl⟩ := hq66
    refine y_ifb_eq (tgt := 85) dX0_allows_69 (by decide) (fun h69 => ?_) (fun h69 => ?_)
    · refine x_iconst dX0_allows_85 ?_
      refine x_zret dX0_allows_86 rfl (by omega) ?_
      rw [← hQ]
      refine ⟨_, rfl, ?_, rfl, rfl, rfl⟩
      unfold alX
      first
      | (rw [if_pos (by omega)]; first | exact b01_t (by rw [decide_eq_true_eq]; first | omega | exact ⟨by assumption, by omega, by omega⟩) | exact b01_f (by rw [decide_eq_true_eq]; rintro ⟨x1, x2⟩; first | omega | contradiction))
      | (rw [if_neg (by omega), if_pos (by omega)]; first | exact b01_t (by rw [decide_eq_true_eq]; first | omega | exact ⟨by assumption, by omega, by omega⟩) | exact b01_f (by rw [decide_eq_true_eq]; rintro ⟨x1, x2⟩; first | omega | contradiction))
      | (rw [if_neg (by omega), if_neg (by omega), if_pos (by omega)]; first | exact b01_t (by rw [decide_eq_true_eq]; first | omega | exact ⟨by assumption, by omega, by omega⟩) | exact b01_f (by rw [decide_eq_true_eq]; rintro ⟨x1, x2⟩; first | omega | contradiction))
      | (rw [if_neg (by omega), if_neg (by omega), if_neg (by omega), if_pos (by omega)]; first | exact b01_t (by rw [decide_eq_true_eq]; first | omega | exact ⟨by assumption, by omega, by omega⟩) | exact b01_f (by rw [decide_eq_true_eq]; rintro ⟨x1, x2⟩; first | omega | contradiction))
      | (rw [if_neg (by omega), if_neg (by omega), if_neg (by omega), if_neg (by omega), if_pos (by omega)]; first | exact b01_t (by rw [decide_eq_true_eq]; first | omega | exact ⟨by assumption, by omega, by omega⟩) | exact b01_f (by rw [decide_eq_true_eq]; rintro ⟨x1, x2⟩; first | omega | contradiction))
      | (rw [if_neg (by omega), if_neg (by omega), if_neg (by omega), if_neg (by omega), if_neg (by omega)]; exact b01_f (by decide))
    · refine x_aload_n dX0_allows_72 0 rfl rfl ?_
      refine x_iload dX0_allows_73 4 rfl ?_
      refine x_callVi (as := [_]) dX0_allows_75 lvX0_62 rfl (shH0 hh) rfl rfl rfl rfl rfl ⟨rfl, rfl⟩ (s_X0_hasMinute hh (by omega) (by omega)) (fun z75 I75 L75 R75 hq75 => ?_)
      obtain ⟨rfl, rfl, rfl, rfl⟩ := hq75
      refine y_ifb_eq (tgt := 85) dX0_allows_78 (by decide) (fun h78 => ?_) (fun h78 => ?_)
      · refine x_iconst dX0_allows_85 ?_
        refine x_zret dX0_allows_86 rfl (by omega) ?_
        rw [← hQ]
        refine ⟨_, rfl, ?_, rfl, rfl, rfl⟩
        unfold alX
        first
        | (rw [if_pos (by omega)]; first | exact b01_t (by rw [decide_eq_true_eq]; first | omega | exact ⟨by assumption, by omega, by omega⟩) | exact b01_f (by rw [decide_eq_true_eq]; rintro ⟨x1, x2⟩; first | omega | contradiction))
        | (rw [if_neg (by omega), if_pos (by omega)]; first | exact b01_t (by rw [decide_eq_true_eq]; first | omega | exact ⟨by assumption, by omega, by omega⟩) | exact b01_f (by rw [decide_eq_true_eq]; rintro ⟨x1, x2⟩; first | omega | contradiction))
        | (rw [if_neg (by omega), if_neg (by omega), if_pos (by omega)]; first | exact b01_t (by rw [decide_eq_true_eq]; first | omega | exact ⟨by assumption, by omega, by omega⟩) | exact b01_f (by rw [decide_eq_true_eq]; rintro ⟨x1, x2⟩; first | omega | contradiction))
        | (rw [if_neg (by omega), if_neg (by omega), if_neg (by omega), if_pos (by omega)]; first | exact b01_t (by rw [decide_eq_true_eq]; first | omega | exact ⟨by assumption, by omega, by omega⟩) | exact b01_f (by rw [decide_eq_true_eq]; rintro ⟨x1, x2⟩; first | omega | contradiction))
        | (rw [if_neg (by omega), if_neg (by omega), if_neg (by omega), if_neg (by omega), if_pos (by omega)]; first | exact b01_t (by rw [decide_eq_true_eq]; first | omega | exact ⟨by assumption, by omega, by omega⟩) | exact b01_f (by rw [decide_eq_true_eq]; rintro ⟨x1, x2⟩; first | omega | contradiction))
        | (rw [if_neg (by omega), if_neg (by omega), if_neg (by omega), if_neg (by omega), if_neg (by omega)]; exact b01_f (by decide))
      · refine x_iconst dX0_allows_81 ?_
        refine x_goto (tgt := 86) dX0_allows_82 (by decide) ?_
        refine x_zret dX0_allows_86 rfl (by omega) ?_
        rw [← hQ]
        refine ⟨_, rfl, ?_, rfl, rfl, rfl⟩
        unfold alX
        first
        | (rw [if_pos (by omega)]; first | exact b01_t (by rw [decide_eq_true_eq]; first | omega | exact ⟨by assumption, by omega, by omega⟩) | exact b01_f (by rw [decide_eq_true_eq]; rintro ⟨x1, x2⟩; first | omega | contradiction))
        | (rw [if_neg (by omega), if_pos (by omega)]; first | exact b01_t (by rw [decide_eq_true_eq]; first | omega | exact ⟨by assumption, by omega, by omega⟩) | exact b01_f (by rw [decide_eq_true_eq]; rintro ⟨x1, x2⟩; first | omega | contradiction))
        | (rw [if_neg (by omega), if_neg (by omega), if_pos (by omega)]; first | exact b01_t (by rw [decide_eq_true_eq]; first | omega | exact ⟨by assumption, by omega, by omega⟩) | exact b01_f (by rw [decide_eq_true_eq]; rintro ⟨x1, x2⟩; first | omega | contradiction))
        | (rw [if_neg (by omega), if_neg (by omega), if_neg (by omega), if_pos (by omega)]; first | exact b01_t (by rw [decide_eq_true_eq]; first | omega | exact ⟨by assumption, by omega, by omega⟩) | exact b01_f (by rw [decide_eq_true_eq]; rintro ⟨x1, x2⟩; first | omega | contradiction))
        | (rw [if_neg (by omega), if_neg (by omega), if_neg (by omega), if_neg (by omega), if_pos (by omega)]; first | exact b01_t (by rw [decide_eq_true_eq]; first | omega | exact ⟨by assumption, by omega, by omega⟩) | exact b01_f (by rw [decide_eq_true_eq]; rintro ⟨x1, x2⟩; first | omega | contradiction))
        | (rw [if_neg (by omega), if_neg (by omega), if_neg (by omega), if_neg (by omega), if_neg (by omega)]; exact b01_f (by decide))
  · rw [sw1]
    refine x_tswIn (off := 86) (tgt := 87) dX0_allows_1 (by decide) (by decide) rfl (by decide) ?_
    refine x_aload_n dX0_allows_87 0 rfl rfl ?_
    refine x_iload_n dX0_allows_88 2 rfl rfl ?_
    refine x_callVi (as := [_]) dX0_allows_89 lvX0_59 rfl (shH0 hh) rfl rfl rfl rfl rfl ⟨rfl, rfl⟩ (s_X0_hasRoom hh (by omega) (by omega)) (fun z89 I89 L89 R89 hq89 => ?_)
    obtain ⟨rfl, rfl, rfl, rfl⟩ := hq89
    refine y_ifb_eq (tgt := 116) dX0_allows_92 (by decide) (fun h92 => ?_) (fun h92 => ?_)
    · refine x_iconst dX0_allows_116 ?_
      refine x_zret dX0_allows_117 rfl (by omega) ?_
      rw [← hQ]
      refine ⟨_, rfl, ?_, rfl, rfl, rfl⟩
      unfold alX
      first
      | (rw [if_pos (by omega)]; first | exact b01_t (by rw [decide_eq_true_eq]; first | omega | exact ⟨by assumption, by omega, by omega⟩) | exact b01_f (by rw [decide_eq_true_eq]; rintro ⟨x1, x2⟩; first | omega | contradiction))
      | (rw [if_neg (by omega), if_pos (by omega)]; first | exact b01_t (by rw [decide_eq_true_eq]; first | omega | exact ⟨by assumption, by omega, by omega⟩) | exact b01_f (by rw [decide_eq_true_eq]; rintro ⟨x1, x2⟩; first | omega | contradiction))
      | (rw [if_neg (by omega), if_neg (by omega), if_pos (by omega)]; first | exact b01_t (by rw [decide_eq_true_eq]; first | omega | exact ⟨by assumption, by omega, by omega⟩) | exact b01_f (by rw [decide_eq_true_eq]; rintro ⟨x1, x2⟩; first | omega | contradiction))
      | (rw [if_neg (by omega), if_neg (by omega), if_neg (by omega), if_pos (by omega)]; first | exact b01_t (by rw [decide_eq_true_eq]; first | omega | exact ⟨by assumption, by omega, by omega⟩) | exact b01_f (by rw [decide_eq_true_eq]; rintro ⟨x1, x2⟩; first | omega | contradiction))
      | (rw [if_neg (by omega), if_neg (by omega), if_neg (by omega), if_neg (by omega), if_pos (by omega)]; first | exact b01_t (by rw [decide_eq_true_eq]; first | omega | exact ⟨by assumption, by omega, by omega⟩) | exact b01_f (by rw [decide_eq_true_eq]; rintro ⟨x1, x2⟩; first | omega | contradiction))
      | (rw [if_neg (by omega), if_neg (by omega), if_neg (by omega), if_neg (by omega), if_neg (by omega)]; exact b01_f (by decide))
    · refine x_aload_n dX0_allows_95 0 rfl rfl ?_
      refine x_iload_n dX0_allows_96 3 rfl rfl ?_
      refine x_callVi (as := [_]) dX0_allows_97 lvX0_65 rfl (shH0 hh) rfl rfl rfl rfl rfl ⟨rfl, rfl⟩ (s_X0_hasWalker hh (by omega) (by omega)) (fun z97 I97 L97 R97 hq97 => ?_)
      obtain ⟨rfl, rfl, rfl, rfl⟩ := hq97
      refine y_ifb_eq (tgt := 116) dX0_allows_100 (by decide) (fun h100 => ?_) (fun h100 => ?_)
      · refine x_iconst dX0_allows_116 ?_
        refine x_zret dX0_allows_117 rfl (by omega) ?_
        rw [← hQ]
        refine ⟨_, rfl, ?_, rfl, rfl, rfl⟩
        unfold alX
        first
        | (rw [if_pos (by omega)]; first | exact b01_t (by rw [decide_eq_true_eq]; first | omega | exact ⟨by assumption, by omega, by omega⟩) | exact b01_f (by rw [decide_eq_true_eq]; rintro ⟨x1, x2⟩; first | omega | contradiction))
        | (rw [if_neg (by omega), if_pos (by omega)]; first | exact b01_t (by rw [decide_eq_true_eq]; first | omega | exact ⟨by assumption, by omega, by omega⟩) | exact b01_f (by rw [decide_eq_true_eq]; rintro ⟨x1, x2⟩; first | omega | contradiction))
        | (rw [if_neg (by omega), if_neg (by omega), if_pos (by omega)]; first | exact b01_t (by rw [decide_eq_true_eq]; first | omega | exact ⟨by assumption, by omega, by omega⟩) | exact b01_f (by rw [decide_eq_true_eq]; rintro ⟨x1, x2⟩; first | omega | contradiction))
        | (rw [if_neg (by omega), if_neg (by omega), if_neg (by omega), if_pos (by omega)]; first | exact b01_t (by rw [decide_eq_true_eq]; first | omega | exact ⟨by assumption, by omega, by omega⟩) | exact b01_f (by rw [decide_eq_true_eq]; rintro ⟨x1, x2⟩; first | omega | contradiction))
        | (rw [if_neg (by omega), if_neg (by omega), if_neg (by omega), if_neg (by omega), if_pos (by omega)]; first | exact b01_t (by rw [decide_eq_true_eq]; first | omega | exact ⟨by assumption, by omega, by omega⟩) | exact b01_f (by rw [decide_eq_true_eq]; rintro ⟨x1, x2⟩; first | omega | contradiction))
        | (rw [if_neg (by omega), if_neg (by omega), if_neg (by omega), if_neg (by omega), if_neg (by omega)]; exact b01_f (by decide))
      · refine x_aload_n dX0_allows_103 0 rfl rfl ?_
        refine x_iload dX0_allows_104 4 rfl ?_
        refine x_callVi (as := [_]) dX0_allows_106 lvX0_62 rfl (shH0 hh) rfl rfl rfl rfl rfl ⟨rfl, rfl⟩ (s_X0_hasMinute hh (by omega) (by omega)) (fun z106 I106 L106 R106 hq106 => ?_)
        obtain ⟨rfl, rfl, rfl, rfl⟩ := hq106
        refine y_ifb_eq (tgt := 116) dX0_allows_109 (by decide) (fun h109 => ?_) (fun h109 => ?_)
        · refine x_iconst dX0_allows_116 ?_
          refine x_zret dX0_allows_117 rfl (by omega) ?_
          rw [← hQ]
          refine ⟨_, rfl, ?_, rfl, rfl, rfl⟩
          unfold alX
          first
          | (rw [if_pos (by omega)]; first | exact b01_t (by rw [decide_eq_true_eq]; first | omega | exact ⟨by assumption, by omega, by omega⟩) | exact b01_f (by rw [decide_eq_true_eq]; rintro ⟨x1, x2⟩; first | omega | contradiction))
          | (rw [if_neg (by omega), if_pos (by omega)]; first | exact b01_t (by rw [decide_eq_true_eq]; first | omega | exact ⟨by assumption, by omega, by omega⟩) | exact b01_f (by rw [decide_eq_true_eq]; rintro ⟨x1, x2⟩; first | omega | contradiction))
          | (rw [if_neg (by omega), if_neg (by omega), if_pos (by omega)]; first | exact b01_t (by rw [decide_eq_true_eq]; first | omega | exact ⟨by assumption, by omega, by omega⟩) | exact b01_f (by rw [decide_eq_true_eq]; rintro ⟨x1, x2⟩; first | omega | contradiction))
          | (rw [if_neg (by omega), if_neg (by omega), if_neg (by omega), if_pos (by omega)]; first | exact b01_t (by rw [decide_eq_true_eq]; first | omega | exact ⟨by assumption, by omega, by omega⟩) | exact b01_f (by rw [decide_eq_true_eq]; rintro ⟨x1, x2⟩; first | omega | contradiction))
          | (rw [if_neg (by omega), if_neg (by omega), if_neg (by omega), if_neg (by omega), if_pos (by omega)]; first | exact b01_t (by rw [decide_eq_true_eq]; first | omega | exact ⟨by assumption, by omega, by omega⟩) | exact b01_f (by rw [decide_eq_true_eq]; rintro ⟨x1, x2⟩; first | omega | contradiction))
          | (rw [if_neg (by omega), if_neg (by omega), if_neg (by omega), if_neg (by omega), if_neg (by omega)]; exact b01_f (by decide))
        · refine x_iconst dX0_allows_112 ?_
          refine x_goto (tgt := 117) dX0_allows_113 (by decide) ?_
          refine x_zret dX0_allows_117 rfl (by omega) ?_
          rw [← hQ]
          refine ⟨_, rfl, ?_, rfl, rfl, rfl⟩
          unfold alX
          first
          | (rw [if_pos (by omega)]; first | exact b01_t (by rw [decide_eq_true_eq]; first | omega | exact ⟨by assumption, by omega, by omega⟩) | exact b01_f (by rw [decide_eq_true_eq]; rintro ⟨x1, x2⟩; first | omega | contradiction))
          | (rw [if_neg (by omega), if_pos (by omega)]; first | exact b01_t (by rw [decide_eq_true_eq]; first | omega | exact ⟨by assumption, by omega, by omega⟩) | exact b01_f (by rw [decide_eq_true_eq]; rintro ⟨x1, x2⟩; first | omega | contradiction))
          | (rw [if_neg (by omega), if_neg (by omega), if_pos (by omega)]; first | exact b01_t (by rw [decide_eq_true_eq]; first | omega | exact ⟨by assumption, by omega, by omega⟩) | exact b01_f (by rw [decide_eq_true_eq]; rintro ⟨x1, x2⟩; first | omega | contradiction))
          | (rw [if_neg (by omega), if_neg (by omega), if_neg (by omega), if_pos (by omega)]; first | exact b01_t (by rw [decide_eq_true_eq]; first | omega | exact ⟨by assumption, by omega, by omega⟩) | exact b01_f (by rw [decide_eq_true_eq]; rintro ⟨x1, x2⟩; first | omega | contradiction))
          | (rw [if_neg (by omega), if_neg (by omega), if_neg (by omega), if_neg (by omega), if_pos (by omega)]; first | exact b01_t (by rw [decide_eq_true_eq]; first | omega | exact ⟨by assumption, by omega, by omega⟩) | exact b01_f (by rw [decide_eq_true_eq]; rintro ⟨x1, x2⟩; first | omega | contradiction))
          | (rw [if_neg (by omega), if_neg (by omega), if_neg (by omega), if_neg (by omega), if_neg (by omega)]; exact b01_f (by decide))
  · rw [sw1]
    refine x_tswIn (off := 117) (tgt := 118) dX0_allows_1 (by decide) (by decide) rfl (by decide) ?_
    refine x_aload_n dX0_allows_118 0 rfl rfl ?_
    refine x_iload_n dX0_allows_119 2 rfl rfl ?_
    refine x_callVi (as := [_]) dX0_allows_120 lvX0_59 rfl (shH0 hh) rfl rfl rfl rfl rfl ⟨rfl, rfl⟩ (s_X0_hasRoom hh (by omega) (by omega)) (fun z120 I120 L120 R120 hq120 => ?_)
    obtain ⟨rfl, rfl, rfl, rfl⟩ := hq120
    refine y_ifb_eq (tgt := 139) dX0_allows_123 (by decide) (fun h123 => ?_) (fun h123 => ?_)
    · refine x_iconst dX0_allows_139 ?_
      refine x_zret dX0_allows_140 rfl (by omega) ?_
      rw [← hQ]
      refine ⟨_, rfl, ?_, rfl, rfl, rfl⟩
      unfold alX
      first
      | (rw [if_pos (by omega)]; first | exact b01_t (by rw [decide_eq_true_eq]; first | omega | exact ⟨by assumption, by omega, by omega⟩) | exact b01_f (by rw [decide_eq_true_eq]; rintro ⟨x1, x2⟩; first | omega | contradiction))
      | (rw [if_neg (by omega), if_pos (by omega)]; first | exact b01_t (by rw [decide_eq_true_eq]; first | omega | exact ⟨by assumption, by omega, by omega⟩) | exact b01_f (by rw [decide_eq_true_eq]; rintro ⟨x1, x2⟩; first | omega | contradiction))
      | (rw [if_neg (by omega), if_neg (by omega), if_pos (by omega)]; first | exact b01_t (by rw [decide_eq_true_eq]; first | omega | exact ⟨by assumption, by omega, by omega⟩) | exact b01_f (by rw [decide_eq_true_eq]; rintro ⟨x1, x2⟩; first | omega | contradiction))
      | (rw [if_neg (by omega), if_neg (by omega), if_neg (by omega), if_pos (by omega)]; first | exact b01_t (by rw [decide_eq_true_eq]; first | omega | exact ⟨by assumption, by omega, by omega⟩) | exact b01_f (by rw [decide_eq_true_eq]; rintro ⟨x1, x2⟩; first | omega | contradiction))
      | (rw [if_neg (by omega), if_neg (by omega), if_neg (by omega), if_neg (by omega), if_pos (by omega)]; first | exact b01_t (by rw [decide_eq_true_eq]; first | omega | exact ⟨by assumption, by omega, by omega⟩) | exact b01_f (by rw [decide_eq_true_eq]; rintro ⟨x1, x2⟩; first | omega | contradiction))
      | (rw [if_neg (by omega), if_neg (by omega), if_neg (by omega), if_neg (by omega), if_neg (by omega)]; exact b01_f (by decide))
    · refine x_aload_n dX0_allows_126 0 rfl rfl ?_
      refine x_iload dX0_allows_127 4 rfl ?_
      refine x_callVi (as := [_]) dX0_allows_129 lvX0_62 rfl (shH0 hh) rfl rfl rfl rfl rfl ⟨rfl, rfl⟩ (s_X0_hasMinute hh (by omega) (by omega)) (fun z129 I129 L129 R129 hq129 => ?_)
      obtain ⟨rfl, rfl, rfl, rfl⟩ := hq129
      refine y_ifb_eq (tgt := 139) dX0_allows_132 (by decide) (fun h132 => ?_) (fun h132 => ?_)
      · refine x_iconst dX0_allows_139 ?_
        refine x_zret dX0_allows_140 rfl (by omega) ?_
        rw [← hQ]
        refine ⟨_, rfl, ?_, rfl, rfl, rfl⟩
        unfold alX
        first
        | (rw [if_pos (by omega)]; first | exact b01_t (by rw [decide_eq_true_eq]; first | omega | exact ⟨by assumption, by omega, by omega⟩) | exact b01_f (by rw [decide_eq_true_eq]; rintro ⟨x1, x2⟩; first | omega | contradiction))
        | (rw [if_neg (by omega), if_pos (by omega)]; first | exact b01_t (by rw [decide_eq_true_eq]; first | omega | exact ⟨by assumption, by omega, by omega⟩) | exact b01_f (by rw [decide_eq_true_eq]; rintro ⟨x1, x2⟩; first | omega | contradiction))
        | (rw [if_neg (by omega), if_neg (by omega), if_pos (by omega)]; first | exact b01_t (by rw [decide_eq_true_eq]; first | omega | exact ⟨by assumption, by omega, by omega⟩) | exact b01_f (by rw [decide_eq_true_eq]; rintro ⟨x1, x2⟩; first | omega | contradiction))
        | (rw [if_neg (by omega), if_neg (by omega), if_neg (by omega), if_pos (by omega)]; first | exact b01_t (by rw [decide_eq_true_eq]; first | omega | exact ⟨by assumption, by omega, by omega⟩) | exact b01_f (by rw [decide_eq_true_eq]; rintro ⟨x1, x2⟩; first | omega | contradiction))
        | (rw [if_neg (by omega), if_neg (by omega), if_neg (by omega), if_neg (by omega), if_pos (by omega)]; first | exact b01_t (by rw [decide_eq_true_eq]; first | omega | exact ⟨by assumption, by omega, by omega⟩) | exact b01_f (by rw [decide_eq_true_eq]; rintro ⟨x1, x2⟩; first | omega | contradiction))
        | (rw [if_neg (by omega), if_neg (by omega), if_neg (by omega), if_neg (by omega), if_neg (by omega)]; exact b01_f (by decide))
      · refine x_iconst dX0_allows_135 ?_
        refine x_goto (tgt := 140) dX0_allows_136 (by decide) ?_
        refine x_zret dX0_allows_140 rfl (by omega) ?_
        rw [← hQ]
        refine ⟨_, rfl, ?_, rfl, rfl, rfl⟩
        unfold alX
        first
        | (rw [if_pos (by omega)]; first | exact b01_t (by rw [decide_eq_true_eq]; first | omega | exact ⟨by assumption, by omega, by omega⟩) | exact b01_f (by rw [decide_eq_true_eq]; rintro ⟨x1, x2⟩; first | omega | contradiction))
        | (rw [if_neg (by omega), if_pos (by omega)]; first | exact b01_t (by rw [decide_eq_true_eq]; first | omega | exact ⟨by assumption, by omega, by omega⟩) | exact b01_f (by rw [decide_eq_true_eq]; rintro ⟨x1, x2⟩; first | omega | contradiction))
        | (rw [if_neg (by omega), if_neg (by omega), if_pos (by omega)]; first | exact b01_t (by rw [decide_eq_true_eq]; first | omega | exact ⟨by assumption, by omega, by omega⟩) | exact b01_f (by rw [decide_eq_true_eq]; rintro ⟨x1, x2⟩; first | omega | contradiction))
        | (rw [if_neg (by omega), if_neg (by omega), if_neg (by omega), if_pos (by omega)]; first | exact b01_t (by rw [decide_eq_true_eq]; first | omega | exact ⟨by assumption, by omega, by omega⟩) | exact b01_f (by rw [decide_eq_true_eq]; rintro ⟨x1, x2⟩; first | omega | contradiction))
        | (rw [if_neg (by omega), if_neg (by omega), if_neg (by omega), if_neg (by omega), if_pos (by omega)]; first | exact b01_t (by rw [decide_eq_true_eq]; first | omega | exact ⟨by assumption, by omega, by omega⟩) | exact b01_f (by rw [decide_eq_true_eq]; rintro ⟨x1, x2⟩; first | omega | contradiction))
        | (rw [if_neg (by omega), if_neg (by omega), if_neg (by omega), if_neg (by omega), if_neg (by omega)]; exact b01_f (by decide))
  · rw [sw1]
    refine x_tswIn (off := 140) (tgt := 141) dX0_allows_1 (by decide) (by decide) rfl (by decide) ?_
    refine x_aload_n dX0_allows_141 0 rfl rfl ?_
    refine x_iload_n dX0_allows_142 2 rfl rfl ?_
    refine x_callVi (as := [_]) dX0_allows_143 lvX0_52 rfl (shH0 hh) rfl rfl rfl rfl rfl ⟨rfl, rfl⟩ (s_X0_hasDoor hh (by omega) (by omega)) (fun z143 I143 L143 R143 hq143 => ?_)
    obtain ⟨rfl, rfl, rfl, rfl⟩ := hq143
    refine y_ifb_eq (tgt := 172) dX0_allows_146 (by decide) (fun h146 => ?_) (fun h146 => ?_)
    · refine x_iconst dX0_allows_172 ?_
      refine x_zret dX0_allows_173 rfl (by omega) ?_
      rw [← hQ]
      refine ⟨_, rfl, ?_, rfl, rfl, rfl⟩
      unfold alX
      first
      | (rw [if_pos (by omega)]; first | exact b01_t (by rw [decide_eq_true_eq]; first | omega | exact ⟨by assumption, by omega, by omega⟩) | exact b01_f (by rw [decide_eq_true_eq]; rintro ⟨x1, x2⟩; first | omega | contradiction))
      | (rw [if_neg (by omega), if_pos (by omega)]; first | exact b01_t (by rw [decide_eq_true_eq]; first | omega | exact ⟨by assumption, by omega, by omega⟩) | exact b01_f (by rw [decide_eq_true_eq]; rintro ⟨x1, x2⟩; first | omega | contradiction))
      | (rw [if_neg (by omega), if_neg (by omega), if_pos (by omega)]; first | exact b01_t (by rw [decide_eq_true_eq]; first | omega | exact ⟨by assumption, by omega, by omega⟩) | exact b01_f (by rw [decide_eq_true_eq]; rintro ⟨x1, x2⟩; first | omega | contradiction))
      | (rw [if_neg (by omega), if_neg (by omega), if_neg (by omega), if_pos (by omega)]; first | exact b01_t (by rw [decide_eq_true_eq]; first | omega | exact ⟨by assumption, by omega, by omega⟩) | exact b01_f (by rw [decide_eq_true_eq]; rintro ⟨x1, x2⟩; first | omega | contradiction))
      | (rw [if_neg (by omega), if_neg (by omega), if_neg (by omega), if_neg (by omega), if_pos (by omega)]; first | exact b01_t (by rw [decide_eq_true_eq]; first | omega | exact ⟨by assumption, by omega, by omega⟩) | exact b01_f (by rw [decide_eq_true_eq]; rintro ⟨x1, x2⟩; first | omega | contradiction))
      | (rw [if_neg (by omega), if_neg (by omega), if_neg (by omega), if_neg (by omega), if_neg (by omega)]; exact b01_f (by decide))
    · refine x_iload dX0_allows_149 4 rfl ?_
      refine x_if_lt (tgt := 172) dX0_allows_151 (by decide) (by first | omega | exact z_and_r _ _ | exact z_or_r _ _ | exact z_xor_r _ _) (fun h151 => ?_) (fun h151 => ?_)
      · refine x_iconst dX0_allows_172 ?_
        refine x_zret dX0_allows_173 rfl (by omega) ?_
        rw [← hQ]
        refine ⟨_, rfl, ?_, rfl, rfl, rfl⟩
        unfold alX
        first
        | (rw [if_pos (by omega)]; first | exact b01_t (by rw [decide_eq_true_eq]; first | omega | exact ⟨by assumption, by omega, by omega⟩) | exact b01_f (by rw [decide_eq_true_eq]; rintro ⟨x1, x2⟩; first | omega | contradiction))
        | (rw [if_neg (by omega), if_pos (by omega)]; first | exact b01_t (by rw [decide_eq_true_eq]; first | omega | exact ⟨by assumption, by omega, by omega⟩) | exact b01_f (by rw [decide_eq_true_eq]; rintro ⟨x1, x2⟩; first | omega | contradiction))
        | (rw [if_neg (by omega), if_neg (by omega), if_pos (by omega)]; first | exact b01_t (by rw [decide_eq_true_eq]; first | omega | exact ⟨by assumption, by omega, by omega⟩) | exact b01_f (by rw [decide_eq_true_eq]; rintro ⟨x1, x2⟩; first | omega | contradiction))
        | (rw [if_neg (by omega), if_neg (by omega), if_neg (by omega), if_pos (by omega)]; first | exact b01_t (by rw [decide_eq_true_eq]; first | omega | exact ⟨by assumption, by omega, by omega⟩) | exact b01_f (by rw [decide_eq_true_eq]; rintro ⟨x1, x2⟩; first | omega | contradiction))
        | (rw [if_neg (by omega), if_neg (by omega), if_neg (by omega), if_neg (by omega), if_pos (by omega)]; first | exact b01_t (by rw [decide_eq_true_eq]; first | omega | exact ⟨by assumption, by omega, by omega⟩) | exact b01_f (by rw [decide_eq_true_eq]; rintro ⟨x1, x2⟩; first | omega | contradiction))
        | (rw [if_neg (by omega), if_neg (by omega), if_neg (by omega), if_neg (by omega), if_neg (by omega)]; exact b01_f (by decide))
      · refine x_iload_n dX0_allows_154 3 rfl rfl ?_
        refine x_iload dX0_allows_155 4 rfl ?_
        refine x_ic_lt (tgt := 172) dX0_allows_157 (by decide) (by first | omega | exact z_and_r _ _ | exact z_or_r _ _ | exact z_xor_r _ _) (fun h157 => ?_) (fun h157 => ?_)
        · refine x_iconst dX0_allows_172 ?_
          refine x_zret dX0_allows_173 rfl (by omega) ?_
          rw [← hQ]
          refine ⟨_, rfl, ?_, rfl, rfl, rfl⟩
          unfold alX
          first
          | (rw [if_pos (by omega)]; first | exact b01_t (by rw [decide_eq_true_eq]; first | omega | exact ⟨by assumption, by omega, by omega⟩) | exact b01_f (by rw [decide_eq_true_eq]; rintro ⟨x1, x2⟩; first | omega | contradiction))
          | (rw [if_neg (by omega), if_pos (by omega)]; first | exact b01_t (by rw [decide_eq_true_eq]; first | omega | exact ⟨by assumption, by omega, by omega⟩) | exact b01_f (by rw [decide_eq_true_eq]; rintro ⟨x1, x2⟩; first | omega | contradiction))
          | (rw [if_neg (by omega), if_neg (by omega), if_pos (by omega)]; first | exact b01_t (by rw [decide_eq_true_eq]; first | omega | exact ⟨by assumption, by omega, by omega⟩) | exact b01_f (by rw [decide_eq_true_eq]; rintro ⟨x1, x2⟩; first | omega | contradiction))
          | (rw [if_neg (by omega), if_neg (by omega), if_neg (by omega), if_pos (by omega)]; first | exact b01_t (by rw [decide_eq_true_eq]; first | omega | exact ⟨by assumption, by omega, by omega⟩) | exact b01_f (by rw [decide_eq_true_eq]; rintro ⟨x1, x2⟩; first | omega | contradiction))
          | (rw [if_neg (by omega), if_neg (by omega), if_neg (by omega), if_neg (by omega), if_pos (by omega)]; first | exact b01_t (by rw [decide_eq_true_eq]; first | omega | exact ⟨by assumption, by omega, by omega⟩) | exact b01_f (by rw [decide_eq_true_eq]; rintro ⟨x1, x2⟩; first | omega | contradiction))
          | (rw [if_neg (by omega), if_neg (by omega), if_neg (by omega), if_neg (by omega), if_neg (by omega)]; exact b01_f (by decide))
        · refine x_iload_n dX0_allows_160 3 rfl rfl ?_
          refine x_aload_n dX0_allows_161 0 rfl rfl ?_
          refine x_getI dX0_allows_162 flX0_37 (shH0 hh) rfl ?_
          refine x_ic_ge (tgt := 172) dX0_allows_165 (by decide) (by first | omega | exact z_and_r _ _ | exact z_or_r _ _ | exact z_xor_r _ _) (fun h165 => ?_) (fun h165 => ?_)
          · refine x_iconst dX0_allows_172 ?_
            refine x_zret dX0_allows_173 rfl (by omega) ?_
            rw [← hQ]
            refine ⟨_, rfl, ?_, rfl, rfl, rfl⟩
            unfold alX
            first
            | (rw [if_pos (by omega)]; first | exact b01_t (by rw [decide_eq_true_eq]; first | omega | exact ⟨by assumption, by omega, by omega⟩) | exact b01_f (by rw [decide_eq_true_eq]; rintro ⟨x1, x2⟩; first | omega | contradiction))
            | (rw [if_neg (by omega), if_pos (by omega)]; first | exact b01_t (by rw [decide_eq_true_eq]; first | omega | exact ⟨by assumption, by omega, by omega⟩) | exact b01_f (by rw [decide_eq_true_eq]; rintro ⟨x1, x2⟩; first | omega | contradiction))
            | (rw [if_neg (by omega), if_neg (by omega), if_pos (by omega)]; first | exact b01_t (by rw [decide_eq_true_eq]; first | omega | exact ⟨by assumption, by omega, by omega⟩) | exact b01_f (by rw [decide_eq_true_eq]; rintro ⟨x1, x2⟩; first | omega | contradiction))
            | (rw [if_neg (by omega), if_neg (by omega), if_neg (by omega), if_pos (by omega)]; first | exact b01_t (by rw [decide_eq_true_eq]; first | omega | exact ⟨by assumption, by omega, by omega⟩) | exact b01_f (by rw [decide_eq_true_eq]; rintro ⟨x1, x2⟩; first | omega | contradiction))
            | (rw [if_neg (by omega), if_neg (by omega), if_neg (by omega), if_neg (by omega), if_pos (by omega)]; first | exact b01_t (by rw [decide_eq_true_eq]; first | omega | exact ⟨by assumption, by omega, by omega⟩) | exact b01_f (by rw [decide_eq_true_eq]; rintro ⟨x1, x2⟩; first | omega | contradiction))
            | (rw [if_neg (by omega), if_neg (by omega), if_neg (by omega), if_neg (by omega), if_neg (by omega)]; exact b01_f (by decide))
          · refine x_iconst dX0_allows_168 ?_
            refine x_goto (tgt := 173) dX0_allows_169 (by decide) ?_
            refine x_zret dX0_allows_173 rfl (by omega) ?_
            rw [← hQ]
            refine ⟨_, rfl, ?_, rfl, rfl, rfl⟩
            unfold alX
            first
            | (rw [if_pos (by omega)]; first | exact b01_t (by rw [decide_eq_true_eq]; first | omega | exact ⟨by assumption, by omega, by omega⟩) | exact b01_f (by rw [decide_eq_true_eq]; rintro ⟨x1, x2⟩; first | omega | contradiction))
            | (rw [if_neg (by omega), if_pos (by omega)]; first | exact b01_t (by rw [decide_eq_true_eq]; first | omega | exact ⟨by assumption, by omega, by omega⟩) | exact b01_f (by rw [decide_eq_true_eq]; rintro ⟨x1, x2⟩; first | omega | contradiction))
            | (rw [if_neg (by omega), if_neg (by omega), if_pos (by omega)]; first | exact b01_t (by rw [decide_eq_true_eq]; first | omega | exact ⟨by assumption, by omega, by omega⟩) | exact b01_f (by rw [decide_eq_true_eq]; rintro ⟨x1, x2⟩; first | omega | contradiction))
            | (rw [if_neg (by omega), if_neg (by omega), if_neg (by omega), if_pos (by omega)]; first | exact b01_t (by rw [decide_eq_true_eq]; first | omega | exact ⟨by assumption, by omega, by omega⟩) | exact b01_f (by rw [decide_eq_true_eq]; rintro ⟨x1, x2⟩; first | omega | contradiction))
            | (rw [if_neg (by omega), if_neg (by omega), if_neg (by omega), if_neg (by omega), if_pos (by omega)]; first | exact b01_t (by rw [decide_eq_true_eq]; first | omega | exact ⟨by assumption, by omega, by omega⟩) | exact b01_f (by rw [decide_eq_true_eq]; rintro ⟨x1, x2⟩; first | omega | contradiction))
            | (rw [if_neg (by omega), if_neg (by omega), if_neg (by omega), if_neg (by omega), if_neg (by omega)]; exact b01_f (by decide))
  · refine x_tswOut (tgt := 174) dX0_allows_1 (by first | omega | exact z_and_r _ _ | exact z_or_r _ _ | exact z_xor_r _ _) (by omega) (by decide) ?_
    refine x_iconst dX0_allows_174 ?_
    refine x_zret dX0_allows_175 rfl (by omega) ?_
    rw [← hQ]
    refine ⟨_, rfl, ?_, rfl, rfl, rfl⟩
    unfold alX
    first
    | (rw [if_pos (by omega)]; first | exact b01_t (by rw [decide_eq_true_eq]; first | omega | exact ⟨by assumption, by omega, by omega⟩) | exact b01_f (by rw [decide_eq_true_eq]; rintro ⟨x1, x2⟩; first | omega | contradiction))
    | (rw [if_neg (by omega), if_pos (by omega)]; first | exact b01_t (by rw [decide_eq_true_eq]; first | omega | exact ⟨by assumption, by omega, by omega⟩) | exact b01_f (by rw [decide_eq_true_eq]; rintro ⟨x1, x2⟩; first | omega | contradiction))
    | (rw [if_neg (by omega), if_neg (by omega), if_pos (by omega)]; first | exact b01_t (by rw [decide_eq_true_eq]; first | omega | exact ⟨by assumption, by omega, by omega⟩) | exact b01_f (by rw [decide_eq_true_eq]; rintro ⟨x1, x2⟩; first | omega | contradiction))
    | (rw [if_neg (by omega), if_neg (by omega), if_neg (by omega), if_pos (by omega)]; first | exact b01_t (by rw [decide_eq_true_eq]; first | omega | exact ⟨by assumption, by omega, by omega⟩) | exact b01_f (by rw [decide_eq_true_eq]; rintro ⟨x1, x2⟩; first | omega | contradiction))
    | (rw [if_neg (by omega), if_neg (by omega), if_neg (by omega), if_neg (by omega), if_pos (by omega)]; first | exact b01_t (by rw [decide_eq_true_eq]; first | omega | exact ⟨by assumption, by omega, by omega⟩) | exact b01_f (by rw [decide_eq_true_eq]; rintro ⟨x1, x2⟩; first | omega | contradiction))
    | (rw [if_neg (by omega), if_neg (by omega), if_neg (by omega), if_neg (by omega), if_neg (by omega)]; exact b01_f (by decide))
def bhX (I : MI) (h : Nat) (d r : Int) : Int := if I (h + 1) d = r then I (h + 2) d else if I (h + 2) d = r then I (h + 1) d else -1
theorem s_X0_behind {d r : Int} (hh : isH R h) (hd : 0 ≤ d ∧ d < 8) (hr : rI r) (h1 : rI (I (h + 1) d)) (h2 : rI (I (h + 2) d)) : Sp G mtX0_behind [mr h, mi d, mi r] shX I L R (qi (pu (bhX I h d r) I L R)) := by
  refine Sp.of pnX0_behind rfl ?_
  show Rn G mtX0_behind _ 0 [(0, mr h), (1, mi d), (2, mi r)] [] shX I L R
  generalize hQ : (qi (pu (bhX I h d r) I L R)) = Q
  refine x_aload_n dX0_behind_0 0 rfl rfl ?_
  refine x_getR dX0_behind_1 flX0_9 (shH0 hh) rfl hh.2.1 ?_
  refine x_iload_n dX0_behind_4 1 rfl rfl ?_
  refine x_iald dX0_behind_5 (shH1 hh) (by omega) ?_
  refine x_iload_n dX0_behind_6 2 rfl rfl ?_
  refine x_ic_ne (tgt := 17) dX0_behind_7 (by decide) (by first | omega | exact z_and_r _ _ | exact z_or_r _ _ | exact z_xor_r _ _) (fun h7 => ?_) (fun h7 => ?_)
  · refine x_aload_n dX0_behind_17 0 rfl rfl ?_
    refine x_getR dX0_behind_18 flX0_15 (shH0 hh) rfl hh.2.2.1 ?_
    refine x_iload_n dX0_behind_21 1 rfl rfl ?_
    refine x_iald dX0_behind_22 (shH2 hh) (by omega) ?_
    refine x_iload_n dX0_behind_23 2 rfl rfl ?_
    refine x_ic_ne (tgt := 36) dX0_behind_24 (by decide) (by first | omega | exact z_and_r _ _ | exact z_or_r _ _ | exact z_xor_r _ _) (fun h24 => ?_) (fun h24 => ?_)
    · refine x_iconst dX0_behind_36 ?_
      refine x_iret dX0_behind_37 rfl ?_
      rw [← hQ]
      refine ⟨_, rfl, ?_, rfl, rfl, rfl⟩
      unfold bhX
      first | (rw [if_pos (by omega)]) | (rw [if_neg (by omega), if_pos (by omega)]) | (rw [if_neg (by omega), if_neg (by omega)])
    · refine x_aload_n dX0_behind_27 0 rfl rfl ?_
      refine x_getR dX0_behind_28 flX0_9 (shH0 hh) rfl hh.2.1 ?_
      refine x_iload_n dX0_behind_31 1 rfl rfl ?_
      refine x_iald dX0_behind_32 (shH1 hh) (by omega) ?_
      refine x_goto (tgt := 37) dX0_behind_33 (by decide) ?_
      refine x_iret dX0_behind_37 rfl ?_
      rw [← hQ]
      refine ⟨_, rfl, ?_, rfl, rfl, rfl⟩
      unfold bhX
      first | (rw [if_pos (by omega)]) | (rw [if_neg (by omega), if_pos (by omega)]) | (rw [if_neg (by omega), if_neg (by omega)])
  · refine x_aload_n dX0_behind_10 0 rfl rfl ?_
    refine x_getR dX0_behind_11 flX0_15 (shH0 hh) rfl hh.2.2.1 ?_
    refine x_iload_n dX0_behind_14 1 rfl rfl ?_
    refine x_iald dX0_behind_15 (shH2 hh) (by omega) ?_
    refine x_iret dX0_behind_16 rfl ?_
    rw [← hQ]
    refine ⟨_, rfl, ?_, rfl, rfl, rfl⟩
    unfold bhX
    first | (rw [if_pos (by omega)]) | (rw [if_neg (by omega), if_pos (by omega)]) | (rw [if_neg (by omega), if_neg (by omega)])
end

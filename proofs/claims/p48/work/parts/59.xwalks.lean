/-! THE CLASS: small methods of the Walks. -/
theorem shW {x : Nat} (h : x = 29 ∨ x = 30 ∨ x = 31) : shX[x]? = some (.inr (1, 1728)) := by
  rcases h with rfl | rfl | rfl <;> rfl
def isW (R : MR) (p na nb nk : Nat) : Prop := okR R ∧ isP R p ∧ R 19 9 = some p ∧ R 19 6 = some na ∧ R 19 7 = some nb ∧ R 19 8 = some nk ∧ (na = 29 ∨ na = 30 ∨ na = 31) ∧ (nb = 29 ∨ nb = 30 ∨ nb = 31) ∧ (nk = 29 ∨ nk = 30 ∨ nk = 31) ∧ na ≠ nb ∧ na ≠ nk ∧ nb ≠ nk
def inX (L : MI) (j t : Nat) : Bool := tbl (L 24 (((27 * t + j / 64 : Nat) : Nat) : Int)) (j % 64)
def lsr (a b : Int) : Int := if a = 0 ∨ b = 0 then a + b else min a b
section
variable {G : GT} {I L : MI} {R : MR} {p h na nb nk : Nat}

theorem s_X6_rested {w : Int} (hW : isW R p na nb nk) (hph : R p 0 = some h) (hh : isH R h) (hw : rI w) (hu : rI (I p 1)) : Sp G mtX6_rested [mr 19, mi w] shX I L R (qi (pu (if w < I p 1 then I h 0 else 1) I L R)) := by
  refine Sp.of pnX6_rested rfl ?_
  show Rn G mtX6_rested _ 0 [(0, mr 19), (1, mi w)] [] shX I L R
  generalize hQ : (qi (pu (if w < I p 1 then I h 0 else 1) I L R)) = Q
  refine x_iload_n dX6_rested_0 1 rfl rfl ?_
  refine x_aload_n dX6_rested_1 0 rfl rfl ?_
  refine x_getR dX6_rested_2 flX6_54 rfl rfl hW.2.2.1 ?_
  refine x_getI dX6_rested_5 flX6_166 (shP0 hW.2.1) rfl ?_
  refine x_ic_ge (tgt := 24) dX6_rested_8 (by decide) (by first | omega | exact z_and_r _ _ | exact z_or_r _ _ | exact z_xor_r _ _) (fun h8 => ?_) (fun h8 => ?_)
  · refine x_iconst dX6_rested_24 ?_
    refine x_iret dX6_rested_25 rfl ?_
    rw [← hQ]
    refine ⟨_, rfl, ?_, rfl, rfl, rfl⟩
    first | (rw [if_pos (by omega)]) | (rw [if_neg (by omega)])
  · refine x_aload_n dX6_rested_11 0 rfl rfl ?_
    refine x_getR dX6_rested_12 flX6_54 rfl rfl hW.2.2.1 ?_
    refine x_getR dX6_rested_15 flX6_58 (shP0 hW.2.1) rfl hph ?_
    refine x_getI dX6_rested_18 flX6_169 (shH0 hh) rfl ?_
    refine x_goto (tgt := 25) dX6_rested_21 (by decide) ?_
    refine x_iret dX6_rested_25 rfl ?_
    rw [← hQ]
    refine ⟨_, rfl, ?_, rfl, rfl, rfl⟩
    first | (rw [if_pos (by omega)]) | (rw [if_neg (by omega)])
theorem s_X6_lesser {a b : Int} (ha : 0 ≤ a ∧ a ≤ 9223372036854775807) (hb : 0 ≤ b ∧ b ≤ 9223372036854775807) : Sp G mtX6_lesser [ml a, ml b] shX I L R (ql (pu (lsr a b) I L R)) := by
  refine Sp.of pnX6_lesser rfl ?_
  show Rn G mtX6_lesser _ 0 [(0, ml a), (2, ml b)] [] shX I L R
  generalize hQ : (ql (pu (lsr a b) I L R)) = Q
  refine x_lload_n dX6_lesser_0 0 rfl rfl ?_
  refine x_lconst 0 dX6_lesser_1 rfl ?_
  refine x_lc_eq (tgt := 12) dX6_lesser_2 dX6_lesser_3 (by decide) (by omega) (fun h2 => ?_) (fun h2 => ?_)
  · refine x_lload_n dX6_lesser_12 0 rfl rfl ?_
    refine x_lload_n dX6_lesser_13 1 rfl rfl ?_
    refine x_ladd dX6_lesser_14 ?_
    refine x_lret dX6_lesser_15 rfl ?_
    rw [← hQ]
    refine ⟨_, rfl, ?_, rfl, rfl, rfl⟩
    unfold lsr
    first | (rw [if_pos (by omega)]) | (rw [if_neg (by omega)])
  · refine x_lload_n dX6_lesser_6 1 rfl rfl ?_
    refine x_lconst 0 dX6_lesser_7 rfl ?_
    refine x_lc_ne (tgt := 16) dX6_lesser_8 dX6_lesser_9 (by decide) (by omega) (fun h8 => ?_) (fun h8 => ?_)
    · refine x_lload_n dX6_lesser_16 0 rfl rfl ?_
      refine x_lload_n dX6_lesser_17 1 rfl rfl ?_
      refine x_lmin dX6_lesser_18 lvX6_224 rfl (by omega) ?_
      refine x_lret dX6_lesser_21 rfl ?_
      rw [← hQ]
      refine ⟨_, rfl, ?_, rfl, rfl, rfl⟩
      unfold lsr
      first | (rw [if_pos (by omega)]) | (rw [if_neg (by omega)])
    · refine x_lload_n dX6_lesser_12 0 rfl rfl ?_
      refine x_lload_n dX6_lesser_13 1 rfl rfl ?_
      refine x_ladd dX6_lesser_14 ?_
      refine x_lret dX6_lesser_15 rfl ?_
      rw [← hQ]
      refine ⟨_, rfl, ?_, rfl, rfl, rfl⟩
      unfold lsr
      first | (rw [if_pos (by omega)]) | (rw [if_neg (by omega)])
theorem s_X6_isIn {j t : Nat} (hW : isW R p na nb nk) (hj : j < 1728) (ht : t < 31) : Sp G mtX6_isIn [mr 19, mi ↑j, mi ↑t] shX I L R (qi (pu (b01 (inX L j t = true)) I L R)) := by
  refine Sp.of pnX6_isIn rfl ?_
  show Rn G mtX6_isIn _ 0 [(0, mr 19), (1, mi ↑j), (2, mi ↑t)] [] shX I L R
  generalize hQ : (qi (pu (b01 (inX L j t = true)) I L R)) = Q
  obtain ⟨d1, d2⟩ := z_div64 j hj
  have hix : (t : Int) * 27 + ((j / 64 : Nat) : Int) = ((27 * t + j / 64 : Nat) : Int) := by omega
  refine x_aload_n dX6_isIn_0 0 rfl rfl ?_
  refine x_getR dX6_isIn_1 flX6_18 rfl rfl (hW.1 19 1 24 rfl) ?_
  refine x_iload_n dX6_isIn_4 2 rfl rfl ?_
  refine x_bipush dX6_isIn_5 (by decide) ?_
  refine x_imul dX6_isIn_7 ?_
  refine x_iload_n dX6_isIn_8 1 rfl rfl ?_
  refine x_bipush dX6_isIn_9 (by decide) ?_
  refine x_ishr dX6_isIn_11 ?_
  rw [d1]
  refine x_iadd dX6_isIn_12 ?_
  rw [hix]
  refine x_lald dX6_isIn_13 rfl (by omega) ?_
  refine x_iload_n dX6_isIn_14 1 rfl rfl ?_
  refine x_bipush dX6_isIn_15 (by decide) ?_
  refine x_iand dX6_isIn_17 ?_
  rw [d2]
  refine x_lshr dX6_isIn_18 ?_
  refine x_lconst 1 dX6_isIn_19 rfl ?_
  refine x_land dX6_isIn_20 ?_
  rw [z_bitl (by omega), Int.toNat_natCast]
  have hbr := b01_r (inX L j t = true)
  show Rn G mtX6_isIn Q _ _ [ml (b01 (inX L j t = true))] shX I L R
  refine x_lconst 0 dX6_isIn_21 rfl ?_
  refine x_lc_eq (tgt := 30) dX6_isIn_22 dX6_isIn_23 (by decide) (by omega) (fun h22 => ?_) (fun h22 => ?_)
  · refine x_iconst dX6_isIn_30 ?_
    refine x_zret dX6_isIn_31 rfl (by omega) ?_
    rw [← hQ]
    refine ⟨_, rfl, ?_, rfl, rfl, rfl⟩
    first
    | exact b01_t (b01_ne.mp (by assumption))
    | exact b01_f (b01_eq.mp (by assumption))
  · refine x_iconst dX6_isIn_26 ?_
    refine x_goto (tgt := 31) dX6_isIn_27 (by decide) ?_
    refine x_zret dX6_isIn_31 rfl (by omega) ?_
    rw [← hQ]
    refine ⟨_, rfl, ?_, rfl, rfl, rfl⟩
    first
    | exact b01_t (b01_ne.mp (by assumption))
    | exact b01_f (b01_eq.mp (by assumption))
end

/-! THE CLASS: the Walks: notes; what stays. -/
def ntX (I : MI) (w d : Int) : MI := m_up (m_up I 25 (w * 31 + I 19 11) (z_or (I 25 (w * 31 + I 19 11)) d)) 26 (w * 31 + I 19 11) (z_and (I 26 (w * 31 + I 19 11)) d)
def syX (I L : MI) (p j t : Nat) : Bool := if I 19 15 = 0 then ftX I p (j : Int) (t : Int) else inX L j t
section
variable {G : GT} {I L : MI} {R : MR} {p h na nb nk : Nat}

theorem s_X6_note {w d : Int} (hW : isW R p na nb nk) (hw : 0 ≤ w ∧ w < 3) (hm : 0 ≤ I 19 11 ∧ I 19 11 < 31) : Sp G mtX6_note [mr 19, mi w, mi d] shX I L R (qv (fun I' L' R' => I' = ntX I w d ∧ L = L' ∧ R = R')) := by
  refine Sp.of pnX6_note rfl ?_
  show Rn G mtX6_note _ 0 [(0, mr 19), (1, mi w), (2, mi d)] [] shX I L R
  generalize hQ : (qv (fun I' L' R' => I' = ntX I w d ∧ L = L' ∧ R = R')) = Q
  refine x_aload_n dX6_note_0 0 rfl rfl ?_
  refine x_getR dX6_note_1 flX6_22 rfl rfl (hW.1 19 2 25 rfl) ?_
  refine x_iload_n dX6_note_4 1 rfl rfl ?_
  refine x_bipush dX6_note_5 (by decide) ?_
  refine x_imul dX6_note_7 ?_
  refine x_aload_n dX6_note_8 0 rfl rfl ?_
  refine x_getI dX6_note_9 flX6_175 rfl rfl ?_
  refine x_iadd dX6_note_12 ?_
  refine x_dup2 dX6_note_13 rfl rfl ?_
  refine x_iald dX6_note_14 rfl (by omega) ?_
  refine x_iload_n dX6_note_15 2 rfl rfl ?_
  refine x_ior dX6_note_16 ?_
  refine x_iast dX6_note_17 rfl (by omega) ?_
  refine x_aload_n dX6_note_18 0 rfl rfl ?_
  refine x_getR dX6_note_19 flX6_26 rfl rfl (hW.1 19 3 26 rfl) ?_
  refine x_iload_n dX6_note_22 1 rfl rfl ?_
  refine x_bipush dX6_note_23 (by decide) ?_
  refine x_imul dX6_note_25 ?_
  refine x_aload_n dX6_note_26 0 rfl rfl ?_
  refine y_getI dX6_note_27 flX6_175 rfl rfl (m_up_ne (by decide) _) ?_
  refine x_iadd dX6_note_30 ?_
  refine x_dup2 dX6_note_31 rfl rfl ?_
  refine y_iald dX6_note_32 rfl (by omega) (m_up_ne (by decide) _) ?_
  refine x_iload_n dX6_note_33 2 rfl rfl ?_
  refine x_iand dX6_note_34 ?_
  refine x_iast dX6_note_35 rfl (by omega) ?_
  refine x_vret dX6_note_36 rfl ?_
  rw [← hQ]
  exact ⟨rfl, rfl, rfl, rfl⟩
theorem s_X6_stays {j t : Nat} (hW : isW R p na nb nk) (hj : j < 1728) (ht : t < 31) (hs : rI (I 19 15)) : Sp G mtX6_stays [mr 19, mi ↑j, mi ↑t] shX I L R (qi (pu (b01 (syX I L p j t = true)) I L R)) := by
  refine Sp.of pnX6_stays rfl ?_
  show Rn G mtX6_stays _ 0 [(0, mr 19), (1, mi ↑j), (2, mi ↑t)] [] shX I L R
  generalize hQ : (qi (pu (b01 (syX I L p j t = true)) I L R)) = Q
  refine x_aload_n dX6_stays_0 0 rfl rfl ?_
  refine x_getI dX6_stays_1 flX6_135 rfl rfl ?_
  refine x_if_eq (tgt := 16) dX6_stays_4 (by decide) (by first | omega | exact z_and_r _ _ | exact z_or_r _ _ | exact z_xor_r _ _) (fun h4 => ?_) (fun h4 => ?_)
  · refine x_aload_n dX6_stays_16 0 rfl rfl ?_
    refine x_getR dX6_stays_17 flX6_54 rfl rfl hW.2.2.1 ?_
    refine x_iload_n dX6_stays_20 1 rfl rfl ?_
    refine x_iload_n dX6_stays_21 2 rfl rfl ?_
    refine x_callVi (as := [_, _]) dX6_stays_22 lvX6_172 rfl (shP0 hW.2.1) rfl rfl rfl rfl rfl ⟨rfl, rfl⟩ (s_X3_fits hW.2.1 (by omega) (by omega)) (fun z22 I22 L22 R22 hq22 => ?_)
    obtain ⟨rfl, rfl, rfl, rfl⟩ := hq22
    refine x_zret dX6_stays_25 rfl (by unfold b01; split <;> omega) ?_
    rw [← hQ]
    refine ⟨_, rfl, ?_, rfl, rfl, rfl⟩
    unfold syX
    first
    | (have hz : I 19 15 = 0 := h4
       rw [if_pos hz])
    | (have hz : ¬ I 19 15 = 0 := h4
       rw [if_neg hz])
  · refine x_aload_n dX6_stays_7 0 rfl rfl ?_
    refine x_iload_n dX6_stays_8 1 rfl rfl ?_
    refine x_iload_n dX6_stays_9 2 rfl rfl ?_
    refine x_callVi (as := [_, _]) dX6_stays_10 lvX6_138 rfl rfl rfl rfl rfl rfl rfl ⟨rfl, rfl⟩ (s_X6_isIn hW hj ht) (fun z10 I10 L10 R10 hq10 => ?_)
    obtain ⟨rfl, rfl, rfl, rfl⟩ := hq10
    refine x_goto (tgt := 25) dX6_stays_13 (by decide) ?_
    refine x_zret dX6_stays_25 rfl (by unfold b01; split <;> omega) ?_
    rw [← hQ]
    refine ⟨_, rfl, ?_, rfl, rfl, rfl⟩
    unfold syX
    first
    | (have hz : I 19 15 = 0 := h4
       rw [if_pos hz])
    | (have hz : ¬ I 19 15 = 0 := h4
       rw [if_neg hz])
end

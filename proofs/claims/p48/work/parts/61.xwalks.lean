/-! THE CLASS: the Walks keep a set. -/
/-- the set of minute t is what has a value in a, of the first n; nothing else is changed -/
def KS (L : MI) (a n t : Nat) (J : MI) : Prop := (∀ c i, c ≠ 24 → J c i = L c i) ∧ (∀ i : Int, i < 27 * (t : Int) ∨ 27 * (t : Int) + 27 ≤ i → J 24 i = L 24 i) ∧ ∀ j : Nat, j < 1728 → (inX J j t = true ↔ j < n ∧ L a (j : Int) ≠ 0)
theorem inX_up {J : MI} {j t i : Nat} (hi : i < 1728) (hj : j < 1728) : inX (m_up J 24 ((27 * t + j / 64 : Nat) : Int) (z_lorl (J 24 ((27 * t + j / 64 : Nat) : Int)) (z_shll 1 ((j % 64 : Nat) : Int)))) i t = true ↔ inX J i t = true ∨ i = j := by
  unfold inX
  by_cases e : i / 64 = j / 64
  · rw [e, m_up_eq, tbl_or, tbl_sh1 (by omega) (by omega), Bool.or_eq_true, decide_eq_true_eq, Int.toNat_natCast]
    constructor
    · rintro (h | h)
      · exact Or.inl h
      · exact Or.inr (by omega)
    · rintro (h | h)
      · exact Or.inl h
      · exact Or.inr (by omega)
  · rw [m_up_nj (by omega)]
    constructor
    · exact Or.inl
    · rintro (h | h)
      · exact h
      · exact absurd (by rw [h]) e
section
variable {G : GT} {I L : MI} {R : MR} {p h na nb nk : Nat}

set_option maxHeartbeats 1500000 in
theorem s_X6_keepSet {n t : Nat} (hW : isW R p na nb nk) (hn : I p 3 = (n : Int)) (hn2 : n ≤ 1728) (ht : t < 31) (hl : ∀ j : Nat, j < n → rL (L na (j : Int))) : Sp G mtX6_keepSet [mr 19, mi ↑t] shX I L R (qv (fun I' L' R' => I = I' ∧ KS L na n t L' ∧ R = R')) := by
  refine Sp.of pnX6_keepSet rfl ?_
  show Rn G mtX6_keepSet _ 0 [(0, mr 19), (1, mi ↑t)] [] shX I L R
  generalize hQ : (qv (fun I' L' R' => I = I' ∧ KS L na n t L' ∧ R = R')) = Q
  have hna := hW.2.2.2.2.2.2.1
  have l2 : ∀ j : Nat, j ≤ n → ∀ J, (∀ c i, c ≠ 24 → J c i = L c i) → (∀ i : Int, i < 27 * (t : Int) ∨ 27 * (t : Int) + 27 ≤ i → J 24 i = L 24 i) → (∀ i : Nat, i < 1728 → (inX J i t = true ↔ i < j ∧ L na (i : Int) ≠ 0)) → Rn G mtX6_keepSet Q 28 [(0, mr 19), (1, mi (t : Int)), (2, mi (j : Int))] [] shX I J R := by
    refine lpn n (fun j hj ih => ?_) ?_
    · intro J g1 g2 g3
      have hlj : rL (J na (j : Int)) := by rw [g1 na _ (by omega)]; exact hl j hj
      have ej : J na (j : Int) = L na (j : Int) := g1 na _ (by omega)
      obtain ⟨d1, d2⟩ := z_div64 j (by omega)
      have hix : (t : Int) * 27 + ((j / 64 : Nat) : Int) = ((27 * t + j / 64 : Nat) : Int) := by omega
      refine x_iload_n dX6_keepSet_28 2 rfl rfl ?_
      refine x_aload_n dX6_keepSet_29 0 rfl rfl ?_
      refine x_getR dX6_keepSet_30 flX6_54 rfl rfl hW.2.2.1 ?_
      refine x_getI dX6_keepSet_33 flX6_85 (shP0 hW.2.1) rfl ?_
      rw [hn]
      refine x_ic_ge (tgt := 79) dX6_keepSet_36 (by decide) (by omega) (fun h36 => ?_) (fun h36 => ?_)
      · refine x_vret dX6_keepSet_79 rfl ?_
        exfalso; omega
      · refine x_aload_n dX6_keepSet_39 0 rfl rfl ?_
        refine x_getR dX6_keepSet_40 flX6_35 rfl rfl hW.2.2.2.1 ?_
        refine x_iload_n dX6_keepSet_43 2 rfl rfl ?_
        refine x_lald dX6_keepSet_44 (shW hW.2.2.2.2.2.2.1) (by omega) ?_
        refine x_lconst 0 dX6_keepSet_45 rfl ?_
        refine x_lc_eq (tgt := 73) dX6_keepSet_46 dX6_keepSet_47 (by decide) (by omega) (fun h46 => ?_) (fun h46 => ?_)
        · refine x_iinc (lv' := [(0, _), (1, _), (2, _)]) dX6_keepSet_73 2 rfl rfl rfl ?_
          refine x_goto (tgt := 28) dX6_keepSet_76 (by decide) ?_
          first
          | (have hz := h46
             have hz2 : J na (j : Int) = 0 := hz
             refine ih J g1 g2 (fun i hi => ?_)
             rw [g3 i hi]
             constructor
             · exact fun q => ⟨by omega, q.2⟩
             · rintro ⟨q1, q2⟩
               refine ⟨?_, q2⟩
               by_cases e : i = j
               · subst e; exact absurd (ej.symm.trans hz2) q2
               · omega)
          | (have hz2 : ¬ J na (j : Int) = 0 := h46
             refine ih _ (fun c i q => by rw [m_up_ne q]; exact g1 c i q) (fun i q => by rw [m_up_nj (by omega)]; exact g2 i q) (fun i hi => ?_)
             rw [inX_up hi (by omega), g3 i hi]
             constructor
             · rintro (q | q)
               · exact ⟨by omega, q.2⟩
               · subst q; exact ⟨by omega, by rw [← ej]; exact hz2⟩
             · rintro ⟨q1, q2⟩
               by_cases e : i = j
               · exact Or.inr e
               · exact Or.inl ⟨by omega, q2⟩)
        · refine x_aload_n dX6_keepSet_50 0 rfl rfl ?_
          refine x_getR dX6_keepSet_51 flX6_18 rfl rfl (hW.1 19 1 24 rfl) ?_
          refine x_iload_n dX6_keepSet_54 1 rfl rfl ?_
          refine x_bipush dX6_keepSet_55 (by decide) ?_
          refine x_imul dX6_keepSet_57 ?_
          refine x_iload_n dX6_keepSet_58 2 rfl rfl ?_
          refine x_bipush dX6_keepSet_59 (by decide) ?_
          refine x_ishr dX6_keepSet_61 ?_
          rw [d1]
          refine x_iadd dX6_keepSet_62 ?_
          rw [hix]
          refine x_dup2 dX6_keepSet_63 rfl rfl ?_
          refine x_lald dX6_keepSet_64 rfl (by omega) ?_
          refine x_lconst 1 dX6_keepSet_65 rfl ?_
          refine x_iload_n dX6_keepSet_66 2 rfl rfl ?_
          refine x_bipush dX6_keepSet_67 (by decide) ?_
          refine x_iand dX6_keepSet_69 ?_
          rw [d2]
          refine x_lshl dX6_keepSet_70 ?_
          refine x_lor dX6_keepSet_71 ?_
          refine x_last dX6_keepSet_72 rfl (by omega) ?_
          refine x_iinc (lv' := [(0, _), (1, _), (2, _)]) dX6_keepSet_73 2 rfl rfl rfl ?_
          refine x_goto (tgt := 28) dX6_keepSet_76 (by decide) ?_
          first
          | (have hz := h46
             have hz2 : J na (j : Int) = 0 := hz
             refine ih J g1 g2 (fun i hi => ?_)
             rw [g3 i hi]
             constructor
             · exact fun q => ⟨by omega, q.2⟩
             · rintro ⟨q1, q2⟩
               refine ⟨?_, q2⟩
               by_cases e : i = j
               · subst e; exact absurd (ej.symm.trans hz2) q2
               · omega)
          | (have hz2 : ¬ J na (j : Int) = 0 := h46
             refine ih _ (fun c i q => by rw [m_up_ne q]; exact g1 c i q) (fun i q => by rw [m_up_nj (by omega)]; exact g2 i q) (fun i hi => ?_)
             rw [inX_up hi (by omega), g3 i hi]
             constructor
             · rintro (q | q)
               · exact ⟨by omega, q.2⟩
               · subst q; exact ⟨by omega, by rw [← ej]; exact hz2⟩
             · rintro ⟨q1, q2⟩
               by_cases e : i = j
               · exact Or.inr e
               · exact Or.inl ⟨by omega, q2⟩)
    · intro J g1 g2 g3
      refine x_iload_n dX6_keepSet_28 2 rfl rfl ?_
      refine x_aload_n dX6_keepSet_29 0 rfl rfl ?_
      refine x_getR dX6_keepSet_30 flX6_54 rfl rfl hW.2.2.1 ?_
      refine x_getI dX6_keepSet_33 flX6_85 (shP0 hW.2.1) rfl ?_
      rw [hn]
      refine x_ic_ge (tgt := 79) dX6_keepSet_36 (by decide) (by omega) (fun h36 => ?_) (fun h36 => ?_)
      · refine x_vret dX6_keepSet_79 rfl ?_
        rw [← hQ]
        exact ⟨rfl, rfl, ⟨g1, g2, g3⟩, rfl⟩
      · exfalso; omega
  have l1 : ∀ w : Nat, w ≤ 27 → ∀ J, (∀ c i, c ≠ 24 → J c i = L c i) → (∀ i : Int, i < 27 * (t : Int) ∨ 27 * (t : Int) + 27 ≤ i → J 24 i = L 24 i) → (∀ i : Int, 27 * (t : Int) ≤ i → i < 27 * (t : Int) + (w : Int) → J 24 i = 0) → Rn G mtX6_keepSet Q 2 [(0, mr 19), (1, mi (t : Int)), (2, mi (w : Int))] [] shX I J R := by
    refine lpn 27 (fun w hw ih => ?_) ?_
    · intro J g1 g2 g3
      refine x_iload_n dX6_keepSet_2 2 rfl rfl ?_
      refine x_bipush dX6_keepSet_3 (by decide) ?_
      refine x_ic_ge (tgt := 26) dX6_keepSet_5 (by decide) (by omega) (fun h5 => ?_) (fun h5 => ?_)
      · exfalso; omega
      · refine x_aload_n dX6_keepSet_8 0 rfl rfl ?_
        refine x_getR dX6_keepSet_9 flX6_18 rfl rfl (hW.1 19 1 24 rfl) ?_
        refine x_iload_n dX6_keepSet_12 1 rfl rfl ?_
        refine x_bipush dX6_keepSet_13 (by decide) ?_
        refine x_imul dX6_keepSet_15 ?_
        refine x_iload_n dX6_keepSet_16 2 rfl rfl ?_
        refine x_iadd dX6_keepSet_17 ?_
        refine x_lconst 0 dX6_keepSet_18 rfl ?_
        refine x_last dX6_keepSet_19 rfl (by omega) ?_
        refine x_iinc (lv' := [(0, _), (1, _), (2, _)]) dX6_keepSet_20 2 rfl rfl rfl ?_
        refine x_goto (tgt := 2) dX6_keepSet_23 (by decide) ?_
        refine ih _ (fun c i q => by rw [m_up_ne q]; exact g1 c i q) (fun i q => by rw [m_up_nj (by omega)]; exact g2 i q) (fun i q1 q2 => ?_)
        by_cases e : i = (t : Int) * 27 + (w : Int)
        · rw [e, m_up_eq]
        · rw [m_up_nj e]; exact g3 i q1 (by omega)
    · intro J g1 g2 g3
      have hz : ∀ i : Nat, i < 1728 → (inX J i t = true ↔ i < 0 ∧ L na (i : Int) ≠ 0) := fun i hi => by
        unfold inX
        rw [g3 _ (by omega) (by omega), tbl_0]
        exact ⟨fun q => Bool.noConfusion q, fun q => by omega⟩
      refine x_iload_n dX6_keepSet_2 2 rfl rfl ?_
      refine x_bipush dX6_keepSet_3 (by decide) ?_
      refine x_ic_ge (tgt := 26) dX6_keepSet_5 (by decide) (by omega) (fun h5 => ?_) (fun h5 => ?_)
      · refine x_iconst dX6_keepSet_26 ?_
        refine x_istore_n (lv' := [(0, _), (1, _), (2, _)]) dX6_keepSet_27 rfl rfl rfl ?_
        exact l2 0 (by omega) J g1 g2 hz
      · exfalso; omega
  refine x_iconst dX6_keepSet_0 ?_
  refine x_istore_n (lv' := [(0, _), (1, _), (2, _)]) dX6_keepSet_1 rfl rfl rfl ?_
  exact l1 0 (by omega) L (fun _ _ _ => rfl) (fun _ _ => rfl) (fun i h1 h2 => by omega)
theorem s_X6_together {j w o : Int} (hW : isW R p na nb nk) (hj : 0 ≤ j ∧ j < 1728) : Sp G mtX6_together [mr 19, mi j, mi w, mi o] shX I L R (qi (pu (b01 (z_and (z_shr (I (p + 7) j) (6 * w)) 63 = z_and (z_shr (I (p + 7) j) (6 * o)) 63)) I L R)) := by
  refine Sp.of pnX6_together rfl ?_
  show Rn G mtX6_together _ 0 [(0, mr 19), (1, mi j), (2, mi w), (3, mi o)] [] shX I L R
  generalize hQ : (qi (pu (b01 (z_and (z_shr (I (p + 7) j) (6 * w)) 63 = z_and (z_shr (I (p + 7) j) (6 * o)) 63)) I L R)) = Q
  refine x_aload_n dX6_together_0 0 rfl rfl ?_
  refine x_getR dX6_together_1 flX6_54 rfl rfl hW.2.2.1 ?_
  refine x_getR dX6_together_4 flX6_88 (shP0 hW.2.1) rfl hW.2.1.2.2.2.2.2.2.2 ?_
  refine x_iload_n dX6_together_7 1 rfl rfl ?_
  refine x_iald dX6_together_8 (shP7 hW.2.1) (by omega) ?_
  refine x_iload_n dX6_together_9 2 rfl rfl ?_
  refine x_callNi (as := [_, _]) dX6_together_10 lvX6_116 rfl rfl rfl rfl ⟨rfl, rfl⟩ (s_X7_roomsOf) (fun z10 I10 L10 R10 hq10 => ?_)
  obtain ⟨rfl, rfl, rfl, rfl⟩ := hq10
  refine x_aload_n dX6_together_13 0 rfl rfl ?_
  refine x_getR dX6_together_14 flX6_54 rfl rfl hW.2.2.1 ?_
  refine x_getR dX6_together_17 flX6_88 (shP0 hW.2.1) rfl hW.2.1.2.2.2.2.2.2.2 ?_
  refine x_iload_n dX6_together_20 1 rfl rfl ?_
  refine x_iald dX6_together_21 (shP7 hW.2.1) (by omega) ?_
  refine x_iload_n dX6_together_22 3 rfl rfl ?_
  refine x_callNi (as := [_, _]) dX6_together_23 lvX6_116 rfl rfl rfl rfl ⟨rfl, rfl⟩ (s_X7_roomsOf) (fun z23 I23 L23 R23 hq23 => ?_)
  obtain ⟨rfl, rfl, rfl, rfl⟩ := hq23
  refine x_ic_ne (tgt := 33) dX6_together_26 (by decide) (by first | omega | exact ⟨z_and_r _ _, z_and_r _ _⟩) (fun h26 => ?_) (fun h26 => ?_)
  · refine x_iconst dX6_together_33 ?_
    refine x_zret dX6_together_34 rfl (by omega) ?_
    rw [← hQ]
    refine ⟨_, rfl, ?_, rfl, rfl, rfl⟩
    first | exact b01_t h26 | exact b01_f h26
  · refine x_iconst dX6_together_29 ?_
    refine x_goto (tgt := 34) dX6_together_30 (by decide) ?_
    refine x_zret dX6_together_34 rfl (by omega) ?_
    rw [← hQ]
    refine ⟨_, rfl, ?_, rfl, rfl, rfl⟩
    first | exact b01_t h26 | exact b01_f h26
end

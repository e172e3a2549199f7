/-! THE REFERENCE'S SEARCH: a choice of moves; ways from the first minute on, and on to the last. -/
section
variable {G : GT} {sh : MS} {I L : MI} {R : MR} {κ : MI}

theorem s_X8_take {t : Int} {s c : Nat} (h0 : E1 κ I) (hH : iHs κ) (hS : iSc κ) (hs : s < 1728) (hm : hMv κ t s (us κ) I) (hc : c < mal κ t s) : Sp G mtX8_take [mr 0, mi ↑c] shM I L rM (qv (fun I' L' R' => L = L' ∧ R' = rM ∧ E0 I I' ∧ I' 0 42 = pas κ t s c ∧ I' 0 43 = (nxt κ t s c : Int) ∧ ∀ w, w < us κ → I' 21 (w : Int) = mvd κ t s c w)) := by
  refine Sp.of pnX8_take rfl ?_
  show Rn G mtX8_take _ 0 [(0, mr 0), (1, mi ↑c)] [] shM I L rM
  generalize hQ : (qv (fun I' L' R' => L = L' ∧ R' = rM ∧ E0 I I' ∧ I' 0 42 = pas κ t s c ∧ I' 0 43 = (nxt κ t s c : Int) ∧ ∀ w, w < us κ → I' 21 (w : Int) = mvd κ t s c w)) = Q
  have hu := us_le hH hS
  have e34 : I 0 34 = κ 0 34 := h0.at (by unfold sce per; omega)
  have hW := hH.2.2.1
  have hD := hH.2.1
  have hll := fun w => mvl_len hD t s w
  have hml : mal κ t s ≤ 729 := mal_le hH hS t s
  have loop : ∀ k, k ≤ us κ → ∀ J, E0 I J → J 0 42 = orf (fun w => if mvd κ t s c w < 0 then 0 else z_shl 1 (mvd κ t s c w)) k → J 0 43 = (smf (fun w => 12 ^ w * (mvt κ t s c w).toNat) k : Int) → (∀ w, w < k → J 21 (w : Int) = mvd κ t s c w) → Rn G mtX8_take Q 17 [(0, mr 0), (1, mi ↑c), (2, mi ((c / prf (fun w => (mvl κ t s w).length) k : Nat) : Int)), (3, mi ((12 ^ k : Nat) : Int)), (4, mi (k : Int))] [] shM J L rM := by
    refine lpn (us κ) (fun k hk ih => ?_) ?_
    · intro J hJ h42 h43 h21
      have j34 : J 0 34 = κ 0 34 := (h0.tr hJ.e1).at (by unfold sce per; omega)
      obtain ⟨g1, g2⟩ := hm k hk
      obtain ⟨q, m1, m2, m3, m4⟩ := mix_at hH t s c k
      have hq := mv_r hH hs (t := t) c k
      have hlk := hll k
      have g3 := g2 _ q m1
      have j18 : J 18 (k : Int) = ((mvl κ t s k).length : Int) := by rw [hJ 18 _ (by unfold scr0; omega)]; exact g1
      have hmi : ((c / prf (fun w => (mvl κ t s w).length) k : Nat) : Int) % ((mvl κ t s k).length : Int) = (mix κ t s c k : Int) := by unfold mix; exact (Int.natCast_emod _ _).symm
      have hdi : ((c / prf (fun w => (mvl κ t s w).length) k : Nat) : Int) / ((mvl κ t s k).length : Int) = ((c / prf (fun w => (mvl κ t s w).length) (k + 1) : Nat) : Int) := by
        rw [← Int.natCast_ediv, Nat.div_div_eq_div_mul]; rfl
      have hcd : c / prf (fun w => (mvl κ t s w).length) k ≤ c := Nat.div_le_self _ _
      have hcr : 0 ≤ ((c / prf (fun w => (mvl κ t s w).length) k : Nat) : Int) ∧ ((c / prf (fun w => (mvl κ t s w).length) k : Nat) : Int) ≤ 2147483647 := ⟨Int.natCast_nonneg _, Int.le_trans (Int.ofNat_le.mpr hcd) (by omega)⟩
      have j19 : J 19 (9 * (k : Int) + (mix κ t s c k : Int)) = mvd κ t s c k := by rw [hJ 19 _ (by unfold scr0; omega), g3.1, m2]
      have j20 : J 20 (9 * (k : Int) + (mix κ t s c k : Int)) = mvt κ t s c k := by rw [hJ 20 _ (by unfold scr0; omega), g3.2, m3]
      have back : ∀ (J1 : MI) (x : Int), x = (if mvd κ t s c k < 0 then 0 else z_shl 1 (mvd κ t s c k)) → J1 = m_up (m_up (m_up J 21 (k : Int) (mvd κ t s c k)) 0 42 (z_or (J 0 42) x)) 0 43 (J 0 43 + ((12 ^ k : Nat) : Int) * mvt κ t s c k) → Rn G mtX8_take Q 17 [(0, mr 0), (1, mi ↑c), (2, mi ((c / prf (fun w => (mvl κ t s w).length) (k + 1) : Nat) : Int)), (3, mi (((12 ^ k : Nat) : Int) * 12)), (4, mi ((k : Int) + 1))] [] shM J1 L rM := by
        intro J1 x hx hJ1
        have hp : (((12 ^ k : Nat) : Int) * 12) = ((12 ^ (k + 1) : Nat) : Int) := by rw [Nat.pow_succ, Int.natCast_mul]; rfl
        rw [hp, hJ1]
        refine ih _ ?_ ?_ ?_ ?_
        · exact ((hJ.up (by unfold scr0; omega)).up (by unfold scr0; omega)).up (by unfold scr0; omega)
        · rw [m_up_nj (by decide), m_up_eq, hx, h42]; rfl
        · rw [m_up_eq, h43]
          show _ = ((smf (fun w => 12 ^ w * (mvt κ t s c w).toNat) k + 12 ^ k * (mvt κ t s c k).toNat : Nat) : Int)
          rw [Int.natCast_add, Int.natCast_mul, show (((mvt κ t s c k).toNat : Nat) : Int) = mvt κ t s c k by omega]
        · intro w hw
          rw [m_up_ne (by decide), m_up_ne (by decide)]
          by_cases e : w = k
          · subst e; rw [m_up_eq]
          · rw [m_up_nj (by omega)]; exact h21 w (by omega)
      refine x_iload dX8_take_17 4 rfl ?_
      refine x_aload_n dX8_take_19 0 rfl rfl ?_
      refine x_getI dX8_take_20 flX8_240 rfl rfl ?_
      refine x_ic_ge (tgt := 128) dX8_take_23 (by decide) (by first | omega | exact z_and_r _ _ | exact z_or_r _ _ | exact z_xor_r _ _) (fun h23 => ?_) (fun h23 => ?_)
      · exfalso; omega
      · refine x_bipush dX8_take_26 (by decide) ?_
        refine x_iload dX8_take_28 4 rfl ?_
        refine x_imul dX8_take_30 ?_
        refine x_iload_n dX8_take_31 2 rfl rfl ?_
        refine x_aload_n dX8_take_32 0 rfl rfl ?_
        refine x_getR dX8_take_33 flX8_62 rfl rfl rfl ?_
        refine x_iload dX8_take_36 4 rfl ?_
        refine x_iald dX8_take_38 rfl (by omega) ?_
        refine y_irem dX8_take_39 (by first | exact hcr | omega) (by first | exact hcr | omega) ?_
        refine x_iadd dX8_take_40 ?_
        rw [j18, hmi]
        refine x_istore (lv' := [(0, _), (1, _), (2, _), (3, _), (4, _), (5, _)]) dX8_take_41 rfl rfl ?_
        refine x_iload_n dX8_take_43 2 rfl rfl ?_
        refine x_aload_n dX8_take_44 0 rfl rfl ?_
        refine x_getR dX8_take_45 flX8_62 rfl rfl rfl ?_
        refine x_iload dX8_take_48 4 rfl ?_
        refine x_iald dX8_take_50 rfl (by omega) ?_
        refine y_idiv dX8_take_51 (by first | exact hcr | omega) (by first | exact hcr | omega) ?_
        rw [j18, hdi]
        refine x_istore_n (lv' := [(0, _), (1, _), (2, _), (3, _), (4, _), (5, _)]) dX8_take_52 rfl rfl rfl ?_
        refine x_aload_n dX8_take_53 0 rfl rfl ?_
        refine x_getR dX8_take_54 flX8_71 rfl rfl rfl ?_
        refine x_iload dX8_take_57 4 rfl ?_
        refine x_aload_n dX8_take_59 0 rfl rfl ?_
        refine x_getR dX8_take_60 flX8_65 rfl rfl rfl ?_
        refine x_iload dX8_take_63 5 rfl ?_
        refine x_iald dX8_take_65 rfl (by omega) ?_
        rw [j19]
        refine x_iast dX8_take_66 rfl (by omega) ?_
        refine x_aload_n dX8_take_67 0 rfl rfl ?_
        refine x_dup dX8_take_68 rfl ?_
        refine y_getI dX8_take_69 flX8_273 rfl rfl (m_up_ne (by decide) _) ?_
        refine x_aload_n dX8_take_72 0 rfl rfl ?_
        refine x_getR dX8_take_73 flX8_65 rfl rfl rfl ?_
        refine x_iload dX8_take_76 5 rfl ?_
        refine y_iald dX8_take_78 rfl (by omega) (m_up_ne (by decide) _) ?_
        rw [j19]
        refine x_if_ge (tgt := 86) dX8_take_79 (by decide) (by first | omega | exact z_and_r _ _ | exact z_or_r _ _ | exact z_xor_r _ _) (fun h79 => ?_) (fun h79 => ?_)
        · refine x_iconst dX8_take_86 ?_
          refine x_aload_n dX8_take_87 0 rfl rfl ?_
          refine x_getR dX8_take_88 flX8_65 rfl rfl rfl ?_
          refine x_iload dX8_take_91 5 rfl ?_
          refine y_iald dX8_take_93 rfl (by omega) (m_up_ne (by decide) _) ?_
          rw [j19]
          refine x_ishl dX8_take_94 ?_
          refine x_ior dX8_take_95 ?_
          refine x_putI dX8_take_96 flX8_273 rfl rfl rfl ?_
          refine x_aload_n dX8_take_99 0 rfl rfl ?_
          refine x_dup dX8_take_100 rfl ?_
          refine y_getI dX8_take_101 flX8_276 rfl rfl (((m_up_nj (by decide)).trans (m_up_ne (by decide) _))) ?_
          refine x_iload_n dX8_take_104 3 rfl rfl ?_
          refine x_aload_n dX8_take_105 0 rfl rfl ?_
          refine x_getR dX8_take_106 flX8_68 rfl rfl rfl ?_
          refine x_iload dX8_take_109 5 rfl ?_
          refine y_iald dX8_take_111 rfl (by omega) (((m_up_ne (by decide) _).trans (m_up_ne (by decide) _))) ?_
          rw [j20]
          refine x_imul dX8_take_112 ?_
          refine x_iadd dX8_take_113 ?_
          refine x_putI dX8_take_114 flX8_276 rfl rfl rfl ?_
          refine x_iload_n dX8_take_117 3 rfl rfl ?_
          refine x_bipush dX8_take_118 (by decide) ?_
          refine x_imul dX8_take_120 ?_
          refine x_istore_n (lv' := [(0, _), (1, _), (2, _), (3, _), (4, _), (5, _)]) dX8_take_121 rfl rfl rfl ?_
          refine x_iinc (lv' := [(0, _), (1, _), (2, _), (3, _), (4, _), (5, _)]) dX8_take_122 4 rfl rfl rfl ?_
          refine x_goto (tgt := 17) dX8_take_125 (by decide) ?_
          refine x_top (lv' := [(0, _), (1, _), (2, _), (3, _), (4, _)]) 5 rfl ?_
          first | exact back _ _ (if_pos (by omega)).symm rfl | exact back _ _ (if_neg (by omega)).symm rfl
        · refine x_iconst dX8_take_82 ?_
          refine x_goto (tgt := 95) dX8_take_83 (by decide) ?_
          refine x_ior dX8_take_95 ?_
          refine x_putI dX8_take_96 flX8_273 rfl rfl rfl ?_
          refine x_aload_n dX8_take_99 0 rfl rfl ?_
          refine x_dup dX8_take_100 rfl ?_
          refine y_getI dX8_take_101 flX8_276 rfl rfl (((m_up_nj (by decide)).trans (m_up_ne (by decide) _))) ?_
          refine x_iload_n dX8_take_104 3 rfl rfl ?_
          refine x_aload_n dX8_take_105 0 rfl rfl ?_
          refine x_getR dX8_take_106 flX8_68 rfl rfl rfl ?_
          refine x_iload dX8_take_109 5 rfl ?_
          refine y_iald dX8_take_111 rfl (by omega) (((m_up_ne (by decide) _).trans (m_up_ne (by decide) _))) ?_
          rw [j20]
          refine x_imul dX8_take_112 ?_
          refine x_iadd dX8_take_113 ?_
          refine x_putI dX8_take_114 flX8_276 rfl rfl rfl ?_
          refine x_iload_n dX8_take_117 3 rfl rfl ?_
          refine x_bipush dX8_take_118 (by decide) ?_
          refine x_imul dX8_take_120 ?_
          refine x_istore_n (lv' := [(0, _), (1, _), (2, _), (3, _), (4, _), (5, _)]) dX8_take_121 rfl rfl rfl ?_
          refine x_iinc (lv' := [(0, _), (1, _), (2, _), (3, _), (4, _), (5, _)]) dX8_take_122 4 rfl rfl rfl ?_
          refine x_goto (tgt := 17) dX8_take_125 (by decide) ?_
          refine x_top (lv' := [(0, _), (1, _), (2, _), (3, _), (4, _)]) 5 rfl ?_
          first | exact back _ _ (if_pos (by omega)).symm rfl | exact back _ _ (if_neg (by omega)).symm rfl
    · intro J hJ h42 h43 h21
      have j34 : J 0 34 = κ 0 34 := (h0.tr hJ.e1).at (by unfold sce per; omega)
      refine x_iload dX8_take_17 4 rfl ?_
      refine x_aload_n dX8_take_19 0 rfl rfl ?_
      refine x_getI dX8_take_20 flX8_240 rfl rfl ?_
      refine x_ic_ge (tgt := 128) dX8_take_23 (by decide) (by first | omega | exact z_and_r _ _ | exact z_or_r _ _ | exact z_xor_r _ _) (fun h23 => ?_) (fun h23 => ?_)
      · refine x_vret dX8_take_128 rfl ?_
        rw [← hQ]
        exact ⟨rfl, rfl, rfl, hJ, h42, h43, h21⟩
      · exfalso; omega
  refine x_iload_n dX8_take_0 1 rfl rfl ?_
  refine x_istore_n (lv' := [(0, _), (1, _), (2, _)]) dX8_take_1 rfl rfl rfl ?_
  refine x_iconst dX8_take_2 ?_
  refine x_istore_n (lv' := [(0, _), (1, _), (2, _), (3, _)]) dX8_take_3 rfl rfl rfl ?_
  refine x_aload_n dX8_take_4 0 rfl rfl ?_
  refine x_iconst dX8_take_5 ?_
  refine x_putI dX8_take_6 flX8_273 rfl rfl rfl ?_
  refine x_aload_n dX8_take_9 0 rfl rfl ?_
  refine x_iconst dX8_take_10 ?_
  refine x_putI dX8_take_11 flX8_276 rfl rfl rfl ?_
  refine x_iconst dX8_take_14 ?_
  refine x_istore (lv' := [(0, _), (1, _), (2, _), (3, _), (4, _)]) dX8_take_15 rfl rfl ?_
  have h1 := loop 0 (by omega) (m_up (m_up I 0 42 0) 0 43 0) (((E0.rf I).up (by unfold scr0; omega)).up (by unfold scr0; omega)) (by rw [m_up_nj (by decide), m_up_eq]; rfl) (by rw [m_up_eq]; rfl) (fun w hw => by omega)
  rw [show c / prf (fun w => (mvl κ t s w).length) 0 = c by unfold prf; omega] at h1
  exact h1
theorem s_X8_isHeard {t : Int} {p : Int} (h0 : E1 κ I) (hS : iSc κ) (ht : 0 ≤ t ∧ t ≤ 30) (hp : I 0 42 = p) : Sp G mtX8_isHeard [mr 0, mi t] shM I L rM (qi (pu (b01 (z_and p (byK κ t) = κ 13 t)) I L rM)) := by
  refine Sp.of pnX8_isHeard rfl ?_
  show Rn G mtX8_isHeard _ 0 [(0, mr 0), (1, mi t)] [] shM I L rM
  generalize hQ : (qi (pu (b01 (z_and p (byK κ t) = κ 13 t)) I L rM)) = Q
  have e36 : I 0 36 = κ 0 36 := h0.at (by unfold sce per; omega)
  have e37 : I 0 37 = κ 0 37 := h0.at (by unfold sce per; omega)
  have e35 : I 0 35 = κ 0 35 := h0.at (by unfold sce per; omega)
  have e13 : I 13 t = κ 13 t := h0.at (by unfold sce per; omega)
  have hs1 := hS.2.1
  have hs2 := hS.2.2.1
  have r13 := (hS.2.2.2.2 t ht.1 ht.2).1
  have hx : I 0 36 < 0 ∨ t < I 0 37 → byK κ t = I 0 35 := fun h => by unfold byK; rw [if_neg (by omega), e35]
  have hy : ¬ I 0 36 < 0 → ¬ t < I 0 37 → byK κ t = z_and (I 0 35) (z_xor (z_shl 1 (I 0 36)) (-1)) := fun h h2 => by unfold byK; rw [if_pos (by omega), e35, e36]
  have ra := z_and_r (I 0 42)
  have r1 := ra (I 0 35)
  have r2 := ra (z_and (I 0 35) (z_xor (z_shl 1 (I 0 36)) (-1)))
  refine x_aload_n dX8_isHeard_0 0 rfl rfl ?_
  refine x_getI dX8_isHeard_1 flX8_243 rfl rfl ?_
  refine x_if_lt (tgt := 31) dX8_isHeard_4 (by decide) (by omega) (fun h4 => ?_) (fun h4 => ?_)
  · refine x_aload_n dX8_isHeard_31 0 rfl rfl ?_
    refine x_getI dX8_isHeard_32 flX8_249 rfl rfl ?_
    refine x_istore_n (lv' := [(0, _), (1, _), (2, _)]) dX8_isHeard_35 rfl rfl rfl ?_
    refine x_aload_n dX8_isHeard_36 0 rfl rfl ?_
    refine x_getI dX8_isHeard_37 flX8_273 rfl rfl ?_
    refine x_iload_n dX8_isHeard_40 2 rfl rfl ?_
    refine x_iand dX8_isHeard_41 ?_
    refine x_aload_n dX8_isHeard_42 0 rfl rfl ?_
    refine x_getR dX8_isHeard_43 flX8_47 rfl rfl rfl ?_
    refine x_iload_n dX8_isHeard_46 1 rfl rfl ?_
    refine x_iald dX8_isHeard_47 rfl (by omega) ?_
    refine x_ic_ne (tgt := 55) dX8_isHeard_48 (by decide) (by omega) (fun h48 => ?_) (fun h48 => ?_)
    · refine x_iconst dX8_isHeard_55 ?_
      refine x_zret dX8_isHeard_56 rfl (by omega) ?_
      rw [← hQ]
      first
      | (rw [hx (by omega), ← hp, ← e13]; first | exact ⟨_, rfl, b01_t (by assumption), rfl, rfl, rfl⟩ | exact ⟨_, rfl, b01_f (by assumption), rfl, rfl, rfl⟩)
      | (rw [hy (by omega) (by omega), ← hp, ← e13]; first | exact ⟨_, rfl, b01_t (by assumption), rfl, rfl, rfl⟩ | exact ⟨_, rfl, b01_f (by assumption), rfl, rfl, rfl⟩)
    · refine x_iconst dX8_isHeard_51 ?_
      refine x_goto (tgt := 56) dX8_isHeard_52 (by decide) ?_
      refine x_zret dX8_isHeard_56 rfl (by omega) ?_
      rw [← hQ]
      first
      | (rw [hx (by omega), ← hp, ← e13]; first | exact ⟨_, rfl, b01_t (by assumption), rfl, rfl, rfl⟩ | exact ⟨_, rfl, b01_f (by assumption), rfl, rfl, rfl⟩)
      | (rw [hy (by omega) (by omega), ← hp, ← e13]; first | exact ⟨_, rfl, b01_t (by assumption), rfl, rfl, rfl⟩ | exact ⟨_, rfl, b01_f (by assumption), rfl, rfl, rfl⟩)
  · refine x_iload_n dX8_isHeard_7 1 rfl rfl ?_
    refine x_aload_n dX8_isHeard_8 0 rfl rfl ?_
    refine x_getI dX8_isHeard_9 flX8_246 rfl rfl ?_
    refine x_ic_lt (tgt := 31) dX8_isHeard_12 (by decide) (by omega) (fun h12 => ?_) (fun h12 => ?_)
    · refine x_aload_n dX8_isHeard_31 0 rfl rfl ?_
      refine x_getI dX8_isHeard_32 flX8_249 rfl rfl ?_
      refine x_istore_n (lv' := [(0, _), (1, _), (2, _)]) dX8_isHeard_35 rfl rfl rfl ?_
      refine x_aload_n dX8_isHeard_36 0 rfl rfl ?_
      refine x_getI dX8_isHeard_37 flX8_273 rfl rfl ?_
      refine x_iload_n dX8_isHeard_40 2 rfl rfl ?_
      refine x_iand dX8_isHeard_41 ?_
      refine x_aload_n dX8_isHeard_42 0 rfl rfl ?_
      refine x_getR dX8_isHeard_43 flX8_47 rfl rfl rfl ?_
      refine x_iload_n dX8_isHeard_46 1 rfl rfl ?_
      refine x_iald dX8_isHeard_47 rfl (by omega) ?_
      refine x_ic_ne (tgt := 55) dX8_isHeard_48 (by decide) (by omega) (fun h48 => ?_) (fun h48 => ?_)
      · refine x_iconst dX8_isHeard_55 ?_
        refine x_zret dX8_isHeard_56 rfl (by omega) ?_
        rw [← hQ]
        first
        | (rw [hx (by omega), ← hp, ← e13]; first | exact ⟨_, rfl, b01_t (by assumption), rfl, rfl, rfl⟩ | exact ⟨_, rfl, b01_f (by assumption), rfl, rfl, rfl⟩)
        | (rw [hy (by omega) (by omega), ← hp, ← e13]; first | exact ⟨_, rfl, b01_t (by assumption), rfl, rfl, rfl⟩ | exact ⟨_, rfl, b01_f (by assumption), rfl, rfl, rfl⟩)
      · refine x_iconst dX8_isHeard_51 ?_
        refine x_goto (tgt := 56) dX8_isHeard_52 (by decide) ?_
        refine x_zret dX8_isHeard_56 rfl (by omega) ?_
        rw [← hQ]
        first
        | (rw [hx (by omega), ← hp, ← e13]; first | exact ⟨_, rfl, b01_t (by assumption), rfl, rfl, rfl⟩ | exact ⟨_, rfl, b01_f (by assumption), rfl, rfl, rfl⟩)
        | (rw [hy (by omega) (by omega), ← hp, ← e13]; first | exact ⟨_, rfl, b01_t (by assumption), rfl, rfl, rfl⟩ | exact ⟨_, rfl, b01_f (by assumption), rfl, rfl, rfl⟩)
    · refine x_aload_n dX8_isHeard_15 0 rfl rfl ?_
      refine x_getI dX8_isHeard_16 flX8_249 rfl rfl ?_
      refine x_iconst dX8_isHeard_19 ?_
      refine x_aload_n dX8_isHeard_20 0 rfl rfl ?_
      refine x_getI dX8_isHeard_21 flX8_243 rfl rfl ?_
      refine x_ishl dX8_isHeard_24 ?_
      refine x_iconst dX8_isHeard_25 ?_
      refine x_ixor dX8_isHeard_26 ?_
      refine x_iand dX8_isHeard_27 ?_
      refine x_goto (tgt := 35) dX8_isHeard_28 (by decide) ?_
      refine x_istore_n (lv' := [(0, _), (1, _), (2, _)]) dX8_isHeard_35 rfl rfl rfl ?_
      refine x_aload_n dX8_isHeard_36 0 rfl rfl ?_
      refine x_getI dX8_isHeard_37 flX8_273 rfl rfl ?_
      refine x_iload_n dX8_isHeard_40 2 rfl rfl ?_
      refine x_iand dX8_isHeard_41 ?_
      refine x_aload_n dX8_isHeard_42 0 rfl rfl ?_
      refine x_getR dX8_isHeard_43 flX8_47 rfl rfl rfl ?_
      refine x_iload_n dX8_isHeard_46 1 rfl rfl ?_
      refine x_iald dX8_isHeard_47 rfl (by omega) ?_
      refine x_ic_ne (tgt := 55) dX8_isHeard_48 (by decide) (by omega) (fun h48 => ?_) (fun h48 => ?_)
      · refine x_iconst dX8_isHeard_55 ?_
        refine x_zret dX8_isHeard_56 rfl (by omega) ?_
        rw [← hQ]
        first
        | (rw [hx (by omega), ← hp, ← e13]; first | exact ⟨_, rfl, b01_t (by assumption), rfl, rfl, rfl⟩ | exact ⟨_, rfl, b01_f (by assumption), rfl, rfl, rfl⟩)
        | (rw [hy (by omega) (by omega), ← hp, ← e13]; first | exact ⟨_, rfl, b01_t (by assumption), rfl, rfl, rfl⟩ | exact ⟨_, rfl, b01_f (by assumption), rfl, rfl, rfl⟩)
      · refine x_iconst dX8_isHeard_51 ?_
        refine x_goto (tgt := 56) dX8_isHeard_52 (by decide) ?_
        refine x_zret dX8_isHeard_56 rfl (by omega) ?_
        rw [← hQ]
        first
        | (rw [hx (by omega), ← hp, ← e13]; first | exact ⟨_, rfl, b01_t (by assumption), rfl, rfl, rfl⟩ | exact ⟨_, rfl, b01_f (by assumption), rfl, rfl, rfl⟩)
        | (rw [hy (by omega) (by omega), ← hp, ← e13]; first | exact ⟨_, rfl, b01_t (by assumption), rfl, rfl, rfl⟩ | exact ⟨_, rfl, b01_f (by assumption), rfl, rfl, rfl⟩)
theorem s_X8_canTake {t : Int} {s c : Nat} (h0 : E1 κ I) (hH : iHs κ) (hS : iSc κ) (ht : 0 ≤ t ∧ t ≤ 29) (hs : s < 1728) (hp : I 0 42 = pas κ t s c) (hn : I 0 43 = (nxt κ t s c : Int)) : Sp G mtX8_canTake [mr 0, mi t] shM I L rM (qi (pu (b01 (vld κ t s c = true)) I L rM)) := by
  refine Sp.of pnX8_canTake rfl ?_
  show Rn G mtX8_canTake _ 0 [(0, mr 0), (1, mi t)] [] shM I L rM
  generalize hQ : (qi (pu (b01 (vld κ t s c = true)) I L rM)) = Q
  have hnx := nxt_lt hH hs (t := t) c
  have hnn := (nst_le hH hS).2
  refine x_aload_n dX8_canTake_0 0 rfl rfl ?_
  refine x_iload_n dX8_canTake_1 1 rfl rfl ?_
  refine x_callVi (as := [_]) dX8_canTake_2 lvX8_279 rfl rfl rfl rfl rfl rfl rfl ⟨rfl, rfl⟩ (s_X8_isHeard h0 hS (by omega) hp) (fun z2 I2 L2 R2 hq2 => ?_)
  obtain ⟨rfl, rfl, rfl, rfl⟩ := hq2
  refine y_ifb_eq (tgt := 26) dX8_canTake_5 (by decide) (fun h5 => ?_) (fun h5 => ?_)
  · refine x_iconst dX8_canTake_26 ?_
    refine x_zret dX8_canTake_27 rfl (by omega) ?_
    rw [← hQ]
    refine ⟨_, rfl, ?_, rfl, rfl, rfl⟩
    unfold vld
    first
    | exact b01_t (by rw [Bool.and_eq_true, beq_iff_eq]; exact ⟨by assumption, by assumption⟩)
    | exact b01_f (by rw [Bool.and_eq_true, beq_iff_eq]; rintro ⟨x1, x2⟩; contradiction)
  · refine x_aload_n dX8_canTake_8 0 rfl rfl ?_
    refine x_iload_n dX8_canTake_9 1 rfl rfl ?_
    refine x_iconst dX8_canTake_10 ?_
    refine x_iadd dX8_canTake_11 ?_
    refine x_aload_n dX8_canTake_12 0 rfl rfl ?_
    refine x_getI dX8_canTake_13 flX8_276 rfl rfl ?_
    rw [hn]
    refine x_callVi (as := [_, _]) dX8_canTake_16 lvX8_267 rfl rfl rfl rfl rfl rfl rfl ⟨rfl, rfl⟩ (s_X8_canBe h0 hH hS (by omega) (by omega)) (fun z16 I16 L16 R16 hq16 => ?_)
    obtain ⟨rfl, rfl, rfl, rfl⟩ := hq16
    refine y_ifb_eq (tgt := 26) dX8_canTake_19 (by decide) (fun h19 => ?_) (fun h19 => ?_)
    · refine x_iconst dX8_canTake_26 ?_
      refine x_zret dX8_canTake_27 rfl (by omega) ?_
      rw [← hQ]
      refine ⟨_, rfl, ?_, rfl, rfl, rfl⟩
      unfold vld
      first
      | exact b01_t (by rw [Bool.and_eq_true, beq_iff_eq]; exact ⟨by assumption, by assumption⟩)
      | exact b01_f (by rw [Bool.and_eq_true, beq_iff_eq]; rintro ⟨x1, x2⟩; contradiction)
    · refine x_iconst dX8_canTake_22 ?_
      refine x_goto (tgt := 27) dX8_canTake_23 (by decide) ?_
      refine x_zret dX8_canTake_27 rfl (by omega) ?_
      rw [← hQ]
      refine ⟨_, rfl, ?_, rfl, rfl, rfl⟩
      unfold vld
      first
      | exact b01_t (by rw [Bool.and_eq_true, beq_iff_eq]; exact ⟨by assumption, by assumption⟩)
      | exact b01_f (by rw [Bool.and_eq_true, beq_iff_eq]; rintro ⟨x1, x2⟩; contradiction)
theorem s_X8_more {x y : Int} (hx : 0 ≤ x ∧ x ≤ 1000000000000001) (hy : 0 ≤ y ∧ y ≤ 1000000000000001) : Sp G mtX8_more [ml x, ml y] sh I L R (ql (pu (mor x y) I L R)) := by
  refine Sp.of pnX8_more rfl ?_
  show Rn G mtX8_more _ 0 [(0, ml x), (2, ml y)] [] sh I L R
  generalize hQ : (ql (pu (mor x y) I L R)) = Q
  refine x_lload_n dX8_more_0 0 rfl rfl ?_
  refine x_lload_n dX8_more_1 1 rfl rfl ?_
  refine x_ladd dX8_more_2 ?_
  refine x_ldc2 (1000000000000000) dX8_more_3 lkX8_282 ?_
  refine x_lc_le (tgt := 16) dX8_more_6 dX8_more_7 (by decide) (by first | omega | exact z_and_r _ _ | exact z_or_r _ _ | exact z_xor_r _ _) (fun h6 => ?_) (fun h6 => ?_)
  · refine x_lload_n dX8_more_16 0 rfl rfl ?_
    refine x_lload_n dX8_more_17 1 rfl rfl ?_
    refine x_ladd dX8_more_18 ?_
    refine x_lret dX8_more_19 rfl ?_
    rw [← hQ]
    refine ⟨_, rfl, ?_, rfl, rfl, rfl⟩
    unfold mor
    first | (rw [if_pos (by omega)]) | (rw [if_neg (by omega)])
  · refine x_ldc2 (1000000000000001) dX8_more_10 lkX8_284 ?_
    refine x_goto (tgt := 19) dX8_more_13 (by decide) ?_
    refine x_lret dX8_more_19 rfl ?_
    rw [← hQ]
    refine ⟨_, rfl, ?_, rfl, rfl, rfl⟩
    unfold mor
    first | (rw [if_pos (by omega)]) | (rw [if_neg (by omega)])
theorem s_X8_goOn {t : Int} {s : Nat} {A : Nat → Int} (h0 : E1 κ I) (hH : iHs κ) (hS : iSc κ) (ht : 0 ≤ t ∧ t ≤ 29) (hs : s < nst κ) (hA : ∀ x, 0 ≤ A x ∧ A x ≤ 1000000000000001) (hv : 0 ≤ L 22 (1728 * t + (s : Int)) ∧ L 22 (1728 * t + (s : Int)) ≤ 1000000000000001) (hL : ∀ x, x < nst κ → L 22 (1728 * (t + 1) + (x : Int)) = A x) : Sp G mtX8_goOn [mr 0, mi t, mi ↑s] shM I L rM (qv (fun I' L' R' => E1 κ I' ∧ R' = rM ∧ (∀ a j, ¬ (a = 22 ∧ 1728 * (t + 1) ≤ j ∧ j < 1728 * (t + 1) + 1728) → L' a j = L a j) ∧ ∀ x, x < nst κ → L' 22 (1728 * (t + 1) + (x : Int)) = stp κ t s (L 22 (1728 * t + (s : Int))) A (mal κ t s) x)) := by
  refine Sp.of pnX8_goOn rfl ?_
  show Rn G mtX8_goOn _ 0 [(0, mr 0), (1, mi t), (2, mi ↑s)] [] shM I L rM
  generalize hQ : (qv (fun I' L' R' => E1 κ I' ∧ R' = rM ∧ (∀ a j, ¬ (a = 22 ∧ 1728 * (t + 1) ≤ j ∧ j < 1728 * (t + 1) + 1728) → L' a j = L a j) ∧ ∀ x, x < nst κ → L' 22 (1728 * (t + 1) + (x : Int)) = stp κ t s (L 22 (1728 * t + (s : Int))) A (mal κ t s) x)) = Q
  have hnn := (nst_le hH hS).2
  have hs2 : s < 1728 := by omega
  have hml : mal κ t s ≤ 729 := mal_le hH hS t s
  refine x_aload_n dX8_goOn_0 0 rfl rfl ?_
  refine x_iload_n dX8_goOn_1 1 rfl rfl ?_
  refine x_iload_n dX8_goOn_2 2 rfl rfl ?_
  refine x_callVv (as := [_, _]) dX8_goOn_3 lvX8_297 rfl rfl rfl rfl rfl rfl rfl ⟨rfl, rfl⟩ (s_X8_layMoves h0 hH hS (by omega) (by omega)) (fun I3 L3 R3 hq3 => ?_)
  obtain ⟨rfl, rfl, hX3, hE, h41, hv41⟩ := hq3
  refine x_iconst dX8_goOn_6 ?_
  refine x_istore_n (lv' := [(0, _), (1, _), (2, _), (3, _)]) dX8_goOn_7 rfl rfl rfl ?_
  have loop : ∀ c, c ≤ mal κ t s → ∀ (J K : MI), E1 κ J → J 0 41 = (mal κ t s : Int) → hMv κ t s (us κ) J → (∀ a j, ¬ (a = 22 ∧ 1728 * (t + 1) ≤ j ∧ j < 1728 * (t + 1) + 1728) → K a j = L a j) → (∀ x, x < nst κ → K 22 (1728 * (t + 1) + (x : Int)) = stp κ t s (L 22 (1728 * t + (s : Int))) A c x) → Rn G mtX8_goOn Q 8 [(0, mr 0), (1, mi t), (2, mi ↑s), (3, mi (c : Int))] [] shM J K rM := by
    refine lpn (mal κ t s) (fun c hc ih => ?_) ?_
    · intro J K hJ hm hM hK hK2
      have hnx := nxt_lt hH hs2 (t := t) c
      have hst := stp_r (κ := κ) (t := t) (s := s) hv hA c (nxt κ t s c)
      have hKv : K 22 (1728 * t + (s : Int)) = L 22 (1728 * t + (s : Int)) := hK _ _ (by omega)
      have hKx := hK2 _ hnx
      refine x_iload_n dX8_goOn_8 3 rfl rfl ?_
      refine x_aload_n dX8_goOn_9 0 rfl rfl ?_
      refine x_getI dX8_goOn_10 flX8_270 rfl rfl ?_
      refine x_ic_ge (tgt := 78) dX8_goOn_13 (by decide) (by first | omega | exact z_and_r _ _ | exact z_or_r _ _ | exact z_xor_r _ _) (fun h13 => ?_) (fun h13 => ?_)
      · exfalso; omega
      · refine x_aload_n dX8_goOn_16 0 rfl rfl ?_
        refine x_iload_n dX8_goOn_17 3 rfl rfl ?_
        refine x_callVv (as := [_]) dX8_goOn_18 lvX8_300 rfl rfl rfl rfl rfl rfl rfl ⟨rfl, rfl⟩ (s_X8_take hJ hH hS hs2 hM hc) (fun I18 L18 R18 hq18 => ?_)
        obtain ⟨rfl, rfl, hE0, h42, h43, h21⟩ := hq18
        have hJ2 := hJ.tr hE0.e1
        have hm2 : I18 0 41 = (mal κ t s : Int) := by rw [hE0 0 41 (by unfold scr0; omega)]; exact hm
        have hM2 : hMv κ t s (us κ) I18 := hMv_same (fun w => (mvl_len hH.2.1 t s w).2) hM (fun j _ => hE0 18 j (by unfold scr0; omega)) (fun j _ => ⟨hE0 19 j (by unfold scr0; omega), hE0 20 j (by unfold scr0; omega)⟩)
        refine x_aload_n dX8_goOn_21 0 rfl rfl ?_
        refine x_iload_n dX8_goOn_22 1 rfl rfl ?_
        refine x_callVi (as := [_]) dX8_goOn_23 lvX8_303 rfl rfl rfl rfl rfl rfl rfl ⟨rfl, rfl⟩ (s_X8_canTake (s := s) (c := c) hJ2 hH hS (by omega) hs2 h42 h43) (fun z23 I23 L23 R23 hq23 => ?_)
        obtain ⟨rfl, rfl, rfl, rfl⟩ := hq23
        refine y_ifb_eq (tgt := 72) dX8_goOn_26 (by decide) (fun h26 => ?_) (fun h26 => ?_)
        · refine x_iinc (lv' := [(0, _), (1, _), (2, _), (3, _)]) dX8_goOn_72 3 rfl rfl rfl ?_
          refine x_goto (tgt := 8) dX8_goOn_75 (by decide) ?_
          first
          | (have hf : vld κ t s c = false := by rw [← Bool.not_eq_true]; assumption
             refine ih _ K hJ2 hm2 hM2 hK (fun x hx => ?_)
             rw [hK2 x hx, stp, hf]
             rfl)
          | (have hf : vld κ t s c = true := by assumption
             refine ih _ _ hJ2 hm2 hM2 (fun a j hn => ?_) (fun x hx => ?_)
             · unfold m_up
               rw [if_neg (by rintro ⟨rfl, rfl⟩; apply hn; omega)]
               exact hK a j hn
             · rw [stp, hf]
               show _ = upn _ _ _ x
               unfold upn
               by_cases e : x = nxt κ t s c
               · rw [if_pos e, e, m_up_eq, hKx, hKv]
               · rw [if_neg e, m_up_nj (by omega)]
                 exact hK2 x hx)
        · refine x_sipush dX8_goOn_29 (by decide) ?_
          refine x_iload_n dX8_goOn_32 1 rfl rfl ?_
          refine x_iconst dX8_goOn_33 ?_
          refine x_iadd dX8_goOn_34 ?_
          refine x_imul dX8_goOn_35 ?_
          refine x_aload_n dX8_goOn_36 0 rfl rfl ?_
          refine x_getI dX8_goOn_37 flX8_276 rfl rfl ?_
          refine x_iadd dX8_goOn_40 ?_
          refine x_istore (lv' := [(0, _), (1, _), (2, _), (3, _), (4, _)]) dX8_goOn_41 rfl rfl ?_
          rw [h43]
          refine x_aload_n dX8_goOn_43 0 rfl rfl ?_
          refine x_getR dX8_goOn_44 flX8_75 rfl rfl rfl ?_
          refine x_iload dX8_goOn_47 4 rfl ?_
          refine x_aload_n dX8_goOn_49 0 rfl rfl ?_
          refine x_getR dX8_goOn_50 flX8_75 rfl rfl rfl ?_
          refine x_iload dX8_goOn_53 4 rfl ?_
          refine x_lald dX8_goOn_55 rfl (by omega) ?_
          refine x_aload_n dX8_goOn_56 0 rfl rfl ?_
          refine x_getR dX8_goOn_57 flX8_75 rfl rfl rfl ?_
          refine x_sipush dX8_goOn_60 (by decide) ?_
          refine x_iload_n dX8_goOn_63 1 rfl rfl ?_
          refine x_imul dX8_goOn_64 ?_
          refine x_iload_n dX8_goOn_65 2 rfl rfl ?_
          refine x_iadd dX8_goOn_66 ?_
          refine x_lald dX8_goOn_67 rfl (by omega) ?_
          refine x_callSl (as := [_, _]) dX8_goOn_68 lvX8_306 rfl rfl rfl rfl ⟨rfl, rfl⟩ (s_X8_more (by rw [hKx]; exact hst) (by rw [hKv]; exact hv)) (fun z68 I68 L68 R68 hq68 => ?_)
          obtain ⟨rfl, rfl, rfl, rfl⟩ := hq68
          refine x_last dX8_goOn_71 rfl (by omega) ?_
          refine x_iinc (lv' := [(0, _), (1, _), (2, _), (3, _), (4, _)]) dX8_goOn_72 3 rfl rfl rfl ?_
          refine x_goto (tgt := 8) dX8_goOn_75 (by decide) ?_
          refine x_top (lv' := [(0, _), (1, _), (2, _), (3, _)]) 4 rfl ?_
          first
          | (have hf : vld κ t s c = false := by rw [← Bool.not_eq_true]; assumption
             refine ih _ K hJ2 hm2 hM2 hK (fun x hx => ?_)
             rw [hK2 x hx, stp, hf]
             rfl)
          | (have hf : vld κ t s c = true := by assumption
             refine ih _ _ hJ2 hm2 hM2 (fun a j hn => ?_) (fun x hx => ?_)
             · unfold m_up
               rw [if_neg (by rintro ⟨rfl, rfl⟩; apply hn; omega)]
               exact hK a j hn
             · rw [stp, hf]
               show _ = upn _ _ _ x
               unfold upn
               by_cases e : x = nxt κ t s c
               · rw [if_pos e, e, m_up_eq, hKx, hKv]
               · rw [if_neg e, m_up_nj (by omega)]
                 exact hK2 x hx)
    · intro J K hJ hm hM hK hK2
      refine x_iload_n dX8_goOn_8 3 rfl rfl ?_
      refine x_aload_n dX8_goOn_9 0 rfl rfl ?_
      refine x_getI dX8_goOn_10 flX8_270 rfl rfl ?_
      refine x_ic_ge (tgt := 78) dX8_goOn_13 (by decide) (by first | omega | exact z_and_r _ _ | exact z_or_r _ _ | exact z_xor_r _ _) (fun h13 => ?_) (fun h13 => ?_)
      · refine x_vret dX8_goOn_78 rfl ?_
        rw [← hQ]
        exact ⟨rfl, hJ, rfl, hK, hK2⟩
      · exfalso; omega
  exact loop 0 (by omega) _ _ hE h41 hv41 (fun _ _ _ => rfl) hL
end

/-! THE REFERENCE'S SEARCH: the two tables. -/
section
variable {G : GT} {sh : MS} {I L : MI} {R : MR} {κ : MI}

theorem s_X8_layFront  (h0 : E1 κ I) (hH : iHs κ) (hS : iSc κ) : Sp G mtX8_layFront [mr 0] shM I L rM (qi (fun z I' L' R' => z = fst0 κ ∧ E1 κ I' ∧ R' = rM ∧ (∀ a j, a ≠ 22 → L' a j = L a j) ∧ (z = -9 → ∀ t s, t ≤ lst κ → s < nst κ → L' 22 (1728 * (t : Int) + (s : Int)) = Fr κ t s))) := by
  refine Sp.of pnX8_layFront rfl ?_
  show Rn G mtX8_layFront _ 0 [(0, mr 0)] [] shM I L rM
  generalize hQ : (qi (fun z I' L' R' => z = fst0 κ ∧ E1 κ I' ∧ R' = rM ∧ (∀ a j, a ≠ 22 → L' a j = L a j) ∧ (z = -9 → ∀ t s, t ≤ lst κ → s < nst κ → L' 22 (1728 * (t : Int) + (s : Int)) = Fr κ t s))) = Q
  have hu := us_le hH hS
  have hnn := (nst_le hH hS).2
  have hT := hH.2.2.2.1
  have hlt : (lst κ : Int) = κ 0 14 := by unfold lst; omega
  have start : ∀ k, k ≤ nst κ → ∀ (K : MI), (∀ a j, a ≠ 22 → K a j = L a j) → (∀ s, s < k → K 22 (s : Int) = Fr κ 0 s) → (∀ K2 : MI, (∀ a j, a ≠ 22 → K2 a j = L a j) → (∀ s, s < nst κ → K2 22 (s : Int) = Fr κ 0 s) → Rn G mtX8_layFront Q 37 [(0, mr 0), (1, mi (nst κ : Int)), (2, mi (nst κ : Int))] [] shM I K2 rM) → Rn G mtX8_layFront Q 7 [(0, mr 0), (1, mi (nst κ : Int)), (2, mi (k : Int))] [] shM I K rM := by
    refine lpn (nst κ) (fun k hk ih => ?_) ?_
    · intro K hK hF hx
      refine x_iload_n dX8_layFront_7 2 rfl rfl ?_
      refine x_iload_n dX8_layFront_8 1 rfl rfl ?_
      refine x_ic_ge (tgt := 37) dX8_layFront_9 (by decide) (by first | omega | exact z_and_r _ _ | exact z_or_r _ _ | exact z_xor_r _ _) (fun h9 => ?_) (fun h9 => ?_)
      · exfalso; omega
      · refine x_aload_n dX8_layFront_12 0 rfl rfl ?_
        refine x_getR dX8_layFront_13 flX8_75 rfl rfl rfl ?_
        refine x_iload_n dX8_layFront_16 2 rfl rfl ?_
        refine x_aload_n dX8_layFront_17 0 rfl rfl ?_
        refine x_iload_n dX8_layFront_18 2 rfl rfl ?_
        refine x_callVi (as := [_]) dX8_layFront_19 lvX8_290 rfl rfl rfl rfl rfl rfl rfl ⟨rfl, rfl⟩ (s_X8_canBegin h0 hH hS (by omega)) (fun z19 I19 L19 R19 hq19 => ?_)
        obtain ⟨rfl, rfl, rfl, rfl⟩ := hq19
        refine y_ifb_eq (tgt := 29) dX8_layFront_22 (by decide) (fun h22 => ?_) (fun h22 => ?_)
        · refine x_lconst 0 dX8_layFront_29 rfl ?_
          refine x_last dX8_layFront_30 rfl (by omega) ?_
          refine x_iinc (lv' := [(0, _), (1, _), (2, _)]) dX8_layFront_31 2 rfl rfl rfl ?_
          refine x_goto (tgt := 7) dX8_layFront_34 (by decide) ?_
          refine ih _ (fun a j hn => by rw [m_up_ne hn]; exact hK a j hn) (fun s hs => ?_) hx
          by_cases e : s = k
          · subst e
            rw [m_up_eq]
            unfold Fr
            first | (rw [if_pos (by assumption)]) | (rw [if_neg (by assumption)])
          · rw [m_up_nj (by omega)]
            exact hF s (by omega)
        · refine x_lconst 1 dX8_layFront_25 rfl ?_
          refine x_goto (tgt := 30) dX8_layFront_26 (by decide) ?_
          refine x_last dX8_layFront_30 rfl (by omega) ?_
          refine x_iinc (lv' := [(0, _), (1, _), (2, _)]) dX8_layFront_31 2 rfl rfl rfl ?_
          refine x_goto (tgt := 7) dX8_layFront_34 (by decide) ?_
          refine ih _ (fun a j hn => by rw [m_up_ne hn]; exact hK a j hn) (fun s hs => ?_) hx
          by_cases e : s = k
          · subst e
            rw [m_up_eq]
            unfold Fr
            first | (rw [if_pos (by assumption)]) | (rw [if_neg (by assumption)])
          · rw [m_up_nj (by omega)]
            exact hF s (by omega)
    · intro K hK hF hx
      refine x_iload_n dX8_layFront_7 2 rfl rfl ?_
      refine x_iload_n dX8_layFront_8 1 rfl rfl ?_
      refine x_ic_ge (tgt := 37) dX8_layFront_9 (by decide) (by first | omega | exact z_and_r _ _ | exact z_or_r _ _ | exact z_xor_r _ _) (fun h9 => ?_) (fun h9 => ?_)
      · exact hx K hK hF
      · exfalso; omega
  have main : ∀ k, k ≤ lst κ + 1 → ∀ (J K : MI), E1 κ J → (∀ a j, a ≠ 22 → K a j = L a j) → (∀ t s, t ≤ k → t ≤ lst κ → s < nst κ → K 22 (1728 * (t : Int) + (s : Int)) = Fr κ t s) → fst0 κ = fsF κ k (lst κ + 1 - k) → Rn G mtX8_layFront Q 39 [(0, mr 0), (1, mi (nst κ : Int)), (2, mi (k : Int))] [] shM J K rM := by
    refine lpn (lst κ + 1) (fun k hk ih => ?_) ?_
    · intro J K hJ hK hF hf
      have j14 : J 0 14 = κ 0 14 := hJ.at (by unfold sce per; omega)
      rw [show lst κ + 1 - k = (lst κ - k) + 1 by omega] at hf
      -- steps on
      have l2 : ∀ s, s ≤ nst κ → k < lst κ → ∀ (J2 K2 : MI), E1 κ J2 → (∀ a j, a ≠ 22 → K2 a j = L a j) → (∀ t s, t ≤ k → s < nst κ → K2 22 (1728 * (t : Int) + (s : Int)) = Fr κ t s) → (∀ x, x < nst κ → K2 22 (1728 * ((k : Int) + 1) + (x : Int)) = rwl κ (k : Int) (Fr κ k) s x) → som κ (Fr κ k) (nst κ) = true → Rn G mtX8_layFront Q 125 [(0, mr 0), (1, mi (nst κ : Int)), (2, mi (k : Int)), (3, mi 1), (4, mi (s : Int))] [] shM J2 K2 rM := by
        refine lpn (nst κ) (fun s hs ihs => ?_) ?_
        · intro hkl J2 K2 hJ2 hK2 hF2 hR2 hsm
          have j14 : J2 0 14 = κ 0 14 := hJ2.at (by unfold sce per; omega)
          have hFk := hF2 k s (Nat.le_refl _) hs
          have hFr := Fr_r κ k s
          refine x_iload dX8_layFront_125 4 rfl ?_
          refine x_iload_n dX8_layFront_127 1 rfl rfl ?_
          refine x_ic_ge (tgt := 170) dX8_layFront_128 (by decide) (by omega) (fun h128 => ?_) (fun h128 => ?_)
          · exfalso; omega
          · refine x_iload_n dX8_layFront_131 2 rfl rfl ?_
            refine x_aload_n dX8_layFront_132 0 rfl rfl ?_
            refine x_getI dX8_layFront_133 flX8_99 rfl rfl ?_
            refine x_ic_ge (tgt := 170) dX8_layFront_136 (by decide) (by omega) (fun h136 => ?_) (fun h136 => ?_)
            · exfalso; omega
            · refine x_aload_n dX8_layFront_139 0 rfl rfl ?_
              refine x_getR dX8_layFront_140 flX8_75 rfl rfl rfl ?_
              refine x_sipush dX8_layFront_143 (by decide) ?_
              refine x_iload_n dX8_layFront_146 2 rfl rfl ?_
              refine x_imul dX8_layFront_147 ?_
              refine x_iload dX8_layFront_148 4 rfl ?_
              refine x_iadd dX8_layFront_150 ?_
              refine x_lald dX8_layFront_151 rfl (by omega) ?_
              refine x_lconst 0 dX8_layFront_152 rfl ?_
              refine x_lc_le (tgt := 164) dX8_layFront_153 dX8_layFront_154 (by decide) (by omega) (fun h153 => ?_) (fun h153 => ?_)
              · refine x_iinc (lv' := [(0, _), (1, _), (2, _), (3, _), (4, _)]) dX8_layFront_164 4 rfl rfl rfl ?_
                refine x_goto (tgt := 125) dX8_layFront_167 (by decide) ?_
                first
                | (refine ihs hkl _ _ hE (fun a j hn => by rw [hk1 a j (by omega)]; exact hK2 a j hn) (fun t x ht hx => by rw [hk1 _ _ (by omega)]; exact hF2 t x ht hx) (fun x hx => ?_) hsm
                   rw [hk2 x hx, hFk, rwl_t (by omega)])
                | (refine ihs hkl _ _ hJ2 hK2 hF2 (fun x hx => ?_) hsm
                   rw [hR2 x hx, rwl_f (by omega)])
              · refine x_aload_n dX8_layFront_157 0 rfl rfl ?_
                refine x_iload_n dX8_layFront_158 2 rfl rfl ?_
                refine x_iload dX8_layFront_159 4 rfl ?_
                refine x_callVv (as := [_, _]) dX8_layFront_161 lvX8_293 rfl rfl rfl rfl rfl rfl rfl ⟨rfl, rfl⟩ (s_X8_goOn hJ2 hH hS (by omega) hs (rwl_r (Fr_r κ k) s) (by rw [hFk]; exact hFr) hR2) (fun I161 L161 R161 hq161 => ?_)
                obtain ⟨hE, rfl, hk1, hk2⟩ := hq161
                refine x_iinc (lv' := [(0, _), (1, _), (2, _), (3, _), (4, _)]) dX8_layFront_164 4 rfl rfl rfl ?_
                refine x_goto (tgt := 125) dX8_layFront_167 (by decide) ?_
                first
                | (refine ihs hkl _ _ hE (fun a j hn => by rw [hk1 a j (by omega)]; exact hK2 a j hn) (fun t x ht hx => by rw [hk1 _ _ (by omega)]; exact hF2 t x ht hx) (fun x hx => ?_) hsm
                   rw [hk2 x hx, hFk, rwl_t (by omega)])
                | (refine ihs hkl _ _ hJ2 hK2 hF2 (fun x hx => ?_) hsm
                   rw [hR2 x hx, rwl_f (by omega)])
        · intro hkl J2 K2 hJ2 hK2 hF2 hR2 hsm
          refine x_iload dX8_layFront_125 4 rfl ?_
          refine x_iload_n dX8_layFront_127 1 rfl rfl ?_
          refine x_ic_ge (tgt := 170) dX8_layFront_128 (by decide) (by first | omega | exact z_and_r _ _ | exact z_or_r _ _ | exact z_xor_r _ _) (fun h128 => ?_) (fun h128 => ?_)
          · refine x_iinc (lv' := [(0, _), (1, _), (2, _), (3, _), (4, _)]) dX8_layFront_170 2 rfl rfl rfl ?_
            refine x_goto (tgt := 39) dX8_layFront_173 (by decide) ?_
            refine x_top (lv' := [(0, _), (1, _), (2, _)]) 3 rfl ?_
            refine ih J2 K2 hJ2 hK2 (fun t s ht ht2 hs => ?_) ?_
            · by_cases e : t = k + 1
              · subst e
                have := hR2 s hs
                rw [show (1728 * ((k + 1 : Nat) : Int) + (s : Int)) = 1728 * ((k : Int) + 1) + (s : Int) by omega, this]
                rfl
              · exact hF2 t s (by omega) hs
            · rw [hf]
              show (if _ then _ else _) = _
              rw [if_pos hsm]
              congr 1
              omega
          · exfalso; omega
      have l1 : ∀ s, s ≤ nst κ → ∀ (K2 : MI), (∀ a j, a ≠ 22 → K2 a j = L a j) → (∀ t s, t ≤ k → s < nst κ → K2 22 (1728 * (t : Int) + (s : Int)) = Fr κ t s) → (k < lst κ → ∀ x, x < s → K2 22 (1728 * ((k : Int) + 1) + (x : Int)) = 0) → ∀ c, c = b01 (som κ (Fr κ k) s = true) → Rn G mtX8_layFront Q 52 [(0, mr 0), (1, mi (nst κ : Int)), (2, mi (k : Int)), (3, mi c), (4, mi (s : Int))] [] shM J K2 rM := by
        refine lpn (nst κ) (fun s hs ihs => ?_) ?_
        · intro K2 hK2 hF2 hZ c hc
          have hFk := hF2 k s (Nat.le_refl _) hs
          have hFr := Fr_r κ k s
          have hc2 : 0 ≤ c ∧ c ≤ 1 := by rw [hc]; exact b01_r _
          have hnx : ∀ v : Int, (v = 1 ∧ (c ≠ 0 ∨ 0 < K2 22 (1728 * (k : Int) + (s : Int))) ∨ v = 0 ∧ c = 0 ∧ ¬ 0 < K2 22 (1728 * (k : Int) + (s : Int))) → v = b01 (som κ (Fr κ k) (s + 1) = true) := by
            intro v hv
            rw [hFk] at hv
            rcases hv with ⟨rfl, hv⟩ | ⟨rfl, hv, hv2⟩
            · apply b01_t
              unfold som
              rw [Bool.or_eq_true, decide_eq_true_eq]
              rcases hv with hv | hv
              · exact Or.inl (b01_ne.mp (by rw [← hc]; exact hv))
              · exact Or.inr hv
            · apply b01_f
              unfold som
              rw [Bool.or_eq_true, decide_eq_true_eq]
              rintro (h | h)
              · exact (b01_eq.mp (by rw [← hc]; exact hv)) h
              · exact hv2 h
          refine x_iload dX8_layFront_52 4 rfl ?_
          refine x_iload_n dX8_layFront_54 1 rfl rfl ?_
          refine x_ic_ge (tgt := 116) dX8_layFront_55 (by decide) (by omega) (fun h55 => ?_) (fun h55 => ?_)
          · exfalso; omega
          · refine x_iload_n dX8_layFront_58 3 rfl rfl ?_
            refine x_if_ne (tgt := 80) dX8_layFront_59 (by decide) (by omega) (fun h59 => ?_) (fun h59 => ?_)
            · refine x_iconst dX8_layFront_80 ?_
              refine x_goto (tgt := 85) dX8_layFront_81 (by decide) ?_
              refine x_istore_n (lv' := [(0, _), (1, _), (2, _), (3, _), (4, _)]) dX8_layFront_85 rfl rfl rfl ?_
              refine x_iload_n dX8_layFront_86 2 rfl rfl ?_
              refine x_aload_n dX8_layFront_87 0 rfl rfl ?_
              refine x_getI dX8_layFront_88 flX8_99 rfl rfl ?_
              refine x_ic_ge (tgt := 110) dX8_layFront_91 (by decide) (by omega) (fun h91 => ?_) (fun h91 => ?_)
              · refine x_iinc (lv' := [(0, _), (1, _), (2, _), (3, _), (4, _)]) dX8_layFront_110 4 rfl rfl rfl ?_
                refine x_goto (tgt := 52) dX8_layFront_113 (by decide) ?_
                first
                | (refine ihs _ (fun a j hn => by rw [m_up_ne hn]; exact hK2 a j hn) (fun t x ht hx => by rw [m_up_nj (by omega)]; exact hF2 t x ht hx) (fun hkl x hx => ?_) _ (hnx _ (by omega))
                   by_cases e : x = s
                   · subst e; rw [m_up_eq]
                   · rw [m_up_nj (by omega)]; exact hZ hkl x (by omega))
                | exact ihs _ hK2 hF2 (fun hkl => by omega) _ (hnx _ (by omega))
              · refine x_aload_n dX8_layFront_94 0 rfl rfl ?_
                refine x_getR dX8_layFront_95 flX8_75 rfl rfl rfl ?_
                refine x_sipush dX8_layFront_98 (by decide) ?_
                refine x_iload_n dX8_layFront_101 2 rfl rfl ?_
                refine x_iconst dX8_layFront_102 ?_
                refine x_iadd dX8_layFront_103 ?_
                refine x_imul dX8_layFront_104 ?_
                refine x_iload dX8_layFront_105 4 rfl ?_
                refine x_iadd dX8_layFront_107 ?_
                refine x_lconst 0 dX8_layFront_108 rfl ?_
                refine x_last dX8_layFront_109 rfl (by omega) ?_
                refine x_iinc (lv' := [(0, _), (1, _), (2, _), (3, _), (4, _)]) dX8_layFront_110 4 rfl rfl rfl ?_
                refine x_goto (tgt := 52) dX8_layFront_113 (by decide) ?_
                first
                | (refine ihs _ (fun a j hn => by rw [m_up_ne hn]; exact hK2 a j hn) (fun t x ht hx => by rw [m_up_nj (by omega)]; exact hF2 t x ht hx) (fun hkl x hx => ?_) _ (hnx _ (by omega))
                   by_cases e : x = s
                   · subst e; rw [m_up_eq]
                   · rw [m_up_nj (by omega)]; exact hZ hkl x (by omega))
                | exact ihs _ hK2 hF2 (fun hkl => by omega) _ (hnx _ (by omega))
            · refine x_aload_n dX8_layFront_62 0 rfl rfl ?_
              refine x_getR dX8_layFront_63 flX8_75 rfl rfl rfl ?_
              refine x_sipush dX8_layFront_66 (by decide) ?_
              refine x_iload_n dX8_layFront_69 2 rfl rfl ?_
              refine x_imul dX8_layFront_70 ?_
              refine x_iload dX8_layFront_71 4 rfl ?_
              refine x_iadd dX8_layFront_73 ?_
              refine x_lald dX8_layFront_74 rfl (by omega) ?_
              refine x_lconst 0 dX8_layFront_75 rfl ?_
              refine x_lc_le (tgt := 84) dX8_layFront_76 dX8_layFront_77 (by decide) (by omega) (fun h76 => ?_) (fun h76 => ?_)
              · refine x_iconst dX8_layFront_84 ?_
                refine x_istore_n (lv' := [(0, _), (1, _), (2, _), (3, _), (4, _)]) dX8_layFront_85 rfl rfl rfl ?_
                refine x_iload_n dX8_layFront_86 2 rfl rfl ?_
                refine x_aload_n dX8_layFront_87 0 rfl rfl ?_
                refine x_getI dX8_layFront_88 flX8_99 rfl rfl ?_
                refine x_ic_ge (tgt := 110) dX8_layFront_91 (by decide) (by omega) (fun h91 => ?_) (fun h91 => ?_)
                · refine x_iinc (lv' := [(0, _), (1, _), (2, _), (3, _), (4, _)]) dX8_layFront_110 4 rfl rfl rfl ?_
                  refine x_goto (tgt := 52) dX8_layFront_113 (by decide) ?_
                  first
                  | (refine ihs _ (fun a j hn => by rw [m_up_ne hn]; exact hK2 a j hn) (fun t x ht hx => by rw [m_up_nj (by omega)]; exact hF2 t x ht hx) (fun hkl x hx => ?_) _ (hnx _ (by omega))
                     by_cases e : x = s
                     · subst e; rw [m_up_eq]
                     · rw [m_up_nj (by omega)]; exact hZ hkl x (by omega))
                  | exact ihs _ hK2 hF2 (fun hkl => by omega) _ (hnx _ (by omega))
                · refine x_aload_n dX8_layFront_94 0 rfl rfl ?_
                  refine x_getR dX8_layFront_95 flX8_75 rfl rfl rfl ?_
                  refine x_sipush dX8_layFront_98 (by decide) ?_
                  refine x_iload_n dX8_layFront_101 2 rfl rfl ?_
                  refine x_iconst dX8_layFront_102 ?_
                  refine x_iadd dX8_layFront_103 ?_
                  refine x_imul dX8_layFront_104 ?_
                  refine x_iload dX8_layFront_105 4 rfl ?_
                  refine x_iadd dX8_layFront_107 ?_
                  refine x_lconst 0 dX8_layFront_108 rfl ?_
                  refine x_last dX8_layFront_109 rfl (by omega) ?_
                  refine x_iinc (lv' := [(0, _), (1, _), (2, _), (3, _), (4, _)]) dX8_layFront_110 4 rfl rfl rfl ?_
                  refine x_goto (tgt := 52) dX8_layFront_113 (by decide) ?_
                  first
                  | (refine ihs _ (fun a j hn => by rw [m_up_ne hn]; exact hK2 a j hn) (fun t x ht hx => by rw [m_up_nj (by omega)]; exact hF2 t x ht hx) (fun hkl x hx => ?_) _ (hnx _ (by omega))
                     by_cases e : x = s
                     · subst e; rw [m_up_eq]
                     · rw [m_up_nj (by omega)]; exact hZ hkl x (by omega))
                  | exact ihs _ hK2 hF2 (fun hkl => by omega) _ (hnx _ (by omega))
              · refine x_iconst dX8_layFront_80 ?_
                refine x_goto (tgt := 85) dX8_layFront_81 (by decide) ?_
                refine x_istore_n (lv' := [(0, _), (1, _), (2, _), (3, _), (4, _)]) dX8_layFront_85 rfl rfl rfl ?_
                refine x_iload_n dX8_layFront_86 2 rfl rfl ?_
                refine x_aload_n dX8_layFront_87 0 rfl rfl ?_
                refine x_getI dX8_layFront_88 flX8_99 rfl rfl ?_
                refine x_ic_ge (tgt := 110) dX8_layFront_91 (by decide) (by omega) (fun h91 => ?_) (fun h91 => ?_)
                · refine x_iinc (lv' := [(0, _), (1, _), (2, _), (3, _), (4, _)]) dX8_layFront_110 4 rfl rfl rfl ?_
                  refine x_goto (tgt := 52) dX8_layFront_113 (by decide) ?_
                  first
                  | (refine ihs _ (fun a j hn => by rw [m_up_ne hn]; exact hK2 a j hn) (fun t x ht hx => by rw [m_up_nj (by omega)]; exact hF2 t x ht hx) (fun hkl x hx => ?_) _ (hnx _ (by omega))
                     by_cases e : x = s
                     · subst e; rw [m_up_eq]
                     · rw [m_up_nj (by omega)]; exact hZ hkl x (by omega))
                  | exact ihs _ hK2 hF2 (fun hkl => by omega) _ (hnx _ (by omega))
                · refine x_aload_n dX8_layFront_94 0 rfl rfl ?_
                  refine x_getR dX8_layFront_95 flX8_75 rfl rfl rfl ?_
                  refine x_sipush dX8_layFront_98 (by decide) ?_
                  refine x_iload_n dX8_layFront_101 2 rfl rfl ?_
                  refine x_iconst dX8_layFront_102 ?_
                  refine x_iadd dX8_layFront_103 ?_
                  refine x_imul dX8_layFront_104 ?_
                  refine x_iload dX8_layFront_105 4 rfl ?_
                  refine x_iadd dX8_layFront_107 ?_
                  refine x_lconst 0 dX8_layFront_108 rfl ?_
                  refine x_last dX8_layFront_109 rfl (by omega) ?_
                  refine x_iinc (lv' := [(0, _), (1, _), (2, _), (3, _), (4, _)]) dX8_layFront_110 4 rfl rfl rfl ?_
                  refine x_goto (tgt := 52) dX8_layFront_113 (by decide) ?_
                  first
                  | (refine ihs _ (fun a j hn => by rw [m_up_ne hn]; exact hK2 a j hn) (fun t x ht hx => by rw [m_up_nj (by omega)]; exact hF2 t x ht hx) (fun hkl x hx => ?_) _ (hnx _ (by omega))
                     by_cases e : x = s
                     · subst e; rw [m_up_eq]
                     · rw [m_up_nj (by omega)]; exact hZ hkl x (by omega))
                  | exact ihs _ hK2 hF2 (fun hkl => by omega) _ (hnx _ (by omega))
        · intro K2 hK2 hF2 hZ c hc
          have hc2 : 0 ≤ c ∧ c ≤ 1 := by rw [hc]; exact b01_r _
          refine x_iload dX8_layFront_52 4 rfl ?_
          refine x_iload_n dX8_layFront_54 1 rfl rfl ?_
          refine x_ic_ge (tgt := 116) dX8_layFront_55 (by decide) (by omega) (fun h55 => ?_) (fun h55 => ?_)
          · refine x_iload_n dX8_layFront_116 3 rfl rfl ?_
            refine x_if_ne (tgt := 122) dX8_layFront_117 (by decide) (by omega) (fun h117 => ?_) (fun h117 => ?_)
            · refine x_iconst dX8_layFront_122 ?_
              refine x_istore (lv' := [(0, _), (1, _), (2, _), (3, _), (4, _)]) dX8_layFront_123 rfl rfl ?_
              have hsm : som κ (Fr κ k) (nst κ) = true := b01_ne.mp (by rw [← hc]; assumption)
              have hc3 : c = 1 := by omega
              subst hc3
              by_cases hkl : k < lst κ
              · exact l2 0 (by omega) hkl J K2 hJ hK2 hF2 (fun x hx => hZ hkl x hx) hsm
              · refine x_iload dX8_layFront_125 4 rfl ?_
                refine x_iload_n dX8_layFront_127 1 rfl rfl ?_
                refine x_ic_ge (tgt := 170) dX8_layFront_128 (by decide) (by omega) (fun h128 => ?_) (fun h128 => ?_)
                · refine x_iinc (lv' := [(0, _), (1, _), (2, _), (3, _), (4, _)]) dX8_layFront_170 2 rfl rfl rfl ?_
                  refine x_goto (tgt := 39) dX8_layFront_173 (by decide) ?_
                  refine x_top (lv' := [(0, _), (1, _), (2, _)]) 3 rfl ?_
                  refine ih J K2 hJ hK2 (fun t s ht ht2 hs => hF2 t s (by omega) hs) ?_
                  rw [hf]
                  show (if _ then _ else _) = _
                  rw [if_pos hsm]
                  congr 1
                  omega
                · refine x_iload_n dX8_layFront_131 2 rfl rfl ?_
                  refine x_aload_n dX8_layFront_132 0 rfl rfl ?_
                  refine x_getI dX8_layFront_133 flX8_99 rfl rfl ?_
                  refine x_ic_ge (tgt := 170) dX8_layFront_136 (by decide) (by omega) (fun h136 => ?_) (fun h136 => ?_)
                  · refine x_iinc (lv' := [(0, _), (1, _), (2, _), (3, _), (4, _)]) dX8_layFront_170 2 rfl rfl rfl ?_
                    refine x_goto (tgt := 39) dX8_layFront_173 (by decide) ?_
                    refine x_top (lv' := [(0, _), (1, _), (2, _)]) 3 rfl ?_
                    refine ih J K2 hJ hK2 (fun t s ht ht2 hs => hF2 t s (by omega) hs) ?_
                    rw [hf]
                    show (if _ then _ else _) = _
                    rw [if_pos hsm]
                    congr 1
                    omega
                  · exfalso; omega
            · refine x_iload_n dX8_layFront_120 2 rfl rfl ?_
              refine x_iret dX8_layFront_121 rfl ?_
              have hsm : ¬ som κ (Fr κ k) (nst κ) = true := b01_eq.mp (by rw [← hc]; assumption)
              rw [← hQ]
              refine ⟨_, rfl, ?_, hJ, rfl, hK2, fun h => ?_⟩
              · rw [hf]
                show _ = (if _ then _ else _)
                rw [if_neg hsm]
              · exfalso; omega
          · exfalso; omega
      refine x_iload_n dX8_layFront_39 2 rfl rfl ?_
      refine x_aload_n dX8_layFront_40 0 rfl rfl ?_
      refine x_getI dX8_layFront_41 flX8_99 rfl rfl ?_
      refine x_ic_gt (tgt := 176) dX8_layFront_44 (by decide) (by first | omega | exact z_and_r _ _ | exact z_or_r _ _ | exact z_xor_r _ _) (fun h44 => ?_) (fun h44 => ?_)
      · exfalso; omega
      · refine x_iconst dX8_layFront_47 ?_
        refine x_istore_n (lv' := [(0, _), (1, _), (2, _), (3, _)]) dX8_layFront_48 rfl rfl rfl ?_
        refine x_iconst dX8_layFront_49 ?_
        refine x_istore (lv' := [(0, _), (1, _), (2, _), (3, _), (4, _)]) dX8_layFront_50 rfl rfl ?_
        exact l1 0 (by omega) K hK (fun t s ht hs => hF t s ht (by omega) hs) (fun _ x hx => by omega) _ (by unfold som; exact b01_f (by simp))
    · intro J K hJ hK hF hf
      have j14 : J 0 14 = κ 0 14 := hJ.at (by unfold sce per; omega)
      refine x_iload_n dX8_layFront_39 2 rfl rfl ?_
      refine x_aload_n dX8_layFront_40 0 rfl rfl ?_
      refine x_getI dX8_layFront_41 flX8_99 rfl rfl ?_
      refine x_ic_gt (tgt := 176) dX8_layFront_44 (by decide) (by first | omega | exact z_and_r _ _ | exact z_or_r _ _ | exact z_xor_r _ _) (fun h44 => ?_) (fun h44 => ?_)
      · refine x_bipush dX8_layFront_176 (by decide) ?_
        refine x_iret dX8_layFront_178 rfl ?_
        rw [← hQ]
        refine ⟨_, rfl, ?_, hJ, rfl, hK, fun _ t s ht hs => hF t s (by omega) ht hs⟩
        rw [hf, show lst κ + 1 - (lst κ + 1) = 0 by omega]
        rfl
      · exfalso; omega
  refine x_aload_n dX8_layFront_0 0 rfl rfl ?_
  refine x_callVi (as := []) dX8_layFront_1 lvX8_286 rfl rfl rfl rfl rfl rfl rfl ⟨rfl, rfl⟩ (s_X8_states h0 hH hS) (fun z1 I1 L1 R1 hq1 => ?_)
  obtain ⟨rfl, rfl, rfl, rfl⟩ := hq1
  refine x_istore_n (lv' := [(0, _), (1, _)]) dX8_layFront_4 rfl rfl rfl ?_
  refine x_iconst dX8_layFront_5 ?_
  refine x_istore_n (lv' := [(0, _), (1, _), (2, _)]) dX8_layFront_6 rfl rfl rfl ?_
  refine start 0 (by omega) L (fun _ _ _ => rfl) (fun s hs => by omega) (fun K2 h1 h2 => ?_)
  refine x_iconst dX8_layFront_37 ?_
  refine x_istore_n (lv' := [(0, _), (1, _), (2, _)]) dX8_layFront_38 rfl rfl rfl ?_
  refine main 0 (by omega) I K2 h0 h1 (fun t s ht ht2 hs => ?_) rfl
  rw [show t = 0 by omega, show 1728 * ((0 : Nat) : Int) + (s : Int) = (s : Int) by omega]
  exact h2 s hs
end

/-! THE REFERENCE'S SEARCH: on to the last minute; what is told, laid by minutes. -/
theorem Re_last {κ : MI} (s : Nat) : Re κ (lst κ) s = if 0 < Fr κ (lst κ) s then 1 else 0 := by
  unfold Re
  rw [Nat.sub_self]
  rfl
theorem Re_step {κ : MI} {t : Nat} (h : t < lst κ) (s : Nat) : Re κ t s = if 0 < Fr κ t s then rst κ (t : Int) s (Re κ (t + 1)) (mal κ (t : Int) s) else 0 := by
  have e : Re κ (t + 1) = Rb κ (lst κ - t - 1) := by funext x; unfold Re; congr 1
  rw [e]
  unfold Re
  obtain ⟨u, hu⟩ : ∃ u, lst κ - t = u + 1 := ⟨lst κ - t - 1, by omega⟩
  rw [hu]
  show (if 0 < Fr κ (lst κ - (u + 1)) s then rst κ ((lst κ - (u + 1) : Nat) : Int) s (Rb κ u) (mal κ ((lst κ - (u + 1) : Nat) : Int) s) else 0) = _
  rw [show lst κ - (u + 1) = t by omega, show u + 1 - 1 = u by omega]
section
variable {G : GT} {sh : MS} {I L : MI} {R : MR} {κ : MI}

theorem s_X8_layRest  (h0 : E1 κ I) (hH : iHs κ) (hS : iSc κ) (hF : ∀ t s, t ≤ lst κ → s < nst κ → L 22 (1728 * (t : Int) + (s : Int)) = Fr κ t s) : Sp G mtX8_layRest [mr 0] shM I L rM (qv (fun I' L' R' => E1 κ I' ∧ R' = rM ∧ (∀ a j, a ≠ 23 → L' a j = L a j) ∧ ∀ t s, t ≤ lst κ → s < nst κ → L' 23 (1728 * (t : Int) + (s : Int)) = Re κ t s)) := by
  refine Sp.of pnX8_layRest rfl ?_
  show Rn G mtX8_layRest _ 0 [(0, mr 0)] [] shM I L rM
  generalize hQ : (qv (fun I' L' R' => E1 κ I' ∧ R' = rM ∧ (∀ a j, a ≠ 23 → L' a j = L a j) ∧ ∀ t s, t ≤ lst κ → s < nst κ → L' 23 (1728 * (t : Int) + (s : Int)) = Re κ t s)) = Q
  have hu := us_le hH hS
  have hnn := (nst_le hH hS).2
  have hT := hH.2.2.2.1
  have hlt : (lst κ : Int) = κ 0 14 := by unfold lst; omega
  have e14 : I 0 14 = κ 0 14 := h0.at (by unfold sce per; omega)
  have main : ∀ k, k ≤ lst κ + 1 → ∀ (J K : MI), E1 κ J → (∀ a j, a ≠ 23 → K a j = L a j) → (∀ t s, k ≤ t → t ≤ lst κ → s < nst κ → K 23 (1728 * (t : Int) + (s : Int)) = Re κ t s) → Rn G mtX8_layRest Q 10 [(0, mr 0), (1, mi (nst κ : Int)), (2, mi ((k : Int) + (-1)))] [] shM J K rM := by
    intro k
    induction k with
    | zero =>
      intro _ J K hJ hK hR
      refine x_iload_n dX8_layRest_10 2 rfl rfl ?_
      refine x_if_lt (tgt := 176) dX8_layRest_11 (by decide) (by first | omega | exact z_and_r _ _ | exact z_or_r _ _ | exact z_xor_r _ _) (fun h11 => ?_) (fun h11 => ?_)
      · refine x_vret dX8_layRest_176 rfl ?_
        rw [← hQ]
        exact ⟨rfl, hJ, rfl, hK, fun t s ht hs => hR t s (by omega) ht hs⟩
      · exfalso; omega
    | succ k ih =>
      intro hk J K hJ hK hR
      rw [show ((k + 1 : Nat) : Int) + (-1) = (k : Int) by omega]
      have inner : ∀ s, s ≤ nst κ → ∀ (J2 K2 : MI), E1 κ J2 → (∀ a j, a ≠ 23 → K2 a j = L a j) → (∀ t s, k + 1 ≤ t → t ≤ lst κ → s < nst κ → K2 23 (1728 * (t : Int) + (s : Int)) = Re κ t s) → (∀ x, x < s → K2 23 (1728 * (k : Int) + (x : Int)) = Re κ k x) → Rn G mtX8_layRest Q 16 [(0, mr 0), (1, mi (nst κ : Int)), (2, mi (k : Int)), (3, mi (s : Int))] [] shM J2 K2 rM := by
        refine lpn (nst κ) (fun s hs ihs => ?_) ?_
        · intro J2 K2 hJ2 hK2 hR2 hD2
          have j14 : J2 0 14 = κ 0 14 := hJ2.at (by unfold sce per; omega)
          have hFk : K2 22 (1728 * (k : Int) + (s : Int)) = Fr κ k s := by rw [hK2 22 _ (by decide)]; exact hF k s (by omega) hs
          have hFr := Fr_r κ k s
          have hs2 : s < 1728 := by omega
          have hml : mal κ (k : Int) s ≤ 729 := mal_le hH hS k s
          have cl : ∀ c, c ≤ mal κ (k : Int) s → k < lst κ → 0 < Fr κ k s → ∀ (J3 K3 : MI), E1 κ J3 → J3 0 41 = (mal κ (k : Int) s : Int) → hMv κ (k : Int) s (us κ) J3 → (∀ a j, a ≠ 23 → K3 a j = L a j) → (∀ t x, k + 1 ≤ t → t ≤ lst κ → x < nst κ → K3 23 (1728 * (t : Int) + (x : Int)) = Re κ t x) → (∀ x, x < s → K3 23 (1728 * (k : Int) + (x : Int)) = Re κ k x) → K3 23 (1728 * (k : Int) + (s : Int)) = rst κ (k : Int) s (Re κ (k + 1)) c → Rn G mtX8_layRest Q 91 [(0, mr 0), (1, mi (nst κ : Int)), (2, mi (k : Int)), (3, mi (s : Int)), (4, mi (1728 * (k : Int) + (s : Int))), (5, mi (c : Int))] [] shM J3 K3 rM := by
            refine lpn (mal κ (k : Int) s) (fun c hc ihc => ?_) ?_
            · intro hkl hpos J3 K3 hJ3 hm hM hK3 hR3 hD3 hv3
              have hnx := nxt_lt hH hs2 (t := (k : Int)) c
              have hst := rst_r (κ := κ) (t := (k : Int)) (s := s) (Re_r κ (k + 1)) c
              have hre := Re_r κ (k + 1) (nxt κ (k : Int) s c)
              have hnv := hR3 (k + 1) _ (Nat.le_refl _) (by omega) hnx
              rw [show 1728 * ((k + 1 : Nat) : Int) = 1728 * ((k : Int) + 1) by omega] at hnv
              refine x_iload dX8_layRest_91 5 rfl ?_
              refine x_aload_n dX8_layRest_93 0 rfl rfl ?_
              refine x_getI dX8_layRest_94 flX8_270 rfl rfl ?_
              refine x_ic_ge (tgt := 164) dX8_layRest_97 (by decide) (by omega) (fun h97 => ?_) (fun h97 => ?_)
              · exfalso; omega
              · refine x_aload_n dX8_layRest_100 0 rfl rfl ?_
                refine x_iload dX8_layRest_101 5 rfl ?_
                refine x_callVv (as := [_]) dX8_layRest_103 lvX8_300 rfl rfl rfl rfl rfl rfl rfl ⟨rfl, rfl⟩ (s_X8_take hJ3 hH hS hs2 hM hc) (fun I103 L103 R103 hq103 => ?_)
                obtain ⟨rfl, rfl, hE0, h42, h43, h21⟩ := hq103
                have hJ4 := hJ3.tr hE0.e1
                have hm2 : I103 0 41 = (mal κ (k : Int) s : Int) := by rw [hE0 0 41 (by unfold scr0; omega)]; exact hm
                have hM2 : hMv κ (k : Int) s (us κ) I103 := hMv_same (fun w => (mvl_len hH.2.1 (k : Int) s w).2) hM (fun j _ => hE0 18 j (by unfold scr0; omega)) (fun j _ => ⟨hE0 19 j (by unfold scr0; omega), hE0 20 j (by unfold scr0; omega)⟩)
                refine x_aload_n dX8_layRest_106 0 rfl rfl ?_
                refine x_getR dX8_layRest_107 flX8_79 rfl rfl rfl ?_
                refine x_iload dX8_layRest_110 4 rfl ?_
                refine x_aload_n dX8_layRest_112 0 rfl rfl ?_
                refine x_iload_n dX8_layRest_113 2 rfl rfl ?_
                refine x_callVi (as := [_]) dX8_layRest_114 lvX8_303 rfl rfl rfl rfl rfl rfl rfl ⟨rfl, rfl⟩ (s_X8_canTake (s := s) (c := c) hJ4 hH hS (by omega) hs2 h42 h43) (fun z114 I114 L114 R114 hq114 => ?_)
                obtain ⟨rfl, rfl, rfl, rfl⟩ := hq114
                refine y_ifb_eq (tgt := 150) dX8_layRest_117 (by decide) (fun h117 => ?_) (fun h117 => ?_)
                · refine x_aload_n dX8_layRest_150 0 rfl rfl ?_
                  refine x_getR dX8_layRest_151 flX8_79 rfl rfl rfl ?_
                  refine x_iload dX8_layRest_154 4 rfl ?_
                  refine x_lald dX8_layRest_156 rfl (by omega) ?_
                  refine x_last dX8_layRest_157 rfl (by omega) ?_
                  refine x_iinc (lv' := [(0, _), (1, _), (2, _), (3, _), (4, _), (5, _)]) dX8_layRest_158 5 rfl rfl rfl ?_
                  refine x_goto (tgt := 91) dX8_layRest_161 (by decide) ?_
                  first
                  | (have hf : vld κ (k : Int) s c = false := by rw [← Bool.not_eq_true]; assumption
                     refine ihc hkl hpos _ _ hJ4 hm2 hM2 (fun a j hn => by rw [m_up_ne hn]; exact hK3 a j hn) (fun t x h1 h2 h3 => by rw [m_up_nj (by omega)]; exact hR3 t x h1 h2 h3) (fun x hx => by rw [m_up_nj (by omega)]; exact hD3 x hx) ?_
                     rw [m_up_eq, hv3, rst, hf]
                     rfl)
                  | (have hf : vld κ (k : Int) s c = true := by assumption
                     refine ihc hkl hpos _ _ hJ4 hm2 hM2 (fun a j hn => by rw [m_up_ne hn]; exact hK3 a j hn) (fun t x h1 h2 h3 => by rw [m_up_nj (by omega)]; exact hR3 t x h1 h2 h3) (fun x hx => by rw [m_up_nj (by omega)]; exact hD3 x hx) ?_
                     rw [m_up_eq, hv3, hnv, rst, hf]
                     rfl)
                · refine x_aload_n dX8_layRest_120 0 rfl rfl ?_
                  refine x_getR dX8_layRest_121 flX8_79 rfl rfl rfl ?_
                  refine x_iload dX8_layRest_124 4 rfl ?_
                  refine x_lald dX8_layRest_126 rfl (by omega) ?_
                  refine x_aload_n dX8_layRest_127 0 rfl rfl ?_
                  refine x_getR dX8_layRest_128 flX8_79 rfl rfl rfl ?_
                  refine x_sipush dX8_layRest_131 (by decide) ?_
                  refine x_iload_n dX8_layRest_134 2 rfl rfl ?_
                  refine x_iconst dX8_layRest_135 ?_
                  refine x_iadd dX8_layRest_136 ?_
                  refine x_imul dX8_layRest_137 ?_
                  refine x_aload_n dX8_layRest_138 0 rfl rfl ?_
                  refine x_getI dX8_layRest_139 flX8_276 rfl rfl ?_
                  rw [h43]
                  refine x_iadd dX8_layRest_142 ?_
                  refine x_lald dX8_layRest_143 rfl (by omega) ?_
                  refine x_callSl (as := [_, _]) dX8_layRest_144 lvX8_306 rfl rfl rfl rfl ⟨rfl, rfl⟩ (s_X8_more (by rw [hv3]; exact hst) (by rw [hnv]; exact hre)) (fun z144 I144 L144 R144 hq144 => ?_)
                  obtain ⟨rfl, rfl, rfl, rfl⟩ := hq144
                  refine x_goto (tgt := 157) dX8_layRest_147 (by decide) ?_
                  refine x_last dX8_layRest_157 rfl (by omega) ?_
                  refine x_iinc (lv' := [(0, _), (1, _), (2, _), (3, _), (4, _), (5, _)]) dX8_layRest_158 5 rfl rfl rfl ?_
                  refine x_goto (tgt := 91) dX8_layRest_161 (by decide) ?_
                  first
                  | (have hf : vld κ (k : Int) s c = false := by rw [← Bool.not_eq_true]; assumption
                     refine ihc hkl hpos _ _ hJ4 hm2 hM2 (fun a j hn => by rw [m_up_ne hn]; exact hK3 a j hn) (fun t x h1 h2 h3 => by rw [m_up_nj (by omega)]; exact hR3 t x h1 h2 h3) (fun x hx => by rw [m_up_nj (by omega)]; exact hD3 x hx) ?_
                     rw [m_up_eq, hv3, rst, hf]
                     rfl)
                  | (have hf : vld κ (k : Int) s c = true := by assumption
                     refine ihc hkl hpos _ _ hJ4 hm2 hM2 (fun a j hn => by rw [m_up_ne hn]; exact hK3 a j hn) (fun t x h1 h2 h3 => by rw [m_up_nj (by omega)]; exact hR3 t x h1 h2 h3) (fun x hx => by rw [m_up_nj (by omega)]; exact hD3 x hx) ?_
                     rw [m_up_eq, hv3, hnv, rst, hf]
                     rfl)
            · intro hkl hpos J3 K3 hJ3 hm hM hK3 hR3 hD3 hv3
              refine x_iload dX8_layRest_91 5 rfl ?_
              refine x_aload_n dX8_layRest_93 0 rfl rfl ?_
              refine x_getI dX8_layRest_94 flX8_270 rfl rfl ?_
              refine x_ic_ge (tgt := 164) dX8_layRest_97 (by decide) (by omega) (fun h97 => ?_) (fun h97 => ?_)
              · refine x_iinc (lv' := [(0, _), (1, _), (2, _), (3, _), (4, _), (5, _)]) dX8_layRest_164 3 rfl rfl rfl ?_
                refine x_goto (tgt := 16) dX8_layRest_167 (by decide) ?_
                refine x_top (lv' := [(0, _), (1, _), (2, _), (3, _)]) 4 rfl ?_
                refine ihs _ _ hJ3 hK3 hR3 (fun x hx => ?_)
                by_cases e : x = s
                · subst e
                  rw [hv3, Re_step hkl, if_pos hpos]
                · exact hD3 x (by omega)
              · exfalso; omega
          refine x_iload_n dX8_layRest_16 3 rfl rfl ?_
          refine x_iload_n dX8_layRest_17 1 rfl rfl ?_
          refine x_ic_ge (tgt := 170) dX8_layRest_18 (by decide) (by omega) (fun h18 => ?_) (fun h18 => ?_)
          · exfalso; omega
          · refine x_sipush dX8_layRest_21 (by decide) ?_
            refine x_iload_n dX8_layRest_24 2 rfl rfl ?_
            refine x_imul dX8_layRest_25 ?_
            refine x_iload_n dX8_layRest_26 3 rfl rfl ?_
            refine x_iadd dX8_layRest_27 ?_
            refine x_istore (lv' := [(0, _), (1, _), (2, _), (3, _), (4, _)]) dX8_layRest_28 rfl rfl ?_
            refine x_aload_n dX8_layRest_30 0 rfl rfl ?_
            refine x_getR dX8_layRest_31 flX8_79 rfl rfl rfl ?_
            refine x_iload dX8_layRest_34 4 rfl ?_
            refine x_iload_n dX8_layRest_36 2 rfl rfl ?_
            refine x_aload_n dX8_layRest_37 0 rfl rfl ?_
            refine x_getI dX8_layRest_38 flX8_99 rfl rfl ?_
            refine x_ic_ne (tgt := 60) dX8_layRest_41 (by decide) (by omega) (fun h41 => ?_) (fun h41 => ?_)
            · refine x_lconst 0 dX8_layRest_60 rfl ?_
              refine x_last dX8_layRest_61 rfl (by omega) ?_
              refine x_iload_n dX8_layRest_62 2 rfl rfl ?_
              refine x_aload_n dX8_layRest_63 0 rfl rfl ?_
              refine x_getI dX8_layRest_64 flX8_99 rfl rfl ?_
              refine x_ic_ge (tgt := 164) dX8_layRest_67 (by decide) (by omega) (fun h67 => ?_) (fun h67 => ?_)
              · refine x_iinc (lv' := [(0, _), (1, _), (2, _), (3, _), (4, _)]) dX8_layRest_164 3 rfl rfl rfl ?_
                refine x_goto (tgt := 16) dX8_layRest_167 (by decide) ?_
                refine x_top (lv' := [(0, _), (1, _), (2, _), (3, _)]) 4 rfl ?_
                first
                | (exfalso; omega)
                | (refine ihs _ _ hJ2 (fun a j hn => by rw [m_up_ne hn]; exact hK2 a j hn) (fun t x h1 h2 h3 => by rw [m_up_nj (by omega)]; exact hR2 t x h1 h2 h3) (fun x hx => ?_)
                   by_cases e : x = s
                   · subst e
                     rw [m_up_eq]
                     first
                     | (rw [show k = lst κ by omega, Re_last, ← show k = lst κ by omega]; first | (rw [if_pos (by omega)]) | (rw [if_neg (by omega)]))
                     | (rw [Re_step (by omega), if_neg (by omega)])
                   · rw [m_up_nj (by omega)]; exact hD2 x (by omega))
              · refine x_aload_n dX8_layRest_70 0 rfl rfl ?_
                refine x_getR dX8_layRest_71 flX8_75 rfl rfl rfl ?_
                refine x_iload dX8_layRest_74 4 rfl ?_
                refine y_lald dX8_layRest_76 rfl (by omega) (m_up_ne (by decide) _) ?_
                refine x_lconst 0 dX8_layRest_77 rfl ?_
                refine x_lc_le (tgt := 164) dX8_layRest_78 dX8_layRest_79 (by decide) (by omega) (fun h78 => ?_) (fun h78 => ?_)
                · refine x_iinc (lv' := [(0, _), (1, _), (2, _), (3, _), (4, _)]) dX8_layRest_164 3 rfl rfl rfl ?_
                  refine x_goto (tgt := 16) dX8_layRest_167 (by decide) ?_
                  refine x_top (lv' := [(0, _), (1, _), (2, _), (3, _)]) 4 rfl ?_
                  first
                  | (exfalso; omega)
                  | (refine ihs _ _ hJ2 (fun a j hn => by rw [m_up_ne hn]; exact hK2 a j hn) (fun t x h1 h2 h3 => by rw [m_up_nj (by omega)]; exact hR2 t x h1 h2 h3) (fun x hx => ?_)
                     by_cases e : x = s
                     · subst e
                       rw [m_up_eq]
                       first
                       | (rw [show k = lst κ by omega, Re_last, ← show k = lst κ by omega]; first | (rw [if_pos (by omega)]) | (rw [if_neg (by omega)]))
                       | (rw [Re_step (by omega), if_neg (by omega)])
                     · rw [m_up_nj (by omega)]; exact hD2 x (by omega))
                · refine x_aload_n dX8_layRest_82 0 rfl rfl ?_
                  refine x_iload_n dX8_layRest_83 2 rfl rfl ?_
                  refine x_iload_n dX8_layRest_84 3 rfl rfl ?_
                  refine x_callVv (as := [_, _]) dX8_layRest_85 lvX8_297 rfl rfl rfl rfl rfl rfl rfl ⟨rfl, rfl⟩ (s_X8_layMoves hJ2 hH hS (by omega) hs2) (fun I85 L85 R85 hq85 => ?_)
                  obtain ⟨rfl, rfl, hX3, hE, h41, hv41⟩ := hq85
                  refine x_iconst dX8_layRest_88 ?_
                  refine x_istore (lv' := [(0, _), (1, _), (2, _), (3, _), (4, _), (5, _)]) dX8_layRest_89 rfl rfl ?_
                  first
                  | (exfalso; omega)
                  | exact cl 0 (by omega) (by omega) (by omega) _ _ hE h41 hv41 (fun a j hn => by rw [m_up_ne hn]; exact hK2 a j hn) (fun t x h1 h2 h3 => by rw [m_up_nj (by omega)]; exact hR2 t x h1 h2 h3) (fun x hx => by rw [m_up_nj (by omega)]; exact hD2 x hx) (by rw [m_up_eq]; rfl)
            · refine x_aload_n dX8_layRest_44 0 rfl rfl ?_
              refine x_getR dX8_layRest_45 flX8_75 rfl rfl rfl ?_
              refine x_iload dX8_layRest_48 4 rfl ?_
              refine x_lald dX8_layRest_50 rfl (by omega) ?_
              refine x_lconst 0 dX8_layRest_51 rfl ?_
              refine x_lc_le (tgt := 60) dX8_layRest_52 dX8_layRest_53 (by decide) (by omega) (fun h52 => ?_) (fun h52 => ?_)
              · refine x_lconst 0 dX8_layRest_60 rfl ?_
                refine x_last dX8_layRest_61 rfl (by omega) ?_
                refine x_iload_n dX8_layRest_62 2 rfl rfl ?_
                refine x_aload_n dX8_layRest_63 0 rfl rfl ?_
                refine x_getI dX8_layRest_64 flX8_99 rfl rfl ?_
                refine x_ic_ge (tgt := 164) dX8_layRest_67 (by decide) (by omega) (fun h67 => ?_) (fun h67 => ?_)
                · refine x_iinc (lv' := [(0, _), (1, _), (2, _), (3, _), (4, _)]) dX8_layRest_164 3 rfl rfl rfl ?_
                  refine x_goto (tgt := 16) dX8_layRest_167 (by decide) ?_
                  refine x_top (lv' := [(0, _), (1, _), (2, _), (3, _)]) 4 rfl ?_
                  first
                  | (exfalso; omega)
                  | (refine ihs _ _ hJ2 (fun a j hn => by rw [m_up_ne hn]; exact hK2 a j hn) (fun t x h1 h2 h3 => by rw [m_up_nj (by omega)]; exact hR2 t x h1 h2 h3) (fun x hx => ?_)
                     by_cases e : x = s
                     · subst e
                       rw [m_up_eq]
                       first
                       | (rw [show k = lst κ by omega, Re_last, ← show k = lst κ by omega]; first | (rw [if_pos (by omega)]) | (rw [if_neg (by omega)]))
                       | (rw [Re_step (by omega), if_neg (by omega)])
                     · rw [m_up_nj (by omega)]; exact hD2 x (by omega))
                · refine x_aload_n dX8_layRest_70 0 rfl rfl ?_
                  refine x_getR dX8_layRest_71 flX8_75 rfl rfl rfl ?_
                  refine x_iload dX8_layRest_74 4 rfl ?_
                  refine y_lald dX8_layRest_76 rfl (by omega) (m_up_ne (by decide) _) ?_
                  refine x_lconst 0 dX8_layRest_77 rfl ?_
                  refine x_lc_le (tgt := 164) dX8_layRest_78 dX8_layRest_79 (by decide) (by omega) (fun h78 => ?_) (fun h78 => ?_)
                  · refine x_iinc (lv' := [(0, _), (1, _), (2, _), (3, _), (4, _)]) dX8_layRest_164 3 rfl rfl rfl ?_
                    refine x_goto (tgt := 16) dX8_layRest_167 (by decide) ?_
                    refine x_top (lv' := [(0, _), (1, _), (2, _), (3, _)]) 4 rfl ?_
                    first
                    | (exfalso; omega)
                    | (refine ihs _ _ hJ2 (fun a j hn => by rw [m_up_ne hn]; exact hK2 a j hn) (fun t x h1 h2 h3 => by rw [m_up_nj (by omega)]; exact hR2 t x h1 h2 h3) (fun x hx => ?_)
                       by_cases e : x = s
                       · subst e
                         rw [m_up_eq]
                         first
                         | (rw [show k = lst κ by omega, Re_last, ← show k = lst κ by omega]; first | (rw [if_pos (by omega)]) | (rw [if_neg (by omega)]))
                         | (rw [Re_step (by omega), if_neg (by omega)])
                       · rw [m_up_nj (by omega)]; exact hD2 x (by omega))
                  · refine x_aload_n dX8_layRest_82 0 rfl rfl ?_
                    refine x_iload_n dX8_layRest_83 2 rfl rfl ?_
                    refine x_iload_n dX8_layRest_84 3 rfl rfl ?_
                    refine x_callVv (as := [_, _]) dX8_layRest_85 lvX8_297 rfl rfl rfl rfl rfl rfl rfl ⟨rfl, rfl⟩ (s_X8_layMoves hJ2 hH hS (by omega) hs2) (fun I85 L85 R85 hq85 => ?_)
                    obtain ⟨rfl, rfl, hX3, hE, h41, hv41⟩ := hq85
                    refine x_iconst dX8_layRest_88 ?_
                    refine x_istore (lv' := [(0, _), (1, _), (2, _), (3, _), (4, _), (5, _)]) dX8_layRest_89 rfl rfl ?_
                    first
                    | (exfalso; omega)
                    | exact cl 0 (by omega) (by omega) (by omega) _ _ hE h41 hv41 (fun a j hn => by rw [m_up_ne hn]; exact hK2 a j hn) (fun t x h1 h2 h3 => by rw [m_up_nj (by omega)]; exact hR2 t x h1 h2 h3) (fun x hx => by rw [m_up_nj (by omega)]; exact hD2 x hx) (by rw [m_up_eq]; rfl)
              · refine x_lconst 1 dX8_layRest_56 rfl ?_
                refine x_goto (tgt := 61) dX8_layRest_57 (by decide) ?_
                refine x_last dX8_layRest_61 rfl (by omega) ?_
                refine x_iload_n dX8_layRest_62 2 rfl rfl ?_
                refine x_aload_n dX8_layRest_63 0 rfl rfl ?_
                refine x_getI dX8_layRest_64 flX8_99 rfl rfl ?_
                refine x_ic_ge (tgt := 164) dX8_layRest_67 (by decide) (by omega) (fun h67 => ?_) (fun h67 => ?_)
                · refine x_iinc (lv' := [(0, _), (1, _), (2, _), (3, _), (4, _)]) dX8_layRest_164 3 rfl rfl rfl ?_
                  refine x_goto (tgt := 16) dX8_layRest_167 (by decide) ?_
                  refine x_top (lv' := [(0, _), (1, _), (2, _), (3, _)]) 4 rfl ?_
                  first
                  | (exfalso; omega)
                  | (refine ihs _ _ hJ2 (fun a j hn => by rw [m_up_ne hn]; exact hK2 a j hn) (fun t x h1 h2 h3 => by rw [m_up_nj (by omega)]; exact hR2 t x h1 h2 h3) (fun x hx => ?_)
                     by_cases e : x = s
                     · subst e
                       rw [m_up_eq]
                       first
                       | (rw [show k = lst κ by omega, Re_last, ← show k = lst κ by omega]; first | (rw [if_pos (by omega)]) | (rw [if_neg (by omega)]))
                       | (rw [Re_step (by omega), if_neg (by omega)])
                     · rw [m_up_nj (by omega)]; exact hD2 x (by omega))
                · refine x_aload_n dX8_layRest_70 0 rfl rfl ?_
                  refine x_getR dX8_layRest_71 flX8_75 rfl rfl rfl ?_
                  refine x_iload dX8_layRest_74 4 rfl ?_
                  refine y_lald dX8_layRest_76 rfl (by omega) (m_up_ne (by decide) _) ?_
                  refine x_lconst 0 dX8_layRest_77 rfl ?_
                  refine x_lc_le (tgt := 164) dX8_layRest_78 dX8_layRest_79 (by decide) (by omega) (fun h78 => ?_) (fun h78 => ?_)
                  · refine x_iinc (lv' := [(0, _), (1, _), (2, _), (3, _), (4, _)]) dX8_layRest_164 3 rfl rfl rfl ?_
                    refine x_goto (tgt := 16) dX8_layRest_167 (by decide) ?_
                    refine x_top (lv' := [(0, _), (1, _), (2, _), (3, _)]) 4 rfl ?_
                    first
                    | (exfalso; omega)
                    | (refine ihs _ _ hJ2 (fun a j hn => by rw [m_up_ne hn]; exact hK2 a j hn) (fun t x h1 h2 h3 => by rw [m_up_nj (by omega)]; exact hR2 t x h1 h2 h3) (fun x hx => ?_)
                       by_cases e : x = s
                       · subst e
                         rw [m_up_eq]
                         first
                         | (rw [show k = lst κ by omega, Re_last, ← show k = lst κ by omega]; first | (rw [if_pos (by omega)]) | (rw [if_neg (by omega)]))
                         | (rw [Re_step (by omega), if_neg (by omega)])
                       · rw [m_up_nj (by omega)]; exact hD2 x (by omega))
                  · refine x_aload_n dX8_layRest_82 0 rfl rfl ?_
                    refine x_iload_n dX8_layRest_83 2 rfl rfl ?_
                    refine x_iload_n dX8_layRest_84 3 rfl rfl ?_
                    refine x_callVv (as := [_, _]) dX8_layRest_85 lvX8_297 rfl rfl rfl rfl rfl rfl rfl ⟨rfl, rfl⟩ (s_X8_layMoves hJ2 hH hS (by omega) hs2) (fun I85 L85 R85 hq85 => ?_)
                    obtain ⟨rfl, rfl, hX3, hE, h41, hv41⟩ := hq85
                    refine x_iconst dX8_layRest_88 ?_
                    refine x_istore (lv' := [(0, _), (1, _), (2, _), (3, _), (4, _), (5, _)]) dX8_layRest_89 rfl rfl ?_
                    first
                    | (exfalso; omega)
                    | exact cl 0 (by omega) (by omega) (by omega) _ _ hE h41 hv41 (fun a j hn => by rw [m_up_ne hn]; exact hK2 a j hn) (fun t x h1 h2 h3 => by rw [m_up_nj (by omega)]; exact hR2 t x h1 h2 h3) (fun x hx => by rw [m_up_nj (by omega)]; exact hD2 x hx) (by rw [m_up_eq]; rfl)
        · intro J2 K2 hJ2 hK2 hR2 hD2
          refine x_iload_n dX8_layRest_16 3 rfl rfl ?_
          refine x_iload_n dX8_layRest_17 1 rfl rfl ?_
          refine x_ic_ge (tgt := 170) dX8_layRest_18 (by decide) (by first | omega | exact z_and_r _ _ | exact z_or_r _ _ | exact z_xor_r _ _) (fun h18 => ?_) (fun h18 => ?_)
          · refine x_iinc (lv' := [(0, _), (1, _), (2, _), (3, _)]) dX8_layRest_170 2 rfl rfl rfl ?_
            refine x_goto (tgt := 10) dX8_layRest_173 (by decide) ?_
            refine x_top (lv' := [(0, _), (1, _), (2, _)]) 3 rfl ?_
            refine ih (by omega) J2 K2 hJ2 hK2 (fun t s h1 h2 h3 => ?_)
            by_cases e : t = k
            · subst e; exact hD2 s h3
            · exact hR2 t s (by omega) h2 h3
          · exfalso; omega
      refine x_iload_n dX8_layRest_10 2 rfl rfl ?_
      refine x_if_lt (tgt := 176) dX8_layRest_11 (by decide) (by first | omega | exact z_and_r _ _ | exact z_or_r _ _ | exact z_xor_r _ _) (fun h11 => ?_) (fun h11 => ?_)
      · exfalso; omega
      · refine x_iconst dX8_layRest_14 ?_
        refine x_istore_n (lv' := [(0, _), (1, _), (2, _), (3, _)]) dX8_layRest_15 rfl rfl rfl ?_
        exact inner 0 (by omega) J K hJ hK hR (fun x hx => by omega)
  refine x_aload_n dX8_layRest_0 0 rfl rfl ?_
  refine x_callVi (as := []) dX8_layRest_1 lvX8_286 rfl rfl rfl rfl rfl rfl rfl ⟨rfl, rfl⟩ (s_X8_states h0 hH hS) (fun z1 I1 L1 R1 hq1 => ?_)
  obtain ⟨rfl, rfl, rfl, rfl⟩ := hq1
  refine x_istore_n (lv' := [(0, _), (1, _)]) dX8_layRest_4 rfl rfl rfl ?_
  refine x_aload_n dX8_layRest_5 0 rfl rfl ?_
  refine x_getI dX8_layRest_6 flX8_99 rfl rfl ?_
  refine x_istore_n (lv' := [(0, _), (1, _), (2, _)]) dX8_layRest_9 rfl rfl rfl ?_
  have h1 := main (lst κ + 1) (Nat.le_refl _) I L h0 (fun _ _ _ => rfl) (fun t s h1 h2 => by omega)
  rw [show ((lst κ + 1 : Nat) : Int) + (-1) = I 0 14 by omega] at h1
  exact h1
theorem s_X8_isAlive {t s : Nat} (hH : iHs κ) (hS : iSc κ) (ht : t ≤ lst κ) (hs : s < nst κ) (hF : L 22 (1728 * (t : Int) + (s : Int)) = Fr κ t s) (hR : L 23 (1728 * (t : Int) + (s : Int)) = Re κ t s) : Sp G mtX8_isAlive [mr 0, mi ↑t, mi ↑s] shM I L rM (qi (pu (b01 (alv κ t s = true)) I L rM)) := by
  refine Sp.of pnX8_isAlive rfl ?_
  show Rn G mtX8_isAlive _ 0 [(0, mr 0), (1, mi ↑t), (2, mi ↑s)] [] shM I L rM
  generalize hQ : (qi (pu (b01 (alv κ t s = true)) I L rM)) = Q
  have hu := us_le hH hS
  have hnn := (nst_le hH hS).2
  have hT := hH.2.2.2.1
  have hlt : (lst κ : Int) = κ 0 14 := by unfold lst; omega
  have hFr := Fr_r κ t s
  have hRr := Re_r κ t s
  refine x_aload_n dX8_isAlive_0 0 rfl rfl ?_
  refine x_getR dX8_isAlive_1 flX8_75 rfl rfl rfl ?_
  refine x_sipush dX8_isAlive_4 (by decide) ?_
  refine x_iload_n dX8_isAlive_7 1 rfl rfl ?_
  refine x_imul dX8_isAlive_8 ?_
  refine x_iload_n dX8_isAlive_9 2 rfl rfl ?_
  refine x_iadd dX8_isAlive_10 ?_
  refine x_lald dX8_isAlive_11 rfl (by omega) ?_
  refine x_lconst 0 dX8_isAlive_12 rfl ?_
  refine x_lc_le (tgt := 38) dX8_isAlive_13 dX8_isAlive_14 (by decide) (by omega) (fun h13 => ?_) (fun h13 => ?_)
  · refine x_iconst dX8_isAlive_38 ?_
    refine x_zret dX8_isAlive_39 rfl (by omega) ?_
    rw [← hQ]
    refine ⟨_, rfl, ?_, rfl, rfl, rfl⟩
    unfold alv
    first
    | exact b01_t (by rw [Bool.and_eq_true, decide_eq_true_eq, decide_eq_true_eq]; omega)
    | exact b01_f (by rw [Bool.and_eq_true, decide_eq_true_eq, decide_eq_true_eq]; omega)
  · refine x_aload_n dX8_isAlive_17 0 rfl rfl ?_
    refine x_getR dX8_isAlive_18 flX8_79 rfl rfl rfl ?_
    refine x_sipush dX8_isAlive_21 (by decide) ?_
    refine x_iload_n dX8_isAlive_24 1 rfl rfl ?_
    refine x_imul dX8_isAlive_25 ?_
    refine x_iload_n dX8_isAlive_26 2 rfl rfl ?_
    refine x_iadd dX8_isAlive_27 ?_
    refine x_lald dX8_isAlive_28 rfl (by omega) ?_
    refine x_lconst 0 dX8_isAlive_29 rfl ?_
    refine x_lc_le (tgt := 38) dX8_isAlive_30 dX8_isAlive_31 (by decide) (by omega) (fun h30 => ?_) (fun h30 => ?_)
    · refine x_iconst dX8_isAlive_38 ?_
      refine x_zret dX8_isAlive_39 rfl (by omega) ?_
      rw [← hQ]
      refine ⟨_, rfl, ?_, rfl, rfl, rfl⟩
      unfold alv
      first
      | exact b01_t (by rw [Bool.and_eq_true, decide_eq_true_eq, decide_eq_true_eq]; omega)
      | exact b01_f (by rw [Bool.and_eq_true, decide_eq_true_eq, decide_eq_true_eq]; omega)
    · refine x_iconst dX8_isAlive_34 ?_
      refine x_goto (tgt := 39) dX8_isAlive_35 (by decide) ?_
      refine x_zret dX8_isAlive_39 rfl (by omega) ?_
      rw [← hQ]
      refine ⟨_, rfl, ?_, rfl, rfl, rfl⟩
      unfold alv
      first
      | exact b01_t (by rw [Bool.and_eq_true, decide_eq_true_eq, decide_eq_true_eq]; omega)
      | exact b01_f (by rw [Bool.and_eq_true, decide_eq_true_eq, decide_eq_true_eq]; omega)
theorem s_X8_eventAt {e what : Int} (h : 0 ≤ 4 * e + what ∧ 4 * e + what < 96) : Sp G mtX8_eventAt [mr 0, mi e, mi what] shM I L rM (qi (pu (I 11 (4 * e + what)) I L rM)) := by
  refine Sp.of pnX8_eventAt rfl ?_
  show Rn G mtX8_eventAt _ 0 [(0, mr 0), (1, mi e), (2, mi what)] [] shM I L rM
  generalize hQ : (qi (pu (I 11 (4 * e + what)) I L rM)) = Q
  refine x_aload_n dX8_eventAt_0 0 rfl rfl ?_
  refine x_getR dX8_eventAt_1 flX8_41 rfl rfl rfl ?_
  refine x_iconst dX8_eventAt_4 ?_
  refine x_iload_n dX8_eventAt_5 1 rfl rfl ?_
  refine x_imul dX8_eventAt_6 ?_
  refine x_iload_n dX8_eventAt_7 2 rfl rfl ?_
  refine x_iadd dX8_eventAt_8 ?_
  refine x_iald dX8_eventAt_9 rfl (by omega) ?_
  refine x_iret dX8_eventAt_10 rfl ?_
  rw [← hQ]
  exact ⟨_, rfl, rfl, rfl, rfl, rfl⟩
theorem s_X8_isOf {e k : Int} (h : 0 ≤ e ∧ e < 24) (h1 : rI (I 11 (4 * e + 0))) (h2 : rI k) : Sp G mtX8_isOf [mr 0, mi e, mi k] shM I L rM (qi (pu (b01 (I 11 (4 * e + 0) = k ∨ k = 2 ∧ I 11 (4 * e + 0) = 3)) I L rM)) := by
  refine Sp.of pnX8_isOf rfl ?_
  show Rn G mtX8_isOf _ 0 [(0, mr 0), (1, mi e), (2, mi k)] [] shM I L rM
  generalize hQ : (qi (pu (b01 (I 11 (4 * e + 0) = k ∨ k = 2 ∧ I 11 (4 * e + 0) = 3)) I L rM)) = Q
  refine x_aload_n dX8_isOf_0 0 rfl rfl ?_
  refine x_iload_n dX8_isOf_1 1 rfl rfl ?_
  refine x_iconst dX8_isOf_2 ?_
  refine x_callVi (as := [_, _]) dX8_isOf_3 lvX8_234 rfl rfl rfl rfl rfl rfl rfl ⟨rfl, rfl⟩ (s_X8_eventAt (by omega)) (fun z3 I3 L3 R3 hq3 => ?_)
  obtain ⟨rfl, rfl, rfl, rfl⟩ := hq3
  refine x_iload_n dX8_isOf_6 2 rfl rfl ?_
  refine x_ic_eq (tgt := 25) dX8_isOf_7 (by decide) (by first | omega | exact z_and_r _ _ | exact z_or_r _ _ | exact z_xor_r _ _) (fun h7 => ?_) (fun h7 => ?_)
  · refine x_iconst dX8_isOf_25 ?_
    refine x_goto (tgt := 30) dX8_isOf_26 (by decide) ?_
    refine x_zret dX8_isOf_30 rfl (by omega) ?_
    rw [← hQ]
    first | exact ⟨_, rfl, b01_t (by omega), rfl, rfl, rfl⟩ | exact ⟨_, rfl, b01_f (by omega), rfl, rfl, rfl⟩
  · refine x_iload_n dX8_isOf_10 2 rfl rfl ?_
    refine x_iconst dX8_isOf_11 ?_
    refine x_ic_ne (tgt := 29) dX8_isOf_12 (by decide) (by first | omega | exact z_and_r _ _ | exact z_or_r _ _ | exact z_xor_r _ _) (fun h12 => ?_) (fun h12 => ?_)
    · refine x_iconst dX8_isOf_29 ?_
      refine x_zret dX8_isOf_30 rfl (by omega) ?_
      rw [← hQ]
      first | exact ⟨_, rfl, b01_t (by omega), rfl, rfl, rfl⟩ | exact ⟨_, rfl, b01_f (by omega), rfl, rfl, rfl⟩
    · refine x_aload_n dX8_isOf_15 0 rfl rfl ?_
      refine x_iload_n dX8_isOf_16 1 rfl rfl ?_
      refine x_iconst dX8_isOf_17 ?_
      refine x_callVi (as := [_, _]) dX8_isOf_18 lvX8_234 rfl rfl rfl rfl rfl rfl rfl ⟨rfl, rfl⟩ (s_X8_eventAt (by omega)) (fun z18 I18 L18 R18 hq18 => ?_)
      obtain ⟨rfl, rfl, rfl, rfl⟩ := hq18
      refine x_iconst dX8_isOf_21 ?_
      refine x_ic_ne (tgt := 29) dX8_isOf_22 (by decide) (by first | omega | exact z_and_r _ _ | exact z_or_r _ _ | exact z_xor_r _ _) (fun h22 => ?_) (fun h22 => ?_)
      · refine x_iconst dX8_isOf_29 ?_
        refine x_zret dX8_isOf_30 rfl (by omega) ?_
        rw [← hQ]
        first | exact ⟨_, rfl, b01_t (by omega), rfl, rfl, rfl⟩ | exact ⟨_, rfl, b01_f (by omega), rfl, rfl, rfl⟩
      · refine x_iconst dX8_isOf_25 ?_
        refine x_goto (tgt := 30) dX8_isOf_26 (by decide) ?_
        refine x_zret dX8_isOf_30 rfl (by omega) ?_
        rw [← hQ]
        first | exact ⟨_, rfl, b01_t (by omega), rfl, rfl, rfl⟩ | exact ⟨_, rfl, b01_f (by omega), rfl, rfl, rfl⟩
theorem s_X8_hasBoard {d : Int} (h : 0 ≤ d ∧ d < 8) (h1 : rI (I 7 (3 * d + 2))) : Sp G mtX8_hasBoard [mr 0, mi d] shM I L rM (qi (pu (b01 (I 7 (3 * d + 2) = 1)) I L rM)) := by
  refine Sp.of pnX8_hasBoard rfl ?_
  show Rn G mtX8_hasBoard _ 0 [(0, mr 0), (1, mi d)] [] shM I L rM
  generalize hQ : (qi (pu (b01 (I 7 (3 * d + 2) = 1)) I L rM)) = Q
  refine x_aload_n dX8_hasBoard_0 0 rfl rfl ?_
  refine x_getR dX8_hasBoard_1 flX8_29 rfl rfl rfl ?_
  refine x_iconst dX8_hasBoard_4 ?_
  refine x_iload_n dX8_hasBoard_5 1 rfl rfl ?_
  refine x_imul dX8_hasBoard_6 ?_
  refine x_iconst dX8_hasBoard_7 ?_
  refine x_iadd dX8_hasBoard_8 ?_
  refine x_iald dX8_hasBoard_9 rfl (by omega) ?_
  refine x_iconst dX8_hasBoard_10 ?_
  refine x_ic_ne (tgt := 18) dX8_hasBoard_11 (by decide) (by first | omega | exact z_and_r _ _ | exact z_or_r _ _ | exact z_xor_r _ _) (fun h11 => ?_) (fun h11 => ?_)
  · refine x_iconst dX8_hasBoard_18 ?_
    refine x_zret dX8_hasBoard_19 rfl (by omega) ?_
    rw [← hQ]
    first | exact ⟨_, rfl, b01_t (by omega), rfl, rfl, rfl⟩ | exact ⟨_, rfl, b01_f (by omega), rfl, rfl, rfl⟩
  · refine x_iconst dX8_hasBoard_14 ?_
    refine x_goto (tgt := 19) dX8_hasBoard_15 (by decide) ?_
    refine x_zret dX8_hasBoard_19 rfl (by omega) ?_
    rw [← hQ]
    first | exact ⟨_, rfl, b01_t (by omega), rfl, rfl, rfl⟩ | exact ⟨_, rfl, b01_f (by omega), rfl, rfl, rfl⟩
theorem s_X8_isDoor {x : Int} (h : rI x) (hb : -1 ≤ I 0 12 ∧ I 0 12 ≤ 100) : Sp G mtX8_isDoor [mr 0, mi x] shM I L rM (qi (pu (b01 (0 ≤ x ∧ x ≤ I 0 12 - 1)) I L rM)) := by
  refine Sp.of pnX8_isDoor rfl ?_
  show Rn G mtX8_isDoor _ 0 [(0, mr 0), (1, mi x)] [] shM I L rM
  generalize hQ : (qi (pu (b01 (0 ≤ x ∧ x ≤ I 0 12 - 1)) I L rM)) = Q
  refine x_iload_n dX8_isDoor_0 1 rfl rfl ?_
  refine x_iconst dX8_isDoor_1 ?_
  refine x_aload_n dX8_isDoor_2 0 rfl rfl ?_
  refine x_getI dX8_isDoor_3 flX8_183 rfl rfl ?_
  refine x_iconst dX8_isDoor_6 ?_
  refine x_isub dX8_isDoor_7 ?_
  refine x_callSi (as := [_, _, _]) dX8_isDoor_8 lvX8_105 rfl rfl rfl rfl ⟨rfl, rfl⟩ (s_X8_in (by omega) (by omega) (by omega)) (fun z8 I8 L8 R8 hq8 => ?_)
  obtain ⟨rfl, rfl, rfl, rfl⟩ := hq8
  refine x_zret dX8_isDoor_11 rfl (b01_z _) ?_
  rw [← hQ]
  exact ⟨_, rfl, rfl, rfl, rfl, rfl⟩
theorem s_X8_isRoom {x : Int} (h : rI x) (hb : -1 ≤ I 0 11 ∧ I 0 11 ≤ 100) : Sp G mtX8_isRoom [mr 0, mi x] shM I L rM (qi (pu (b01 (0 ≤ x ∧ x ≤ I 0 11 - 1)) I L rM)) := by
  refine Sp.of pnX8_isRoom rfl ?_
  show Rn G mtX8_isRoom _ 0 [(0, mr 0), (1, mi x)] [] shM I L rM
  generalize hQ : (qi (pu (b01 (0 ≤ x ∧ x ≤ I 0 11 - 1)) I L rM)) = Q
  refine x_iload_n dX8_isRoom_0 1 rfl rfl ?_
  refine x_iconst dX8_isRoom_1 ?_
  refine x_aload_n dX8_isRoom_2 0 rfl rfl ?_
  refine x_getI dX8_isRoom_3 flX8_95 rfl rfl ?_
  refine x_iconst dX8_isRoom_6 ?_
  refine x_isub dX8_isRoom_7 ?_
  refine x_callSi (as := [_, _, _]) dX8_isRoom_8 lvX8_105 rfl rfl rfl rfl ⟨rfl, rfl⟩ (s_X8_in (by omega) (by omega) (by omega)) (fun z8 I8 L8 R8 hq8 => ?_)
  obtain ⟨rfl, rfl, rfl, rfl⟩ := hq8
  refine x_zret dX8_isRoom_11 rfl (b01_z _) ?_
  rw [← hQ]
  exact ⟨_, rfl, rfl, rfl, rfl, rfl⟩
theorem s_X8_isWalker {x : Int} (h : rI x) (hb : -1 ≤ I 0 13 ∧ I 0 13 ≤ 100) : Sp G mtX8_isWalker [mr 0, mi x] shM I L rM (qi (pu (b01 (0 ≤ x ∧ x ≤ I 0 13 - 1)) I L rM)) := by
  refine Sp.of pnX8_isWalker rfl ?_
  show Rn G mtX8_isWalker _ 0 [(0, mr 0), (1, mi x)] [] shM I L rM
  generalize hQ : (qi (pu (b01 (0 ≤ x ∧ x ≤ I 0 13 - 1)) I L rM)) = Q
  refine x_iload_n dX8_isWalker_0 1 rfl rfl ?_
  refine x_iconst dX8_isWalker_1 ?_
  refine x_aload_n dX8_isWalker_2 0 rfl rfl ?_
  refine x_getI dX8_isWalker_3 flX8_186 rfl rfl ?_
  refine x_iconst dX8_isWalker_6 ?_
  refine x_isub dX8_isWalker_7 ?_
  refine x_callSi (as := [_, _, _]) dX8_isWalker_8 lvX8_105 rfl rfl rfl rfl ⟨rfl, rfl⟩ (s_X8_in (by omega) (by omega) (by omega)) (fun z8 I8 L8 R8 hq8 => ?_)
  obtain ⟨rfl, rfl, rfl, rfl⟩ := hq8
  refine x_zret dX8_isWalker_11 rfl (b01_z _) ?_
  rw [← hQ]
  exact ⟨_, rfl, rfl, rfl, rfl, rfl⟩
theorem s_X8_isEvent {x : Int} (h : rI x) (hb : -1 ≤ I 0 25 ∧ I 0 25 ≤ 100) : Sp G mtX8_isEvent [mr 0, mi x] shM I L rM (qi (pu (b01 (0 ≤ x ∧ x ≤ I 0 25 - 1)) I L rM)) := by
  refine Sp.of pnX8_isEvent rfl ?_
  show Rn G mtX8_isEvent _ 0 [(0, mr 0), (1, mi x)] [] shM I L rM
  generalize hQ : (qi (pu (b01 (0 ≤ x ∧ x ≤ I 0 25 - 1)) I L rM)) = Q
  refine x_iload_n dX8_isEvent_0 1 rfl rfl ?_
  refine x_iconst dX8_isEvent_1 ?_
  refine x_aload_n dX8_isEvent_2 0 rfl rfl ?_
  refine x_getI dX8_isEvent_3 flX8_217 rfl rfl ?_
  refine x_iconst dX8_isEvent_6 ?_
  refine x_isub dX8_isEvent_7 ?_
  refine x_callSi (as := [_, _, _]) dX8_isEvent_8 lvX8_105 rfl rfl rfl rfl ⟨rfl, rfl⟩ (s_X8_in (by omega) (by omega) (by omega)) (fun z8 I8 L8 R8 hq8 => ?_)
  obtain ⟨rfl, rfl, rfl, rfl⟩ := hq8
  refine x_zret dX8_isEvent_11 rfl (b01_z _) ?_
  rw [← hQ]
  exact ⟨_, rfl, rfl, rfl, rfl, rfl⟩
theorem s_X8_isMinute {x : Int} (h : rI x) (hb : -1 ≤ I 0 14 ∧ I 0 14 ≤ 100) : Sp G mtX8_isMinute [mr 0, mi x] shM I L rM (qi (pu (b01 (0 ≤ x ∧ x ≤ I 0 14)) I L rM)) := by
  refine Sp.of pnX8_isMinute rfl ?_
  show Rn G mtX8_isMinute _ 0 [(0, mr 0), (1, mi x)] [] shM I L rM
  generalize hQ : (qi (pu (b01 (0 ≤ x ∧ x ≤ I 0 14)) I L rM)) = Q
  refine x_iload_n dX8_isMinute_0 1 rfl rfl ?_
  refine x_iconst dX8_isMinute_1 ?_
  refine x_aload_n dX8_isMinute_2 0 rfl rfl ?_
  refine x_getI dX8_isMinute_3 flX8_99 rfl rfl ?_
  refine x_callSi (as := [_, _, _]) dX8_isMinute_6 lvX8_105 rfl rfl rfl rfl ⟨rfl, rfl⟩ (s_X8_in (by omega) (by omega) (by omega)) (fun z6 I6 L6 R6 hq6 => ?_)
  obtain ⟨rfl, rfl, rfl, rfl⟩ := hq6
  refine x_zret dX8_isMinute_9 rfl (b01_z _) ?_
  rw [← hQ]
  exact ⟨_, rfl, rfl, rfl, rfl, rfl⟩
/-- one event's mark on what is laid by minutes -/
def ntM (k a b t : Int) (J : MI) : MI := fun c j =>
  if c = 13 then (if k = 1 ∧ j = t then z_or (J 13 j) (z_shl 1 a) else J 13 j)
  else if c = 14 then (if k = 5 ∧ t ≤ j ∧ j ≤ b then z_or (J 14 j) (z_shl 1 a) else J 14 j)
  else if c = 15 then (if k = 2 ∧ j = t then z_or (J 15 j) (z_shl 1 a) else J 15 j)
  else if c = 16 then (if k = 4 ∧ j = t then z_or (J 16 j) (z_shl 1 a) else J 16 j)
  else if c = 17 then (if k = 3 ∧ j = 3 * t + b then (if J 17 j = -1 ∨ J 17 j = a then a else -2) else J 17 j)
  else J c j
theorem ntM_up {c : Nat} {k a b t v : Int} {J : MI} (h : (k = 1 ∧ c = 13 ∧ v = z_or (J 13 t) (z_shl 1 a)) ∨ (k = 2 ∧ c = 15 ∧ v = z_or (J 15 t) (z_shl 1 a)) ∨ (k = 4 ∧ c = 16 ∧ v = z_or (J 16 t) (z_shl 1 a))) : m_up J c t v = ntM k a b t J := by
  funext c' j
  unfold m_up ntM
  by_cases e : c' = c ∧ j = t
  · obtain ⟨rfl, rfl⟩ := e
    rw [if_pos ⟨rfl, rfl⟩]
    rcases h with ⟨rfl, rfl, rfl⟩ | ⟨rfl, rfl, rfl⟩ | ⟨rfl, rfl, rfl⟩ <;> simp
  · rw [if_neg e]
    have h13 : ¬ (c' = 13 ∧ k = 1 ∧ j = t) := by omega
    have h14 : k ≠ 5 := by omega
    have h15 : ¬ (c' = 15 ∧ k = 2 ∧ j = t) := by omega
    have h16 : ¬ (c' = 16 ∧ k = 4 ∧ j = t) := by omega
    have h17 : k ≠ 3 := by omega
    split
    · rename_i q; rw [if_neg (fun z => h13 ⟨q, z⟩), q]
    split
    · rename_i q; rw [if_neg (fun z => h14 z.1), q]
    split
    · rename_i q; rw [if_neg (fun z => h15 ⟨q, z⟩), q]
    split
    · rename_i q; rw [if_neg (fun z => h16 ⟨q, z⟩), q]
    split
    · rename_i q; rw [if_neg (fun z => h17 z.1), q]
    · rfl
theorem ntM_5 {a b t : Int} {J : MI} : (fun c j => if c = 14 ∧ t ≤ j ∧ j < b + 1 then z_or (J 14 j) (z_shl 1 a) else J c j : MI) = ntM 5 a b t J := by
  funext c j
  unfold ntM
  by_cases h : c = 14
  · subst h
    by_cases h2 : t ≤ j ∧ j ≤ b
    · rw [if_pos ⟨rfl, h2.1, by omega⟩, if_neg (by decide), if_pos rfl, if_pos ⟨rfl, h2⟩]
    · rw [if_neg (by omega), if_neg (by decide), if_pos rfl, if_neg (fun z => h2 z.2)]
  · rw [if_neg (fun z => h z.1)]
    split
    · rename_i q; rw [if_neg (by omega), q]
    try rw [if_neg h]
    split
    · rename_i q; rw [if_neg (by omega), q]
    split
    · rename_i q; rw [if_neg (by omega), q]
    split
    · rename_i q; rw [if_neg (by omega), q]
    · rfl
theorem ntM_3 {a b t v : Int} {J : MI} (h : v = if J 17 (3 * t + b) = -1 ∨ J 17 (3 * t + b) = a then a else -2) : m_up J 17 (3 * t + b) v = ntM 3 a b t J := by
  funext c j
  unfold m_up ntM
  by_cases e : c = 17 ∧ j = 3 * t + b
  · obtain ⟨rfl, rfl⟩ := e
    rw [if_pos ⟨rfl, rfl⟩, h]
    simp
  · rw [if_neg e]
    split
    · rename_i q; rw [if_neg (by omega), q]
    split
    · rename_i q; rw [if_neg (by omega), q]
    split
    · rename_i q; rw [if_neg (by omega), q]
    split
    · rename_i q; rw [if_neg (by omega), q]
    split
    · rename_i q; rw [if_neg (by omega), q]
    · rfl
/-- what holds of an event -/
def iEv (I : MI) (e : Int) : Prop := (I 11 (4 * e + 0) = 1 ∨ I 11 (4 * e + 0) = 2 ∨ I 11 (4 * e + 0) = 3 ∨ I 11 (4 * e + 0) = 4 ∨ I 11 (4 * e + 0) = 5) ∧ (0 ≤ I 11 (4 * e + 1) ∧ I 11 (4 * e + 1) ≤ 7) ∧ (0 ≤ I 11 (4 * e + 3) ∧ I 11 (4 * e + 3) ≤ 30) ∧ (0 ≤ I 11 (4 * e + 2) ∧ I 11 (4 * e + 2) ≤ 30) ∧ (I 11 (4 * e + 0) = 3 → I 11 (4 * e + 2) < 3) ∧ (I 11 (4 * e + 0) = 5 → I 11 (4 * e + 3) ≤ I 11 (4 * e + 2))
def noteM (e : Int) (J : MI) : MI := ntM (J 11 (4 * e + 0)) (J 11 (4 * e + 1)) (J 11 (4 * e + 2)) (J 11 (4 * e + 3)) J
theorem s_X8_note {e : Int} (he : 0 ≤ e ∧ e < 24) (hv : iEv I e) (h17 : ∀ j, 0 ≤ j → j < 93 → rI (I 17 j)) (hu : rI (I 0 34)) : Sp G mtX8_note [mr 0, mi e] shM I L rM (qi (fun z I' L' R' => z = b01 (I 11 (4 * e + 0) = 3 → I 11 (4 * e + 2) < I 0 34) ∧ I' = noteM e I ∧ L = L' ∧ R' = rM)) := by
  refine Sp.of pnX8_note rfl ?_
  show Rn G mtX8_note _ 0 [(0, mr 0), (1, mi e)] [] shM I L rM
  generalize hQ : (qi (fun z I' L' R' => z = b01 (I 11 (4 * e + 0) = 3 → I 11 (4 * e + 2) < I 0 34) ∧ I' = noteM e I ∧ L = L' ∧ R' = rM)) = Q
  obtain ⟨hk, ha, ht, hb, hb3, hb5⟩ := hv
  have hk2 := h17 (3 * I 11 (4 * e + 3) + I 11 (4 * e + 2))
  refine x_aload_n dX8_note_0 0 rfl rfl ?_
  refine x_iload_n dX8_note_1 1 rfl rfl ?_
  refine x_iconst dX8_note_2 ?_
  refine x_callVi (as := [_, _]) dX8_note_3 lvX8_234 rfl rfl rfl rfl rfl rfl rfl ⟨rfl, rfl⟩ (s_X8_eventAt (by omega)) (fun z3 I3 L3 R3 hq3 => ?_)
  obtain ⟨rfl, rfl, rfl, rfl⟩ := hq3
  refine x_istore_n (lv' := [(0, _), (1, _), (2, _)]) dX8_note_6 rfl rfl rfl ?_
  refine x_aload_n dX8_note_7 0 rfl rfl ?_
  refine x_iload_n dX8_note_8 1 rfl rfl ?_
  refine x_iconst dX8_note_9 ?_
  refine x_callVi (as := [_, _]) dX8_note_10 lvX8_234 rfl rfl rfl rfl rfl rfl rfl ⟨rfl, rfl⟩ (s_X8_eventAt (by omega)) (fun z10 I10 L10 R10 hq10 => ?_)
  obtain ⟨rfl, rfl, rfl, rfl⟩ := hq10
  refine x_istore_n (lv' := [(0, _), (1, _), (2, _), (3, _)]) dX8_note_13 rfl rfl rfl ?_
  refine x_aload_n dX8_note_14 0 rfl rfl ?_
  refine x_iload_n dX8_note_15 1 rfl rfl ?_
  refine x_iconst dX8_note_16 ?_
  refine x_callVi (as := [_, _]) dX8_note_17 lvX8_234 rfl rfl rfl rfl rfl rfl rfl ⟨rfl, rfl⟩ (s_X8_eventAt (by omega)) (fun z17 I17 L17 R17 hq17 => ?_)
  obtain ⟨rfl, rfl, rfl, rfl⟩ := hq17
  refine x_istore (lv' := [(0, _), (1, _), (2, _), (3, _), (4, _)]) dX8_note_20 rfl rfl ?_
  refine x_aload_n dX8_note_22 0 rfl rfl ?_
  refine x_iload_n dX8_note_23 1 rfl rfl ?_
  refine x_iconst dX8_note_24 ?_
  refine x_callVi (as := [_, _]) dX8_note_25 lvX8_234 rfl rfl rfl rfl rfl rfl rfl ⟨rfl, rfl⟩ (s_X8_eventAt (by omega)) (fun z25 I25 L25 R25 hq25 => ?_)
  obtain ⟨rfl, rfl, rfl, rfl⟩ := hq25
  rcases hk with sw28 | sw28 | sw28 | sw28 | sw28
  · rw [sw28]
    refine x_tswIn (off := 36) (tgt := 64) dX8_note_28 (by decide) (by decide) rfl (by decide) ?_
    refine x_aload_n dX8_note_64 0 rfl rfl ?_
    refine x_getR dX8_note_65 flX8_47 rfl rfl rfl ?_
    refine x_iload dX8_note_68 4 rfl ?_
    refine x_dup2 dX8_note_70 rfl rfl ?_
    refine x_iald dX8_note_71 rfl (by omega) ?_
    refine x_iconst dX8_note_72 ?_
    refine x_iload_n dX8_note_73 2 rfl rfl ?_
    refine x_ishl dX8_note_74 ?_
    refine x_ior dX8_note_75 ?_
    refine x_iast dX8_note_76 rfl (by omega) ?_
    refine x_goto (tgt := 201) dX8_note_77 (by decide) ?_
    refine x_iconst dX8_note_201 ?_
    refine x_zret dX8_note_202 rfl (by omega) ?_
    rw [← hQ]
    refine ⟨_, rfl, b01_t (by omega), ?_, rfl, rfl⟩
    unfold noteM
    rw [sw28]
    first | exact ntM_up (Or.inl ⟨rfl, rfl, rfl⟩) | exact ntM_up (Or.inr (Or.inl ⟨rfl, rfl, rfl⟩)) | exact ntM_up (Or.inr (Or.inr ⟨rfl, rfl, rfl⟩))
  · rw [sw28]
    refine x_tswIn (off := 52) (tgt := 80) dX8_note_28 (by decide) (by decide) rfl (by decide) ?_
    refine x_aload_n dX8_note_80 0 rfl rfl ?_
    refine x_getR dX8_note_81 flX8_53 rfl rfl rfl ?_
    refine x_iload dX8_note_84 4 rfl ?_
    refine x_dup2 dX8_note_86 rfl rfl ?_
    refine x_iald dX8_note_87 rfl (by omega) ?_
    refine x_iconst dX8_note_88 ?_
    refine x_iload_n dX8_note_89 2 rfl rfl ?_
    refine x_ishl dX8_note_90 ?_
    refine x_ior dX8_note_91 ?_
    refine x_iast dX8_note_92 rfl (by omega) ?_
    refine x_goto (tgt := 201) dX8_note_93 (by decide) ?_
    refine x_iconst dX8_note_201 ?_
    refine x_zret dX8_note_202 rfl (by omega) ?_
    rw [← hQ]
    refine ⟨_, rfl, b01_t (by omega), ?_, rfl, rfl⟩
    unfold noteM
    rw [sw28]
    first | exact ntM_up (Or.inl ⟨rfl, rfl, rfl⟩) | exact ntM_up (Or.inr (Or.inl ⟨rfl, rfl, rfl⟩)) | exact ntM_up (Or.inr (Or.inr ⟨rfl, rfl, rfl⟩))
  · rw [sw28]
    refine x_tswIn (off := 116) (tgt := 144) dX8_note_28 (by decide) (by decide) rfl (by decide) ?_
    refine x_iconst dX8_note_144 ?_
    refine x_iload dX8_note_145 4 rfl ?_
    refine x_imul dX8_note_147 ?_
    refine x_iload_n dX8_note_148 3 rfl rfl ?_
    refine x_iadd dX8_note_149 ?_
    refine x_istore (lv' := [(0, _), (1, _), (2, _), (3, _), (4, _), (5, _)]) dX8_note_150 rfl rfl ?_
    refine x_aload_n dX8_note_152 0 rfl rfl ?_
    refine x_getR dX8_note_153 flX8_59 rfl rfl rfl ?_
    refine x_iload dX8_note_156 5 rfl ?_
    refine x_aload_n dX8_note_158 0 rfl rfl ?_
    refine x_getR dX8_note_159 flX8_59 rfl rfl rfl ?_
    refine x_iload dX8_note_162 5 rfl ?_
    refine x_iald dX8_note_164 rfl (by omega) ?_
    refine x_iconst dX8_note_165 ?_
    refine x_ic_eq (tgt := 180) dX8_note_166 (by decide) (by omega) (fun h166 => ?_) (fun h166 => ?_)
    · refine x_iload_n dX8_note_180 2 rfl rfl ?_
      refine x_goto (tgt := 186) dX8_note_181 (by decide) ?_
      refine x_iast dX8_note_186 rfl (by omega) ?_
      refine x_iload_n dX8_note_187 3 rfl rfl ?_
      refine x_aload_n dX8_note_188 0 rfl rfl ?_
      refine y_getI dX8_note_189 flX8_240 rfl rfl (m_up_ne (by decide) _) ?_
      refine x_ic_ge (tgt := 199) dX8_note_192 (by decide) (by omega) (fun h192 => ?_) (fun h192 => ?_)
      · refine x_iconst dX8_note_199 ?_
        refine x_zret dX8_note_200 rfl (by omega) ?_
        rw [← hQ]
        refine ⟨_, rfl, ?_, ?_, rfl, rfl⟩
        · first | exact b01_t (by omega) | exact b01_f (by omega)
        · unfold noteM
          rw [sw28]
          apply ntM_3
          first | (rw [if_pos (by omega)]) | (rw [if_neg (by omega)])
      · refine x_iconst dX8_note_195 ?_
        refine x_goto (tgt := 200) dX8_note_196 (by decide) ?_
        refine x_zret dX8_note_200 rfl (by omega) ?_
        rw [← hQ]
        refine ⟨_, rfl, ?_, ?_, rfl, rfl⟩
        · first | exact b01_t (by omega) | exact b01_f (by omega)
        · unfold noteM
          rw [sw28]
          apply ntM_3
          first | (rw [if_pos (by omega)]) | (rw [if_neg (by omega)])
    · refine x_aload_n dX8_note_169 0 rfl rfl ?_
      refine x_getR dX8_note_170 flX8_59 rfl rfl rfl ?_
      refine x_iload dX8_note_173 5 rfl ?_
      refine x_iald dX8_note_175 rfl (by omega) ?_
      refine x_iload_n dX8_note_176 2 rfl rfl ?_
      refine x_ic_ne (tgt := 184) dX8_note_177 (by decide) (by omega) (fun h177 => ?_) (fun h177 => ?_)
      · refine x_bipush dX8_note_184 (by decide) ?_
        refine x_iast dX8_note_186 rfl (by omega) ?_
        refine x_iload_n dX8_note_187 3 rfl rfl ?_
        refine x_aload_n dX8_note_188 0 rfl rfl ?_
        refine y_getI dX8_note_189 flX8_240 rfl rfl (m_up_ne (by decide) _) ?_
        refine x_ic_ge (tgt := 199) dX8_note_192 (by decide) (by omega) (fun h192 => ?_) (fun h192 => ?_)
        · refine x_iconst dX8_note_199 ?_
          refine x_zret dX8_note_200 rfl (by omega) ?_
          rw [← hQ]
          refine ⟨_, rfl, ?_, ?_, rfl, rfl⟩
          · first | exact b01_t (by omega) | exact b01_f (by omega)
          · unfold noteM
            rw [sw28]
            apply ntM_3
            first | (rw [if_pos (by omega)]) | (rw [if_neg (by omega)])
        · refine x_iconst dX8_note_195 ?_
          refine x_goto (tgt := 200) dX8_note_196 (by decide) ?_
          refine x_zret dX8_note_200 rfl (by omega) ?_
          rw [← hQ]
          refine ⟨_, rfl, ?_, ?_, rfl, rfl⟩
          · first | exact b01_t (by omega) | exact b01_f (by omega)
          · unfold noteM
            rw [sw28]
            apply ntM_3
            first | (rw [if_pos (by omega)]) | (rw [if_neg (by omega)])
      · refine x_iload_n dX8_note_180 2 rfl rfl ?_
        refine x_goto (tgt := 186) dX8_note_181 (by decide) ?_
        refine x_iast dX8_note_186 rfl (by omega) ?_
        refine x_iload_n dX8_note_187 3 rfl rfl ?_
        refine x_aload_n dX8_note_188 0 rfl rfl ?_
        refine y_getI dX8_note_189 flX8_240 rfl rfl (m_up_ne (by decide) _) ?_
        refine x_ic_ge (tgt := 199) dX8_note_192 (by decide) (by omega) (fun h192 => ?_) (fun h192 => ?_)
        · refine x_iconst dX8_note_199 ?_
          refine x_zret dX8_note_200 rfl (by omega) ?_
          rw [← hQ]
          refine ⟨_, rfl, ?_, ?_, rfl, rfl⟩
          · first | exact b01_t (by omega) | exact b01_f (by omega)
          · unfold noteM
            rw [sw28]
            apply ntM_3
            first | (rw [if_pos (by omega)]) | (rw [if_neg (by omega)])
        · refine x_iconst dX8_note_195 ?_
          refine x_goto (tgt := 200) dX8_note_196 (by decide) ?_
          refine x_zret dX8_note_200 rfl (by omega) ?_
          rw [← hQ]
          refine ⟨_, rfl, ?_, ?_, rfl, rfl⟩
          · first | exact b01_t (by omega) | exact b01_f (by omega)
          · unfold noteM
            rw [sw28]
            apply ntM_3
            first | (rw [if_pos (by omega)]) | (rw [if_neg (by omega)])
  · rw [sw28]
    refine x_tswIn (off := 68) (tgt := 96) dX8_note_28 (by decide) (by decide) rfl (by decide) ?_
    refine x_aload_n dX8_note_96 0 rfl rfl ?_
    refine x_getR dX8_note_97 flX8_56 rfl rfl rfl ?_
    refine x_iload dX8_note_100 4 rfl ?_
    refine x_dup2 dX8_note_102 rfl rfl ?_
    refine x_iald dX8_note_103 rfl (by omega) ?_
    refine x_iconst dX8_note_104 ?_
    refine x_iload_n dX8_note_105 2 rfl rfl ?_
    refine x_ishl dX8_note_106 ?_
    refine x_ior dX8_note_107 ?_
    refine x_iast dX8_note_108 rfl (by omega) ?_
    refine x_goto (tgt := 201) dX8_note_109 (by decide) ?_
    refine x_iconst dX8_note_201 ?_
    refine x_zret dX8_note_202 rfl (by omega) ?_
    rw [← hQ]
    refine ⟨_, rfl, b01_t (by omega), ?_, rfl, rfl⟩
    unfold noteM
    rw [sw28]
    first | exact ntM_up (Or.inl ⟨rfl, rfl, rfl⟩) | exact ntM_up (Or.inr (Or.inl ⟨rfl, rfl, rfl⟩)) | exact ntM_up (Or.inr (Or.inr ⟨rfl, rfl, rfl⟩))
  · rw [sw28]
    refine x_tswIn (off := 84) (tgt := 112) dX8_note_28 (by decide) (by decide) rfl (by decide) ?_
    refine x_iload dX8_note_112 4 rfl ?_
    refine x_istore (lv' := [(0, _), (1, _), (2, _), (3, _), (4, _), (5, _)]) dX8_note_114 rfl rfl ?_
    have loop : ∀ k, k ≤ (I 11 (4 * e + 2) + 1 - I 11 (4 * e + 3)).toNat → ∀ x, x = I 11 (4 * e + 3) + (k : Int) → Rn G mtX8_note Q 116 [(0, mr 0), (1, mi e), (2, mi (I 11 (4 * e + 1))), (3, mi (I 11 (4 * e + 2))), (4, mi (I 11 (4 * e + 3))), (5, mi x)] [] shM (fun c j => if c = 14 ∧ I 11 (4 * e + 3) ≤ j ∧ j < x then z_or (I 14 j) (z_shl 1 (I 11 (4 * e + 1))) else I c j) L rM := by
      refine lpn _ (fun k hk3 ih => ?_) ?_
      · intro x hx
        refine x_iload dX8_note_116 5 rfl ?_
        refine x_iload_n dX8_note_118 3 rfl rfl ?_
        refine x_ic_gt (tgt := 141) dX8_note_119 (by decide) (by omega) (fun h119 => ?_) (fun h119 => ?_)
        · exfalso; omega
        · refine x_aload_n dX8_note_122 0 rfl rfl ?_
          refine x_getR dX8_note_123 flX8_50 rfl rfl rfl ?_
          refine x_iload dX8_note_126 5 rfl ?_
          refine x_dup2 dX8_note_128 rfl rfl ?_
          refine x_iald dX8_note_129 rfl (by omega) ?_
          rw [if_neg (show ¬ ((14 : Nat) = 14 ∧ I 11 (4 * e + 3) ≤ x ∧ x < x) by omega)]
          refine x_iconst dX8_note_130 ?_
          refine x_iload_n dX8_note_131 2 rfl rfl ?_
          refine x_ishl dX8_note_132 ?_
          refine x_ior dX8_note_133 ?_
          refine x_iast dX8_note_134 rfl (by omega) ?_
          refine x_iinc (lv' := [(0, _), (1, _), (2, _), (3, _), (4, _), (5, _)]) dX8_note_135 5 rfl rfl rfl ?_
          refine x_goto (tgt := 116) dX8_note_138 (by decide) ?_
          have h9 := ih (x + 1) (by omega)
          refine Eq.mp (congrArg (fun J => Rn G mtX8_note Q 116 _ _ shM J L rM) ?_) h9
          funext c j
          unfold m_up
          by_cases e1 : c = 14 ∧ j = x
          · obtain ⟨rfl, rfl⟩ := e1
            rw [if_pos (by omega), if_pos ⟨rfl, rfl⟩]
          · rw [if_neg e1]
            dsimp only
            by_cases e2 : c = 14 ∧ I 11 (4 * e + 3) ≤ j ∧ j < x
            · rw [if_pos e2, if_pos (by omega)]
            · rw [if_neg e2, if_neg (by omega)]
      · intro x hx
        refine x_iload dX8_note_116 5 rfl ?_
        refine x_iload_n dX8_note_118 3 rfl rfl ?_
        refine x_ic_gt (tgt := 141) dX8_note_119 (by decide) (by omega) (fun h119 => ?_) (fun h119 => ?_)
        · refine x_goto (tgt := 201) dX8_note_141 (by decide) ?_
          refine x_iconst dX8_note_201 ?_
          refine x_zret dX8_note_202 rfl (by omega) ?_
          rw [← hQ]
          refine ⟨_, rfl, b01_t (by omega), ?_, rfl, rfl⟩
          unfold noteM
          rw [sw28, show x = I 11 (4 * e + 2) + 1 by omega]
          exact ntM_5
        · exfalso; omega
    have h0 := loop 0 (by omega) _ (by rw [show (((0 : Nat) : Nat) : Int) = 0 from rfl, Int.add_zero])
    rw [show (fun (c : Nat) (j : Int) => if c = 14 ∧ I 11 (4 * e + 3) ≤ j ∧ j < I 11 (4 * e + 3) then z_or (I 14 j) (z_shl 1 (I 11 (4 * e + 1))) else I c j) = I by funext c j; rw [if_neg (by omega)]] at h0
    exact h0
end

/-! THE REFERENCE'S QUESTIONS, part five: the first walk; who meets. -/
theorem wyM_up {κ : MI} {w : Nat} {r n k : Int} {I J : MI} {v : Int} (hk : 0 ≤ k ∧ k < 40) (hJ : E1 (wyM κ w r n k I) J) (hv : v = leF (wyV κ w k.toNat) w (nst κ)) : E1 (wyM κ w r n (k + 1) I) (m_up J 3 (40 * r + k) v) := by
  intro c j q
  unfold m_up
  by_cases e : c = 3 ∧ j = 40 * r + k
  · obtain ⟨rfl, rfl⟩ := e
    rw [if_pos ⟨rfl, rfl⟩, hv]
    unfold wyM
    rw [if_neg (by omega), if_pos (by omega), if_pos (by omega), show 40 * r + k - 40 * r = k by omega]
  · rw [if_neg e, hJ c j q]
    unfold wyM
    by_cases e1 : c = 2 ∧ j = r
    · rw [if_pos e1, if_pos e1]
    · rw [if_neg e1, if_neg e1]
      by_cases e2 : c = 3 ∧ 40 * r ≤ j ∧ j < 40 * r + 40
      · rw [if_pos e2, if_pos e2]
        by_cases e3 : j - 40 * r < k
        · rw [if_pos e3, if_pos (by omega)]
        · rw [if_neg e3, if_neg (by omega)]
      · rw [if_neg e2, if_neg e2]
theorem wyM_0 {κ : MI} {w : Nat} {r n : Int} {J : MI} (hr : 0 ≤ r) (h : E1 κ J) : E1 (wyM κ w r n 0 κ) (m_fil (m_up J 2 r n) 3 (40 * r) (40 * r + 40) 0) := by
  intro c j q
  unfold m_fil m_up wyM
  by_cases e2 : c = 3 ∧ 40 * r ≤ j ∧ j < 40 * r + 40
  · rw [if_pos e2, if_neg (by omega), if_pos e2, if_neg (by omega)]
  · rw [if_neg e2, if_neg e2]
    by_cases e1 : c = 2 ∧ j = r
    · rw [if_pos e1, if_pos e1]
    · rw [if_neg e1, if_neg e1]; exact h c j q
theorem wyM_pe {I κ J : MI} {K : MI} {w : Nat} {r n k : Int} (h : ∀ c j, per c j → κ c j = I c j) (hJ : E1 (wyM K w r n k κ) J) : Pe (wyM K w r n k I) J := by
  intro c j q
  rw [hJ c j (Or.inl q)]
  unfold wyM
  rw [h c j q]
def arF (κ : MI) (w o t : Nat) : Nat → Bool
  | 0 => false
  | s + 1 => arF κ w o t s || (alv κ t s && rm s w == rm s o)
def meF (κ : MI) (w o : Nat) : Nat → Nat → Int
  | 0, _ => -9
  | n + 1, t => if arF κ w o t (nst κ) then (t : Int) else meF κ w o n (t + 1)
theorem meF_r (κ : MI) (w o : Nat) : ∀ n t, meF κ w o n t = -9 ∨ (0 ≤ meF κ w o n t ∧ meF κ w o n t < (t : Int) + (n : Int))
  | 0, t => Or.inl rfl
  | n + 1, t => by
    unfold meF
    split
    · right; omega
    · have := meF_r κ w o n (t + 1); omega
noncomputable def s_met (w o : Int) (I : MI) : Int × MI := if w < 0 ∨ I 0 13 ≤ w ∨ o < 0 ∨ I 0 13 ≤ o ∨ w = o then (-1, I) else if okA I = false then (-3, a_mt I 4)
  else (if meF (kap I 0 (I 0 13)) w.toNat o.toNat (I 0 14 + 1).toNat 0 = -9 then 0 else if anv (cmV (kap I 0 (I 0 13)) w.toNat o.toNat (I 0 14).toNat) (nst (kap I 0 (I 0 13))) then 1 else 2, a_tl I (meF (kap I 0 (I 0 13)) w.toNat o.toNat (I 0 14 + 1).toNat 0))
theorem cmf_r {w o : Nat} {V : Nat → Int} (h : ∀ s, -1 ≤ V s ∧ V s ≤ 40) (x : Nat) : -1 ≤ cmf w o V x ∧ cmf w o V x ≤ 40 := by
  unfold cmf
  split
  · omega
  · exact h x
theorem cmV_r {κ : MI} {w o : Nat} : ∀ (t x : Nat), -1 ≤ cmV κ w o t x ∧ cmV κ w o t x ≤ 40
  | 0, x => cmf_r (bgV_r (by omega)) x
  | _ + 1, x => cmf_r gW_r x
/-- what comes in ahead of the look at who meets -/
def cmI (κ : MI) (w o : Nat) : Nat → Nat → Int
  | 0 => bgV κ 0
  | t + 1 => gW κ t (cmV κ w o t)
theorem cmI_c (κ : MI) (w o : Nat) (t : Nat) : cmf w o (cmI κ w o t) = cmV κ w o t := by cases t <;> rfl
theorem cmI_r {κ : MI} {w o : Nat} (t x : Nat) : -1 ≤ cmI κ w o t x ∧ cmI κ w o t x ≤ 40 := by
  cases t
  · exact bgV_r (by omega) x
  · exact gW_r x
section
variable {G : GT} {sh : MS} {I L : MI} {R : MR} {κ : MI}

set_option maxHeartbeats 1500000 in
theorem s_X8_way {w r : Int} (hH : iHs I) (hE : iEvs I) (h1 : rI w) (h2 : rI r) : Sp G mtX8_way [mr 0, mi w, mi r] shM I L rM (qi (fun z I' L' R' => z = (s_way w r I).1 ∧ Pe (s_way w r I).2 I' ∧ LF L L' ∧ R' = rM)) := by
  refine Sp.of pnX8_way rfl ?_
  show Rn G mtX8_way _ 0 [(0, mr 0), (1, mi w), (2, mi r)] [] shM I L rM
  generalize hQ : (qi (fun z I' L' R' => z = (s_way w r I).1 ∧ Pe (s_way w r I).2 I' ∧ LF L L' ∧ R' = rM)) = Q
  have hW := hH.2.2.1
  have hT := hH.2.2.2.1
  have hR := hH.1
  have hl := KA_lst hH (wo := 0) (k := I 0 13)
  have hnn := nst_le (KA_H hH) (KA_S hH hE)
  have hu := KA_us hH
  refine x_aload_n dX8_way_0 0 rfl rfl ?_
  refine x_iload_n dX8_way_1 1 rfl rfl ?_
  refine x_callVi (as := [_]) dX8_way_2 lvX8_224 rfl rfl rfl rfl rfl rfl rfl ⟨rfl, rfl⟩ (s_X8_isWalker (by omega) (by omega)) (fun z2 I2 L2 R2 hq2 => ?_)
  obtain ⟨rfl, rfl, rfl, rfl⟩ := hq2
  refine y_ifb_eq (tgt := 15) dX8_way_5 (by decide) (fun h5 => ?_) (fun h5 => ?_)
  · refine x_iconst dX8_way_15 ?_
    refine x_iret dX8_way_16 rfl ?_
    rw [← hQ]
    have hs : s_way w r I = (-1, I) := by unfold s_way; rw [if_pos (by omega)]
    rw [hs]
    exact ⟨_, rfl, rfl, Pe.rf _, LF.rf _, rfl⟩
  · refine x_iload_n dX8_way_8 2 rfl rfl ?_
    refine x_callSi (as := [_]) dX8_way_9 lvX8_118 rfl rfl rfl rfl ⟨rfl, rfl⟩ (s_X8_isRow (by omega)) (fun z9 I9 L9 R9 hq9 => ?_)
    obtain ⟨rfl, rfl, rfl, rfl⟩ := hq9
    refine y_ifb_ne (tgt := 17) dX8_way_12 (by decide) (fun h12 => ?_) (fun h12 => ?_)
    · refine x_aload_n dX8_way_17 0 rfl rfl ?_
      refine x_callVi (as := []) dX8_way_18 lvX8_342 rfl rfl rfl rfl rfl rfl rfl ⟨rfl, rfl⟩ (s_X8_layAll hH hE) (fun z18 I18 L18 R18 hq18 => ?_)
      obtain ⟨rfl, hE2, hLF, rfl, hTb⟩ := hq18
      refine y_ifb_ne (tgt := 30) dX8_way_21 (by decide) (fun h21 => ?_) (fun h21 => ?_)
      · refine x_aload_n dX8_way_30 0 rfl rfl ?_
        refine x_iconst dX8_way_31 ?_
        refine x_callVv (as := [_]) dX8_way_32 lvX8_349 rfl rfl rfl rfl rfl rfl rfl ⟨rfl, rfl⟩ (s_X8_beginValues hE2 (KA_H hH) (KA_S hH hE) (hTb (b01_1.mpr (by assumption)))) (fun I32 L32 R32 hq32 => ?_)
        obtain ⟨rfl, rfl, hq1, hq2⟩ := hq32
        refine x_aload_n dX8_way_35 0 rfl rfl ?_
        refine x_getR dX8_way_36 flX8_13 rfl rfl rfl ?_
        refine x_iload_n dX8_way_39 2 rfl rfl ?_
        refine x_aload_n dX8_way_40 0 rfl rfl ?_
        refine x_getI dX8_way_41 flX8_99 rfl rfl ?_
        refine x_iconst dX8_way_44 ?_
        refine x_iadd dX8_way_45 ?_
        refine x_iast dX8_way_46 rfl (by omega) ?_
        refine x_iconst dX8_way_47 ?_
        refine x_istore_n (lv' := [(0, _), (1, _), (2, _), (3, _)]) dX8_way_48 rfl rfl rfl ?_
        have hok : okA I = true := by assumption
        have hB := hTb (b01_1.mpr hok)
        obtain ⟨v, rfl⟩ : ∃ n : Nat, w = n := ⟨w.toNat, by omega⟩
        have hEb : E1 (kap I 0 (I 0 13)) I32 := fun c j q => by rw [hq1 c j (by unfold sce per at q; omega) (by unfold sce per at q; omega)]; exact hE2 c j q
        have b14 : I32 0 14 = I 0 14 := by rw [hEb.at (by unfold sce per; omega), kap_per (by unfold per; omega)]
        have main : ∀ k : Nat, k ≤ (I 0 14 + 1).toNat → ∀ J : MI, E1 (wyM (kap I 0 (I 0 13)) v r (I 0 14 + 1) (k : Int) (kap I 0 (I 0 13))) J → (k ≤ lst (kap I 0 (I 0 13)) → ∀ x : Nat, x < nst (kap I 0 (I 0 13)) → J 24 (x : Int) = wyV (kap I 0 (I 0 13)) v k x ∧ J 25 (x : Int) = -1) → Rn G mtX8_way Q 75 [(0, mr 0), (1, mi ↑v), (2, mi r), (3, mi (k : Int))] [] shM J L18 rM := by
          refine lpn _ (fun k hk ih => ?_) ?_
          · intro J hJ hV
            have sg := fun k' : Int => wyM_sg (κ := kap I 0 (I 0 13)) (w := v) (r := r) (n := I 0 14 + 1) (k := k')
            have hV2 := hV (by omega)
            have j14 : J 0 14 = I 0 14 := by rw [hJ.at (by unfold sce per; omega), (sg _).2 14 (by omega), kap_per (by unfold per; omega)]
            have hHk := fun k' => iHs_sg (sg k') (KA_H hH)
            have hSk := fun k' => iSc_sg (sg k') (KA_S hH hE)
            have hBk := fun k' => Tb_sg (sg k') hB
            have hn : ∀ k', nst (wyM (kap I 0 (I 0 13)) v r (I 0 14 + 1) k' (kap I 0 (I 0 13))) = nst (kap I 0 (I 0 13)) := fun k' => nst_sg (sg k')
            have hl : ∀ k', lst (wyM (kap I 0 (I 0 13)) v r (I 0 14 + 1) k' (kap I 0 (I 0 13))) = lst (kap I 0 (I 0 13)) := fun k' => lst_sg (sg k')
            have hwr := wyV_r (κ := kap I 0 (I 0 13)) (w := v) k
            have hle := leF_r (wyV (kap I 0 (I 0 13)) v k) v (nst (kap I 0 (I 0 13))) (by omega)
            refine x_iload_n dX8_way_75 3 rfl rfl ?_
            refine x_aload_n dX8_way_76 0 rfl rfl ?_
            refine x_getI dX8_way_77 flX8_99 rfl rfl ?_
            refine x_ic_gt (tgt := 130) dX8_way_80 (by decide) (by omega) (fun h80 => ?_) (fun h80 => ?_)
            · exfalso; omega
            · refine x_aload_n dX8_way_83 0 rfl rfl ?_
              refine x_iload_n dX8_way_84 1 rfl rfl ?_
              refine x_callVi (as := [_]) dX8_way_85 lvX8_374 rfl rfl rfl rfl rfl rfl rfl ⟨rfl, rfl⟩ (s_X8_leastRoom (V := wyV (kap I 0 (I 0 13)) v k) hJ (hHk _) (hSk _) (by omega) hwr (fun x hx => (hV2 x (by rw [hn] at hx; exact hx)).1)) (fun z85 I85 L85 R85 hq85 => ?_)
              obtain ⟨rfl, rfl, rfl, rfl⟩ := hq85
              rw [hn]
              refine x_istore (lv' := [(0, _), (1, _), (2, _), (3, _), (4, _)]) dX8_way_88 rfl rfl ?_
              refine x_aload_n dX8_way_90 0 rfl rfl ?_
              refine x_getR dX8_way_91 flX8_16 rfl rfl rfl ?_
              refine x_bipush dX8_way_94 (by decide) ?_
              refine x_iload_n dX8_way_96 2 rfl rfl ?_
              refine x_imul dX8_way_97 ?_
              refine x_iload_n dX8_way_98 3 rfl rfl ?_
              refine x_iadd dX8_way_99 ?_
              refine x_iload dX8_way_100 4 rfl ?_
              refine x_iast dX8_way_102 rfl (by omega) ?_
              have hJ6 := wyM_up (by omega) hJ (show leF (wyV (kap I 0 (I 0 13)) v k) v (nst (kap I 0 (I 0 13))) = leF (wyV (kap I 0 (I 0 13)) v (k : Int).toNat) v (nst (kap I 0 (I 0 13))) by rw [Int.toNat_natCast])
              refine x_aload_n dX8_way_103 0 rfl rfl ?_
              refine x_iload_n dX8_way_104 1 rfl rfl ?_
              refine x_iload dX8_way_105 4 rfl ?_
              refine x_callVi (as := [_, _]) dX8_way_107 lvX8_368 rfl rfl rfl rfl rfl rfl rfl ⟨rfl, rfl⟩ (s_X8_keepsRoom (V := wyV (kap I 0 (I 0 13)) v k) hJ6 (hHk _) (hSk _) (by omega) (by omega) hwr (fun x hx => by rw [m_up_ne (by decide)]; exact (hV2 x (by rw [hn] at hx; exact hx)).1)) (fun z107 I107 L107 R107 hq107 => ?_)
              obtain ⟨rfl, hk1, hk2, rfl, rfl⟩ := hq107
              have hJ7 : E1 (wyM (kap I 0 (I 0 13)) v r (I 0 14 + 1) ((k : Int) + 1) (kap I 0 (I 0 13))) I107 := fun c j q => by rw [hk1 c j (by unfold sce per at q; omega)]; exact hJ6 c j q
              have j15 : I107 0 14 = I 0 14 := by rw [hk1 0 14 (by decide), m_up_ne (by decide)]; exact j14
              refine x_pop dX8_way_110 rfl ?_
              refine x_iload_n dX8_way_111 3 rfl rfl ?_
              refine x_aload_n dX8_way_112 0 rfl rfl ?_
              refine x_getI dX8_way_113 flX8_99 rfl rfl ?_
              refine x_ic_ge (tgt := 124) dX8_way_116 (by decide) (by omega) (fun h116 => ?_) (fun h116 => ?_)
              · refine x_iinc (lv' := [(0, _), (1, _), (2, _), (3, _), (4, _)]) dX8_way_124 3 rfl rfl rfl ?_
                refine x_goto (tgt := 75) dX8_way_127 (by decide) ?_
                refine x_top (lv' := [(0, _), (1, _), (2, _), (3, _)]) 4 rfl ?_
                first
                | exact ih _ hE6 (fun _ x hx => by rw [← hn ((k : Int) + 1)] at hx; have := hg6 x hx; rw [gW_sg (sg _)] at this; exact this)
                | exact ih _ hJ7 (fun h => by omega)
              · refine x_aload_n dX8_way_119 0 rfl rfl ?_
                refine x_iload_n dX8_way_120 3 rfl rfl ?_
                refine x_callVv (as := [_]) dX8_way_121 lvX8_371 rfl rfl rfl rfl rfl rfl rfl ⟨rfl, rfl⟩ (s_X8_goesOn (t := k) hJ7 (hHk _) (hSk _) (hBk _) (by rw [hl]; omega) (fun x => keF_r x) (fun x hx => ⟨hk2 x hx, by rw [hk1 25 _ (by decide), m_up_ne (by decide)]; exact (hV2 x (by rw [hn] at hx; exact hx)).2⟩)) (fun I121 L121 R121 hq121 => ?_)
                obtain ⟨rfl, rfl, hE6, hg6⟩ := hq121
                refine x_iinc (lv' := [(0, _), (1, _), (2, _), (3, _), (4, _)]) dX8_way_124 3 rfl rfl rfl ?_
                refine x_goto (tgt := 75) dX8_way_127 (by decide) ?_
                refine x_top (lv' := [(0, _), (1, _), (2, _), (3, _)]) 4 rfl ?_
                first
                | exact ih _ hE6 (fun _ x hx => by rw [← hn ((k : Int) + 1)] at hx; have := hg6 x hx; rw [gW_sg (sg _)] at this; exact this)
                | exact ih _ hJ7 (fun h => by omega)
          · intro J hJ hV
            have j14 : J 0 14 = I 0 14 := by rw [hJ.at (by unfold sce per; omega), wyM_sg.2 14 (by omega), kap_per (by unfold per; omega)]
            refine x_iload_n dX8_way_75 3 rfl rfl ?_
            refine x_aload_n dX8_way_76 0 rfl rfl ?_
            refine x_getI dX8_way_77 flX8_99 rfl rfl ?_
            refine x_ic_gt (tgt := 130) dX8_way_80 (by decide) (by omega) (fun h80 => ?_) (fun h80 => ?_)
            · refine x_aload_n dX8_way_130 0 rfl rfl ?_
              refine x_getI dX8_way_131 flX8_99 rfl rfl ?_
              refine x_iconst dX8_way_134 ?_
              refine x_iadd dX8_way_135 ?_
              refine x_iret dX8_way_136 rfl ?_
              rw [← hQ]
              have hs : s_way v r I = (I 0 14 + 1, wyM (kap I 0 (I 0 13)) v r (I 0 14 + 1) (I 0 14 + 1) I) := by
                unfold s_way
                rw [if_neg (by omega), if_neg (by rw [hok]; decide), Int.toNat_natCast]
              rw [hs, j14]
              rw [show (((I 0 14 + 1).toNat : Nat) : Int) = I 0 14 + 1 by omega] at hJ
              exact ⟨_, rfl, rfl, wyM_pe (fun c j q => kap_per q) hJ, hLF, rfl⟩
            · exfalso; omega
        have rl : ∀ i : Nat, i ≤ 40 → Rn G mtX8_way Q 49 [(0, mr 0), (1, mi ↑v), (2, mi r), (3, mi (i : Int))] [] shM (m_fil (m_up I32 2 r (I32 0 14 + 1)) 3 (40 * r) (40 * r + (i : Int)) 0) L18 rM := by
          refine lpn 40 (fun i hi ih => ?_) ?_
          · refine x_iload_n dX8_way_49 3 rfl rfl ?_
            refine x_bipush dX8_way_50 (by decide) ?_
            refine x_ic_ge (tgt := 73) dX8_way_52 (by decide) (by first | omega | exact z_and_r _ _ | exact z_or_r _ _ | exact z_xor_r _ _) (fun h52 => ?_) (fun h52 => ?_)
            · exfalso; omega
            · refine x_aload_n dX8_way_55 0 rfl rfl ?_
              refine x_getR dX8_way_56 flX8_16 rfl rfl rfl ?_
              refine x_bipush dX8_way_59 (by decide) ?_
              refine x_iload_n dX8_way_61 2 rfl rfl ?_
              refine x_imul dX8_way_62 ?_
              refine x_iload_n dX8_way_63 3 rfl rfl ?_
              refine x_iadd dX8_way_64 ?_
              refine x_iconst dX8_way_65 ?_
              refine x_iast dX8_way_66 rfl (by omega) ?_
              refine x_iinc (lv' := [(0, _), (1, _), (2, _), (3, _)]) dX8_way_67 3 rfl rfl rfl ?_
              refine x_goto (tgt := 49) dX8_way_70 (by decide) ?_
              rw [m_fil_s (by omega), show 40 * r + (i : Int) + 1 = 40 * r + ((i + 1 : Nat) : Int) by omega]
              exact ih
          · refine x_iload_n dX8_way_49 3 rfl rfl ?_
            refine x_bipush dX8_way_50 (by decide) ?_
            refine x_ic_ge (tgt := 73) dX8_way_52 (by decide) (by first | omega | exact z_and_r _ _ | exact z_or_r _ _ | exact z_xor_r _ _) (fun h52 => ?_) (fun h52 => ?_)
            · refine x_iconst dX8_way_73 ?_
              refine x_istore_n (lv' := [(0, _), (1, _), (2, _), (3, _)]) dX8_way_74 rfl rfl rfl ?_
              rw [b14]
              exact main 0 (by omega) _ (wyM_0 (by omega) hEb) (fun _ x hx => ⟨by rw [m_fil_ne (by decide), m_up_ne (by decide)]; exact (hq2 x hx).1, by rw [m_fil_ne (by decide), m_up_ne (by decide)]; exact (hq2 x hx).2⟩)
            · exfalso; omega
        have h9 := rl 0 (by omega)
        rw [show 40 * r + ((0 : Nat) : Int) = 40 * r by omega, m_fil_0] at h9
        exact h9
      · refine x_aload_n dX8_way_24 0 rfl rfl ?_
        refine x_iconst dX8_way_25 ?_
        refine x_callVi (as := [_]) dX8_way_26 lvX8_122 rfl rfl rfl rfl rfl rfl rfl ⟨rfl, rfl⟩ (s_X8_meets (by omega)) (fun z26 I26 L26 R26 hq26 => ?_)
        obtain ⟨rfl, rfl, rfl, rfl⟩ := hq26
        refine x_iret dX8_way_29 rfl ?_
        rw [← hQ]
        have hs : s_way w r I = (-3, a_mt I 4) := by
          unfold s_way
          rw [if_neg (by omega), if_pos (by rw [← Bool.not_eq_true]; assumption)]
        rw [hs]
        exact ⟨_, rfl, rfl, (kap_pe hE2).mt 4, hLF, rfl⟩
    · refine x_iconst dX8_way_15 ?_
      refine x_iret dX8_way_16 rfl ?_
      rw [← hQ]
      have hs : s_way w r I = (-1, I) := by unfold s_way; rw [if_pos (by omega)]
      rw [hs]
      exact ⟨_, rfl, rfl, Pe.rf _, LF.rf _, rfl⟩
set_option maxHeartbeats 1500000 in
theorem s_X8_canMiss {w o : Nat} (h0 : E1 κ I) (hH : iHs κ) (hS : iSc κ) (hB : Tb κ L) (hw : w < 3) (ho : o < 3) : Sp G mtX8_canMiss [mr 0, mi ↑w, mi ↑o] shM I L rM (qi (fun z I' L' R' => z = b01 (anv (cmV κ w o (lst κ)) (nst κ) = true) ∧ E1 κ I' ∧ L = L' ∧ R' = rM)) := by
  refine Sp.of pnX8_canMiss rfl ?_
  show Rn G mtX8_canMiss _ 0 [(0, mr 0), (1, mi ↑w), (2, mi ↑o)] [] shM I L rM
  generalize hQ : (qi (fun z I' L' R' => z = b01 (anv (cmV κ w o (lst κ)) (nst κ) = true) ∧ E1 κ I' ∧ L = L' ∧ R' = rM)) = Q
  have hu := us_le hH hS
  have hnn := (nst_le hH hS).2
  have hT := hH.2.2.2.1
  have hlt : (lst κ : Int) = κ 0 14 := by unfold lst; omega
  refine x_aload_n dX8_canMiss_0 0 rfl rfl ?_
  refine x_iconst dX8_canMiss_1 ?_
  refine x_callVv (as := [_]) dX8_canMiss_2 lvX8_349 rfl rfl rfl rfl rfl rfl rfl ⟨rfl, rfl⟩ (s_X8_beginValues h0 hH hS hB) (fun I2 L2 R2 hq2 => ?_)
  obtain ⟨rfl, rfl, hq1, hq2⟩ := hq2
  have hEb : E1 κ I2 := fun c j q => by rw [hq1 c j (by unfold sce per at q; omega) (by unfold sce per at q; omega)]; exact h0 c j q
  refine x_iconst dX8_canMiss_5 ?_
  refine x_istore_n (lv' := [(0, _), (1, _), (2, _), (3, _)]) dX8_canMiss_6 rfl rfl rfl ?_
  have tl : ∀ t : Nat, t ≤ lst κ + 1 → ∀ J : MI, E1 κ J → (t ≤ lst κ → ∀ x : Nat, x < nst κ → J 24 (x : Int) = cmI κ w o t x ∧ J 25 (x : Int) = -1) → (t = lst κ + 1 → ∀ x : Nat, x < nst κ → J 24 (x : Int) = cmV κ w o (lst κ) x) → Rn G mtX8_canMiss Q 7 [(0, mr 0), (1, mi ↑w), (2, mi ↑o), (3, mi (t : Int))] [] shM J L rM := by
    refine lpn _ (fun t ht iht => ?_) ?_
    · intro J hJ hV _
      have hV2 := hV (by omega)
      have j14 : J 0 14 = κ 0 14 := hJ.at (by unfold sce per; omega)
      have sl : ∀ s : Nat, s ≤ nst κ → ∀ J : MI, E1 κ J → (∀ x : Nat, x < s → J 24 (x : Int) = cmV κ w o t x) → (∀ x : Nat, s ≤ x → x < nst κ → J 24 (x : Int) = cmI κ w o t x) → (t < lst κ → ∀ x : Nat, x < nst κ → J 25 (x : Int) = swS (cmV κ w o t) (gF κ t) (fun s => mal κ t s) s (fun _ => -1) x) → Rn G mtX8_canMiss Q 18 [(0, mr 0), (1, mi ↑w), (2, mi ↑o), (3, mi (t : Int)), (4, mi (s : Int))] [] shM J L rM := by
        refine lpn _ (fun s hs ih => ?_) ?_
        · intro J hJ hA hC hW
          have hs2 : s < 1728 := by omega
          have hml : mal κ t s ≤ 729 := mal_le hH hS t s
          have j14 : J 0 14 = κ 0 14 := hJ.at (by unfold sce per; omega)
          have hcs := hC s (Nat.le_refl _) hs
          have hir := cmI_r (κ := κ) (w := w) (o := o) t s
          have hcr := cmV_r (κ := κ) (w := w) (o := o) t s
          have hx0 : cmV κ w o t s = if rm s w = rm s o then -1 else cmI κ w o t s := by rw [← cmI_c]; rfl
          have nx : ∀ (J2 : MI) lv8, lv8 = [(0, mr 0), (1, mi ↑w), (2, mi ↑o), (3, mi (t : Int)), (4, mi (s : Int))] → E1 κ J2 → (∀ x : Nat, x < s + 1 → J2 24 (x : Int) = cmV κ w o t x) → (∀ x : Nat, s + 1 ≤ x → x < nst κ → J2 24 (x : Int) = cmI κ w o t x) → (t < lst κ → ∀ x : Nat, x < nst κ → J2 25 (x : Int) = swS (cmV κ w o t) (gF κ t) (fun s => mal κ t s) (s + 1) (fun _ => -1) x) → Rn G mtX8_canMiss Q 137 lv8 [] shM J2 L rM := by
            intro J2 lv8 hlv hJ2 hA2 hC2 hW2
            subst hlv
            refine x_iinc (lv' := [(0, _), (1, _), (2, _), (3, _), (4, _)]) dX8_canMiss_137 4 rfl rfl rfl ?_
            refine x_goto (tgt := 18) dX8_canMiss_140 (by decide) ?_
            exact ih _ hJ2 hA2 hC2 hW2
          have cl : ∀ c : Nat, c ≤ mal κ t s → t < lst κ → 0 ≤ cmV κ w o t s → ∀ J3, E1 κ J3 → J3 0 41 = (mal κ t s : Int) → hMv κ t s (us κ) J3 → (∀ x : Nat, x < s + 1 → J3 24 (x : Int) = cmV κ w o t x) → (∀ x : Nat, s + 1 ≤ x → x < nst κ → J3 24 (x : Int) = cmI κ w o t x) → (∀ x : Nat, x < nst κ → J3 25 (x : Int) = swC (gF κ t s) c (swS (cmV κ w o t) (gF κ t) (fun s => mal κ t s) s (fun _ => -1)) x) → Rn G mtX8_canMiss Q 84 [(0, mr 0), (1, mi ↑w), (2, mi ↑o), (3, mi (t : Int)), (4, mi (s : Int)), (5, mi (c : Int))] [] shM J3 L rM := by
            refine lpn _ (fun c hc ihc => ?_) ?_
            · intro htl hpos J3 hJ3 hm hM hA3 hC3 hW3
              have hnx := nxt_lt hH hs2 (t := (t : Int)) c
              have hB2 := hB (t + 1) _ (by omega) hnx
              refine x_iload dX8_canMiss_84 5 rfl ?_
              refine x_aload_n dX8_canMiss_86 0 rfl rfl ?_
              refine x_getI dX8_canMiss_87 flX8_270 rfl rfl ?_
              refine x_ic_ge (tgt := 137) dX8_canMiss_90 (by decide) (by omega) (fun h90 => ?_) (fun h90 => ?_)
              · exfalso; omega
              · refine x_aload_n dX8_canMiss_93 0 rfl rfl ?_
                refine x_iload dX8_canMiss_94 5 rfl ?_
                refine x_callVv (as := [_]) dX8_canMiss_96 lvX8_300 rfl rfl rfl rfl rfl rfl rfl ⟨rfl, rfl⟩ (s_X8_take hJ3 hH hS hs2 hM hc) (fun I96 L96 R96 hq96 => ?_)
                obtain ⟨rfl, rfl, hE0, h42, h43, h21⟩ := hq96
                have hJ4 := hJ3.tr hE0.e1
                have hm2 : I96 0 41 = (mal κ t s : Int) := by rw [hE0 0 41 (by unfold scr0; omega)]; exact hm
                have hM2 : hMv κ t s (us κ) I96 := hMv_same (fun w => (mvl_len hH.2.1 t s w).2) hM (fun j _ => hE0 18 j (by unfold scr0; omega)) (fun j _ => ⟨hE0 19 j (by unfold scr0; omega), hE0 20 j (by unfold scr0; omega)⟩)
                refine x_aload_n dX8_canMiss_99 0 rfl rfl ?_
                refine x_iload_n dX8_canMiss_100 3 rfl rfl ?_
                refine x_callVi (as := [_]) dX8_canMiss_101 lvX8_303 rfl rfl rfl rfl rfl rfl rfl ⟨rfl, rfl⟩ (s_X8_canTake (s := s) (c := c) hJ4 hH hS (by omega) hs2 h42 h43) (fun z101 I101 L101 R101 hq101 => ?_)
                obtain ⟨rfl, rfl, rfl, rfl⟩ := hq101
                refine y_ifb_eq (tgt := 131) dX8_canMiss_104 (by decide) (fun h104 => ?_) (fun h104 => ?_)
                · refine x_iinc (lv' := [(0, _), (1, _), (2, _), (3, _), (4, _), (5, _)]) dX8_canMiss_131 5 rfl rfl rfl ?_
                  refine x_goto (tgt := 84) dX8_canMiss_134 (by decide) ?_
                  first
                  | (have hf : ¬ (vld κ t s c && alv κ (t + 1) (nxt κ t s c)) = true := by
                       rw [Bool.and_eq_true]
                       first | (rintro ⟨x1, x2⟩; contradiction)
                     refine ihc htl hpos _ hJ4 hm2 hM2 (fun x hx => by rw [hE0 24 _ (by unfold scr0; omega)]; exact hA3 x hx) (fun x hx hx2 => by rw [hE0 24 _ (by unfold scr0; omega)]; exact hC3 x hx hx2) (fun x hx => ?_)
                     rw [hE0 25 _ (by unfold scr0; omega), hW3 x hx]
                     show _ = (if (vld κ t s c && alv κ (t + 1) (nxt κ t s c)) = true then upn _ _ _ else _) x
                     rw [if_neg hf])
                  | (have hf : (vld κ t s c && alv κ (t + 1) (nxt κ t s c)) = true := by
                       rw [Bool.and_eq_true]
                       exact ⟨by assumption, by assumption⟩
                     refine ihc htl hpos _ (hJ4.up (by unfold sce per; omega)) (by rw [m_up_ne (by decide)]; exact hm2) (hMv_same (fun w => (mvl_len hH.2.1 t s w).2) hM2 (fun j _ => m_up_ne (by decide) j) (fun j _ => ⟨m_up_ne (by decide) j, m_up_ne (by decide) j⟩)) (fun x hx => by rw [m_up_ne (by decide), hE0 24 _ (by unfold scr0; omega)]; exact hA3 x hx) (fun x hx hx2 => by rw [m_up_ne (by decide), hE0 24 _ (by unfold scr0; omega)]; exact hC3 x hx hx2) (fun x hx => ?_)
                     show _ = (if (vld κ t s c && alv κ (t + 1) (nxt κ t s c)) = true then upn (swC (gF κ t s) c (swS (cmV κ w o t) (gF κ t) (fun s => mal κ t s) s (fun _ => -1))) (nxt κ t s c) 0 else _) x
                     rw [if_pos hf]
                     unfold upn
                     by_cases e : x = nxt κ t s c
                     · rw [if_pos e, e, m_up_eq]
                     · rw [if_neg e, m_up_nj (by omega), hE0 25 _ (by unfold scr0; omega)]
                       exact hW3 x hx)
                · refine x_aload_n dX8_canMiss_107 0 rfl rfl ?_
                  refine x_iload_n dX8_canMiss_108 3 rfl rfl ?_
                  refine x_iconst dX8_canMiss_109 ?_
                  refine x_iadd dX8_canMiss_110 ?_
                  refine x_aload_n dX8_canMiss_111 0 rfl rfl ?_
                  refine x_getI dX8_canMiss_112 flX8_276 rfl rfl ?_
                  rw [h43]
                  refine x_callVi (as := [_, _]) dX8_canMiss_115 lvX8_333 rfl rfl rfl rfl rfl rfl rfl ⟨rfl, rfl⟩ (s_X8_isAlive (t := t + 1) hH hS (by omega) hnx hB2.1 hB2.2) (fun z115 I115 L115 R115 hq115 => ?_)
                  obtain ⟨rfl, rfl, rfl, rfl⟩ := hq115
                  refine y_ifb_eq (tgt := 131) dX8_canMiss_118 (by decide) (fun h118 => ?_) (fun h118 => ?_)
                  · refine x_iinc (lv' := [(0, _), (1, _), (2, _), (3, _), (4, _), (5, _)]) dX8_canMiss_131 5 rfl rfl rfl ?_
                    refine x_goto (tgt := 84) dX8_canMiss_134 (by decide) ?_
                    first
                    | (have hf : ¬ (vld κ t s c && alv κ (t + 1) (nxt κ t s c)) = true := by
                         rw [Bool.and_eq_true]
                         first | (rintro ⟨x1, x2⟩; contradiction)
                       refine ihc htl hpos _ hJ4 hm2 hM2 (fun x hx => by rw [hE0 24 _ (by unfold scr0; omega)]; exact hA3 x hx) (fun x hx hx2 => by rw [hE0 24 _ (by unfold scr0; omega)]; exact hC3 x hx hx2) (fun x hx => ?_)
                       rw [hE0 25 _ (by unfold scr0; omega), hW3 x hx]
                       show _ = (if (vld κ t s c && alv κ (t + 1) (nxt κ t s c)) = true then upn _ _ _ else _) x
                       rw [if_neg hf])
                    | (have hf : (vld κ t s c && alv κ (t + 1) (nxt κ t s c)) = true := by
                         rw [Bool.and_eq_true]
                         exact ⟨by assumption, by assumption⟩
                       refine ihc htl hpos _ (hJ4.up (by unfold sce per; omega)) (by rw [m_up_ne (by decide)]; exact hm2) (hMv_same (fun w => (mvl_len hH.2.1 t s w).2) hM2 (fun j _ => m_up_ne (by decide) j) (fun j _ => ⟨m_up_ne (by decide) j, m_up_ne (by decide) j⟩)) (fun x hx => by rw [m_up_ne (by decide), hE0 24 _ (by unfold scr0; omega)]; exact hA3 x hx) (fun x hx hx2 => by rw [m_up_ne (by decide), hE0 24 _ (by unfold scr0; omega)]; exact hC3 x hx hx2) (fun x hx => ?_)
                       show _ = (if (vld κ t s c && alv κ (t + 1) (nxt κ t s c)) = true then upn (swC (gF κ t s) c (swS (cmV κ w o t) (gF κ t) (fun s => mal κ t s) s (fun _ => -1))) (nxt κ t s c) 0 else _) x
                       rw [if_pos hf]
                       unfold upn
                       by_cases e : x = nxt κ t s c
                       · rw [if_pos e, e, m_up_eq]
                       · rw [if_neg e, m_up_nj (by omega), hE0 25 _ (by unfold scr0; omega)]
                         exact hW3 x hx)
                  · refine x_aload_n dX8_canMiss_121 0 rfl rfl ?_
                    refine x_getR dX8_canMiss_122 flX8_85 rfl rfl rfl ?_
                    refine x_aload_n dX8_canMiss_125 0 rfl rfl ?_
                    refine x_getI dX8_canMiss_126 flX8_276 rfl rfl ?_
                    rw [h43]
                    refine x_iconst dX8_canMiss_129 ?_
                    refine x_iast dX8_canMiss_130 rfl (by omega) ?_
                    refine x_iinc (lv' := [(0, _), (1, _), (2, _), (3, _), (4, _), (5, _)]) dX8_canMiss_131 5 rfl rfl rfl ?_
                    refine x_goto (tgt := 84) dX8_canMiss_134 (by decide) ?_
                    first
                    | (have hf : ¬ (vld κ t s c && alv κ (t + 1) (nxt κ t s c)) = true := by
                         rw [Bool.and_eq_true]
                         first | (rintro ⟨x1, x2⟩; contradiction)
                       refine ihc htl hpos _ hJ4 hm2 hM2 (fun x hx => by rw [hE0 24 _ (by unfold scr0; omega)]; exact hA3 x hx) (fun x hx hx2 => by rw [hE0 24 _ (by unfold scr0; omega)]; exact hC3 x hx hx2) (fun x hx => ?_)
                       rw [hE0 25 _ (by unfold scr0; omega), hW3 x hx]
                       show _ = (if (vld κ t s c && alv κ (t + 1) (nxt κ t s c)) = true then upn _ _ _ else _) x
                       rw [if_neg hf])
                    | (have hf : (vld κ t s c && alv κ (t + 1) (nxt κ t s c)) = true := by
                         rw [Bool.and_eq_true]
                         exact ⟨by assumption, by assumption⟩
                       refine ihc htl hpos _ (hJ4.up (by unfold sce per; omega)) (by rw [m_up_ne (by decide)]; exact hm2) (hMv_same (fun w => (mvl_len hH.2.1 t s w).2) hM2 (fun j _ => m_up_ne (by decide) j) (fun j _ => ⟨m_up_ne (by decide) j, m_up_ne (by decide) j⟩)) (fun x hx => by rw [m_up_ne (by decide), hE0 24 _ (by unfold scr0; omega)]; exact hA3 x hx) (fun x hx hx2 => by rw [m_up_ne (by decide), hE0 24 _ (by unfold scr0; omega)]; exact hC3 x hx hx2) (fun x hx => ?_)
                       show _ = (if (vld κ t s c && alv κ (t + 1) (nxt κ t s c)) = true then upn (swC (gF κ t s) c (swS (cmV κ w o t) (gF κ t) (fun s => mal κ t s) s (fun _ => -1))) (nxt κ t s c) 0 else _) x
                       rw [if_pos hf]
                       unfold upn
                       by_cases e : x = nxt κ t s c
                       · rw [if_pos e, e, m_up_eq]
                       · rw [if_neg e, m_up_nj (by omega), hE0 25 _ (by unfold scr0; omega)]
                         exact hW3 x hx)
            · intro htl hpos J3 hJ3 hm hM hA3 hC3 hW3
              refine x_iload dX8_canMiss_84 5 rfl ?_
              refine x_aload_n dX8_canMiss_86 0 rfl rfl ?_
              refine x_getI dX8_canMiss_87 flX8_270 rfl rfl ?_
              refine x_ic_ge (tgt := 137) dX8_canMiss_90 (by decide) (by omega) (fun h90 => ?_) (fun h90 => ?_)
              · refine x_top (lv' := [(0, _), (1, _), (2, _), (3, _), (4, _)]) 5 rfl ?_
                exact nx _ _ rfl hJ3 hA3 hC3 (fun _ x hx => by rw [swS_t hpos]; exact hW3 x hx)
              · exfalso; omega
          have j55 : ∀ v : Int, v = cmV κ w o t s → Rn G mtX8_canMiss Q 55 [(0, mr 0), (1, mi ↑w), (2, mi ↑o), (3, mi (t : Int)), (4, mi (s : Int))] [mi v, mi (s : Int), mr 24] shM J L rM := by
            intro v hv
            have hA5 : ∀ x : Nat, x < s + 1 → m_up J 24 (s : Int) v 24 (x : Int) = cmV κ w o t x := fun x hx => by
              by_cases e : x = s
              · subst e; rw [m_up_eq]; exact hv
              · rw [m_up_nj (by omega)]; exact hA x (by omega)
            have hC5 : ∀ x : Nat, s + 1 ≤ x → x < nst κ → m_up J 24 (s : Int) v 24 (x : Int) = cmI κ w o t x := fun x hx hx2 => by
              rw [m_up_nj (by omega)]; exact hC x (by omega) hx2
            have hJ5 : E1 κ (m_up J 24 (s : Int) v) := hJ.up (by unfold sce per; omega)
            have hW5 : ∀ x : Nat, x < nst κ → m_up J 24 (s : Int) v 25 (x : Int) = J 25 (x : Int) := fun x hx => m_up_ne (by decide) _
            have j5e : m_up J 24 (s : Int) v 24 (s : Int) = v := m_up_eq
            have j145 : m_up J 24 (s : Int) v 0 14 = κ 0 14 := by rw [m_up_ne (by decide)]; exact j14
            refine x_iast dX8_canMiss_55 rfl (by omega) ?_
            refine x_aload_n dX8_canMiss_56 0 rfl rfl ?_
            refine x_getR dX8_canMiss_57 flX8_82 rfl rfl rfl ?_
            refine x_iload dX8_canMiss_60 4 rfl ?_
            refine y_iald dX8_canMiss_62 rfl (by omega) (rfl) ?_
            rw [j5e]
            refine x_if_lt (tgt := 137) dX8_canMiss_63 (by decide) (by omega) (fun h63 => ?_) (fun h63 => ?_)
            · first
              | exact nx _ _ rfl hJ5 hA5 hC5 (fun htl x hx => by rw [swS_f (by omega), hW5 x hx]; exact hW htl x hx)
              | exact nx _ _ rfl hJ5 hA5 hC5 (fun htl => by omega)
            · refine x_iload_n dX8_canMiss_66 3 rfl rfl ?_
              refine x_aload_n dX8_canMiss_67 0 rfl rfl ?_
              refine y_getI dX8_canMiss_68 flX8_99 rfl rfl (m_up_ne (by decide) _) ?_
              refine x_ic_ge (tgt := 137) dX8_canMiss_71 (by decide) (by omega) (fun h71 => ?_) (fun h71 => ?_)
              · first
                | exact nx _ _ rfl hJ5 hA5 hC5 (fun htl x hx => by rw [swS_f (by omega), hW5 x hx]; exact hW htl x hx)
                | exact nx _ _ rfl hJ5 hA5 hC5 (fun htl => by omega)
              · refine x_aload_n dX8_canMiss_74 0 rfl rfl ?_
                refine x_iload_n dX8_canMiss_75 3 rfl rfl ?_
                refine x_iload dX8_canMiss_76 4 rfl ?_
                refine x_callVv (as := [_, _]) dX8_canMiss_78 lvX8_297 rfl rfl rfl rfl rfl rfl rfl ⟨rfl, rfl⟩ (s_X8_layMoves hJ5 hH hS (by omega) hs2) (fun I78 L78 R78 hq78 => ?_)
                obtain ⟨rfl, rfl, hX3, hE, h41, hv41⟩ := hq78
                refine x_iconst dX8_canMiss_81 ?_
                refine x_istore (lv' := [(0, _), (1, _), (2, _), (3, _), (4, _), (5, _)]) dX8_canMiss_82 rfl rfl ?_
                exact cl 0 (by omega) (by omega) (by omega) _ hE h41 hv41 (fun x hx => by rw [hX3 24 _ (by unfold scr3; omega)]; exact hA5 x hx) (fun x hx hx2 => by rw [hX3 24 _ (by unfold scr3; omega)]; exact hC5 x hx hx2) (fun x hx => by rw [hX3 25 _ (by unfold scr3; omega), hW5 x hx]; exact hW (by omega) x hx)
          refine x_iload dX8_canMiss_18 4 rfl ?_
          refine x_aload_n dX8_canMiss_20 0 rfl rfl ?_
          refine x_callVi (as := []) dX8_canMiss_21 lvX8_286 rfl rfl rfl rfl rfl rfl rfl ⟨rfl, rfl⟩ (s_X8_states hJ hH hS) (fun z21 I21 L21 R21 hq21 => ?_)
          obtain ⟨rfl, rfl, rfl, rfl⟩ := hq21
          refine x_ic_ge (tgt := 143) dX8_canMiss_24 (by decide) (by omega) (fun h24 => ?_) (fun h24 => ?_)
          · exfalso; omega
          · refine x_aload_n dX8_canMiss_27 0 rfl rfl ?_
            refine x_getR dX8_canMiss_28 flX8_82 rfl rfl rfl ?_
            refine x_iload dX8_canMiss_31 4 rfl ?_
            refine x_aload_n dX8_canMiss_33 0 rfl rfl ?_
            refine x_iload dX8_canMiss_34 4 rfl ?_
            refine x_iload_n dX8_canMiss_36 1 rfl rfl ?_
            refine x_iload_n dX8_canMiss_37 2 rfl rfl ?_
            refine x_callVi (as := [_, _, _]) dX8_canMiss_38 lvX8_352 rfl rfl rfl rfl rfl rfl rfl ⟨rfl, rfl⟩ (s_X8_areIn hs2 hw ho) (fun z38 I38 L38 R38 hq38 => ?_)
            obtain ⟨rfl, rfl, rfl, rfl⟩ := hq38
            refine y_ifb_eq (tgt := 48) dX8_canMiss_41 (by decide) (fun h41 => ?_) (fun h41 => ?_)
            · refine x_aload_n dX8_canMiss_48 0 rfl rfl ?_
              refine x_getR dX8_canMiss_49 flX8_82 rfl rfl rfl ?_
              refine x_iload dX8_canMiss_52 4 rfl ?_
              refine x_iald dX8_canMiss_54 rfl (by omega) ?_
              refine j55 _ ?_
              first | (rw [hx0, if_pos (by assumption)]) | (rw [hx0, if_neg (by assumption)]; exact hcs)
            · refine x_iconst dX8_canMiss_44 ?_
              refine x_goto (tgt := 55) dX8_canMiss_45 (by decide) ?_
              refine j55 _ ?_
              first | (rw [hx0, if_pos (by assumption)]) | (rw [hx0, if_neg (by assumption)]; exact hcs)
        · intro J hJ hA hC hW
          have j14 : J 0 14 = κ 0 14 := hJ.at (by unfold sce per; omega)
          refine x_iload dX8_canMiss_18 4 rfl ?_
          refine x_aload_n dX8_canMiss_20 0 rfl rfl ?_
          refine x_callVi (as := []) dX8_canMiss_21 lvX8_286 rfl rfl rfl rfl rfl rfl rfl ⟨rfl, rfl⟩ (s_X8_states hJ hH hS) (fun z21 I21 L21 R21 hq21 => ?_)
          obtain ⟨rfl, rfl, rfl, rfl⟩ := hq21
          refine x_ic_ge (tgt := 143) dX8_canMiss_24 (by decide) (by omega) (fun h24 => ?_) (fun h24 => ?_)
          · refine x_iload_n dX8_canMiss_143 3 rfl rfl ?_
            refine x_aload_n dX8_canMiss_144 0 rfl rfl ?_
            refine x_getI dX8_canMiss_145 flX8_99 rfl rfl ?_
            refine x_ic_ge (tgt := 155) dX8_canMiss_148 (by decide) (by omega) (fun h148 => ?_) (fun h148 => ?_)
            · refine x_iinc (lv' := [(0, _), (1, _), (2, _), (3, _), (4, _)]) dX8_canMiss_155 3 rfl rfl rfl ?_
              refine x_goto (tgt := 7) dX8_canMiss_158 (by decide) ?_
              refine x_top (lv' := [(0, _), (1, _), (2, _), (3, _)]) 4 rfl ?_
              first
              | exact iht _ hJ8 (fun _ x hx => ⟨by rw [(ht2 x hx).1]; exact hW (by omega) x hx, (ht2 x hx).2⟩) (fun h => by omega)
              | exact iht _ hJ (fun h => by omega) (fun h x hx => by rw [show lst κ = t by omega]; exact hA x hx)
            · refine x_aload_n dX8_canMiss_151 0 rfl rfl ?_
              refine x_callVv (as := []) dX8_canMiss_152 lvX8_355 rfl rfl rfl rfl rfl rfl rfl ⟨rfl, rfl⟩ (s_X8_turnValues hJ hH hS) (fun I152 L152 R152 hq152 => ?_)
              obtain ⟨rfl, rfl, ht1, ht2⟩ := hq152
              have hJ8 : E1 κ I152 := fun c j q => by rw [ht1 c j (by unfold sce per at q; omega) (by unfold sce per at q; omega)]; exact hJ c j q
              refine x_iinc (lv' := [(0, _), (1, _), (2, _), (3, _), (4, _)]) dX8_canMiss_155 3 rfl rfl rfl ?_
              refine x_goto (tgt := 7) dX8_canMiss_158 (by decide) ?_
              refine x_top (lv' := [(0, _), (1, _), (2, _), (3, _)]) 4 rfl ?_
              first
              | exact iht _ hJ8 (fun _ x hx => ⟨by rw [(ht2 x hx).1]; exact hW (by omega) x hx, (ht2 x hx).2⟩) (fun h => by omega)
              | exact iht _ hJ (fun h => by omega) (fun h x hx => by rw [show lst κ = t by omega]; exact hA x hx)
          · exfalso; omega
      refine x_iload_n dX8_canMiss_7 3 rfl rfl ?_
      refine x_aload_n dX8_canMiss_8 0 rfl rfl ?_
      refine x_getI dX8_canMiss_9 flX8_99 rfl rfl ?_
      refine x_ic_gt (tgt := 161) dX8_canMiss_12 (by decide) (by omega) (fun h12 => ?_) (fun h12 => ?_)
      · exfalso; omega
      · refine x_iconst dX8_canMiss_15 ?_
        refine x_istore (lv' := [(0, _), (1, _), (2, _), (3, _), (4, _)]) dX8_canMiss_16 rfl rfl ?_
        exact sl 0 (by omega) J hJ (fun x hx => by omega) (fun x _ hx => (hV2 x hx).1) (fun _ x hx => (hV2 x hx).2)
    · intro J hJ hV hV9
      have j14 : J 0 14 = κ 0 14 := hJ.at (by unfold sce per; omega)
      refine x_iload_n dX8_canMiss_7 3 rfl rfl ?_
      refine x_aload_n dX8_canMiss_8 0 rfl rfl ?_
      refine x_getI dX8_canMiss_9 flX8_99 rfl rfl ?_
      refine x_ic_gt (tgt := 161) dX8_canMiss_12 (by decide) (by omega) (fun h12 => ?_) (fun h12 => ?_)
      · refine x_aload_n dX8_canMiss_161 0 rfl rfl ?_
        refine x_callVi (as := []) dX8_canMiss_162 lvX8_358 rfl rfl rfl rfl rfl rfl rfl ⟨rfl, rfl⟩ (s_X8_anyValue (V := cmV κ w o (lst κ)) hJ hH hS (fun x hx => hV9 rfl x hx) (vrI (cmV_r _))) (fun z162 I162 L162 R162 hq162 => ?_)
        obtain ⟨rfl, rfl, rfl, rfl⟩ := hq162
        refine x_zret dX8_canMiss_165 rfl (b01_z _) ?_
        rw [← hQ]
        exact ⟨_, rfl, rfl, hJ, rfl, rfl⟩
      · exfalso; omega
  exact tl 0 (by omega) _ hEb (fun _ x hx => hq2 x hx) (fun h => by omega)
end

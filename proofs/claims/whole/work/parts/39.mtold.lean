/-! THE REFERENCE: digest. -/
theorem lh_mix {L K L' : MI} {v : Int} (hK : LH L K) (h : L' = m_up K 0 58 v) : LH L L' ∧ L' 0 58 = v := ⟨fun a j q => by rw [h]; unfold m_up; rw [if_neg q]; exact hK a j q, by rw [h]; exact m_up_eq⟩
theorem hxN_s (g : Nat → Int → Int) (n : Nat) (h : Int) : hxN g (n + 1) h = g n (hxN g n h) := rfl
theorem hxL_s (f : Nat → Int) (n : Nat) (h : Int) : hxL f (n + 1) h = 31 * hxL f n h + f n := rfl
section
variable {G : GT} {sh : MS} {I L : MI} {R : MR} {κ : MI} {t : Int} {B : Nat → Int}

set_option maxHeartbeats 1500000 in
theorem s_X8_mixHouse  (hH : iHs I) (hE : iEvs I) (hT : iTexts I) (hI : iRows I) : Sp G mtX8_mixHouse [mr 0] shM I L rM (qv (fun I' L' R' => I = I' ∧ LH L L' ∧ L' 0 58 = dgE I (I 0 25).toNat (dgW I (I 0 13).toNat (dgD I (I 0 12).toNat (L 0 58))) ∧ R' = rM)) := by
  refine Sp.of pnX8_mixHouse rfl ?_
  show Rn G mtX8_mixHouse _ 0 [(0, mr 0)] [] shM I L rM
  generalize hQ : (qv (fun I' L' R' => I = I' ∧ LH L L' ∧ L' 0 58 = dgE I (I 0 25).toNat (dgW I (I 0 13).toNat (dgD I (I 0 12).toNat (L 0 58))) ∧ R' = rM)) = Q
  have hEn := hE.1
  have hR := hH.1
  have hD := hH.2.1
  have hW := hH.2.2.1
  have hTt := hH.2.2.2.1
  have hev : ∀ e : Int, 0 ≤ e → e < I 0 25 → iEv I e := fun e h1 h2 => by have := hE.2 e.toNat (by omega); rw [show ((e.toNat : Nat) : Int) = e by omega] at this; exact this
  have l3 : ∀ e : Nat, e ≤ (I 0 25).toNat → ∀ K : MI, LH L K → K 0 58 = dgE I e (dgW I (I 0 13).toNat (dgD I (I 0 12).toNat (L 0 58))) → ∀ lv8, (lv8 = [(0, mr 0), (1, mi (e : Int))]) → Rn G mtX8_mixHouse Q 90 lv8 [] shM I K rM := by
    refine lpn _ (fun e he ih => ?_) ?_
    · intro K hK hv lv8 hlv
      subst hlv
      obtain ⟨v1, v2, v3, v4, v5, v6⟩ := hev (e : Int) (by omega) (by omega)
      have il : ∀ k : Nat, k ≤ 4 → ∀ K : MI, LH L K → K 0 58 = hxL (fun k => I 11 (4 * (e : Int) + (k : Int))) k (dgE I e (dgW I (I 0 13).toNat (dgD I (I 0 12).toNat (L 0 58)))) → Rn G mtX8_mixHouse Q 100 [(0, mr 0), (1, mi (e : Int)), (2, mi (k : Int))] [] shM I K rM := by
        refine lpn 4 (fun k hk ihk => ?_) ?_
        · intro K hK hv
          have hri : rI (I 11 (4 * (e : Int) + (k : Int))) := by
            have : k = 0 ∨ k = 1 ∨ k = 2 ∨ k = 3 := by omega
            rcases this with rfl | rfl | rfl | rfl
            · show rI (I 11 (4 * (e : Int) + 0)); omega
            · show rI (I 11 (4 * (e : Int) + 1)); omega
            · show rI (I 11 (4 * (e : Int) + 2)); omega
            · show rI (I 11 (4 * (e : Int) + 3)); omega
          refine x_iload_n dX8_mixHouse_100 2 rfl rfl ?_
          refine x_iconst dX8_mixHouse_101 ?_
          refine x_ic_ge (tgt := 122) dX8_mixHouse_102 (by decide) (by omega) (fun h102 => ?_) (fun h102 => ?_)
          · exfalso; omega
          · refine x_aload_n dX8_mixHouse_105 0 rfl rfl ?_
            refine x_aload_n dX8_mixHouse_106 0 rfl rfl ?_
            refine x_iload_n dX8_mixHouse_107 1 rfl rfl ?_
            refine x_iload_n dX8_mixHouse_108 2 rfl rfl ?_
            refine x_callVi (as := [_, _]) dX8_mixHouse_109 lvX8_234 rfl rfl rfl rfl rfl rfl rfl ⟨rfl, rfl⟩ (s_X8_eventAt (by omega)) (fun z109 I109 L109 R109 hq109 => ?_)
            obtain ⟨rfl, rfl, rfl, rfl⟩ := hq109
            refine x_i2l dX8_mixHouse_112 (by omega) ?_
            refine x_callVv (as := [_]) dX8_mixHouse_113 lvX8_431 rfl rfl rfl rfl rfl rfl rfl ⟨rfl, rfl⟩ (s_X8_mix) (fun I113 L113 R113 hq113 => ?_)
            obtain ⟨rfl, hL113, rfl⟩ := hq113
            obtain ⟨k113, v113⟩ := lh_mix hK hL113
            rw [hv] at v113
            refine x_iinc (lv' := [(0, _), (1, _), (2, _)]) dX8_mixHouse_116 2 rfl rfl rfl ?_
            refine x_goto (tgt := 100) dX8_mixHouse_119 (by decide) ?_
            exact ihk _ k113 v113
        · intro K hK hv
          refine x_iload_n dX8_mixHouse_100 2 rfl rfl ?_
          refine x_iconst dX8_mixHouse_101 ?_
          refine x_ic_ge (tgt := 122) dX8_mixHouse_102 (by decide) (by omega) (fun h102 => ?_) (fun h102 => ?_)
          · refine x_iinc (lv' := [(0, _), (1, _), (2, _)]) dX8_mixHouse_122 1 rfl rfl rfl ?_
            refine x_goto (tgt := 90) dX8_mixHouse_125 (by decide) ?_
            refine x_top (lv' := [(0, _), (1, _)]) 2 rfl ?_
            exact ih K hK hv _ rfl
          · exfalso; omega
      refine x_iload_n dX8_mixHouse_90 1 rfl rfl ?_
      refine x_aload_n dX8_mixHouse_91 0 rfl rfl ?_
      refine x_getI dX8_mixHouse_92 flX8_217 rfl rfl ?_
      refine x_ic_ge (tgt := 128) dX8_mixHouse_95 (by decide) (by omega) (fun h95 => ?_) (fun h95 => ?_)
      · exfalso; omega
      · refine x_iconst dX8_mixHouse_98 ?_
        refine x_istore_n (lv' := [(0, _), (1, _), (2, _)]) dX8_mixHouse_99 rfl rfl rfl ?_
        exact il 0 (by omega) K hK hv
    · intro K hK hv lv8 hlv
      subst hlv
      refine x_iload_n dX8_mixHouse_90 1 rfl rfl ?_
      refine x_aload_n dX8_mixHouse_91 0 rfl rfl ?_
      refine x_getI dX8_mixHouse_92 flX8_217 rfl rfl ?_
      refine x_ic_ge (tgt := 128) dX8_mixHouse_95 (by decide) (by omega) (fun h95 => ?_) (fun h95 => ?_)
      · refine x_vret dX8_mixHouse_128 rfl ?_
        rw [← hQ]
        exact ⟨rfl, rfl, hK, hv, rfl⟩
      · exfalso; omega
  have l2 : ∀ w : Nat, w ≤ (I 0 13).toNat → ∀ K : MI, LH L K → K 0 58 = dgW I w (dgD I (I 0 12).toNat (L 0 58)) → ∀ lv8, (lv8 = [(0, mr 0), (1, mi (w : Int))]) → Rn G mtX8_mixHouse Q 46 lv8 [] shM I K rM := by
    refine lpn _ (fun w hw ih => ?_) ?_
    · intro K hK hv lv8 hlv
      subst hlv
      have hwk := hH.2.2.2.2.2 (w : Int) (by omega) (by omega)
      refine x_iload_n dX8_mixHouse_46 1 rfl rfl ?_
      refine x_aload_n dX8_mixHouse_47 0 rfl rfl ?_
      refine x_getI dX8_mixHouse_48 flX8_186 rfl rfl ?_
      refine x_ic_ge (tgt := 88) dX8_mixHouse_51 (by decide) (by omega) (fun h51 => ?_) (fun h51 => ?_)
      · exfalso; omega
      · refine x_aload_n dX8_mixHouse_54 0 rfl rfl ?_
        refine x_aload_n dX8_mixHouse_55 0 rfl rfl ?_
        refine x_getR dX8_mixHouse_56 flX8_32 rfl rfl rfl ?_
        refine x_iconst dX8_mixHouse_59 ?_
        refine x_iload_n dX8_mixHouse_60 1 rfl rfl ?_
        refine x_imul dX8_mixHouse_61 ?_
        refine x_iald dX8_mixHouse_62 rfl (by omega) ?_
        refine x_i2l dX8_mixHouse_63 (by omega) ?_
        refine x_callVv (as := [_]) dX8_mixHouse_64 lvX8_431 rfl rfl rfl rfl rfl rfl rfl ⟨rfl, rfl⟩ (s_X8_mix) (fun I64 L64 R64 hq64 => ?_)
        obtain ⟨rfl, hL64, rfl⟩ := hq64
        obtain ⟨k64, v64⟩ := lh_mix hK hL64
        rw [hv] at v64
        refine x_aload_n dX8_mixHouse_67 0 rfl rfl ?_
        refine x_aload_n dX8_mixHouse_68 0 rfl rfl ?_
        refine x_getR dX8_mixHouse_69 flX8_32 rfl rfl rfl ?_
        refine x_iconst dX8_mixHouse_72 ?_
        refine x_iload_n dX8_mixHouse_73 1 rfl rfl ?_
        refine x_imul dX8_mixHouse_74 ?_
        refine x_iconst dX8_mixHouse_75 ?_
        refine x_iadd dX8_mixHouse_76 ?_
        refine x_iald dX8_mixHouse_77 rfl (by omega) ?_
        refine x_i2l dX8_mixHouse_78 (by omega) ?_
        refine x_callVv (as := [_]) dX8_mixHouse_79 lvX8_431 rfl rfl rfl rfl rfl rfl rfl ⟨rfl, rfl⟩ (s_X8_mix) (fun I79 L79 R79 hq79 => ?_)
        obtain ⟨rfl, hL79, rfl⟩ := hq79
        obtain ⟨k79, v79⟩ := lh_mix k64 hL79
        rw [v64] at v79
        refine x_iinc (lv' := [(0, _), (1, _)]) dX8_mixHouse_82 1 rfl rfl rfl ?_
        refine x_goto (tgt := 46) dX8_mixHouse_85 (by decide) ?_
        exact ih _ k79 v79 _ rfl
    · intro K hK hv lv8 hlv
      subst hlv
      refine x_iload_n dX8_mixHouse_46 1 rfl rfl ?_
      refine x_aload_n dX8_mixHouse_47 0 rfl rfl ?_
      refine x_getI dX8_mixHouse_48 flX8_186 rfl rfl ?_
      refine x_ic_ge (tgt := 88) dX8_mixHouse_51 (by decide) (by omega) (fun h51 => ?_) (fun h51 => ?_)
      · refine x_iconst dX8_mixHouse_88 ?_
        refine x_istore_n (lv' := [(0, _), (1, _)]) dX8_mixHouse_89 rfl rfl rfl ?_
        exact l3 0 (by omega) K hK hv _ rfl
      · exfalso; omega
  have l1 : ∀ d : Nat, d ≤ (I 0 12).toNat → ∀ K : MI, LH L K → K 0 58 = dgD I d (L 0 58) → ∀ lv8, (lv8 = [(0, mr 0), (1, mi (d : Int))]) → Rn G mtX8_mixHouse Q 2 lv8 [] shM I K rM := by
    refine lpn _ (fun d hd ih => ?_) ?_
    · intro K hK hv lv8 hlv
      subst hlv
      have hdo := hH.2.2.2.2.1 (d : Int) (by omega) (by omega)
      have il : ∀ k : Nat, k ≤ 3 → ∀ K : MI, LH L K → K 0 58 = hxL (fun k => I 7 (3 * (d : Int) + (k : Int))) k (dgD I d (L 0 58)) → Rn G mtX8_mixHouse Q 12 [(0, mr 0), (1, mi (d : Int)), (2, mi (k : Int))] [] shM I K rM := by
        refine lpn 3 (fun k hk ihk => ?_) ?_
        · intro K hK hv
          have hri : rI (I 7 (3 * (d : Int) + (k : Int))) := by
            have : k = 0 ∨ k = 1 ∨ k = 2 := by omega
            rcases this with rfl | rfl | rfl
            · show rI (I 7 (3 * (d : Int) + 0)); rw [Int.add_zero]; omega
            · show rI (I 7 (3 * (d : Int) + 1)); omega
            · show rI (I 7 (3 * (d : Int) + 2)); omega
          refine x_iload_n dX8_mixHouse_12 2 rfl rfl ?_
          refine x_iconst dX8_mixHouse_13 ?_
          refine x_ic_ge (tgt := 38) dX8_mixHouse_14 (by decide) (by omega) (fun h14 => ?_) (fun h14 => ?_)
          · exfalso; omega
          · refine x_aload_n dX8_mixHouse_17 0 rfl rfl ?_
            refine x_aload_n dX8_mixHouse_18 0 rfl rfl ?_
            refine x_getR dX8_mixHouse_19 flX8_29 rfl rfl rfl ?_
            refine x_iconst dX8_mixHouse_22 ?_
            refine x_iload_n dX8_mixHouse_23 1 rfl rfl ?_
            refine x_imul dX8_mixHouse_24 ?_
            refine x_iload_n dX8_mixHouse_25 2 rfl rfl ?_
            refine x_iadd dX8_mixHouse_26 ?_
            refine x_iald dX8_mixHouse_27 rfl (by omega) ?_
            refine x_i2l dX8_mixHouse_28 (by omega) ?_
            refine x_callVv (as := [_]) dX8_mixHouse_29 lvX8_431 rfl rfl rfl rfl rfl rfl rfl ⟨rfl, rfl⟩ (s_X8_mix) (fun I29 L29 R29 hq29 => ?_)
            obtain ⟨rfl, hL29, rfl⟩ := hq29
            obtain ⟨k29, v29⟩ := lh_mix hK hL29
            rw [hv] at v29
            refine x_iinc (lv' := [(0, _), (1, _), (2, _)]) dX8_mixHouse_32 2 rfl rfl rfl ?_
            refine x_goto (tgt := 12) dX8_mixHouse_35 (by decide) ?_
            exact ihk _ k29 v29
        · intro K hK hv
          refine x_iload_n dX8_mixHouse_12 2 rfl rfl ?_
          refine x_iconst dX8_mixHouse_13 ?_
          refine x_ic_ge (tgt := 38) dX8_mixHouse_14 (by decide) (by omega) (fun h14 => ?_) (fun h14 => ?_)
          · refine x_iinc (lv' := [(0, _), (1, _), (2, _)]) dX8_mixHouse_38 1 rfl rfl rfl ?_
            refine x_goto (tgt := 2) dX8_mixHouse_41 (by decide) ?_
            refine x_top (lv' := [(0, _), (1, _)]) 2 rfl ?_
            exact ih K hK hv _ rfl
          · exfalso; omega
      refine x_iload_n dX8_mixHouse_2 1 rfl rfl ?_
      refine x_aload_n dX8_mixHouse_3 0 rfl rfl ?_
      refine x_getI dX8_mixHouse_4 flX8_183 rfl rfl ?_
      refine x_ic_ge (tgt := 44) dX8_mixHouse_7 (by decide) (by omega) (fun h7 => ?_) (fun h7 => ?_)
      · exfalso; omega
      · refine x_iconst dX8_mixHouse_10 ?_
        refine x_istore_n (lv' := [(0, _), (1, _), (2, _)]) dX8_mixHouse_11 rfl rfl rfl ?_
        exact il 0 (by omega) K hK hv
    · intro K hK hv lv8 hlv
      subst hlv
      refine x_iload_n dX8_mixHouse_2 1 rfl rfl ?_
      refine x_aload_n dX8_mixHouse_3 0 rfl rfl ?_
      refine x_getI dX8_mixHouse_4 flX8_183 rfl rfl ?_
      refine x_ic_ge (tgt := 44) dX8_mixHouse_7 (by decide) (by omega) (fun h7 => ?_) (fun h7 => ?_)
      · refine x_iconst dX8_mixHouse_44 ?_
        refine x_istore_n (lv' := [(0, _), (1, _)]) dX8_mixHouse_45 rfl rfl rfl ?_
        exact l2 0 (by omega) K hK hv _ rfl
      · exfalso; omega
  refine x_iconst dX8_mixHouse_0 ?_
  refine x_istore_n (lv' := [(0, _), (1, _)]) dX8_mixHouse_1 rfl rfl rfl ?_
  exact l1 0 (by omega) L (LH.rf _) rfl _ rfl
set_option maxHeartbeats 1500000 in
theorem s_X8_digest  (hH : iHs I) (hE : iEvs I) (hT : iTexts I) (hI : iRows I) : Sp G mtX8_digest [mr 0] shM I L rM (ql (fun z I' L' R' => z = s_digest I ∧ I = I' ∧ LH L L' ∧ R' = rM)) := by
  refine Sp.of pnX8_digest rfl ?_
  show Rn G mtX8_digest _ 0 [(0, mr 0)] [] shM I L rM
  generalize hQ : (ql (fun z I' L' R' => z = s_digest I ∧ I = I' ∧ LH L L' ∧ R' = rM)) = Q
  have hEn := hE.1
  have hR := hH.1
  have hD := hH.2.1
  have hW := hH.2.2.1
  have hTt := hH.2.2.2.1
  have hev : ∀ e : Int, 0 ≤ e → e < I 0 25 → iEv I e := fun e h1 h2 => by have := hE.2 e.toNat (by omega); rw [show ((e.toNat : Nat) : Int) = e by omega] at this; exact this
  have hcr : ∀ w : Int, rI (cnI I w) := fun w => by
    have a1 := ctF_r (fun e => decide (I 11 (4 * (e : Int) + 0) = 2 ∨ I 11 (4 * (e : Int) + 0) = 3)) (I 0 25).toNat
    have a2 := ctF_r (fun r => decide (0 ≤ I 2 (r : Int))) 6
    have a3 := ctF_r (fun t => decide (0 ≤ I 5 (t : Int))) 4
    unfold cnI ctE ctR ctT
    repeat' split
    all_goals omega
  have l4 : ∀ r : Nat, r ≤ 4 → ∀ K : MI, LH L K → K 0 58 = dgT I r (dgR I 6 (dgE I (I 0 25).toNat (dgW I (I 0 13).toNat (dgD I (I 0 12).toNat (hxL (fun k => cnI I (k : Int)) 8 17))))) → ∀ lv8, (lv8 = [(0, mr 0), (1, mi (r : Int))]) → Rn G mtX8_digest Q 91 lv8 [] shM I K rM := by
    refine lpn 4 (fun r hr ih => ?_) ?_
    · intro K hK hv lv8 hlv
      subst hlv
      have hs := hT.1 (r : Int) (by omega) (by omega)
      have il : ∀ i : Nat, i ≤ (I 5 (r : Int)).toNat → ∀ K : MI, LH L K → K 0 58 = hxL (fun i => a_by I (r : Int) (i : Int)) i (31 * dgT I r (dgR I 6 (dgE I (I 0 25).toNat (dgW I (I 0 13).toNat (dgD I (I 0 12).toNat (hxL (fun k => cnI I (k : Int)) 8 17))))) + I 5 (r : Int)) → Rn G mtX8_digest Q 109 [(0, mr 0), (1, mi (r : Int)), (2, mi (i : Int))] [] shM I K rM := by
        refine lpn _ (fun i hi ihi => ?_) ?_
        · intro K hK hv
          have hri := (BY_RT hT (t := (r : Int)) (by omega)).r i
          have hri2 : -128 ≤ a_by I (r : Int) (i : Int) ∧ a_by I (r : Int) (i : Int) ≤ 127 := hri
          refine x_iload_n dX8_digest_109 2 rfl rfl ?_
          refine x_aload_n dX8_digest_110 0 rfl rfl ?_
          refine x_getR dX8_digest_111 flX8_22 rfl rfl rfl ?_
          refine x_iload_n dX8_digest_114 1 rfl rfl ?_
          refine x_iald dX8_digest_115 rfl (by omega) ?_
          refine x_ic_ge (tgt := 136) dX8_digest_116 (by decide) (by omega) (fun h116 => ?_) (fun h116 => ?_)
          · exfalso; omega
          · refine x_aload_n dX8_digest_119 0 rfl rfl ?_
            refine x_aload_n dX8_digest_120 0 rfl rfl ?_
            refine x_iload_n dX8_digest_121 1 rfl rfl ?_
            refine x_iload_n dX8_digest_122 2 rfl rfl ?_
            refine x_callVi (as := [_, _]) dX8_digest_123 lvX8_139 rfl rfl rfl rfl rfl rfl rfl ⟨rfl, rfl⟩ (s_X8_byteAt hT (by omega) (by omega)) (fun z123 I123 L123 R123 hq123 => ?_)
            obtain ⟨rfl, rfl, rfl, rfl⟩ := hq123
            refine x_i2l dX8_digest_126 (by omega) ?_
            refine x_callVv (as := [_]) dX8_digest_127 lvX8_431 rfl rfl rfl rfl rfl rfl rfl ⟨rfl, rfl⟩ (s_X8_mix) (fun I127 L127 R127 hq127 => ?_)
            obtain ⟨rfl, hL127, rfl⟩ := hq127
            obtain ⟨k127, v127⟩ := lh_mix hK hL127
            rw [hv] at v127
            refine x_iinc (lv' := [(0, _), (1, _), (2, _)]) dX8_digest_130 2 rfl rfl rfl ?_
            refine x_goto (tgt := 109) dX8_digest_133 (by decide) ?_
            exact ihi _ k127 v127
        · intro K hK hv
          refine x_iload_n dX8_digest_109 2 rfl rfl ?_
          refine x_aload_n dX8_digest_110 0 rfl rfl ?_
          refine x_getR dX8_digest_111 flX8_22 rfl rfl rfl ?_
          refine x_iload_n dX8_digest_114 1 rfl rfl ?_
          refine x_iald dX8_digest_115 rfl (by omega) ?_
          refine x_ic_ge (tgt := 136) dX8_digest_116 (by decide) (by omega) (fun h116 => ?_) (fun h116 => ?_)
          · refine x_iinc (lv' := [(0, _), (1, _), (2, _)]) dX8_digest_136 1 rfl rfl rfl ?_
            refine x_goto (tgt := 91) dX8_digest_139 (by decide) ?_
            refine x_top (lv' := [(0, _), (1, _)]) 2 rfl ?_
            exact ih K hK hv _ rfl
          · exfalso; omega
      refine x_iload_n dX8_digest_91 1 rfl rfl ?_
      refine x_iconst dX8_digest_92 ?_
      refine x_ic_ge (tgt := 142) dX8_digest_93 (by decide) (by omega) (fun h93 => ?_) (fun h93 => ?_)
      · exfalso; omega
      · refine x_aload_n dX8_digest_96 0 rfl rfl ?_
        refine x_aload_n dX8_digest_97 0 rfl rfl ?_
        refine x_getR dX8_digest_98 flX8_22 rfl rfl rfl ?_
        refine x_iload_n dX8_digest_101 1 rfl rfl ?_
        refine x_iald dX8_digest_102 rfl (by omega) ?_
        refine x_i2l dX8_digest_103 (by omega) ?_
        refine x_callVv (as := [_]) dX8_digest_104 lvX8_431 rfl rfl rfl rfl rfl rfl rfl ⟨rfl, rfl⟩ (s_X8_mix) (fun I104 L104 R104 hq104 => ?_)
        obtain ⟨rfl, hL104, rfl⟩ := hq104
        obtain ⟨k104, v104⟩ := lh_mix hK hL104
        rw [hv] at v104
        refine x_iconst dX8_digest_107 ?_
        refine x_istore_n (lv' := [(0, _), (1, _), (2, _)]) dX8_digest_108 rfl rfl rfl ?_
        exact il 0 (by omega) _ k104 v104
    · intro K hK hv lv8 hlv
      subst hlv
      refine x_iload_n dX8_digest_91 1 rfl rfl ?_
      refine x_iconst dX8_digest_92 ?_
      refine x_ic_ge (tgt := 142) dX8_digest_93 (by decide) (by omega) (fun h93 => ?_) (fun h93 => ?_)
      · refine x_aload_n dX8_digest_142 0 rfl rfl ?_
        refine x_getL dX8_digest_143 flX8_428 rfl rfl ?_
        refine x_lret dX8_digest_146 rfl ?_
        rw [← hQ, hv]
        exact ⟨_, rfl, rfl, rfl, hK, rfl⟩
      · exfalso; omega
  have l3 : ∀ r : Nat, r ≤ 6 → ∀ K : MI, LH L K → K 0 58 = dgR I r (dgE I (I 0 25).toNat (dgW I (I 0 13).toNat (dgD I (I 0 12).toNat (hxL (fun k => cnI I (k : Int)) 8 17)))) → ∀ lv8, (lv8 = [(0, mr 0), (1, mi (r : Int))]) → Rn G mtX8_digest Q 37 lv8 [] shM I K rM := by
    refine lpn 6 (fun r hr ih => ?_) ?_
    · intro K hK hv lv8 hlv
      subst hlv
      have hs := hI.1 (r : Int) (by omega) (by omega)
      have il : ∀ i : Nat, i ≤ (I 2 (r : Int)).toNat → ∀ K : MI, LH L K → K 0 58 = hxL (fun i => I 3 (40 * (r : Int) + (i : Int))) i (31 * dgR I r (dgE I (I 0 25).toNat (dgW I (I 0 13).toNat (dgD I (I 0 12).toNat (hxL (fun k => cnI I (k : Int)) 8 17)))) + I 2 (r : Int)) → Rn G mtX8_digest Q 56 [(0, mr 0), (1, mi (r : Int)), (2, mi (i : Int))] [] shM I K rM := by
        refine lpn _ (fun i hi ihi => ?_) ?_
        · intro K hK hv
          have hri := hI.2 (40 * (r : Int) + (i : Int)) (by omega) (by omega)
          refine x_iload_n dX8_digest_56 2 rfl rfl ?_
          refine x_aload_n dX8_digest_57 0 rfl rfl ?_
          refine x_getR dX8_digest_58 flX8_13 rfl rfl rfl ?_
          refine x_iload_n dX8_digest_61 1 rfl rfl ?_
          refine x_iald dX8_digest_62 rfl (by omega) ?_
          refine x_ic_ge (tgt := 83) dX8_digest_63 (by decide) (by omega) (fun h63 => ?_) (fun h63 => ?_)
          · exfalso; omega
          · refine x_aload_n dX8_digest_66 0 rfl rfl ?_
            refine x_aload_n dX8_digest_67 0 rfl rfl ?_
            refine x_iload_n dX8_digest_68 1 rfl rfl ?_
            refine x_iload_n dX8_digest_69 2 rfl rfl ?_
            refine x_callVi (as := [_, _]) dX8_digest_70 lvX8_126 rfl rfl rfl rfl rfl rfl rfl ⟨rfl, rfl⟩ (s_X8_rowAt (by omega)) (fun z70 I70 L70 R70 hq70 => ?_)
            obtain ⟨rfl, rfl, rfl, rfl⟩ := hq70
            refine x_i2l dX8_digest_73 (by omega) ?_
            refine x_callVv (as := [_]) dX8_digest_74 lvX8_431 rfl rfl rfl rfl rfl rfl rfl ⟨rfl, rfl⟩ (s_X8_mix) (fun I74 L74 R74 hq74 => ?_)
            obtain ⟨rfl, hL74, rfl⟩ := hq74
            obtain ⟨k74, v74⟩ := lh_mix hK hL74
            rw [hv] at v74
            refine x_iinc (lv' := [(0, _), (1, _), (2, _)]) dX8_digest_77 2 rfl rfl rfl ?_
            refine x_goto (tgt := 56) dX8_digest_80 (by decide) ?_
            exact ihi _ k74 v74
        · intro K hK hv
          refine x_iload_n dX8_digest_56 2 rfl rfl ?_
          refine x_aload_n dX8_digest_57 0 rfl rfl ?_
          refine x_getR dX8_digest_58 flX8_13 rfl rfl rfl ?_
          refine x_iload_n dX8_digest_61 1 rfl rfl ?_
          refine x_iald dX8_digest_62 rfl (by omega) ?_
          refine x_ic_ge (tgt := 83) dX8_digest_63 (by decide) (by omega) (fun h63 => ?_) (fun h63 => ?_)
          · refine x_iinc (lv' := [(0, _), (1, _), (2, _)]) dX8_digest_83 1 rfl rfl rfl ?_
            refine x_goto (tgt := 37) dX8_digest_86 (by decide) ?_
            refine x_top (lv' := [(0, _), (1, _)]) 2 rfl ?_
            exact ih K hK hv _ rfl
          · exfalso; omega
      refine x_iload_n dX8_digest_37 1 rfl rfl ?_
      refine x_bipush dX8_digest_38 (by decide) ?_
      refine x_ic_ge (tgt := 89) dX8_digest_40 (by decide) (by omega) (fun h40 => ?_) (fun h40 => ?_)
      · exfalso; omega
      · refine x_aload_n dX8_digest_43 0 rfl rfl ?_
        refine x_aload_n dX8_digest_44 0 rfl rfl ?_
        refine x_getR dX8_digest_45 flX8_13 rfl rfl rfl ?_
        refine x_iload_n dX8_digest_48 1 rfl rfl ?_
        refine x_iald dX8_digest_49 rfl (by omega) ?_
        refine x_i2l dX8_digest_50 (by omega) ?_
        refine x_callVv (as := [_]) dX8_digest_51 lvX8_431 rfl rfl rfl rfl rfl rfl rfl ⟨rfl, rfl⟩ (s_X8_mix) (fun I51 L51 R51 hq51 => ?_)
        obtain ⟨rfl, hL51, rfl⟩ := hq51
        obtain ⟨k51, v51⟩ := lh_mix hK hL51
        rw [hv] at v51
        refine x_iconst dX8_digest_54 ?_
        refine x_istore_n (lv' := [(0, _), (1, _), (2, _)]) dX8_digest_55 rfl rfl rfl ?_
        exact il 0 (by omega) _ k51 v51
    · intro K hK hv lv8 hlv
      subst hlv
      refine x_iload_n dX8_digest_37 1 rfl rfl ?_
      refine x_bipush dX8_digest_38 (by decide) ?_
      refine x_ic_ge (tgt := 89) dX8_digest_40 (by decide) (by omega) (fun h40 => ?_) (fun h40 => ?_)
      · refine x_iconst dX8_digest_89 ?_
        refine x_istore_n (lv' := [(0, _), (1, _)]) dX8_digest_90 rfl rfl rfl ?_
        exact l4 0 (by omega) K hK hv _ rfl
      · exfalso; omega
  have l1 : ∀ k : Nat, k ≤ 8 → ∀ K : MI, LH L K → K 0 58 = hxL (fun k => cnI I (k : Int)) k 17 → Rn G mtX8_digest Q 9 [(0, mr 0), (1, mi (k : Int))] [] shM I K rM := by
    refine lpn 8 (fun k hk ih => ?_) ?_
    · intro K hK hv
      have hck := hcr (k : Int)
      refine x_iload_n dX8_digest_9 1 rfl rfl ?_
      refine x_bipush dX8_digest_10 (by decide) ?_
      refine x_ic_ge (tgt := 31) dX8_digest_12 (by decide) (by omega) (fun h12 => ?_) (fun h12 => ?_)
      · exfalso; omega
      · refine x_aload_n dX8_digest_15 0 rfl rfl ?_
        refine x_aload_n dX8_digest_16 0 rfl rfl ?_
        refine x_iload_n dX8_digest_17 1 rfl rfl ?_
        refine x_callVi (as := [_]) dX8_digest_18 lvX8_423 rfl rfl rfl rfl rfl rfl rfl ⟨rfl, rfl⟩ (s_X8_counted hH hE hT hI (by omega)) (fun z18 I18 L18 R18 hq18 => ?_)
        obtain ⟨rfl, rfl, rfl, rfl⟩ := hq18
        refine x_i2l dX8_digest_21 (by omega) ?_
        refine x_callVv (as := [_]) dX8_digest_22 lvX8_431 rfl rfl rfl rfl rfl rfl rfl ⟨rfl, rfl⟩ (s_X8_mix) (fun I22 L22 R22 hq22 => ?_)
        obtain ⟨rfl, hL22, rfl⟩ := hq22
        obtain ⟨k22, v22⟩ := lh_mix hK hL22
        rw [hv] at v22
        refine x_iinc (lv' := [(0, _), (1, _)]) dX8_digest_25 1 rfl rfl rfl ?_
        refine x_goto (tgt := 9) dX8_digest_28 (by decide) ?_
        exact ih _ k22 v22
    · intro K hK hv
      refine x_iload_n dX8_digest_9 1 rfl rfl ?_
      refine x_bipush dX8_digest_10 (by decide) ?_
      refine x_ic_ge (tgt := 31) dX8_digest_12 (by decide) (by omega) (fun h12 => ?_) (fun h12 => ?_)
      · refine x_aload_n dX8_digest_31 0 rfl rfl ?_
        refine x_callVv (as := []) dX8_digest_32 lvX8_437 rfl rfl rfl rfl rfl rfl rfl ⟨rfl, rfl⟩ (s_X8_mixHouse hH hE hT hI) (fun I32 L32 R32 hq32 => ?_)
        obtain ⟨rfl, kk, vv, rfl⟩ := hq32
        rw [hv] at vv
        refine x_iconst dX8_digest_35 ?_
        refine x_istore_n (lv' := [(0, _), (1, _)]) dX8_digest_36 rfl rfl rfl ?_
        exact l3 0 (by omega) _ (hK.tr kk) vv _ rfl
      · exfalso; omega
  refine x_aload_n dX8_digest_0 0 rfl rfl ?_
  refine x_ldc2 (17) dX8_digest_1 lkX8_435 ?_
  refine x_putL dX8_digest_4 flX8_428 rfl rfl rfl ?_
  refine x_iconst dX8_digest_7 ?_
  refine x_istore_n (lv' := [(0, _), (1, _)]) dX8_digest_8 rfl rfl rfl ?_
  exact l1 0 (by omega) _ (fun a j q => by unfold m_up; rw [if_neg q]) m_up_eq
end

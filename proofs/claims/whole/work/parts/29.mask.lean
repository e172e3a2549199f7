/-! THE REFERENCE'S QUESTIONS, part eleven: chances. -/
section
variable {G : GT} {sh : MS} {I L : MI} {R : MR} {κ : MI}

set_option maxHeartbeats 1500000 in
theorem s_X8_chance {r t : Int} (hH : iHs I) (hE : iEvs I) (hX : okA I = true → cntOK (kap I 0 (I 0 13))) (h1 : rI r) (h2 : rI t) : Sp G mtX8_chance [mr 0, mi r, mi t] shM I L rM (qi (fun z I' L' R' => z = (s_chance r t I).1 ∧ Pe (s_chance r t I).2 I' ∧ PeL (l_chance r t I L) L' ∧ R' = rM)) := by
  refine Sp.of pnX8_chance rfl ?_
  show Rn G mtX8_chance _ 0 [(0, mr 0), (1, mi r), (2, mi t)] [] shM I L rM
  generalize hQ : (qi (fun z I' L' R' => z = (s_chance r t I).1 ∧ Pe (s_chance r t I).2 I' ∧ PeL (l_chance r t I L) L' ∧ R' = rM)) = Q
  have hW := hH.2.2.1
  have hT := hH.2.2.2.1
  have hR := hH.1
  have hl := KA_lst hH (wo := 0) (k := I 0 13)
  have hnn := nst_le (KA_H hH) (KA_S hH hE)
  have hu := KA_us hH
  refine x_aload_n dX8_chance_0 0 rfl rfl ?_
  refine x_iload_n dX8_chance_1 1 rfl rfl ?_
  refine x_callVi (as := [_]) dX8_chance_2 lvX8_198 rfl rfl rfl rfl rfl rfl rfl ⟨rfl, rfl⟩ (s_X8_isRoom (by omega) (by omega)) (fun z2 I2 L2 R2 hq2 => ?_)
  obtain ⟨rfl, rfl, rfl, rfl⟩ := hq2
  refine y_ifb_eq (tgt := 16) dX8_chance_5 (by decide) (fun h5 => ?_) (fun h5 => ?_)
  · refine x_iconst dX8_chance_16 ?_
    refine x_iret dX8_chance_17 rfl ?_
    rw [← hQ]
    have hs : s_chance r t I = (-1, I) := by unfold s_chance; rw [if_pos (by omega)]
    have hl2 : l_chance r t I L = L := by unfold l_chance; rw [if_pos (by omega)]
    rw [hs, hl2]
    exact ⟨_, rfl, rfl, Pe.rf _, PeL.rf _, rfl⟩
  · refine x_aload_n dX8_chance_8 0 rfl rfl ?_
    refine x_iload_n dX8_chance_9 2 rfl rfl ?_
    refine x_callVi (as := [_]) dX8_chance_10 lvX8_339 rfl rfl rfl rfl rfl rfl rfl ⟨rfl, rfl⟩ (s_X8_isMinute (by omega) (by omega)) (fun z10 I10 L10 R10 hq10 => ?_)
    obtain ⟨rfl, rfl, rfl, rfl⟩ := hq10
    refine y_ifb_ne (tgt := 18) dX8_chance_13 (by decide) (fun h13 => ?_) (fun h13 => ?_)
    · refine x_aload_n dX8_chance_18 0 rfl rfl ?_
      refine x_callVi (as := []) dX8_chance_19 lvX8_402 rfl rfl rfl rfl rfl rfl rfl ⟨rfl, rfl⟩ (s_X8_needCounted hH hE) (fun z19 I19 L19 R19 hq19 => ?_)
      obtain ⟨hz, hn1, hn2, hLF, rfl⟩ := hq19
      have hzr : rI z19 := by rw [hz]; split; omega; split <;> omega
      refine x_istore_n (lv' := [(0, _), (1, _), (2, _), (3, _)]) dX8_chance_22 rfl rfl rfl ?_
      refine x_iload_n dX8_chance_23 3 rfl rfl ?_
      refine x_if_ge (tgt := 29) dX8_chance_24 (by decide) (by omega) (fun h24 => ?_) (fun h24 => ?_)
      · refine x_lconst 0 dX8_chance_29 rfl ?_
        refine x_lstore (lv' := [(0, _), (1, _), (2, _), (3, _), (4, _)]) dX8_chance_30 rfl rfl ?_
        refine x_iconst dX8_chance_32 ?_
        refine x_istore (lv' := [(0, _), (1, _), (2, _), (3, _), (4, _), (6, _)]) dX8_chance_33 rfl rfl ?_
        have hok : okA I = true := by
          rw [← Bool.not_eq_false]
          intro q
          rw [if_pos q] at hz
          omega
        have hok2 : ¬ okA I = false := by rw [hok]; decide
        have hle : ¬ 1000000000000000 < aw (kap I 0 (I 0 13)) := by
          intro q
          rw [if_neg hok2, if_pos q] at hz
          omega
        obtain ⟨hE2, hB⟩ := hn2 hok
        obtain ⟨n, rfl⟩ : ∃ n : Nat, t = n := ⟨t.toNat, by omega⟩
        obtain ⟨hX1, hX2⟩ := hX hok (by omega)
        have hX3 := hX2 n (by omega)
        have hs : s_chance r n I = (1, I) := by unfold s_chance; rw [if_neg (by omega), if_neg hok2, if_neg hle]
        have hl2 : l_chance r n I L = frT (chS (kap I 0 (I 0 13)) r n (nst (kap I 0 (I 0 13)))) (aw (kap I 0 (I 0 13))) L := by unfold l_chance; rw [if_neg (by omega), if_neg hok2, if_neg hle, Int.toNat_natCast]
        have hx := hX3.1 r
        have sl : ∀ s : Nat, s ≤ nst (kap I 0 (I 0 13)) → Rn G mtX8_chance Q 35 [(0, mr 0), (1, mi r), (2, mi ↑n), (3, mi z19), (4, ml (chS (kap I 0 (I 0 13)) r n s)), (6, mi (s : Int))] [] shM I19 L19 rM := by
          refine lpn _ (fun s hs ih => ?_) ?_
          · have hmn := mnI_r s r (us (kap I 0 (I 0 13)))
            refine x_iload dX8_chance_35 5 rfl ?_
            refine x_aload_n dX8_chance_37 0 rfl rfl ?_
            refine x_callVi (as := []) dX8_chance_38 lvX8_286 rfl rfl rfl rfl rfl rfl rfl ⟨rfl, rfl⟩ (s_X8_states hE2 (KA_H hH) (KA_S hH hE)) (fun z38 I38 L38 R38 hq38 => ?_)
            obtain ⟨rfl, rfl, rfl, rfl⟩ := hq38
            refine x_ic_ge (tgt := 76) dX8_chance_41 (by decide) (by omega) (fun h41 => ?_) (fun h41 => ?_)
            · exfalso; omega
            · refine x_lload dX8_chance_44 4 rfl ?_
              refine x_aload_n dX8_chance_46 0 rfl rfl ?_
              refine x_iload dX8_chance_47 5 rfl ?_
              refine x_iload_n dX8_chance_49 1 rfl rfl ?_
              refine x_callVi (as := [_, _]) dX8_chance_50 lvX8_336 rfl rfl rfl rfl rfl rfl rfl ⟨rfl, rfl⟩ (s_X8_manyIn hE2 (KA_H hH) (KA_S hH hE) (by omega) h1) (fun z50 I50 L50 R50 hq50 => ?_)
              obtain ⟨rfl, rfl, rfl, rfl⟩ := hq50
              refine x_if_le (tgt := 66) dX8_chance_53 (by decide) (by omega) (fun h53 => ?_) (fun h53 => ?_)
              · refine x_lconst 0 dX8_chance_66 rfl ?_
                refine x_ladd dX8_chance_67 ?_
                refine x_lstore (lv' := [(0, _), (1, _), (2, _), (3, _), (4, _), (6, _)]) dX8_chance_68 rfl rfl ?_
                refine x_iinc (lv' := [(0, _), (1, _), (2, _), (3, _), (4, _), (6, _)]) dX8_chance_70 5 rfl rfl rfl ?_
                refine x_goto (tgt := 35) dX8_chance_73 (by decide) ?_
                unfold chS at ih
                first
                | (rw [if_pos (by omega)] at ih; exact ih)
                | (rw [if_neg (by omega)] at ih; exact ih)
              · refine x_aload_n dX8_chance_56 0 rfl rfl ?_
                refine x_iload_n dX8_chance_57 2 rfl rfl ?_
                refine x_iload dX8_chance_58 5 rfl ?_
                refine x_callVl (as := [_, _]) dX8_chance_60 lvX8_405 rfl rfl rfl rfl rfl rfl rfl ⟨rfl, rfl⟩ (s_X8_waysBy (KA_H hH) (KA_S hH hE) hB (by omega) hs) (fun z60 I60 L60 R60 hq60 => ?_)
                obtain ⟨rfl, rfl, rfl, rfl⟩ := hq60
                refine x_goto (tgt := 67) dX8_chance_63 (by decide) ?_
                refine x_ladd dX8_chance_67 ?_
                refine x_lstore (lv' := [(0, _), (1, _), (2, _), (3, _), (4, _), (6, _)]) dX8_chance_68 rfl rfl ?_
                refine x_iinc (lv' := [(0, _), (1, _), (2, _), (3, _), (4, _), (6, _)]) dX8_chance_70 5 rfl rfl rfl ?_
                refine x_goto (tgt := 35) dX8_chance_73 (by decide) ?_
                unfold chS at ih
                first
                | (rw [if_pos (by omega)] at ih; exact ih)
                | (rw [if_neg (by omega)] at ih; exact ih)
          · refine x_iload dX8_chance_35 5 rfl ?_
            refine x_aload_n dX8_chance_37 0 rfl rfl ?_
            refine x_callVi (as := []) dX8_chance_38 lvX8_286 rfl rfl rfl rfl rfl rfl rfl ⟨rfl, rfl⟩ (s_X8_states hE2 (KA_H hH) (KA_S hH hE)) (fun z38 I38 L38 R38 hq38 => ?_)
            obtain ⟨rfl, rfl, rfl, rfl⟩ := hq38
            refine x_ic_ge (tgt := 76) dX8_chance_41 (by decide) (by omega) (fun h41 => ?_) (fun h41 => ?_)
            · refine x_aload_n dX8_chance_76 0 rfl rfl ?_
              refine x_lload dX8_chance_77 4 rfl ?_
              refine x_aload_n dX8_chance_79 0 rfl rfl ?_
              refine x_callVl (as := []) dX8_chance_80 lvX8_323 rfl rfl rfl rfl rfl rfl rfl ⟨rfl, rfl⟩ (s_X8_allWays hE2 (KA_H hH) (KA_S hH hE) (fun s hs => (hB _ s (Nat.le_refl _) hs).1)) (fun z80 I80 L80 R80 hq80 => ?_)
              obtain ⟨rfl, rfl, rfl, rfl⟩ := hq80
              refine x_iconst dX8_chance_83 ?_
              refine x_callVi (as := [_, _, _]) dX8_chance_84 lvX8_409 rfl rfl rfl rfl rfl rfl rfl ⟨rfl, rfl⟩ (s_X8_fraction (by omega) (by omega)) (fun z84 I84 L84 R84 hq84 => ?_)
              obtain ⟨rfl, rfl, rfl, rfl⟩ := hq84
              refine x_iret dX8_chance_87 rfl ?_
              rw [← hQ, hs, hl2]
              exact ⟨_, rfl, rfl, kap_pe hE2, fun j hj => by
                unfold frT m_up
                split
                · rfl
                · split
                  · rfl
                  · exact hLF.pl j hj, rfl⟩
            · exfalso; omega
        exact sl 0 (by omega)
      · refine x_iload_n dX8_chance_27 3 rfl rfl ?_
        refine x_iret dX8_chance_28 rfl ?_
        rw [← hQ]
        by_cases hok : okA I = false
        · have hs : s_chance r t I = (-3, a_mt I 4) := by unfold s_chance; rw [if_neg (by omega), if_pos hok]
          have hl2 : l_chance r t I L = L := by unfold l_chance; rw [if_neg (by omega), if_pos hok]
          rw [if_pos hok] at hz
          rw [hs, hl2, hz]
          exact ⟨_, rfl, rfl, hn1 hok, hLF.pl, rfl⟩
        · have hgt : 1000000000000000 < aw (kap I 0 (I 0 13)) := by
            rw [if_neg hok] at hz
            apply Classical.byContradiction
            intro q
            rw [if_neg q] at hz
            omega
          have hs : s_chance r t I = (-6, I) := by unfold s_chance; rw [if_neg (by omega), if_neg hok, if_pos hgt]
          have hl2 : l_chance r t I L = L := by unfold l_chance; rw [if_neg (by omega), if_neg hok, if_pos hgt]
          rw [if_neg hok, if_pos hgt] at hz
          rw [hs, hl2, hz]
          exact ⟨_, rfl, rfl, kap_pe (hn2 (by rw [Bool.not_eq_false] at hok; exact hok)).1, hLF.pl, rfl⟩
    · refine x_iconst dX8_chance_16 ?_
      refine x_iret dX8_chance_17 rfl ?_
      rw [← hQ]
      have hs : s_chance r t I = (-1, I) := by unfold s_chance; rw [if_pos (by omega)]
      have hl2 : l_chance r t I L = L := by unfold l_chance; rw [if_pos (by omega)]
      rw [hs, hl2]
      exact ⟨_, rfl, rfl, Pe.rf _, PeL.rf _, rfl⟩
set_option maxHeartbeats 1500000 in
theorem s_X8_likely {w t : Int} (hH : iHs I) (hE : iEvs I) (hX : okA I = true → cntOK (kap I 0 (I 0 13))) (h1 : rI w) (h2 : rI t) : Sp G mtX8_likely [mr 0, mi w, mi t] shM I L rM (qi (fun z I' L' R' => z = (s_likely w t I).1 ∧ Pe (s_likely w t I).2 I' ∧ PeL (l_likely w t I L) L' ∧ R' = rM)) := by
  refine Sp.of pnX8_likely rfl ?_
  show Rn G mtX8_likely _ 0 [(0, mr 0), (1, mi w), (2, mi t)] [] shM I L rM
  generalize hQ : (qi (fun z I' L' R' => z = (s_likely w t I).1 ∧ Pe (s_likely w t I).2 I' ∧ PeL (l_likely w t I L) L' ∧ R' = rM)) = Q
  have hW := hH.2.2.1
  have hT := hH.2.2.2.1
  have hR := hH.1
  have hl := KA_lst hH (wo := 0) (k := I 0 13)
  have hnn := nst_le (KA_H hH) (KA_S hH hE)
  have hu := KA_us hH
  refine x_aload_n dX8_likely_0 0 rfl rfl ?_
  refine x_iload_n dX8_likely_1 1 rfl rfl ?_
  refine x_callVi (as := [_]) dX8_likely_2 lvX8_224 rfl rfl rfl rfl rfl rfl rfl ⟨rfl, rfl⟩ (s_X8_isWalker (by omega) (by omega)) (fun z2 I2 L2 R2 hq2 => ?_)
  obtain ⟨rfl, rfl, rfl, rfl⟩ := hq2
  refine y_ifb_eq (tgt := 16) dX8_likely_5 (by decide) (fun h5 => ?_) (fun h5 => ?_)
  · refine x_iconst dX8_likely_16 ?_
    refine x_iret dX8_likely_17 rfl ?_
    rw [← hQ]
    have hs : s_likely w t I = (-1, I) := by unfold s_likely; rw [if_pos (by omega)]
    have hl2 : l_likely w t I L = L := by unfold l_likely; rw [if_pos (by omega)]
    rw [hs, hl2]
    exact ⟨_, rfl, rfl, Pe.rf _, PeL.rf _, rfl⟩
  · refine x_aload_n dX8_likely_8 0 rfl rfl ?_
    refine x_iload_n dX8_likely_9 2 rfl rfl ?_
    refine x_callVi (as := [_]) dX8_likely_10 lvX8_339 rfl rfl rfl rfl rfl rfl rfl ⟨rfl, rfl⟩ (s_X8_isMinute (by omega) (by omega)) (fun z10 I10 L10 R10 hq10 => ?_)
    obtain ⟨rfl, rfl, rfl, rfl⟩ := hq10
    refine y_ifb_ne (tgt := 18) dX8_likely_13 (by decide) (fun h13 => ?_) (fun h13 => ?_)
    · refine x_aload_n dX8_likely_18 0 rfl rfl ?_
      refine x_callVi (as := []) dX8_likely_19 lvX8_402 rfl rfl rfl rfl rfl rfl rfl ⟨rfl, rfl⟩ (s_X8_needCounted hH hE) (fun z19 I19 L19 R19 hq19 => ?_)
      obtain ⟨hz, hn1, hn2, hLF, rfl⟩ := hq19
      have hzr : rI z19 := by rw [hz]; split; omega; split <;> omega
      refine x_istore_n (lv' := [(0, _), (1, _), (2, _), (3, _)]) dX8_likely_22 rfl rfl rfl ?_
      refine x_iload_n dX8_likely_23 3 rfl rfl ?_
      refine x_if_ge (tgt := 29) dX8_likely_24 (by decide) (by omega) (fun h24 => ?_) (fun h24 => ?_)
      · refine x_iconst dX8_likely_29 ?_
        refine x_istore (lv' := [(0, _), (1, _), (2, _), (3, _), (4, _)]) dX8_likely_30 rfl rfl ?_
        have hok : okA I = true := by
          rw [← Bool.not_eq_false]
          intro q
          rw [if_pos q] at hz
          omega
        have hok2 : ¬ okA I = false := by rw [hok]; decide
        have hle : ¬ 1000000000000000 < aw (kap I 0 (I 0 13)) := by
          intro q
          rw [if_neg hok2, if_pos q] at hz
          omega
        obtain ⟨hE2, hB⟩ := hn2 hok
        obtain ⟨n, rfl⟩ : ∃ n : Nat, t = n := ⟨t.toNat, by omega⟩
        obtain ⟨hX1, hX2⟩ := hX hok (by omega)
        have hX3 := hX2 n (by omega)
        obtain ⟨v, rfl⟩ : ∃ n : Nat, w = n := ⟨w.toNat, by omega⟩
        have hs : s_likely v n I = (((lkB (fun r => lkS (kap I 0 (I 0 13)) v n r (nst (kap I 0 (I 0 13)))) 5 : Nat) : Int), I) := by unfold s_likely; rw [if_neg (by omega), if_neg hok2, if_neg hle, Int.toNat_natCast, Int.toNat_natCast]
        have hl2 : l_likely v n I L = frT (lkS (kap I 0 (I 0 13)) v n (lkB (fun r => lkS (kap I 0 (I 0 13)) v n r (nst (kap I 0 (I 0 13)))) 5) (nst (kap I 0 (I 0 13)))) (aw (kap I 0 (I 0 13))) L := by unfold l_likely; rw [if_neg (by omega), if_neg hok2, if_neg hle, Int.toNat_natCast, Int.toNat_natCast]
        have hx := hX3.2 v
        obtain ⟨f, hf⟩ : ∃ f : Nat → Int, f = fun r => lkS (kap I 0 (I 0 13)) v n r (nst (kap I 0 (I 0 13))) := ⟨_, rfl⟩
        have hfr : ∀ r, 0 ≤ f r ∧ f r ≤ 1000000000000000 := fun r => by rw [hf]; exact hx r
        have hTB2 : ∀ K : MI, (∀ a j, a ≠ 26 → K a j = L19 a j) → Tb (kap I 0 (I 0 13)) K := fun K hK t s h1 h2 => by rw [hK 22 _ (by decide), hK 23 _ (by decide)]; exact hB t s h1 h2
        have bl : ∀ r : Nat, r ≤ 5 → ∀ K : MI, (∀ a j, a ≠ 26 → K a j = L19 a j) → (∀ x : Nat, x < 6 → K 26 (x : Int) = f x) → Rn G mtX8_likely Q 99 [(0, mr 0), (1, mi ↑v), (2, mi ↑n), (3, mi z19), (4, mi (lkB f r : Nat)), (5, mi ((r : Int) + 1))] [] shM I19 K rM := by
          refine lpn 5 (fun r hr ih => ?_) ?_
          · intro K hK hA
            have hb := lkB_r f r
            have a1 := hA (r + 1) (by omega)
            have a2 := hA (lkB f r) (by omega)
            rw [show ((r + 1 : Nat) : Int) = (r : Int) + 1 by omega] at a1
            have f1 := hfr (r + 1)
            have f2 := hfr (lkB f r)
            have h9 := ih K hK hA
            refine x_iload dX8_likely_99 5 rfl ?_
            refine x_bipush dX8_likely_101 (by decide) ?_
            refine x_ic_ge (tgt := 139) dX8_likely_103 (by decide) (by omega) (fun h103 => ?_) (fun h103 => ?_)
            · exfalso; omega
            · refine x_aload_n dX8_likely_106 0 rfl rfl ?_
              refine x_getR dX8_likely_107 flX8_88 rfl rfl rfl ?_
              refine x_iload dX8_likely_110 5 rfl ?_
              refine x_lald dX8_likely_112 rfl (by omega) ?_
              rw [a1]
              refine x_aload_n dX8_likely_113 0 rfl rfl ?_
              refine x_getR dX8_likely_114 flX8_88 rfl rfl rfl ?_
              refine x_iload dX8_likely_117 4 rfl ?_
              refine x_lald dX8_likely_119 rfl (by omega) ?_
              rw [a2]
              refine x_lc_le (tgt := 129) dX8_likely_120 dX8_likely_121 (by decide) (by omega) (fun h120 => ?_) (fun h120 => ?_)
              · refine x_iload dX8_likely_129 4 rfl ?_
                refine x_istore (lv' := [(0, _), (1, _), (2, _), (3, _), (4, _), (5, _)]) dX8_likely_131 rfl rfl ?_
                refine x_iinc (lv' := [(0, _), (1, _), (2, _), (3, _), (4, _), (5, _)]) dX8_likely_133 5 rfl rfl rfl ?_
                refine x_goto (tgt := 99) dX8_likely_136 (by decide) ?_
                unfold lkB at h9
                first
                | (rw [if_pos (by omega)] at h9; exact h9)
                | (rw [if_neg (by omega)] at h9; exact h9)
              · refine x_iload dX8_likely_124 5 rfl ?_
                refine x_goto (tgt := 131) dX8_likely_126 (by decide) ?_
                refine x_istore (lv' := [(0, _), (1, _), (2, _), (3, _), (4, _), (5, _)]) dX8_likely_131 rfl rfl ?_
                refine x_iinc (lv' := [(0, _), (1, _), (2, _), (3, _), (4, _), (5, _)]) dX8_likely_133 5 rfl rfl rfl ?_
                refine x_goto (tgt := 99) dX8_likely_136 (by decide) ?_
                unfold lkB at h9
                first
                | (rw [if_pos (by omega)] at h9; exact h9)
                | (rw [if_neg (by omega)] at h9; exact h9)
          · intro K hK hA
            have hb := lkB_r f 5
            have a2 := hA (lkB f 5) (by omega)
            have f2 := hfr (lkB f 5)
            refine x_iload dX8_likely_99 5 rfl ?_
            refine x_bipush dX8_likely_101 (by decide) ?_
            refine x_ic_ge (tgt := 139) dX8_likely_103 (by decide) (by omega) (fun h103 => ?_) (fun h103 => ?_)
            · refine x_aload_n dX8_likely_139 0 rfl rfl ?_
              refine x_aload_n dX8_likely_140 0 rfl rfl ?_
              refine x_getR dX8_likely_141 flX8_88 rfl rfl rfl ?_
              refine x_iload dX8_likely_144 4 rfl ?_
              refine x_lald dX8_likely_146 rfl (by omega) ?_
              rw [a2]
              refine x_aload_n dX8_likely_147 0 rfl rfl ?_
              refine x_callVl (as := []) dX8_likely_148 lvX8_323 rfl rfl rfl rfl rfl rfl rfl ⟨rfl, rfl⟩ (s_X8_allWays hE2 (KA_H hH) (KA_S hH hE) (fun s hs => (hTB2 K hK _ s (Nat.le_refl _) hs).1)) (fun z148 I148 L148 R148 hq148 => ?_)
              obtain ⟨rfl, rfl, rfl, rfl⟩ := hq148
              refine x_iload dX8_likely_151 4 rfl ?_
              refine x_callVi (as := [_, _, _]) dX8_likely_153 lvX8_409 rfl rfl rfl rfl rfl rfl rfl ⟨rfl, rfl⟩ (s_X8_fraction (by omega) (by omega)) (fun z153 I153 L153 R153 hq153 => ?_)
              obtain ⟨rfl, rfl, rfl, rfl⟩ := hq153
              refine x_iret dX8_likely_156 rfl ?_
              rw [← hQ, hs, hl2, hf]
              exact ⟨_, rfl, rfl, kap_pe hE2, fun j hj => by
                unfold frT m_up
                split
                · rfl
                · split
                  · rfl
                  · rw [hK 0 j (by decide)]; exact hLF.pl j hj, rfl⟩
            · exfalso; omega
        have sl : ∀ s : Nat, s ≤ nst (kap I 0 (I 0 13)) → ∀ K : MI, (∀ a j, a ≠ 26 → K a j = L19 a j) → (∀ x : Nat, x < 6 → K 26 (x : Int) = lkS (kap I 0 (I 0 13)) v n x s) → Rn G mtX8_likely Q 56 [(0, mr 0), (1, mi ↑v), (2, mi ↑n), (3, mi z19), (4, mi (s : Int))] [] shM I19 K rM := by
          refine lpn _ (fun s hs ih => ?_) ?_
          · intro K hK hA
            have hrm := rm_lt (w := v) (show s < 1728 by omega)
            have a1 := hA (rm s v) hrm
            refine x_iload dX8_likely_56 4 rfl ?_
            refine x_aload_n dX8_likely_58 0 rfl rfl ?_
            refine x_callVi (as := []) dX8_likely_59 lvX8_286 rfl rfl rfl rfl rfl rfl rfl ⟨rfl, rfl⟩ (s_X8_states hE2 (KA_H hH) (KA_S hH hE)) (fun z59 I59 L59 R59 hq59 => ?_)
            obtain ⟨rfl, rfl, rfl, rfl⟩ := hq59
            refine x_ic_ge (tgt := 93) dX8_likely_62 (by decide) (by omega) (fun h62 => ?_) (fun h62 => ?_)
            · exfalso; omega
            · refine x_aload_n dX8_likely_65 0 rfl rfl ?_
              refine x_getR dX8_likely_66 flX8_88 rfl rfl rfl ?_
              refine x_aload_n dX8_likely_69 0 rfl rfl ?_
              refine x_iload dX8_likely_70 4 rfl ?_
              refine x_iload_n dX8_likely_72 1 rfl rfl ?_
              refine x_callVi (as := [_, _]) dX8_likely_73 lvX8_261 rfl rfl rfl rfl rfl rfl rfl ⟨rfl, rfl⟩ (s_X8_roomOf (by omega) (by omega)) (fun z73 I73 L73 R73 hq73 => ?_)
              obtain ⟨rfl, rfl, rfl, rfl⟩ := hq73
              refine x_dup2 dX8_likely_76 rfl rfl ?_
              refine x_lald dX8_likely_77 rfl (by omega) ?_
              rw [a1]
              refine x_aload_n dX8_likely_78 0 rfl rfl ?_
              refine x_iload_n dX8_likely_79 2 rfl rfl ?_
              refine x_iload dX8_likely_80 4 rfl ?_
              refine x_callVl (as := [_, _]) dX8_likely_82 lvX8_405 rfl rfl rfl rfl rfl rfl rfl ⟨rfl, rfl⟩ (s_X8_waysBy (KA_H hH) (KA_S hH hE) (hTB2 K hK) (by omega) hs) (fun z82 I82 L82 R82 hq82 => ?_)
              obtain ⟨rfl, rfl, rfl, rfl⟩ := hq82
              refine x_ladd dX8_likely_85 ?_
              refine x_last dX8_likely_86 rfl (by omega) ?_
              refine x_iinc (lv' := [(0, _), (1, _), (2, _), (3, _), (4, _)]) dX8_likely_87 4 rfl rfl rfl ?_
              refine x_goto (tgt := 56) dX8_likely_90 (by decide) ?_
              refine ih _ (fun a j q => by rw [m_up_ne q]; exact hK a j q) (fun x hx => ?_)
              show _ = lkS (kap I 0 (I 0 13)) v n x s + (if rm s v = x then wyB (kap I 0 (I 0 13)) n s else 0)
              by_cases e : x = rm s v
              · rw [e, m_up_eq, if_pos rfl]
              · rw [m_up_nj (by omega), if_neg (by omega), hA x hx, Int.add_zero]
          · intro K hK hA
            refine x_iload dX8_likely_56 4 rfl ?_
            refine x_aload_n dX8_likely_58 0 rfl rfl ?_
            refine x_callVi (as := []) dX8_likely_59 lvX8_286 rfl rfl rfl rfl rfl rfl rfl ⟨rfl, rfl⟩ (s_X8_states hE2 (KA_H hH) (KA_S hH hE)) (fun z59 I59 L59 R59 hq59 => ?_)
            obtain ⟨rfl, rfl, rfl, rfl⟩ := hq59
            refine x_ic_ge (tgt := 93) dX8_likely_62 (by decide) (by omega) (fun h62 => ?_) (fun h62 => ?_)
            · refine x_iconst dX8_likely_93 ?_
              refine x_istore (lv' := [(0, _), (1, _), (2, _), (3, _), (4, _)]) dX8_likely_94 rfl rfl ?_
              refine x_iconst dX8_likely_96 ?_
              refine x_istore (lv' := [(0, _), (1, _), (2, _), (3, _), (4, _), (5, _)]) dX8_likely_97 rfl rfl ?_
              exact bl 0 (by omega) K hK (fun x hx => by rw [hA x hx, hf])
            · exfalso; omega
        have zl : ∀ x : Nat, x ≤ 6 → ∀ K : MI, (∀ a j, a ≠ 26 → K a j = L19 a j) → (∀ y : Nat, y < x → K 26 (y : Int) = 0) → Rn G mtX8_likely Q 32 [(0, mr 0), (1, mi ↑v), (2, mi ↑n), (3, mi z19), (4, mi (x : Int))] [] shM I19 K rM := by
          refine lpn 6 (fun x hx ih => ?_) ?_
          · intro K hK hA
            refine x_iload dX8_likely_32 4 rfl ?_
            refine x_bipush dX8_likely_34 (by decide) ?_
            refine x_ic_ge (tgt := 53) dX8_likely_36 (by decide) (by omega) (fun h36 => ?_) (fun h36 => ?_)
            · exfalso; omega
            · refine x_aload_n dX8_likely_39 0 rfl rfl ?_
              refine x_getR dX8_likely_40 flX8_88 rfl rfl rfl ?_
              refine x_iload dX8_likely_43 4 rfl ?_
              refine x_lconst 0 dX8_likely_45 rfl ?_
              refine x_last dX8_likely_46 rfl (by omega) ?_
              refine x_iinc (lv' := [(0, _), (1, _), (2, _), (3, _), (4, _)]) dX8_likely_47 4 rfl rfl rfl ?_
              refine x_goto (tgt := 32) dX8_likely_50 (by decide) ?_
              refine ih _ (fun a j q => by rw [m_up_ne q]; exact hK a j q) (fun y hy => ?_)
              by_cases e : y = x
              · subst e; rw [m_up_eq]
              · rw [m_up_nj (by omega)]; exact hA y (by omega)
          · intro K hK hA
            refine x_iload dX8_likely_32 4 rfl ?_
            refine x_bipush dX8_likely_34 (by decide) ?_
            refine x_ic_ge (tgt := 53) dX8_likely_36 (by decide) (by omega) (fun h36 => ?_) (fun h36 => ?_)
            · refine x_iconst dX8_likely_53 ?_
              refine x_istore (lv' := [(0, _), (1, _), (2, _), (3, _), (4, _)]) dX8_likely_54 rfl rfl ?_
              exact sl 0 (by omega) K hK (fun x hx => by rw [hA x hx]; rfl)
            · exfalso; omega
        exact zl 0 (by omega) _ (fun _ _ _ => rfl) (fun y hy => by omega)
      · refine x_iload_n dX8_likely_27 3 rfl rfl ?_
        refine x_iret dX8_likely_28 rfl ?_
        rw [← hQ]
        by_cases hok : okA I = false
        · have hs : s_likely w t I = (-3, a_mt I 4) := by unfold s_likely; rw [if_neg (by omega), if_pos hok]
          have hl2 : l_likely w t I L = L := by unfold l_likely; rw [if_neg (by omega), if_pos hok]
          rw [if_pos hok] at hz
          rw [hs, hl2, hz]
          exact ⟨_, rfl, rfl, hn1 hok, hLF.pl, rfl⟩
        · have hgt : 1000000000000000 < aw (kap I 0 (I 0 13)) := by
            rw [if_neg hok] at hz
            apply Classical.byContradiction
            intro q
            rw [if_neg q] at hz
            omega
          have hs : s_likely w t I = (-6, I) := by unfold s_likely; rw [if_neg (by omega), if_neg hok, if_pos hgt]
          have hl2 : l_likely w t I L = L := by unfold l_likely; rw [if_neg (by omega), if_neg hok, if_pos hgt]
          rw [if_neg hok, if_pos hgt] at hz
          rw [hs, hl2, hz]
          exact ⟨_, rfl, rfl, kap_pe (hn2 (by rw [Bool.not_eq_false] at hok; exact hok)).1, hLF.pl, rfl⟩
    · refine x_iconst dX8_likely_16 ?_
      refine x_iret dX8_likely_17 rfl ?_
      rw [← hQ]
      have hs : s_likely w t I = (-1, I) := by unfold s_likely; rw [if_pos (by omega)]
      have hl2 : l_likely w t I L = L := by unfold l_likely; rw [if_pos (by omega)]
      rw [hs, hl2]
      exact ⟨_, rfl, rfl, Pe.rf _, PeL.rf _, rfl⟩
end

/-! THE REFERENCE'S QUESTIONS, part two: values that go on from minute to minute. -/
def swC (f : Nat → (Nat → Int) → (Nat → Int)) : Nat → (Nat → Int) → (Nat → Int)
  | 0, W => W
  | c + 1, W => f c (swC f c W)
def swS (V : Nat → Int) (f : Nat → Nat → (Nat → Int) → (Nat → Int)) (m : Nat → Nat) : Nat → (Nat → Int) → (Nat → Int)
  | 0, W => W
  | s + 1, W => if 0 ≤ V s then swC (f s) (m s) (swS V f m s W) else swS V f m s W
theorem swS_t {V : Nat → Int} {f : Nat → Nat → (Nat → Int) → (Nat → Int)} {m : Nat → Nat} {s : Nat} {W : Nat → Int} (h : 0 ≤ V s) : swS V f m (s + 1) W = swC (f s) (m s) (swS V f m s W) := if_pos h
theorem swS_f {V : Nat → Int} {f : Nat → Nat → (Nat → Int) → (Nat → Int)} {m : Nat → Nat} {s : Nat} {W : Nat → Int} (h : ¬ 0 ≤ V s) : swS V f m (s + 1) W = swS V f m s W := if_neg h
def gF (κ : MI) (t s c : Nat) (W : Nat → Int) : Nat → Int := if vld κ t s c && alv κ (t + 1) (nxt κ t s c) then upn W (nxt κ t s c) 0 else W
def gW (κ : MI) (t : Nat) (V : Nat → Int) : Nat → Int := swS V (gF κ t) (fun s => mal κ t s) (nst κ) (fun _ => -1)
def anv (V : Nat → Int) : Nat → Bool
  | 0 => false
  | s + 1 => anv V s || decide (0 ≤ V s)
def bgV (κ : MI) (v : Int) (s : Nat) : Int := if alv κ 0 s then v else -1
def cmf (w o : Nat) (V : Nat → Int) (s : Nat) : Int := if rm s w = rm s o then -1 else V s
def cmV (κ : MI) (w o : Nat) : Nat → Nat → Int
  | 0 => cmf w o (bgV κ 0)
  | t + 1 => cmf w o (gW κ t (cmV κ w o t))
def keF (V : Nat → Int) (w : Nat) (r : Int) (s : Nat) : Int := if 0 ≤ V s ∧ (rm s w : Int) = r then 0 else -1
theorem anv_congr {V W : Nat → Int} {n : Nat} (h : ∀ s, s < n → V s = W s) : anv V n = anv W n := by
  induction n with
  | zero => rfl
  | succ n ih => unfold anv; rw [ih (fun s hs => h s (by omega)), h n (by omega)]
def emN (κ : MI) (t : Nat) : Nat → Int := orf (fun r => if moF κ r t (nst κ) = 0 then z_shl 1 (r : Int) else 0)
def emS (κ : MI) (t : Nat) : Nat → Int := orf (fun r => if 0 < fiF κ r t (nst κ) then z_shl 1 (r : Int) else 0)
noncomputable def s_empty (t : Int) (I : MI) : Int × MI := if t < 0 ∨ I 0 14 < t then (-1, I) else if okA I = false then (-3, a_mt I 4) else (emN (kap I 0 (I 0 13)) t.toNat (I 0 11).toNat, a_tl I (emS (kap I 0 (I 0 13)) t.toNat (I 0 11).toNat))
def whF (κ : MI) (w t : Nat) : Nat → Int := orf (fun s => if alv κ t s then z_shl 1 (rm s w : Int) else 0)
noncomputable def s_where (w t : Int) (I : MI) : Int × MI := if w < 0 ∨ I 0 13 ≤ w ∨ t < 0 ∨ I 0 14 < t then (-1, I) else if okA I = false then (-3, a_mt I 4) else (whF (kap I 0 (I 0 13)) w.toNat t.toNat (nst (kap I 0 (I 0 13))), I)
section
variable {G : GT} {sh : MS} {I L : MI} {R : MR} {κ : MI}

theorem s_X8_empty {t : Int} (hH : iHs I) (hE : iEvs I) (h2 : rI t) : Sp G mtX8_empty [mr 0, mi t] shM I L rM (qi (fun z I' L' R' => z = (s_empty t I).1 ∧ Pe (s_empty t I).2 I' ∧ LF L L' ∧ R' = rM)) := by
  refine Sp.of pnX8_empty rfl ?_
  show Rn G mtX8_empty _ 0 [(0, mr 0), (1, mi t)] [] shM I L rM
  generalize hQ : (qi (fun z I' L' R' => z = (s_empty t I).1 ∧ Pe (s_empty t I).2 I' ∧ LF L L' ∧ R' = rM)) = Q
  have hW := hH.2.2.1
  have hT := hH.2.2.2.1
  have hR := hH.1
  have hl := KA_lst hH (wo := 0) (k := I 0 13)
  refine x_aload_n dX8_empty_0 0 rfl rfl ?_
  refine x_iload_n dX8_empty_1 1 rfl rfl ?_
  refine x_callVi (as := [_]) dX8_empty_2 lvX8_339 rfl rfl rfl rfl rfl rfl rfl ⟨rfl, rfl⟩ (s_X8_isMinute (by omega) (by omega)) (fun z2 I2 L2 R2 hq2 => ?_)
  obtain ⟨rfl, rfl, rfl, rfl⟩ := hq2
  refine y_ifb_ne (tgt := 10) dX8_empty_5 (by decide) (fun h5 => ?_) (fun h5 => ?_)
  · refine x_aload_n dX8_empty_10 0 rfl rfl ?_
    refine x_callVi (as := []) dX8_empty_11 lvX8_342 rfl rfl rfl rfl rfl rfl rfl ⟨rfl, rfl⟩ (s_X8_layAll hH hE) (fun z11 I11 L11 R11 hq11 => ?_)
    obtain ⟨rfl, hE2, hLF, rfl, hTb⟩ := hq11
    refine y_ifb_ne (tgt := 23) dX8_empty_14 (by decide) (fun h14 => ?_) (fun h14 => ?_)
    · refine x_iconst dX8_empty_23 ?_
      refine x_istore_n (lv' := [(0, _), (1, _), (2, _)]) dX8_empty_24 rfl rfl rfl ?_
      refine x_iconst dX8_empty_25 ?_
      refine x_istore_n (lv' := [(0, _), (1, _), (2, _), (3, _)]) dX8_empty_26 rfl rfl rfl ?_
      refine x_iconst dX8_empty_27 ?_
      refine x_istore (lv' := [(0, _), (1, _), (2, _), (3, _), (4, _)]) dX8_empty_28 rfl rfl ?_
      obtain ⟨n, rfl⟩ : ∃ n : Nat, t = n := ⟨t.toNat, by omega⟩
      have hok : okA I = true := by assumption
      have hB := hTb (b01_1.mpr hok)
      have loop : ∀ r : Nat, r ≤ (I 0 11).toNat → ∀ J, E1 (kap I 0 (I 0 13)) J → Rn G mtX8_empty Q 30 [(0, mr 0), (1, mi ↑n), (2, mi (emN (kap I 0 (I 0 13)) n r)), (3, mi (emS (kap I 0 (I 0 13)) n r)), (4, mi (r : Int))] [] shM J L11 rM := by
        refine lpn (I 0 11).toNat (fun r hr ih => ?_) ?_
        · intro J hJ
          have j11 : J 0 11 = I 0 11 := by rw [hJ.at (by unfold sce per; omega), kap_per (by unfold per; omega)]
          have h3 := fiF_r (kap I 0 (I 0 13)) r n (nst (kap I 0 (I 0 13)))
          have h4 := moF_r (kap I 0 (I 0 13)) r n (nst (kap I 0 (I 0 13)))
          have hu := KA_us hH
          refine x_iload dX8_empty_30 4 rfl ?_
          refine x_aload_n dX8_empty_32 0 rfl rfl ?_
          refine x_getI dX8_empty_33 flX8_95 rfl rfl ?_
          refine x_ic_ge (tgt := 88) dX8_empty_36 (by decide) (by first | omega | exact z_and_r _ _ | exact z_or_r _ _ | exact z_xor_r _ _) (fun h36 => ?_) (fun h36 => ?_)
          · exfalso; omega
          · refine x_aload_n dX8_empty_39 0 rfl rfl ?_
            refine x_iload dX8_empty_40 4 rfl ?_
            refine x_iload_n dX8_empty_42 1 rfl rfl ?_
            refine x_callVv (as := [_, _]) dX8_empty_43 lvX8_346 rfl rfl rfl rfl rfl rfl rfl ⟨rfl, rfl⟩ (s_X8_layIn (t := n) hJ (KA_H hH) (KA_S hH hE) hB (by omega) (by omega)) (fun I43 L43 R43 hq43 => ?_)
            obtain ⟨hE5, rfl, rfl, hf5, hm5⟩ := hq43
            refine x_iload_n dX8_empty_46 2 rfl rfl ?_
            refine x_aload_n dX8_empty_47 0 rfl rfl ?_
            refine x_getI dX8_empty_48 flX8_330 rfl rfl ?_
            rw [hm5]
            refine x_if_ne (tgt := 61) dX8_empty_51 (by decide) (by first | omega | exact z_and_r _ _ | exact z_or_r _ _ | exact z_xor_r _ _) (fun h51 => ?_) (fun h51 => ?_)
            · refine x_iconst dX8_empty_61 ?_
              refine x_ior dX8_empty_62 ?_
              refine x_istore_n (lv' := [(0, _), (1, _), (2, _), (3, _), (4, _)]) dX8_empty_63 rfl rfl rfl ?_
              refine x_iload_n dX8_empty_64 3 rfl rfl ?_
              refine x_aload_n dX8_empty_65 0 rfl rfl ?_
              refine x_getI dX8_empty_66 flX8_327 rfl rfl ?_
              rw [hf5]
              refine x_if_le (tgt := 79) dX8_empty_69 (by decide) (by first | omega | exact z_and_r _ _ | exact z_or_r _ _ | exact z_xor_r _ _) (fun h69 => ?_) (fun h69 => ?_)
              · refine x_iconst dX8_empty_79 ?_
                refine x_ior dX8_empty_80 ?_
                refine x_istore_n (lv' := [(0, _), (1, _), (2, _), (3, _), (4, _)]) dX8_empty_81 rfl rfl rfl ?_
                refine x_iinc (lv' := [(0, _), (1, _), (2, _), (3, _), (4, _)]) dX8_empty_82 4 rfl rfl rfl ?_
                refine x_goto (tgt := 30) dX8_empty_85 (by decide) ?_
                have h9 := ih _ hE5
                unfold emN emS orf at h9
                unfold emN emS
                first
                | (rw [if_pos (by assumption), if_pos (by omega)] at h9; exact h9)
                | (rw [if_pos (by assumption), if_neg (by omega)] at h9; exact h9)
                | (rw [if_neg (by assumption), if_pos (by omega)] at h9; exact h9)
                | (rw [if_neg (by assumption), if_neg (by omega)] at h9; exact h9)
              · refine x_iconst dX8_empty_72 ?_
                refine x_iload dX8_empty_73 4 rfl ?_
                refine x_ishl dX8_empty_75 ?_
                refine x_goto (tgt := 80) dX8_empty_76 (by decide) ?_
                refine x_ior dX8_empty_80 ?_
                refine x_istore_n (lv' := [(0, _), (1, _), (2, _), (3, _), (4, _)]) dX8_empty_81 rfl rfl rfl ?_
                refine x_iinc (lv' := [(0, _), (1, _), (2, _), (3, _), (4, _)]) dX8_empty_82 4 rfl rfl rfl ?_
                refine x_goto (tgt := 30) dX8_empty_85 (by decide) ?_
                have h9 := ih _ hE5
                unfold emN emS orf at h9
                unfold emN emS
                first
                | (rw [if_pos (by assumption), if_pos (by omega)] at h9; exact h9)
                | (rw [if_pos (by assumption), if_neg (by omega)] at h9; exact h9)
                | (rw [if_neg (by assumption), if_pos (by omega)] at h9; exact h9)
                | (rw [if_neg (by assumption), if_neg (by omega)] at h9; exact h9)
            · refine x_iconst dX8_empty_54 ?_
              refine x_iload dX8_empty_55 4 rfl ?_
              refine x_ishl dX8_empty_57 ?_
              refine x_goto (tgt := 62) dX8_empty_58 (by decide) ?_
              refine x_ior dX8_empty_62 ?_
              refine x_istore_n (lv' := [(0, _), (1, _), (2, _), (3, _), (4, _)]) dX8_empty_63 rfl rfl rfl ?_
              refine x_iload_n dX8_empty_64 3 rfl rfl ?_
              refine x_aload_n dX8_empty_65 0 rfl rfl ?_
              refine x_getI dX8_empty_66 flX8_327 rfl rfl ?_
              rw [hf5]
              refine x_if_le (tgt := 79) dX8_empty_69 (by decide) (by first | omega | exact z_and_r _ _ | exact z_or_r _ _ | exact z_xor_r _ _) (fun h69 => ?_) (fun h69 => ?_)
              · refine x_iconst dX8_empty_79 ?_
                refine x_ior dX8_empty_80 ?_
                refine x_istore_n (lv' := [(0, _), (1, _), (2, _), (3, _), (4, _)]) dX8_empty_81 rfl rfl rfl ?_
                refine x_iinc (lv' := [(0, _), (1, _), (2, _), (3, _), (4, _)]) dX8_empty_82 4 rfl rfl rfl ?_
                refine x_goto (tgt := 30) dX8_empty_85 (by decide) ?_
                have h9 := ih _ hE5
                unfold emN emS orf at h9
                unfold emN emS
                first
                | (rw [if_pos (by assumption), if_pos (by omega)] at h9; exact h9)
                | (rw [if_pos (by assumption), if_neg (by omega)] at h9; exact h9)
                | (rw [if_neg (by assumption), if_pos (by omega)] at h9; exact h9)
                | (rw [if_neg (by assumption), if_neg (by omega)] at h9; exact h9)
              · refine x_iconst dX8_empty_72 ?_
                refine x_iload dX8_empty_73 4 rfl ?_
                refine x_ishl dX8_empty_75 ?_
                refine x_goto (tgt := 80) dX8_empty_76 (by decide) ?_
                refine x_ior dX8_empty_80 ?_
                refine x_istore_n (lv' := [(0, _), (1, _), (2, _), (3, _), (4, _)]) dX8_empty_81 rfl rfl rfl ?_
                refine x_iinc (lv' := [(0, _), (1, _), (2, _), (3, _), (4, _)]) dX8_empty_82 4 rfl rfl rfl ?_
                refine x_goto (tgt := 30) dX8_empty_85 (by decide) ?_
                have h9 := ih _ hE5
                unfold emN emS orf at h9
                unfold emN emS
                first
                | (rw [if_pos (by assumption), if_pos (by omega)] at h9; exact h9)
                | (rw [if_pos (by assumption), if_neg (by omega)] at h9; exact h9)
                | (rw [if_neg (by assumption), if_pos (by omega)] at h9; exact h9)
                | (rw [if_neg (by assumption), if_neg (by omega)] at h9; exact h9)
        · intro J hJ
          have j11 : J 0 11 = I 0 11 := by rw [hJ.at (by unfold sce per; omega), kap_per (by unfold per; omega)]
          refine x_iload dX8_empty_30 4 rfl ?_
          refine x_aload_n dX8_empty_32 0 rfl rfl ?_
          refine x_getI dX8_empty_33 flX8_95 rfl rfl ?_
          refine x_ic_ge (tgt := 88) dX8_empty_36 (by decide) (by first | omega | exact z_and_r _ _ | exact z_or_r _ _ | exact z_xor_r _ _) (fun h36 => ?_) (fun h36 => ?_)
          · refine x_aload_n dX8_empty_88 0 rfl rfl ?_
            refine x_iload_n dX8_empty_89 3 rfl rfl ?_
            refine x_iload_n dX8_empty_90 2 rfl rfl ?_
            refine x_callVi (as := [_, _]) dX8_empty_91 lvX8_130 rfl rfl rfl rfl rfl rfl rfl ⟨rfl, rfl⟩ (s_X8_tells) (fun z91 I91 L91 R91 hq91 => ?_)
            obtain ⟨rfl, rfl, rfl, rfl⟩ := hq91
            refine x_iret dX8_empty_94 rfl ?_
            rw [← hQ]
            have hs : s_empty n I = (emN (kap I 0 (I 0 13)) n (I 0 11).toNat, a_tl I (emS (kap I 0 (I 0 13)) n (I 0 11).toNat)) := by
              unfold s_empty
              rw [if_neg (by omega), if_neg (by rw [hok]; decide), Int.toNat_natCast]
            rw [hs]
            exact ⟨_, rfl, rfl, (kap_pe hJ).tl _, hLF, rfl⟩
          · exfalso; omega
      exact loop 0 (by omega) _ hE2
    · refine x_aload_n dX8_empty_17 0 rfl rfl ?_
      refine x_iconst dX8_empty_18 ?_
      refine x_callVi (as := [_]) dX8_empty_19 lvX8_122 rfl rfl rfl rfl rfl rfl rfl ⟨rfl, rfl⟩ (s_X8_meets (by omega)) (fun z19 I19 L19 R19 hq19 => ?_)
      obtain ⟨rfl, rfl, rfl, rfl⟩ := hq19
      refine x_iret dX8_empty_22 rfl ?_
      rw [← hQ]
      have hs : s_empty t I = (-3, a_mt I 4) := by
        unfold s_empty
        rw [if_neg (by omega), if_pos (by rw [← Bool.not_eq_true]; assumption)]
      rw [hs]
      exact ⟨_, rfl, rfl, (kap_pe hE2).mt 4, hLF, rfl⟩
  · refine x_iconst dX8_empty_8 ?_
    refine x_iret dX8_empty_9 rfl ?_
    rw [← hQ]
    have hs : s_empty t I = (-1, I) := by unfold s_empty; rw [if_pos (by omega)]
    rw [hs]
    exact ⟨_, rfl, rfl, Pe.rf _, LF.rf _, rfl⟩
theorem s_X8_where {w t : Int} (hH : iHs I) (hE : iEvs I) (h1 : rI w) (h2 : rI t) : Sp G mtX8_where [mr 0, mi w, mi t] shM I L rM (qi (fun z I' L' R' => z = (s_where w t I).1 ∧ Pe (s_where w t I).2 I' ∧ LF L L' ∧ R' = rM)) := by
  refine Sp.of pnX8_where rfl ?_
  show Rn G mtX8_where _ 0 [(0, mr 0), (1, mi w), (2, mi t)] [] shM I L rM
  generalize hQ : (qi (fun z I' L' R' => z = (s_where w t I).1 ∧ Pe (s_where w t I).2 I' ∧ LF L L' ∧ R' = rM)) = Q
  have hW := hH.2.2.1
  have hT := hH.2.2.2.1
  have hR := hH.1
  have hl := KA_lst hH (wo := 0) (k := I 0 13)
  have hu := KA_us hH
  have hnn := nst_le (KA_H hH) (KA_S hH hE)
  refine x_aload_n dX8_where_0 0 rfl rfl ?_
  refine x_iload_n dX8_where_1 1 rfl rfl ?_
  refine x_callVi (as := [_]) dX8_where_2 lvX8_224 rfl rfl rfl rfl rfl rfl rfl ⟨rfl, rfl⟩ (s_X8_isWalker (by omega) (by omega)) (fun z2 I2 L2 R2 hq2 => ?_)
  obtain ⟨rfl, rfl, rfl, rfl⟩ := hq2
  refine y_ifb_eq (tgt := 16) dX8_where_5 (by decide) (fun h5 => ?_) (fun h5 => ?_)
  · refine x_iconst dX8_where_16 ?_
    refine x_iret dX8_where_17 rfl ?_
    rw [← hQ]
    have hs : s_where w t I = (-1, I) := by unfold s_where; rw [if_pos (by omega)]
    rw [hs]
    exact ⟨_, rfl, rfl, Pe.rf _, LF.rf _, rfl⟩
  · refine x_aload_n dX8_where_8 0 rfl rfl ?_
    refine x_iload_n dX8_where_9 2 rfl rfl ?_
    refine x_callVi (as := [_]) dX8_where_10 lvX8_339 rfl rfl rfl rfl rfl rfl rfl ⟨rfl, rfl⟩ (s_X8_isMinute (by omega) (by omega)) (fun z10 I10 L10 R10 hq10 => ?_)
    obtain ⟨rfl, rfl, rfl, rfl⟩ := hq10
    refine y_ifb_ne (tgt := 18) dX8_where_13 (by decide) (fun h13 => ?_) (fun h13 => ?_)
    · refine x_aload_n dX8_where_18 0 rfl rfl ?_
      refine x_callVi (as := []) dX8_where_19 lvX8_342 rfl rfl rfl rfl rfl rfl rfl ⟨rfl, rfl⟩ (s_X8_layAll hH hE) (fun z19 I19 L19 R19 hq19 => ?_)
      obtain ⟨rfl, hE2, hLF, rfl, hTb⟩ := hq19
      refine y_ifb_ne (tgt := 31) dX8_where_22 (by decide) (fun h22 => ?_) (fun h22 => ?_)
      · refine x_iconst dX8_where_31 ?_
        refine x_istore_n (lv' := [(0, _), (1, _), (2, _), (3, _)]) dX8_where_32 rfl rfl rfl ?_
        refine x_iconst dX8_where_33 ?_
        refine x_istore (lv' := [(0, _), (1, _), (2, _), (3, _), (4, _)]) dX8_where_34 rfl rfl ?_
        obtain ⟨n, rfl⟩ : ∃ n : Nat, t = n := ⟨t.toNat, by omega⟩
        obtain ⟨v, rfl⟩ : ∃ n : Nat, w = n := ⟨w.toNat, by omega⟩
        have hok : okA I = true := by assumption
        have hB := hTb (b01_1.mpr hok)
        have loop : ∀ s : Nat, s ≤ nst (kap I 0 (I 0 13)) → Rn G mtX8_where Q 36 [(0, mr 0), (1, mi ↑v), (2, mi ↑n), (3, mi (whF (kap I 0 (I 0 13)) v n s)), (4, mi (s : Int))] [] shM I19 L19 rM := by
          refine lpn _ (fun s hs ih => ?_) ?_
          · have hB2 := hB n s (by omega) hs
            have hr := rm_lt (w := v) (show s < 1728 by omega)
            refine x_iload dX8_where_36 4 rfl ?_
            refine x_aload_n dX8_where_38 0 rfl rfl ?_
            refine x_callVi (as := []) dX8_where_39 lvX8_286 rfl rfl rfl rfl rfl rfl rfl ⟨rfl, rfl⟩ (s_X8_states hE2 (KA_H hH) (KA_S hH hE)) (fun z39 I39 L39 R39 hq39 => ?_)
            obtain ⟨rfl, rfl, rfl, rfl⟩ := hq39
            refine x_ic_ge (tgt := 77) dX8_where_42 (by decide) (by first | omega | exact z_and_r _ _ | exact z_or_r _ _ | exact z_xor_r _ _) (fun h42 => ?_) (fun h42 => ?_)
            · exfalso; omega
            · refine x_iload_n dX8_where_45 3 rfl rfl ?_
              refine x_aload_n dX8_where_46 0 rfl rfl ?_
              refine x_iload_n dX8_where_47 2 rfl rfl ?_
              refine x_iload dX8_where_48 4 rfl ?_
              refine x_callVi (as := [_, _]) dX8_where_50 lvX8_333 rfl rfl rfl rfl rfl rfl rfl ⟨rfl, rfl⟩ (s_X8_isAlive (KA_H hH) (KA_S hH hE) (by omega) hs hB2.1 hB2.2) (fun z50 I50 L50 R50 hq50 => ?_)
              obtain ⟨rfl, rfl, rfl, rfl⟩ := hq50
              refine y_ifb_eq (tgt := 68) dX8_where_53 (by decide) (fun h53 => ?_) (fun h53 => ?_)
              · refine x_iconst dX8_where_68 ?_
                refine x_ior dX8_where_69 ?_
                refine x_istore_n (lv' := [(0, _), (1, _), (2, _), (3, _), (4, _)]) dX8_where_70 rfl rfl rfl ?_
                refine x_iinc (lv' := [(0, _), (1, _), (2, _), (3, _), (4, _)]) dX8_where_71 4 rfl rfl rfl ?_
                refine x_goto (tgt := 36) dX8_where_74 (by decide) ?_
                unfold whF orf at ih
                unfold whF
                first
                | (rw [if_pos (by assumption)] at ih; exact ih)
                | (rw [if_neg (by assumption)] at ih; exact ih)
              · refine x_iconst dX8_where_56 ?_
                refine x_aload_n dX8_where_57 0 rfl rfl ?_
                refine x_iload dX8_where_58 4 rfl ?_
                refine x_iload_n dX8_where_60 1 rfl rfl ?_
                refine x_callVi (as := [_, _]) dX8_where_61 lvX8_261 rfl rfl rfl rfl rfl rfl rfl ⟨rfl, rfl⟩ (s_X8_roomOf (by omega) (by omega)) (fun z61 I61 L61 R61 hq61 => ?_)
                obtain ⟨rfl, rfl, rfl, rfl⟩ := hq61
                refine x_ishl dX8_where_64 ?_
                refine x_goto (tgt := 69) dX8_where_65 (by decide) ?_
                refine x_ior dX8_where_69 ?_
                refine x_istore_n (lv' := [(0, _), (1, _), (2, _), (3, _), (4, _)]) dX8_where_70 rfl rfl rfl ?_
                refine x_iinc (lv' := [(0, _), (1, _), (2, _), (3, _), (4, _)]) dX8_where_71 4 rfl rfl rfl ?_
                refine x_goto (tgt := 36) dX8_where_74 (by decide) ?_
                unfold whF orf at ih
                unfold whF
                first
                | (rw [if_pos (by assumption)] at ih; exact ih)
                | (rw [if_neg (by assumption)] at ih; exact ih)
          · refine x_iload dX8_where_36 4 rfl ?_
            refine x_aload_n dX8_where_38 0 rfl rfl ?_
            refine x_callVi (as := []) dX8_where_39 lvX8_286 rfl rfl rfl rfl rfl rfl rfl ⟨rfl, rfl⟩ (s_X8_states hE2 (KA_H hH) (KA_S hH hE)) (fun z39 I39 L39 R39 hq39 => ?_)
            obtain ⟨rfl, rfl, rfl, rfl⟩ := hq39
            refine x_ic_ge (tgt := 77) dX8_where_42 (by decide) (by first | omega | exact z_and_r _ _ | exact z_or_r _ _ | exact z_xor_r _ _) (fun h42 => ?_) (fun h42 => ?_)
            · refine x_iload_n dX8_where_77 3 rfl rfl ?_
              refine x_iret dX8_where_78 rfl ?_
              rw [← hQ]
              have hs : s_where v n I = (whF (kap I 0 (I 0 13)) v n (nst (kap I 0 (I 0 13))), I) := by
                unfold s_where
                rw [if_neg (by omega), if_neg (by rw [hok]; decide), Int.toNat_natCast, Int.toNat_natCast]
              rw [hs]
              exact ⟨_, rfl, rfl, kap_pe hE2, hLF, rfl⟩
            · exfalso; omega
        exact loop 0 (by omega)
      · refine x_aload_n dX8_where_25 0 rfl rfl ?_
        refine x_iconst dX8_where_26 ?_
        refine x_callVi (as := [_]) dX8_where_27 lvX8_122 rfl rfl rfl rfl rfl rfl rfl ⟨rfl, rfl⟩ (s_X8_meets (by omega)) (fun z27 I27 L27 R27 hq27 => ?_)
        obtain ⟨rfl, rfl, rfl, rfl⟩ := hq27
        refine x_iret dX8_where_30 rfl ?_
        rw [← hQ]
        have hs : s_where w t I = (-3, a_mt I 4) := by
          unfold s_where
          rw [if_neg (by omega), if_pos (by rw [← Bool.not_eq_true]; assumption)]
        rw [hs]
        exact ⟨_, rfl, rfl, (kap_pe hE2).mt 4, hLF, rfl⟩
    · refine x_iconst dX8_where_16 ?_
      refine x_iret dX8_where_17 rfl ?_
      rw [← hQ]
      have hs : s_where w t I = (-1, I) := by unfold s_where; rw [if_pos (by omega)]
      rw [hs]
      exact ⟨_, rfl, rfl, Pe.rf _, LF.rf _, rfl⟩
theorem s_X8_turnValues  (h0 : E1 κ I) (hH : iHs κ) (hS : iSc κ) : Sp G mtX8_turnValues [mr 0] shM I L rM (qv (fun I' L' R' => L = L' ∧ R' = rM ∧ (∀ c j, c ≠ 24 → c ≠ 25 → I' c j = I c j) ∧ ∀ s : Nat, s < nst κ → I' 24 (s : Int) = I 25 (s : Int) ∧ I' 25 (s : Int) = -1)) := by
  refine Sp.of pnX8_turnValues rfl ?_
  show Rn G mtX8_turnValues _ 0 [(0, mr 0)] [] shM I L rM
  generalize hQ : (qv (fun I' L' R' => L = L' ∧ R' = rM ∧ (∀ c j, c ≠ 24 → c ≠ 25 → I' c j = I c j) ∧ ∀ s : Nat, s < nst κ → I' 24 (s : Int) = I 25 (s : Int) ∧ I' 25 (s : Int) = -1)) = Q
  have hnn := nst_le hH hS
  have loop : ∀ k : Nat, k ≤ nst κ → ∀ J, E1 κ J → (∀ c j, c ≠ 24 → c ≠ 25 → J c j = I c j) → (∀ s : Nat, s < k → J 24 (s : Int) = I 25 (s : Int) ∧ J 25 (s : Int) = -1) → (∀ s : Nat, k ≤ s → J 25 (s : Int) = I 25 (s : Int)) → Rn G mtX8_turnValues Q 2 [(0, mr 0), (1, mi (k : Int))] [] shM J L rM := by
    refine lpn _ (fun k hk ih => ?_) ?_
    · intro J hJ h1 h2 h3
      refine x_iload_n dX8_turnValues_2 1 rfl rfl ?_
      refine x_aload_n dX8_turnValues_3 0 rfl rfl ?_
      refine x_callVi (as := []) dX8_turnValues_4 lvX8_286 rfl rfl rfl rfl rfl rfl rfl ⟨rfl, rfl⟩ (s_X8_states hJ hH hS) (fun z4 I4 L4 R4 hq4 => ?_)
      obtain ⟨rfl, rfl, rfl, rfl⟩ := hq4
      refine x_ic_ge (tgt := 35) dX8_turnValues_7 (by decide) (by first | omega | exact z_and_r _ _ | exact z_or_r _ _ | exact z_xor_r _ _) (fun h7 => ?_) (fun h7 => ?_)
      · exfalso; omega
      · refine x_aload_n dX8_turnValues_10 0 rfl rfl ?_
        refine x_getR dX8_turnValues_11 flX8_82 rfl rfl rfl ?_
        refine x_iload_n dX8_turnValues_14 1 rfl rfl ?_
        refine x_aload_n dX8_turnValues_15 0 rfl rfl ?_
        refine x_getR dX8_turnValues_16 flX8_85 rfl rfl rfl ?_
        refine x_iload_n dX8_turnValues_19 1 rfl rfl ?_
        refine x_iald dX8_turnValues_20 rfl (by omega) ?_
        refine x_iast dX8_turnValues_21 rfl (by omega) ?_
        refine x_aload_n dX8_turnValues_22 0 rfl rfl ?_
        refine x_getR dX8_turnValues_23 flX8_85 rfl rfl rfl ?_
        refine x_iload_n dX8_turnValues_26 1 rfl rfl ?_
        refine x_iconst dX8_turnValues_27 ?_
        refine x_iast dX8_turnValues_28 rfl (by omega) ?_
        refine x_iinc (lv' := [(0, _), (1, _)]) dX8_turnValues_29 1 rfl rfl rfl ?_
        refine x_goto (tgt := 2) dX8_turnValues_32 (by decide) ?_
        refine ih _ ((hJ.up (by unfold sce per; omega)).up (by unfold sce per; omega)) (fun c j q1 q2 => by rw [m_up_ne q2, m_up_ne q1]; exact h1 c j q1 q2) (fun s hs => ?_) (fun s hs => by rw [m_up_nj (by omega), m_up_ne (by decide)]; exact h3 s (by omega))
        by_cases e : s = k
        · subst e
          rw [m_up_ne (by decide), m_up_eq, m_up_eq]
          exact ⟨h3 s (by omega), rfl⟩
        · rw [m_up_ne (by decide), m_up_nj (by omega), m_up_nj (by omega), m_up_ne (by decide)]
          exact h2 s (by omega)
    · intro J hJ h1 h2 h3
      refine x_iload_n dX8_turnValues_2 1 rfl rfl ?_
      refine x_aload_n dX8_turnValues_3 0 rfl rfl ?_
      refine x_callVi (as := []) dX8_turnValues_4 lvX8_286 rfl rfl rfl rfl rfl rfl rfl ⟨rfl, rfl⟩ (s_X8_states hJ hH hS) (fun z4 I4 L4 R4 hq4 => ?_)
      obtain ⟨rfl, rfl, rfl, rfl⟩ := hq4
      refine x_ic_ge (tgt := 35) dX8_turnValues_7 (by decide) (by first | omega | exact z_and_r _ _ | exact z_or_r _ _ | exact z_xor_r _ _) (fun h7 => ?_) (fun h7 => ?_)
      · refine x_vret dX8_turnValues_35 rfl ?_
        rw [← hQ]
        exact ⟨rfl, rfl, rfl, h1, fun s hs => h2 s hs⟩
      · exfalso; omega
  refine x_iconst dX8_turnValues_0 ?_
  refine x_istore_n (lv' := [(0, _), (1, _)]) dX8_turnValues_1 rfl rfl rfl ?_
  exact loop 0 (by omega) I h0 (fun _ _ _ _ => rfl) (fun s hs => by omega) (fun _ _ => rfl)
theorem s_X8_beginValues {v : Int} (h0 : E1 κ I) (hH : iHs κ) (hS : iSc κ) (hB : Tb κ L) : Sp G mtX8_beginValues [mr 0, mi v] shM I L rM (qv (fun I' L' R' => L = L' ∧ R' = rM ∧ (∀ c j, c ≠ 24 → c ≠ 25 → I' c j = I c j) ∧ ∀ s : Nat, s < nst κ → I' 24 (s : Int) = bgV κ v s ∧ I' 25 (s : Int) = -1)) := by
  refine Sp.of pnX8_beginValues rfl ?_
  show Rn G mtX8_beginValues _ 0 [(0, mr 0), (1, mi v)] [] shM I L rM
  generalize hQ : (qv (fun I' L' R' => L = L' ∧ R' = rM ∧ (∀ c j, c ≠ 24 → c ≠ 25 → I' c j = I c j) ∧ ∀ s : Nat, s < nst κ → I' 24 (s : Int) = bgV κ v s ∧ I' 25 (s : Int) = -1)) = Q
  have hnn := nst_le hH hS
  have loop : ∀ k : Nat, k ≤ nst κ → ∀ J, E1 κ J → (∀ c j, c ≠ 24 → c ≠ 25 → J c j = I c j) → (∀ s : Nat, s < k → J 24 (s : Int) = bgV κ v s ∧ J 25 (s : Int) = -1) → Rn G mtX8_beginValues Q 2 [(0, mr 0), (1, mi v), (2, mi (k : Int))] [] shM J L rM := by
    refine lpn _ (fun k hk ih => ?_) ?_
    · intro J hJ h1 h2
      have hB2 := hB 0 k (by omega) hk
      have nx : ∀ x : Int, x = bgV κ v k → Rn G mtX8_beginValues Q 29 [(0, mr 0), (1, mi v), (2, mi (k : Int))] [mi x, mi (k : Int), mr 24] shM J L rM := by
        intro x hx
        refine x_iast dX8_beginValues_29 rfl (by omega) ?_
        refine x_aload_n dX8_beginValues_30 0 rfl rfl ?_
        refine x_getR dX8_beginValues_31 flX8_85 rfl rfl rfl ?_
        refine x_iload_n dX8_beginValues_34 2 rfl rfl ?_
        refine x_iconst dX8_beginValues_35 ?_
        refine x_iast dX8_beginValues_36 rfl (by omega) ?_
        refine x_iinc (lv' := [(0, _), (1, _), (2, _)]) dX8_beginValues_37 2 rfl rfl rfl ?_
        refine x_goto (tgt := 2) dX8_beginValues_40 (by decide) ?_
        refine ih _ ((hJ.up (by unfold sce per; omega)).up (by unfold sce per; omega)) (fun c j q1 q2 => by rw [m_up_ne q2, m_up_ne q1]; exact h1 c j q1 q2) (fun s hs => ?_)
        by_cases e : s = k
        · subst e
          rw [m_up_ne (by decide), m_up_eq, m_up_eq]
          exact ⟨hx, rfl⟩
        · rw [m_up_ne (by decide), m_up_nj (by omega), m_up_nj (by omega), m_up_ne (by decide)]
          exact h2 s (by omega)
      refine x_iload_n dX8_beginValues_2 2 rfl rfl ?_
      refine x_aload_n dX8_beginValues_3 0 rfl rfl ?_
      refine x_callVi (as := []) dX8_beginValues_4 lvX8_286 rfl rfl rfl rfl rfl rfl rfl ⟨rfl, rfl⟩ (s_X8_states hJ hH hS) (fun z4 I4 L4 R4 hq4 => ?_)
      obtain ⟨rfl, rfl, rfl, rfl⟩ := hq4
      refine x_ic_ge (tgt := 43) dX8_beginValues_7 (by decide) (by first | omega | exact z_and_r _ _ | exact z_or_r _ _ | exact z_xor_r _ _) (fun h7 => ?_) (fun h7 => ?_)
      · exfalso; omega
      · refine x_aload_n dX8_beginValues_10 0 rfl rfl ?_
        refine x_getR dX8_beginValues_11 flX8_82 rfl rfl rfl ?_
        refine x_iload_n dX8_beginValues_14 2 rfl rfl ?_
        refine x_aload_n dX8_beginValues_15 0 rfl rfl ?_
        refine x_iconst dX8_beginValues_16 ?_
        refine x_iload_n dX8_beginValues_17 2 rfl rfl ?_
        refine x_callVi (as := [_, _]) dX8_beginValues_18 lvX8_333 rfl rfl rfl rfl rfl rfl rfl ⟨rfl, rfl⟩ (s_X8_isAlive (t := 0) hH hS (by omega) hk hB2.1 hB2.2) (fun z18 I18 L18 R18 hq18 => ?_)
        obtain ⟨rfl, rfl, rfl, rfl⟩ := hq18
        refine y_ifb_eq (tgt := 28) dX8_beginValues_21 (by decide) (fun h21 => ?_) (fun h21 => ?_)
        · refine x_iconst dX8_beginValues_28 ?_
          first | exact nx _ (if_pos (by assumption)).symm | exact nx _ (if_neg (by assumption)).symm
        · refine x_iload_n dX8_beginValues_24 1 rfl rfl ?_
          refine x_goto (tgt := 29) dX8_beginValues_25 (by decide) ?_
          first | exact nx _ (if_pos (by assumption)).symm | exact nx _ (if_neg (by assumption)).symm
    · intro J hJ h1 h2
      refine x_iload_n dX8_beginValues_2 2 rfl rfl ?_
      refine x_aload_n dX8_beginValues_3 0 rfl rfl ?_
      refine x_callVi (as := []) dX8_beginValues_4 lvX8_286 rfl rfl rfl rfl rfl rfl rfl ⟨rfl, rfl⟩ (s_X8_states hJ hH hS) (fun z4 I4 L4 R4 hq4 => ?_)
      obtain ⟨rfl, rfl, rfl, rfl⟩ := hq4
      refine x_ic_ge (tgt := 43) dX8_beginValues_7 (by decide) (by first | omega | exact z_and_r _ _ | exact z_or_r _ _ | exact z_xor_r _ _) (fun h7 => ?_) (fun h7 => ?_)
      · refine x_vret dX8_beginValues_43 rfl ?_
        rw [← hQ]
        exact ⟨rfl, rfl, rfl, h1, fun s hs => h2 s hs⟩
      · exfalso; omega
  refine x_iconst dX8_beginValues_0 ?_
  refine x_istore_n (lv' := [(0, _), (1, _), (2, _)]) dX8_beginValues_1 rfl rfl rfl ?_
  exact loop 0 (by omega) I h0 (fun _ _ _ _ => rfl) (fun s hs => by omega)
theorem s_X8_anyValue {V : Nat → Int} (h0 : E1 κ I) (hH : iHs κ) (hS : iSc κ) (hV : ∀ s : Nat, s < nst κ → I 24 (s : Int) = V s) (hr : ∀ s, rI (V s)) : Sp G mtX8_anyValue [mr 0] shM I L rM (qi (pu (b01 (anv V (nst κ) = true)) I L rM)) := by
  refine Sp.of pnX8_anyValue rfl ?_
  show Rn G mtX8_anyValue _ 0 [(0, mr 0)] [] shM I L rM
  generalize hQ : (qi (pu (b01 (anv V (nst κ) = true)) I L rM)) = Q
  have hnn := nst_le hH hS
  have loop : ∀ k : Nat, k ≤ nst κ → ∀ c : Int, c = b01 (anv V k = true) → Rn G mtX8_anyValue Q 4 [(0, mr 0), (1, mi c), (2, mi (k : Int))] [] shM I L rM := by
    refine lpn _ (fun k hk ih => ?_) ?_
    · intro c hc
      have hc2 : 0 ≤ c ∧ c ≤ 1 := by rw [hc]; exact b01_r _
      have hv := hV k hk
      have hr2 := hr k
      have nx : ∀ v : Int, (v = 1 ∧ (c ≠ 0 ∨ 0 ≤ V k) ∨ v = 0 ∧ c = 0 ∧ ¬ 0 ≤ V k) → v = b01 (anv V (k + 1) = true) := by
        intro v hv
        rcases hv with ⟨rfl, hv⟩ | ⟨rfl, hv, hv2⟩
        · apply b01_t
          unfold anv
          rw [Bool.or_eq_true, decide_eq_true_eq]
          rcases hv with hv | hv
          · exact Or.inl (b01_ne.mp (by rw [← hc]; exact hv))
          · exact Or.inr hv
        · apply b01_f
          unfold anv
          rw [Bool.or_eq_true, decide_eq_true_eq]
          rintro (h | h)
          · exact (b01_eq.mp (by rw [← hc]; exact hv)) h
          · exact hv2 h
      refine x_iload_n dX8_anyValue_4 2 rfl rfl ?_
      refine x_aload_n dX8_anyValue_5 0 rfl rfl ?_
      refine x_callVi (as := []) dX8_anyValue_6 lvX8_286 rfl rfl rfl rfl rfl rfl rfl ⟨rfl, rfl⟩ (s_X8_states h0 hH hS) (fun z6 I6 L6 R6 hq6 => ?_)
      obtain ⟨rfl, rfl, rfl, rfl⟩ := hq6
      refine x_ic_ge (tgt := 37) dX8_anyValue_9 (by decide) (by first | omega | exact z_and_r _ _ | exact z_or_r _ _ | exact z_xor_r _ _) (fun h9 => ?_) (fun h9 => ?_)
      · exfalso; omega
      · refine x_iload_n dX8_anyValue_12 1 rfl rfl ?_
        refine x_if_ne (tgt := 25) dX8_anyValue_13 (by decide) (by first | omega | exact z_and_r _ _ | exact z_or_r _ _ | exact z_xor_r _ _) (fun h13 => ?_) (fun h13 => ?_)
        · refine x_iconst dX8_anyValue_25 ?_
          refine x_goto (tgt := 30) dX8_anyValue_26 (by decide) ?_
          refine x_istore_n (lv' := [(0, _), (1, _), (2, _)]) dX8_anyValue_30 rfl rfl rfl ?_
          refine x_iinc (lv' := [(0, _), (1, _), (2, _)]) dX8_anyValue_31 2 rfl rfl rfl ?_
          refine x_goto (tgt := 4) dX8_anyValue_34 (by decide) ?_
          exact ih _ (nx _ (by omega))
        · refine x_aload_n dX8_anyValue_16 0 rfl rfl ?_
          refine x_getR dX8_anyValue_17 flX8_82 rfl rfl rfl ?_
          refine x_iload_n dX8_anyValue_20 2 rfl rfl ?_
          refine x_iald dX8_anyValue_21 rfl (by omega) ?_
          refine x_if_lt (tgt := 29) dX8_anyValue_22 (by decide) (by first | omega | exact z_and_r _ _ | exact z_or_r _ _ | exact z_xor_r _ _) (fun h22 => ?_) (fun h22 => ?_)
          · refine x_iconst dX8_anyValue_29 ?_
            refine x_istore_n (lv' := [(0, _), (1, _), (2, _)]) dX8_anyValue_30 rfl rfl rfl ?_
            refine x_iinc (lv' := [(0, _), (1, _), (2, _)]) dX8_anyValue_31 2 rfl rfl rfl ?_
            refine x_goto (tgt := 4) dX8_anyValue_34 (by decide) ?_
            exact ih _ (nx _ (by omega))
          · refine x_iconst dX8_anyValue_25 ?_
            refine x_goto (tgt := 30) dX8_anyValue_26 (by decide) ?_
            refine x_istore_n (lv' := [(0, _), (1, _), (2, _)]) dX8_anyValue_30 rfl rfl rfl ?_
            refine x_iinc (lv' := [(0, _), (1, _), (2, _)]) dX8_anyValue_31 2 rfl rfl rfl ?_
            refine x_goto (tgt := 4) dX8_anyValue_34 (by decide) ?_
            exact ih _ (nx _ (by omega))
    · intro c hc
      have hc2 : 0 ≤ c ∧ c ≤ 1 := by rw [hc]; exact b01_r _
      refine x_iload_n dX8_anyValue_4 2 rfl rfl ?_
      refine x_aload_n dX8_anyValue_5 0 rfl rfl ?_
      refine x_callVi (as := []) dX8_anyValue_6 lvX8_286 rfl rfl rfl rfl rfl rfl rfl ⟨rfl, rfl⟩ (s_X8_states h0 hH hS) (fun z6 I6 L6 R6 hq6 => ?_)
      obtain ⟨rfl, rfl, rfl, rfl⟩ := hq6
      refine x_ic_ge (tgt := 37) dX8_anyValue_9 (by decide) (by first | omega | exact z_and_r _ _ | exact z_or_r _ _ | exact z_xor_r _ _) (fun h9 => ?_) (fun h9 => ?_)
      · refine x_iload_n dX8_anyValue_37 1 rfl rfl ?_
        refine x_zret dX8_anyValue_38 rfl (by omega) ?_
        rw [← hQ]
        exact ⟨_, rfl, hc, rfl, rfl, rfl⟩
      · exfalso; omega
  refine x_iconst dX8_anyValue_0 ?_
  refine x_istore_n (lv' := [(0, _), (1, _)]) dX8_anyValue_1 rfl rfl rfl ?_
  refine x_iconst dX8_anyValue_2 ?_
  refine x_istore_n (lv' := [(0, _), (1, _), (2, _)]) dX8_anyValue_3 rfl rfl rfl ?_
  exact loop 0 (by omega) _ (b01_f (by unfold anv; decide))
theorem s_X8_areIn {s w o : Nat} (hs : s < 1728) (hw : w < 3) (ho : o < 3) : Sp G mtX8_areIn [mr 0, mi ↑s, mi ↑w, mi ↑o] shM I L rM (qi (pu (b01 (rm s w = rm s o)) I L rM)) := by
  refine Sp.of pnX8_areIn rfl ?_
  show Rn G mtX8_areIn _ 0 [(0, mr 0), (1, mi ↑s), (2, mi ↑w), (3, mi ↑o)] [] shM I L rM
  generalize hQ : (qi (pu (b01 (rm s w = rm s o)) I L rM)) = Q
  have h1 := rm_lt (w := w) hs
  have h2 := rm_lt (w := o) hs
  refine x_aload_n dX8_areIn_0 0 rfl rfl ?_
  refine x_iload_n dX8_areIn_1 1 rfl rfl ?_
  refine x_iload_n dX8_areIn_2 2 rfl rfl ?_
  refine x_callVi (as := [_, _]) dX8_areIn_3 lvX8_261 rfl rfl rfl rfl rfl rfl rfl ⟨rfl, rfl⟩ (s_X8_roomOf (by omega) (by omega)) (fun z3 I3 L3 R3 hq3 => ?_)
  obtain ⟨rfl, rfl, rfl, rfl⟩ := hq3
  refine x_aload_n dX8_areIn_6 0 rfl rfl ?_
  refine x_iload_n dX8_areIn_7 1 rfl rfl ?_
  refine x_iload_n dX8_areIn_8 3 rfl rfl ?_
  refine x_callVi (as := [_, _]) dX8_areIn_9 lvX8_261 rfl rfl rfl rfl rfl rfl rfl ⟨rfl, rfl⟩ (s_X8_roomOf (by omega) (by omega)) (fun z9 I9 L9 R9 hq9 => ?_)
  obtain ⟨rfl, rfl, rfl, rfl⟩ := hq9
  refine x_ic_ne (tgt := 19) dX8_areIn_12 (by decide) (by first | omega | exact z_and_r _ _ | exact z_or_r _ _ | exact z_xor_r _ _) (fun h12 => ?_) (fun h12 => ?_)
  · refine x_iconst dX8_areIn_19 ?_
    refine x_zret dX8_areIn_20 rfl (by omega) ?_
    rw [← hQ]
    first | exact ⟨_, rfl, b01_t (by omega), rfl, rfl, rfl⟩ | exact ⟨_, rfl, b01_f (by omega), rfl, rfl, rfl⟩
  · refine x_iconst dX8_areIn_15 ?_
    refine x_goto (tgt := 20) dX8_areIn_16 (by decide) ?_
    refine x_zret dX8_areIn_20 rfl (by omega) ?_
    rw [← hQ]
    first | exact ⟨_, rfl, b01_t (by omega), rfl, rfl, rfl⟩ | exact ⟨_, rfl, b01_f (by omega), rfl, rfl, rfl⟩
end

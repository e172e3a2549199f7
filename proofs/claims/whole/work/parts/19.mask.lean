/-! THE REFERENCE'S QUESTIONS, part one. -/
theorem Pe.mt {I I' : MI} (h : Pe I I') (f : Int) : Pe (a_mt I f) (a_mt I' f) := fun c j q => by
  unfold a_mt m_up
  rw [h 1 f (by unfold per; omega)]
  split
  · rfl
  · split
    · rfl
    · exact h c j q
theorem Pe.tl {I I' : MI} (h : Pe I I') (v : Int) : Pe (a_tl I v) (a_tl I' v) := fun c j q => by
  unfold a_tl m_up
  split
  · rfl
  · exact h c j q
theorem Pe.set {I I' : MI} (h : Pe I I') (c : Nat) (j v : Int) : Pe (m_up I c j v) (m_up I' c j v) := fun a i q => by
  unfold m_up
  split
  · rfl
  · exact h a i q
noncomputable def okA (I : MI) : Bool := gd I 0 (I 0 13) && fst0 (kap I 0 (I 0 13)) == -9
def Tb (κ L : MI) : Prop := ∀ t s : Nat, t ≤ lst κ → s < nst κ → L 22 (1728 * (t : Int) + (s : Int)) = Fr κ t s ∧ L 23 (1728 * (t : Int) + (s : Int)) = Re κ t s
/-- only the two tables change -/
def LF (L L' : MI) : Prop := ∀ a j, a ≠ 22 → a ≠ 23 → L' a j = L a j
theorem LF.rf (L : MI) : LF L L := fun _ _ _ _ => rfl
theorem LF.tr {I J K : MI} (h : LF I J) (k : LF J K) : LF I K := fun c j p q => (k c j p q).trans (h c j p q)
theorem KA_H {I : MI} (h : iHs I) : iHs (kap I 0 (I 0 13)) := kap_H h _ _
theorem KA_S {I : MI} (h : iHs I) (h2 : iEvs I) : iSc (kap I 0 (I 0 13)) := kap_S h2 ⟨h.2.2.1.1, Int.le_refl _⟩
theorem KA_lst {I : MI} (h : iHs I) {wo k : Int} : (lst (kap I wo k) : Int) = I 0 14 := by
  have := h.2.2.2.1
  unfold lst
  rw [kap_per (by unfold per; omega)]
  omega
theorem KA_us {I : MI} (h : iHs I) : (us (kap I 0 (I 0 13)) : Int) = I 0 13 := by
  have := h.2.2.1
  rw [kap_us]
  omega
theorem okA_iff {I : MI} : okA I = true ↔ gd I 0 (I 0 13) = true ∧ fst0 (kap I 0 (I 0 13)) = -9 := by unfold okA; rw [Bool.and_eq_true, beq_iff_eq]
theorem fst0_r (κ : MI) : ∀ n t, fsF κ t n = -9 ∨ (0 ≤ fsF κ t n ∧ fsF κ t n < (t : Int) + (n : Int))
  | 0, t => Or.inl rfl
  | n + 1, t => by
    unfold fsF
    split
    · have := fst0_r κ n (t + 1); omega
    · right; omega
noncomputable def s_could (I : MI) : Int × MI := if fst0 (kap I 0 (I 0 13)) = -9 then (1, I) else (0, a_tl I (fst0 (kap I 0 (I 0 13))))
noncomputable def fwF (I : MI) : Nat → Nat → Int
  | 0, _ => -9
  | n + 1, k => if gd I 0 k = true ∧ fst0 (kap I 0 k) = -9 then (k : Int) else fwF I n (k + 1)
def awF (κ : MI) : Nat → Int
  | 0 => 0
  | s + 1 => mor (awF κ s) (Fr κ (lst κ) s)
theorem awF_r (κ : MI) : ∀ n, 0 ≤ awF κ n ∧ awF κ n ≤ 1000000000000001
  | 0 => by unfold awF; omega
  | n + 1 => by unfold awF; exact mor_r (awF_r κ n) (Fr_r κ _ _)
def aw (κ : MI) : Int := awF κ (nst κ)
noncomputable def s_ways (I : MI) : Int × (MI → MI) := if fst0 (kap I 0 (I 0 13)) ≠ -9 then (0, fun L => m_up L 0 3 0) else if 1000000000000000 < aw (kap I 0 (I 0 13)) then (-6, fun L => L) else (1, fun L => m_up L 0 3 (aw (kap I 0 (I 0 13))))
def mnI (s : Nat) (r : Int) : Nat → Int
  | 0 => 0
  | w + 1 => mnI s r w + (if (rm s w : Int) = r then 1 else 0)
theorem mnI_r (s : Nat) (r : Int) : ∀ n : Nat, 0 ≤ mnI s r n ∧ mnI s r n ≤ n
  | 0 => by simp [mnI]
  | n + 1 => by have := mnI_r s r n; unfold mnI; split <;> omega
def fiF (κ : MI) (r : Int) (t : Nat) : Nat → Int
  | 0 => 4
  | s + 1 => if alv κ t s then (if mnI s r (us κ) < fiF κ r t s then mnI s r (us κ) else fiF κ r t s) else fiF κ r t s
def moF (κ : MI) (r : Int) (t : Nat) : Nat → Int
  | 0 => 0
  | s + 1 => if alv κ t s then (if moF κ r t s < mnI s r (us κ) then mnI s r (us κ) else moF κ r t s) else moF κ r t s
theorem fiF_r (κ : MI) (r : Int) (t : Nat) : ∀ s, 0 ≤ fiF κ r t s ∧ fiF κ r t s ≤ 4
  | 0 => by unfold fiF; omega
  | s + 1 => by
    have h1 := mnI_r s r (us κ); have h2 := fiF_r κ r t s
    unfold fiF; repeat' split
    all_goals omega
theorem moF_r (κ : MI) (r : Int) (t : Nat) : ∀ s, 0 ≤ moF κ r t s ∧ moF κ r t s ≤ us κ
  | 0 => by unfold moF; omega
  | s + 1 => by
    have h1 := mnI_r s r (us κ); have h2 := moF_r κ r t s
    unfold moF; repeat' split
    all_goals omega
noncomputable def s_rooms (r t : Int) (I : MI) : Int × MI := if r < 0 ∨ I 0 11 ≤ r ∨ t < 0 ∨ I 0 14 < t then (-1, I) else if okA I = false then (-3, a_mt I 4) else (fiF (kap I 0 (I 0 13)) r t.toNat (nst (kap I 0 (I 0 13))), a_tl I (moF (kap I 0 (I 0 13)) r t.toNat (nst (kap I 0 (I 0 13)))))
section
variable {G : GT} {sh : MS} {I L : MI} {R : MR} {κ : MI}

theorem s_X8_layAll  (hH : iHs I) (hE : iEvs I) : Sp G mtX8_layAll [mr 0] shM I L rM (qi (fun z I' L' R' => z = b01 (okA I = true) ∧ E1 (kap I 0 (I 0 13)) I' ∧ LF L L' ∧ R' = rM ∧ (z = 1 → Tb (kap I 0 (I 0 13)) L'))) := by
  refine Sp.of pnX8_layAll rfl ?_
  show Rn G mtX8_layAll _ 0 [(0, mr 0)] [] shM I L rM
  generalize hQ : (qi (fun z I' L' R' => z = b01 (okA I = true) ∧ E1 (kap I 0 (I 0 13)) I' ∧ LF L L' ∧ R' = rM ∧ (z = 1 → Tb (kap I 0 (I 0 13)) L'))) = Q
  have hW := hH.2.2.1
  have hf := fst0_r (kap I 0 (I 0 13)) (lst (kap I 0 (I 0 13)) + 1) 0
  have hT := hH.2.2.2.1
  have hl := KA_lst hH (wo := 0) (k := I 0 13)
  refine x_aload_n dX8_layAll_0 0 rfl rfl ?_
  refine x_iconst dX8_layAll_1 ?_
  refine x_aload_n dX8_layAll_2 0 rfl rfl ?_
  refine x_getI dX8_layAll_3 flX8_186 rfl rfl ?_
  refine x_callVi (as := [_, _]) dX8_layAll_6 lvX8_310 rfl rfl rfl rfl rfl rfl rfl ⟨rfl, rfl⟩ (s_X8_layNight hH hE ⟨by omega, Int.le_refl _⟩) (fun z6 I6 L6 R6 hq6 => ?_)
  obtain ⟨rfl, hE2, rfl, rfl⟩ := hq6
  refine y_ifb_eq (tgt := 21) dX8_layAll_9 (by decide) (fun h9 => ?_) (fun h9 => ?_)
  · refine x_iconst dX8_layAll_21 ?_
    refine x_zret dX8_layAll_22 rfl (by omega) ?_
    rw [← hQ]
    first
    | exact ⟨_, rfl, b01_f (fun h => absurd (okA_iff.mp h).1 (by assumption)), hE2, LF.rf _, rfl, fun h => by omega⟩
    | exact ⟨_, rfl, b01_f (fun h => by have := (okA_iff.mp h).2; omega), hE3, fun a j h1 _ => hL3 a j h1, rfl, fun h => by omega⟩
  · refine x_aload_n dX8_layAll_12 0 rfl rfl ?_
    refine x_callVi (as := []) dX8_layAll_13 lvX8_313 rfl rfl rfl rfl rfl rfl rfl ⟨rfl, rfl⟩ (s_X8_layFront hE2 (KA_H hH) (KA_S hH hE)) (fun z13 I13 L13 R13 hq13 => ?_)
    obtain ⟨hz, hE3, rfl, hL3, hF3⟩ := hq13
    have hzr : rI z13 := by rw [hz]; unfold fst0; omega
    refine x_bipush dX8_layAll_16 (by decide) ?_
    refine x_ic_eq (tgt := 23) dX8_layAll_18 (by decide) (by first | omega | exact z_and_r _ _ | exact z_or_r _ _ | exact z_xor_r _ _) (fun h18 => ?_) (fun h18 => ?_)
    · refine x_aload_n dX8_layAll_23 0 rfl rfl ?_
      refine x_callVv (as := []) dX8_layAll_24 lvX8_316 rfl rfl rfl rfl rfl rfl rfl ⟨rfl, rfl⟩ (s_X8_layRest hE3 (KA_H hH) (KA_S hH hE) (hF3 (by omega))) (fun I24 L24 R24 hq24 => ?_)
      obtain ⟨hE4, rfl, hL4, hF4⟩ := hq24
      refine x_iconst dX8_layAll_27 ?_
      refine x_zret dX8_layAll_28 rfl (by omega) ?_
      rw [← hQ]
      exact ⟨_, rfl, b01_t (okA_iff.mpr ⟨by assumption, by omega⟩), hE4, fun a j h1 h2 => by rw [hL4 a j h2, hL3 a j h1], rfl, fun _ t s h1 h2 => ⟨by rw [hL4 _ _ (by decide)]; exact hF3 (by omega) t s h1 h2, hF4 t s h1 h2⟩⟩
    · refine x_iconst dX8_layAll_21 ?_
      refine x_zret dX8_layAll_22 rfl (by omega) ?_
      rw [← hQ]
      first
      | exact ⟨_, rfl, b01_f (fun h => absurd (okA_iff.mp h).1 (by assumption)), hE2, LF.rf _, rfl, fun h => by omega⟩
      | exact ⟨_, rfl, b01_f (fun h => by have := (okA_iff.mp h).2; omega), hE3, fun a j h1 _ => hL3 a j h1, rfl, fun h => by omega⟩
theorem s_X8_could  (hH : iHs I) (hE : iEvs I) : Sp G mtX8_could [mr 0] shM I L rM (qi (fun z I' L' R' => z = (s_could I).1 ∧ Pe (s_could I).2 I' ∧ LF L L' ∧ R' = rM)) := by
  refine Sp.of pnX8_could rfl ?_
  show Rn G mtX8_could _ 0 [(0, mr 0)] [] shM I L rM
  generalize hQ : (qi (fun z I' L' R' => z = (s_could I).1 ∧ Pe (s_could I).2 I' ∧ LF L L' ∧ R' = rM)) = Q
  have hW := hH.2.2.1
  have hf := fst0_r (kap I 0 (I 0 13)) (lst (kap I 0 (I 0 13)) + 1) 0
  have hT := hH.2.2.2.1
  have hl := KA_lst hH (wo := 0) (k := I 0 13)
  refine x_aload_n dX8_could_0 0 rfl rfl ?_
  refine x_iconst dX8_could_1 ?_
  refine x_aload_n dX8_could_2 0 rfl rfl ?_
  refine x_getI dX8_could_3 flX8_186 rfl rfl ?_
  refine x_callVi (as := [_, _]) dX8_could_6 lvX8_310 rfl rfl rfl rfl rfl rfl rfl ⟨rfl, rfl⟩ (s_X8_layNight hH hE ⟨by omega, Int.le_refl _⟩) (fun z6 I6 L6 R6 hq6 => ?_)
  obtain ⟨rfl, hE2, rfl, rfl⟩ := hq6
  refine x_pop dX8_could_9 rfl ?_
  refine x_aload_n dX8_could_10 0 rfl rfl ?_
  refine x_callVi (as := []) dX8_could_11 lvX8_313 rfl rfl rfl rfl rfl rfl rfl ⟨rfl, rfl⟩ (s_X8_layFront hE2 (KA_H hH) (KA_S hH hE)) (fun z11 I11 L11 R11 hq11 => ?_)
  obtain ⟨hz, hE3, rfl, hL3, hF3⟩ := hq11
  have hzr : rI z11 := by rw [hz]; unfold fst0; omega
  refine x_istore_n (lv' := [(0, _), (1, _)]) dX8_could_14 rfl rfl rfl ?_
  refine x_iload_n dX8_could_15 1 rfl rfl ?_
  refine x_bipush dX8_could_16 (by decide) ?_
  refine x_ic_ne (tgt := 25) dX8_could_18 (by decide) (by first | omega | exact z_and_r _ _ | exact z_or_r _ _ | exact z_xor_r _ _) (fun h18 => ?_) (fun h18 => ?_)
  · refine x_aload_n dX8_could_25 0 rfl rfl ?_
    refine x_iload_n dX8_could_26 1 rfl rfl ?_
    refine x_iconst dX8_could_27 ?_
    refine x_callVi (as := [_, _]) dX8_could_28 lvX8_130 rfl rfl rfl rfl rfl rfl rfl ⟨rfl, rfl⟩ (s_X8_tells) (fun z28 I28 L28 R28 hq28 => ?_)
    obtain ⟨rfl, rfl, rfl, rfl⟩ := hq28
    refine x_iret dX8_could_31 rfl ?_
    rw [← hQ]
    first
    | (have hs : s_could I = (1, I) := if_pos (by omega)
       rw [hs]
       exact ⟨_, rfl, rfl, kap_pe hE3, fun a j h1 _ => hL3 a j h1, rfl⟩)
    | (have hs : s_could I = (0, a_tl I (fst0 (kap I 0 (I 0 13)))) := if_neg (by omega)
       rw [hs, ← hz]
       exact ⟨_, rfl, rfl, (kap_pe hE3).tl _, fun a j h1 _ => hL3 a j h1, rfl⟩)
  · refine x_iconst dX8_could_21 ?_
    refine x_goto (tgt := 31) dX8_could_22 (by decide) ?_
    refine x_iret dX8_could_31 rfl ?_
    rw [← hQ]
    first
    | (have hs : s_could I = (1, I) := if_pos (by omega)
       rw [hs]
       exact ⟨_, rfl, rfl, kap_pe hE3, fun a j h1 _ => hL3 a j h1, rfl⟩)
    | (have hs : s_could I = (0, a_tl I (fst0 (kap I 0 (I 0 13)))) := if_neg (by omega)
       rw [hs, ← hz]
       exact ⟨_, rfl, rfl, (kap_pe hE3).tl _, fun a j h1 _ => hL3 a j h1, rfl⟩)
theorem s_X8_fewest  (hH : iHs I) (hE : iEvs I) : Sp G mtX8_fewest [mr 0] shM I L rM (qi (fun z I' L' R' => z = fwF I ((I 0 13).toNat + 1) 0 ∧ Pe I I' ∧ LF L L' ∧ R' = rM)) := by
  refine Sp.of pnX8_fewest rfl ?_
  show Rn G mtX8_fewest _ 0 [(0, mr 0)] [] shM I L rM
  generalize hQ : (qi (fun z I' L' R' => z = fwF I ((I 0 13).toNat + 1) 0 ∧ Pe I I' ∧ LF L L' ∧ R' = rM)) = Q
  have hW := hH.2.2.1
  obtain ⟨F0, hF0⟩ : ∃ x, x = fwF I ((I 0 13).toNat + 1) 0 := ⟨_, rfl⟩
  have loop : ∀ k : Nat, k ≤ (I 0 13).toNat + 1 → ∀ (J K : MI), Pe I J → LF L K → F0 = fwF I ((I 0 13).toNat + 1 - k) k → Rn G mtX8_fewest Q 2 [(0, mr 0), (1, mi (k : Int))] [] shM J K rM := by
    refine lpn ((I 0 13).toNat + 1) (fun k hk ih => ?_) ?_
    · intro J K hJ hK hf
      have j13 : J 0 13 = I 0 13 := hJ 0 13 (by unfold per; omega)
      have hHJ := iHs_pe hJ hH
      have hEJ := iEvs_pe hJ hE
      have hTt := hHJ.2.2.2.1
      have hl := KA_lst hHJ (wo := 0) (k := (k : Int))
      have hfr := fst0_r (kap J 0 k) (lst (kap J 0 k) + 1) 0
      rw [show (I 0 13).toNat + 1 - k = ((I 0 13).toNat - k) + 1 by omega] at hf
      unfold fwF at hf
      rw [← kap_eq hJ, ← gd_eq hJ] at hf
      have nx : ∀ (J2 K2 : MI), ¬ (gd J 0 k = true ∧ fst0 (kap J 0 k) = -9) → Pe J J2 → LF K K2 → Rn G mtX8_fewest Q 30 [(0, mr 0), (1, mi (k : Int))] [] shM J2 K2 rM := by
        intro J2 K2 hn hJ2 hK2
        rw [if_neg hn] at hf
        refine x_iinc (lv' := [(0, _), (1, _)]) dX8_fewest_30 1 rfl rfl rfl ?_
        refine x_goto (tgt := 2) dX8_fewest_33 (by decide) ?_
        refine ih _ _ (hJ.tr hJ2) (hK.tr hK2) ?_
        rw [hf]
        congr 1
        omega
      refine x_iload_n dX8_fewest_2 1 rfl rfl ?_
      refine x_aload_n dX8_fewest_3 0 rfl rfl ?_
      refine x_getI dX8_fewest_4 flX8_186 rfl rfl ?_
      refine x_ic_gt (tgt := 36) dX8_fewest_7 (by decide) (by first | omega | exact z_and_r _ _ | exact z_or_r _ _ | exact z_xor_r _ _) (fun h7 => ?_) (fun h7 => ?_)
      · exfalso; omega
      · refine x_aload_n dX8_fewest_10 0 rfl rfl ?_
        refine x_iconst dX8_fewest_11 ?_
        refine x_iload_n dX8_fewest_12 1 rfl rfl ?_
        refine x_callVi (as := [_, _]) dX8_fewest_13 lvX8_310 rfl rfl rfl rfl rfl rfl rfl ⟨rfl, rfl⟩ (s_X8_layNight hHJ hEJ ⟨by omega, by omega⟩) (fun z13 I13 L13 R13 hq13 => ?_)
        obtain ⟨rfl, hE2, rfl, rfl⟩ := hq13
        refine y_ifb_eq (tgt := 30) dX8_fewest_16 (by decide) (fun h16 => ?_) (fun h16 => ?_)
        · first
          | (have hg : ¬ gd J 0 k = true := by assumption
             exact nx _ _ (fun h => hg h.1) (kap_pe hE2) (LF.rf _))
          | exact nx _ _ (fun h => by have := h.2; omega) (kap_pe hE3) (fun a j h1 _ => hL3 a j h1)
        · refine x_aload_n dX8_fewest_19 0 rfl rfl ?_
          refine x_callVi (as := []) dX8_fewest_20 lvX8_313 rfl rfl rfl rfl rfl rfl rfl ⟨rfl, rfl⟩ (s_X8_layFront hE2 (kap_H hHJ _ _) (kap_S hEJ ⟨by omega, by omega⟩)) (fun z20 I20 L20 R20 hq20 => ?_)
          obtain ⟨hz, hE3, rfl, hL3, hF3⟩ := hq20
          have hzr : rI z20 := by rw [hz]; unfold fst0; omega
          refine x_bipush dX8_fewest_23 (by decide) ?_
          refine x_ic_ne (tgt := 30) dX8_fewest_25 (by decide) (by first | omega | exact z_and_r _ _ | exact z_or_r _ _ | exact z_xor_r _ _) (fun h25 => ?_) (fun h25 => ?_)
          · first
            | (have hg : ¬ gd J 0 k = true := by assumption
               exact nx _ _ (fun h => hg h.1) (kap_pe hE2) (LF.rf _))
            | exact nx _ _ (fun h => by have := h.2; omega) (kap_pe hE3) (fun a j h1 _ => hL3 a j h1)
          · refine x_iload_n dX8_fewest_28 1 rfl rfl ?_
            refine x_iret dX8_fewest_29 rfl ?_
            rw [← hQ]
            rw [if_pos ⟨by assumption, by omega⟩] at hf
            exact ⟨_, rfl, by rw [← hF0, hf], hJ.tr (kap_pe hE3), hK.tr (fun a j h1 _ => hL3 a j h1), rfl⟩
    · intro J K hJ hK hf
      have j13 : J 0 13 = I 0 13 := hJ 0 13 (by unfold per; omega)
      refine x_iload_n dX8_fewest_2 1 rfl rfl ?_
      refine x_aload_n dX8_fewest_3 0 rfl rfl ?_
      refine x_getI dX8_fewest_4 flX8_186 rfl rfl ?_
      refine x_ic_gt (tgt := 36) dX8_fewest_7 (by decide) (by first | omega | exact z_and_r _ _ | exact z_or_r _ _ | exact z_xor_r _ _) (fun h7 => ?_) (fun h7 => ?_)
      · refine x_bipush dX8_fewest_36 (by decide) ?_
        refine x_iret dX8_fewest_38 rfl ?_
        rw [← hQ]
        rw [Nat.sub_self] at hf
        exact ⟨_, rfl, by rw [← hF0, hf]; rfl, hJ, hK, rfl⟩
      · exfalso; omega
  refine x_iconst dX8_fewest_0 ?_
  refine x_istore_n (lv' := [(0, _), (1, _)]) dX8_fewest_1 rfl rfl rfl ?_
  exact loop 0 (by omega) I L (Pe.rf _) (LF.rf _) hF0
theorem s_X8_allWays  (h0 : E1 κ I) (hH : iHs κ) (hS : iSc κ) (hF : ∀ s, s < nst κ → L 22 (1728 * (lst κ : Int) + (s : Int)) = Fr κ (lst κ) s) : Sp G mtX8_allWays [mr 0] shM I L rM (ql (pu (aw κ) I L rM)) := by
  refine Sp.of pnX8_allWays rfl ?_
  show Rn G mtX8_allWays _ 0 [(0, mr 0)] [] shM I L rM
  generalize hQ : (ql (pu (aw κ) I L rM)) = Q
  have hu := us_le hH hS
  have hnn := (nst_le hH hS).2
  have hT := hH.2.2.2.1
  have hlt : (lst κ : Int) = κ 0 14 := by unfold lst; omega
  have e14 : I 0 14 = κ 0 14 := h0.at (by unfold sce per; omega)
  have loop : ∀ s : Nat, s ≤ nst κ → Rn G mtX8_allWays Q 4 [(0, mr 0), (1, ml (awF κ s)), (3, mi (s : Int))] [] shM I L rM := by
    refine lpn (nst κ) (fun s hs ih => ?_) ?_
    · have hFs := hF s hs
      rw [show 1728 * (lst κ : Int) = 1728 * I 0 14 by omega] at hFs
      have hr := Fr_r κ (lst κ) s
      have ha := awF_r κ s
      refine x_iload_n dX8_allWays_4 2 rfl rfl ?_
      refine x_aload_n dX8_allWays_5 0 rfl rfl ?_
      refine x_callVi (as := []) dX8_allWays_6 lvX8_286 rfl rfl rfl rfl rfl rfl rfl ⟨rfl, rfl⟩ (s_X8_states h0 hH hS) (fun z6 I6 L6 R6 hq6 => ?_)
      obtain ⟨rfl, rfl, rfl, rfl⟩ := hq6
      refine x_ic_ge (tgt := 38) dX8_allWays_9 (by decide) (by first | omega | exact z_and_r _ _ | exact z_or_r _ _ | exact z_xor_r _ _) (fun h9 => ?_) (fun h9 => ?_)
      · exfalso; omega
      · refine x_lload_n dX8_allWays_12 1 rfl rfl ?_
        refine x_aload_n dX8_allWays_13 0 rfl rfl ?_
        refine x_getR dX8_allWays_14 flX8_75 rfl rfl rfl ?_
        refine x_sipush dX8_allWays_17 (by decide) ?_
        refine x_aload_n dX8_allWays_20 0 rfl rfl ?_
        refine x_getI dX8_allWays_21 flX8_99 rfl rfl ?_
        refine x_imul dX8_allWays_24 ?_
        refine x_iload_n dX8_allWays_25 2 rfl rfl ?_
        refine x_iadd dX8_allWays_26 ?_
        refine x_lald dX8_allWays_27 rfl (by omega) ?_
        rw [hFs]
        refine x_callSl (as := [_, _]) dX8_allWays_28 lvX8_306 rfl rfl rfl rfl ⟨rfl, rfl⟩ (s_X8_more ha hr) (fun z28 I28 L28 R28 hq28 => ?_)
        obtain ⟨rfl, rfl, rfl, rfl⟩ := hq28
        refine x_lstore_n (lv' := [(0, _), (1, _), (3, _)]) dX8_allWays_31 rfl rfl rfl ?_
        refine x_iinc (lv' := [(0, _), (1, _), (3, _)]) dX8_allWays_32 2 rfl rfl rfl ?_
        refine x_goto (tgt := 4) dX8_allWays_35 (by decide) ?_
        exact ih
    · refine x_iload_n dX8_allWays_4 2 rfl rfl ?_
      refine x_aload_n dX8_allWays_5 0 rfl rfl ?_
      refine x_callVi (as := []) dX8_allWays_6 lvX8_286 rfl rfl rfl rfl rfl rfl rfl ⟨rfl, rfl⟩ (s_X8_states h0 hH hS) (fun z6 I6 L6 R6 hq6 => ?_)
      obtain ⟨rfl, rfl, rfl, rfl⟩ := hq6
      refine x_ic_ge (tgt := 38) dX8_allWays_9 (by decide) (by first | omega | exact z_and_r _ _ | exact z_or_r _ _ | exact z_xor_r _ _) (fun h9 => ?_) (fun h9 => ?_)
      · refine x_lload_n dX8_allWays_38 1 rfl rfl ?_
        refine x_lret dX8_allWays_39 rfl ?_
        rw [← hQ]
        exact ⟨_, rfl, rfl, rfl, rfl, rfl⟩
      · exfalso; omega
  refine x_lconst 0 dX8_allWays_0 rfl ?_
  refine x_lstore_n (lv' := [(0, _), (1, _)]) dX8_allWays_1 rfl rfl rfl ?_
  refine x_iconst dX8_allWays_2 ?_
  refine x_istore_n (lv' := [(0, _), (1, _), (3, _)]) dX8_allWays_3 rfl rfl rfl ?_
  exact loop 0 (by omega)
theorem s_X8_waysTold {v a : Int}  : Sp G mtX8_waysTold [mr 0, ml v, mi a] shM I L rM (qi (fun z I' L' R' => z = a ∧ I = I' ∧ L' = m_up L 0 3 v ∧ R' = rM)) := by
  refine Sp.of pnX8_waysTold rfl ?_
  show Rn G mtX8_waysTold _ 0 [(0, mr 0), (1, ml v), (3, mi a)] [] shM I L rM
  generalize hQ : (qi (fun z I' L' R' => z = a ∧ I = I' ∧ L' = m_up L 0 3 v ∧ R' = rM)) = Q
  refine x_aload_n dX8_waysTold_0 0 rfl rfl ?_
  refine x_lload_n dX8_waysTold_1 1 rfl rfl ?_
  refine x_putL dX8_waysTold_2 flX8_112 rfl rfl rfl ?_
  refine x_iload_n dX8_waysTold_5 2 rfl rfl ?_
  refine x_iret dX8_waysTold_6 rfl ?_
  rw [← hQ]
  exact ⟨_, rfl, rfl, rfl, rfl, rfl⟩
theorem s_X8_ways  (hH : iHs I) (hE : iEvs I) : Sp G mtX8_ways [mr 0] shM I L rM (qi (fun z I' L' R' => z = (s_ways I).1 ∧ Pe I I' ∧ LF ((s_ways I).2 L) L' ∧ R' = rM)) := by
  refine Sp.of pnX8_ways rfl ?_
  show Rn G mtX8_ways _ 0 [(0, mr 0)] [] shM I L rM
  generalize hQ : (qi (fun z I' L' R' => z = (s_ways I).1 ∧ Pe I I' ∧ LF ((s_ways I).2 L) L' ∧ R' = rM)) = Q
  have hW := hH.2.2.1
  have hf := fst0_r (kap I 0 (I 0 13)) (lst (kap I 0 (I 0 13)) + 1) 0
  have hT := hH.2.2.2.1
  have hl := KA_lst hH (wo := 0) (k := I 0 13)
  have har := awF_r (kap I 0 (I 0 13)) (nst (kap I 0 (I 0 13)))
  refine x_aload_n dX8_ways_0 0 rfl rfl ?_
  refine x_iconst dX8_ways_1 ?_
  refine x_aload_n dX8_ways_2 0 rfl rfl ?_
  refine x_getI dX8_ways_3 flX8_186 rfl rfl ?_
  refine x_callVi (as := [_, _]) dX8_ways_6 lvX8_310 rfl rfl rfl rfl rfl rfl rfl ⟨rfl, rfl⟩ (s_X8_layNight hH hE ⟨by omega, Int.le_refl _⟩) (fun z6 I6 L6 R6 hq6 => ?_)
  obtain ⟨rfl, hE2, rfl, rfl⟩ := hq6
  refine x_pop dX8_ways_9 rfl ?_
  refine x_aload_n dX8_ways_10 0 rfl rfl ?_
  refine x_callVi (as := []) dX8_ways_11 lvX8_313 rfl rfl rfl rfl rfl rfl rfl ⟨rfl, rfl⟩ (s_X8_layFront hE2 (KA_H hH) (KA_S hH hE)) (fun z11 I11 L11 R11 hq11 => ?_)
  obtain ⟨hz, hE3, rfl, hL3, hF3⟩ := hq11
  have hzr : rI z11 := by rw [hz]; unfold fst0; omega
  refine x_bipush dX8_ways_14 (by decide) ?_
  refine x_ic_eq (tgt := 26) dX8_ways_16 (by decide) (by first | omega | exact z_and_r _ _ | exact z_or_r _ _ | exact z_xor_r _ _) (fun h16 => ?_) (fun h16 => ?_)
  · refine x_aload_n dX8_ways_26 0 rfl rfl ?_
    refine x_callVl (as := []) dX8_ways_27 lvX8_323 rfl rfl rfl rfl rfl rfl rfl ⟨rfl, rfl⟩ (s_X8_allWays hE3 (KA_H hH) (KA_S hH hE) (fun s hs => hF3 (by omega) _ s (Nat.le_refl _) hs)) (fun z27 I27 L27 R27 hq27 => ?_)
    obtain ⟨rfl, rfl, rfl, rfl⟩ := hq27
    refine x_lstore_n (lv' := [(0, _), (1, _)]) dX8_ways_30 rfl rfl rfl ?_
    refine x_lload_n dX8_ways_31 1 rfl rfl ?_
    refine x_ldc2 (1000000000000000) dX8_ways_32 lkX8_282 ?_
    refine x_lc_le (tgt := 44) dX8_ways_35 dX8_ways_36 (by decide) (by unfold aw; omega) (fun h35 => ?_) (fun h35 => ?_)
    · refine x_aload_n dX8_ways_44 0 rfl rfl ?_
      refine x_lload_n dX8_ways_45 1 rfl rfl ?_
      refine x_iconst dX8_ways_46 ?_
      refine x_callVi (as := [_, _]) dX8_ways_47 lvX8_319 rfl rfl rfl rfl rfl rfl rfl ⟨rfl, rfl⟩ (s_X8_waysTold) (fun z47 I47 L47 R47 hq47 => ?_)
      obtain ⟨rfl, rfl, rfl, rfl⟩ := hq47
      refine x_iret dX8_ways_50 rfl ?_
      rw [← hQ]
      first
      | (have hs : s_ways I = (-6, fun L => L) := by unfold s_ways; rw [if_neg (by omega), if_pos (by omega)]
         rw [hs]
         exact ⟨_, rfl, rfl, kap_pe hE3, fun a j h1 _ => hL3 a j h1, rfl⟩)
      | (have hs : s_ways I = (1, fun L => m_up L 0 3 (aw (kap I 0 (I 0 13)))) := by unfold s_ways; rw [if_neg (by omega), if_neg (by omega)]
         rw [hs]
         exact ⟨_, rfl, rfl, kap_pe hE3, fun a j h1 h2 => by show _ = m_up L 0 3 (aw (kap I 0 (I 0 13))) a j; unfold m_up; split; rfl; exact hL3 a j h1, rfl⟩)
    · refine x_bipush dX8_ways_39 (by decide) ?_
      refine x_goto (tgt := 50) dX8_ways_41 (by decide) ?_
      refine x_iret dX8_ways_50 rfl ?_
      rw [← hQ]
      first
      | (have hs : s_ways I = (-6, fun L => L) := by unfold s_ways; rw [if_neg (by omega), if_pos (by omega)]
         rw [hs]
         exact ⟨_, rfl, rfl, kap_pe hE3, fun a j h1 _ => hL3 a j h1, rfl⟩)
      | (have hs : s_ways I = (1, fun L => m_up L 0 3 (aw (kap I 0 (I 0 13)))) := by unfold s_ways; rw [if_neg (by omega), if_neg (by omega)]
         rw [hs]
         exact ⟨_, rfl, rfl, kap_pe hE3, fun a j h1 h2 => by show _ = m_up L 0 3 (aw (kap I 0 (I 0 13))) a j; unfold m_up; split; rfl; exact hL3 a j h1, rfl⟩)
  · refine x_aload_n dX8_ways_19 0 rfl rfl ?_
    refine x_lconst 0 dX8_ways_20 rfl ?_
    refine x_iconst dX8_ways_21 ?_
    refine x_callVi (as := [_, _]) dX8_ways_22 lvX8_319 rfl rfl rfl rfl rfl rfl rfl ⟨rfl, rfl⟩ (s_X8_waysTold) (fun z22 I22 L22 R22 hq22 => ?_)
    obtain ⟨rfl, rfl, rfl, rfl⟩ := hq22
    refine x_iret dX8_ways_25 rfl ?_
    rw [← hQ]
    have hs : s_ways I = (0, fun L => m_up L 0 3 0) := if_pos (by omega)
    rw [hs]
    exact ⟨_, rfl, rfl, kap_pe hE3, fun a j h1 h2 => by show _ = m_up L 0 3 0 a j; unfold m_up; split; rfl; exact hL3 a j h1, rfl⟩
theorem s_X8_manyIn {s : Nat} {r : Int} (h0 : E1 κ I) (hH : iHs κ) (hS : iSc κ) (hs : s < 1728) (hr : rI r) : Sp G mtX8_manyIn [mr 0, mi ↑s, mi r] shM I L rM (qi (pu (mnI s r (us κ)) I L rM)) := by
  refine Sp.of pnX8_manyIn rfl ?_
  show Rn G mtX8_manyIn _ 0 [(0, mr 0), (1, mi ↑s), (2, mi r)] [] shM I L rM
  generalize hQ : (qi (pu (mnI s r (us κ)) I L rM)) = Q
  have hu := us_le hH hS
  have e34 : I 0 34 = κ 0 34 := h0.at (by unfold sce per; omega)
  have loop : ∀ k : Nat, k ≤ us κ → Rn G mtX8_manyIn Q 5 [(0, mr 0), (1, mi ↑s), (2, mi r), (3, mi (mnI s r k)), (4, mi (k : Int))] [] shM I L rM := by
    refine lpn (us κ) (fun k hk ih => ?_) ?_
    · have h1 := rm_lt (w := k) hs
      refine x_iload dX8_manyIn_5 4 rfl ?_
      refine x_aload_n dX8_manyIn_7 0 rfl rfl ?_
      refine x_getI dX8_manyIn_8 flX8_240 rfl rfl ?_
      refine x_ic_ge (tgt := 39) dX8_manyIn_11 (by decide) (by first | omega | exact z_and_r _ _ | exact z_or_r _ _ | exact z_xor_r _ _) (fun h11 => ?_) (fun h11 => ?_)
      · exfalso; omega
      · refine x_iload_n dX8_manyIn_14 3 rfl rfl ?_
        refine x_aload_n dX8_manyIn_15 0 rfl rfl ?_
        refine x_iload_n dX8_manyIn_16 1 rfl rfl ?_
        refine x_iload dX8_manyIn_17 4 rfl ?_
        refine x_callVi (as := [_, _]) dX8_manyIn_19 lvX8_261 rfl rfl rfl rfl rfl rfl rfl ⟨rfl, rfl⟩ (s_X8_roomOf (by omega) (by omega)) (fun z19 I19 L19 R19 hq19 => ?_)
        obtain ⟨rfl, rfl, rfl, rfl⟩ := hq19
        refine x_iload_n dX8_manyIn_22 2 rfl rfl ?_
        refine x_ic_ne (tgt := 30) dX8_manyIn_23 (by decide) (by first | omega | exact z_and_r _ _ | exact z_or_r _ _ | exact z_xor_r _ _) (fun h23 => ?_) (fun h23 => ?_)
        · refine x_iconst dX8_manyIn_30 ?_
          refine x_iadd dX8_manyIn_31 ?_
          refine x_istore_n (lv' := [(0, _), (1, _), (2, _), (3, _), (4, _)]) dX8_manyIn_32 rfl rfl rfl ?_
          refine x_iinc (lv' := [(0, _), (1, _), (2, _), (3, _), (4, _)]) dX8_manyIn_33 4 rfl rfl rfl ?_
          refine x_goto (tgt := 5) dX8_manyIn_36 (by decide) ?_
          unfold mnI at ih
          first | (rw [if_pos (by assumption)] at ih; exact ih) | (rw [if_neg (by assumption)] at ih; exact ih)
        · refine x_iconst dX8_manyIn_26 ?_
          refine x_goto (tgt := 31) dX8_manyIn_27 (by decide) ?_
          refine x_iadd dX8_manyIn_31 ?_
          refine x_istore_n (lv' := [(0, _), (1, _), (2, _), (3, _), (4, _)]) dX8_manyIn_32 rfl rfl rfl ?_
          refine x_iinc (lv' := [(0, _), (1, _), (2, _), (3, _), (4, _)]) dX8_manyIn_33 4 rfl rfl rfl ?_
          refine x_goto (tgt := 5) dX8_manyIn_36 (by decide) ?_
          unfold mnI at ih
          first | (rw [if_pos (by assumption)] at ih; exact ih) | (rw [if_neg (by assumption)] at ih; exact ih)
    · refine x_iload dX8_manyIn_5 4 rfl ?_
      refine x_aload_n dX8_manyIn_7 0 rfl rfl ?_
      refine x_getI dX8_manyIn_8 flX8_240 rfl rfl ?_
      refine x_ic_ge (tgt := 39) dX8_manyIn_11 (by decide) (by first | omega | exact z_and_r _ _ | exact z_or_r _ _ | exact z_xor_r _ _) (fun h11 => ?_) (fun h11 => ?_)
      · refine x_iload_n dX8_manyIn_39 3 rfl rfl ?_
        refine x_iret dX8_manyIn_40 rfl ?_
        rw [← hQ]
        exact ⟨_, rfl, rfl, rfl, rfl, rfl⟩
      · exfalso; omega
  refine x_iconst dX8_manyIn_0 ?_
  refine x_istore_n (lv' := [(0, _), (1, _), (2, _), (3, _)]) dX8_manyIn_1 rfl rfl rfl ?_
  refine x_iconst dX8_manyIn_2 ?_
  refine x_istore (lv' := [(0, _), (1, _), (2, _), (3, _), (4, _)]) dX8_manyIn_3 rfl rfl ?_
  exact loop 0 (by omega)
theorem s_X8_layIn {r : Int} {t : Nat} (h0 : E1 κ I) (hH : iHs κ) (hS : iSc κ) (hB : Tb κ L) (ht : t ≤ lst κ) (hr : rI r) : Sp G mtX8_layIn [mr 0, mi r, mi ↑t] shM I L rM (qv (fun I' L' R' => E1 κ I' ∧ L = L' ∧ R' = rM ∧ I' 0 47 = fiF κ r t (nst κ) ∧ I' 0 48 = moF κ r t (nst κ))) := by
  refine Sp.of pnX8_layIn rfl ?_
  show Rn G mtX8_layIn _ 0 [(0, mr 0), (1, mi r), (2, mi ↑t)] [] shM I L rM
  generalize hQ : (qv (fun I' L' R' => E1 κ I' ∧ L = L' ∧ R' = rM ∧ I' 0 47 = fiF κ r t (nst κ) ∧ I' 0 48 = moF κ r t (nst κ))) = Q
  have hu := us_le hH hS
  have hnn := (nst_le hH hS).2
  have hT := hH.2.2.2.1
  have hlt : (lst κ : Int) = κ 0 14 := by unfold lst; omega
  have loop : ∀ s : Nat, s ≤ nst κ → ∀ J, E1 κ J → J 0 47 = fiF κ r t s → J 0 48 = moF κ r t s → Rn G mtX8_layIn Q 12 [(0, mr 0), (1, mi r), (2, mi ↑t), (3, mi (s : Int))] [] shM J L rM := by
    refine lpn (nst κ) (fun s hs ih => ?_) ?_
    · intro J hJ hf hm
      have hu := us_le hH hS
      have h1 := mnI_r s r (us κ)
      have h2 := fiF_r κ r t s
      have h3 := moF_r κ r t s
      have hT2 := hB t s ht hs
      have nx : ∀ (J2 : MI) lv8, lv8 = [(0, mr 0), (1, mi r), (2, mi ↑t), (3, mi (s : Int))] → E1 κ J2 → J2 0 47 = fiF κ r t (s + 1) → J2 0 48 = moF κ r t (s + 1) → Rn G mtX8_layIn Q 81 lv8 [] shM J2 L rM := by
        intro J2 lv8 hlv hJ2 hf2 hm2
        subst hlv
        refine x_iinc (lv' := [(0, _), (1, _), (2, _), (3, _)]) dX8_layIn_81 3 rfl rfl rfl ?_
        refine x_goto (tgt := 12) dX8_layIn_84 (by decide) ?_
        exact ih _ hJ2 hf2 hm2
      refine x_iload_n dX8_layIn_12 3 rfl rfl ?_
      refine x_aload_n dX8_layIn_13 0 rfl rfl ?_
      refine x_callVi (as := []) dX8_layIn_14 lvX8_286 rfl rfl rfl rfl rfl rfl rfl ⟨rfl, rfl⟩ (s_X8_states hJ hH hS) (fun z14 I14 L14 R14 hq14 => ?_)
      obtain ⟨rfl, rfl, rfl, rfl⟩ := hq14
      refine x_ic_ge (tgt := 87) dX8_layIn_17 (by decide) (by first | omega | exact z_and_r _ _ | exact z_or_r _ _ | exact z_xor_r _ _) (fun h17 => ?_) (fun h17 => ?_)
      · exfalso; omega
      · refine x_aload_n dX8_layIn_20 0 rfl rfl ?_
        refine x_iload_n dX8_layIn_21 2 rfl rfl ?_
        refine x_iload_n dX8_layIn_22 3 rfl rfl ?_
        refine x_callVi (as := [_, _]) dX8_layIn_23 lvX8_333 rfl rfl rfl rfl rfl rfl rfl ⟨rfl, rfl⟩ (s_X8_isAlive hH hS ht hs hT2.1 hT2.2) (fun z23 I23 L23 R23 hq23 => ?_)
        obtain ⟨rfl, rfl, rfl, rfl⟩ := hq23
        refine y_ifb_eq (tgt := 81) dX8_layIn_26 (by decide) (fun h26 => ?_) (fun h26 => ?_)
        · first
          | (have ha : ¬ alv κ t s = true := by assumption
             exact nx _ _ rfl hJ (by unfold fiF; rw [if_neg ha]; exact hf) (by unfold moF; rw [if_neg ha]; exact hm))
          | (have ha : alv κ t s = true := by assumption
             refine nx _ _ rfl ((hJ.up (by unfold sce per; omega)).up (by unfold sce per; omega)) ?_ ?_
             · rw [m_up_nj (by decide), m_up_eq]
               unfold fiF
               rw [if_pos ha]
               first | (rw [if_pos (by omega)]) | (rw [if_neg (by omega)]; exact hf)
             · rw [m_up_eq]
               unfold moF
               rw [if_pos ha]
               first | (rw [if_pos (by omega)]) | (rw [if_neg (by omega)]; exact hm))
        · refine x_aload_n dX8_layIn_29 0 rfl rfl ?_
          refine x_iload_n dX8_layIn_30 3 rfl rfl ?_
          refine x_iload_n dX8_layIn_31 1 rfl rfl ?_
          refine x_callVi (as := [_, _]) dX8_layIn_32 lvX8_336 rfl rfl rfl rfl rfl rfl rfl ⟨rfl, rfl⟩ (s_X8_manyIn hJ hH hS (by omega) hr) (fun z32 I32 L32 R32 hq32 => ?_)
          obtain ⟨rfl, rfl, rfl, rfl⟩ := hq32
          refine x_istore (lv' := [(0, _), (1, _), (2, _), (3, _), (4, _)]) dX8_layIn_35 rfl rfl ?_
          refine x_aload_n dX8_layIn_37 0 rfl rfl ?_
          refine x_iload dX8_layIn_38 4 rfl ?_
          refine x_aload_n dX8_layIn_40 0 rfl rfl ?_
          refine x_getI dX8_layIn_41 flX8_327 rfl rfl ?_
          refine x_ic_ge (tgt := 52) dX8_layIn_44 (by decide) (by first | omega | exact z_and_r _ _ | exact z_or_r _ _ | exact z_xor_r _ _) (fun h44 => ?_) (fun h44 => ?_)
          · refine x_aload_n dX8_layIn_52 0 rfl rfl ?_
            refine x_getI dX8_layIn_53 flX8_327 rfl rfl ?_
            refine x_putI dX8_layIn_56 flX8_327 rfl rfl rfl ?_
            refine x_aload_n dX8_layIn_59 0 rfl rfl ?_
            refine x_iload dX8_layIn_60 4 rfl ?_
            refine x_aload_n dX8_layIn_62 0 rfl rfl ?_
            refine y_getI dX8_layIn_63 flX8_330 rfl rfl (m_up_nj (by decide)) ?_
            refine x_ic_le (tgt := 74) dX8_layIn_66 (by decide) (by first | omega | exact z_and_r _ _ | exact z_or_r _ _ | exact z_xor_r _ _) (fun h66 => ?_) (fun h66 => ?_)
            · refine x_aload_n dX8_layIn_74 0 rfl rfl ?_
              refine y_getI dX8_layIn_75 flX8_330 rfl rfl (m_up_nj (by decide)) ?_
              refine x_putI dX8_layIn_78 flX8_330 rfl rfl rfl ?_
              refine x_top (lv' := [(0, _), (1, _), (2, _), (3, _)]) 4 rfl ?_
              first
              | (have ha : ¬ alv κ t s = true := by assumption
                 exact nx _ _ rfl hJ (by unfold fiF; rw [if_neg ha]; exact hf) (by unfold moF; rw [if_neg ha]; exact hm))
              | (have ha : alv κ t s = true := by assumption
                 refine nx _ _ rfl ((hJ.up (by unfold sce per; omega)).up (by unfold sce per; omega)) ?_ ?_
                 · rw [m_up_nj (by decide), m_up_eq]
                   unfold fiF
                   rw [if_pos ha]
                   first | (rw [if_pos (by omega)]) | (rw [if_neg (by omega)]; exact hf)
                 · rw [m_up_eq]
                   unfold moF
                   rw [if_pos ha]
                   first | (rw [if_pos (by omega)]) | (rw [if_neg (by omega)]; exact hm))
            · refine x_iload dX8_layIn_69 4 rfl ?_
              refine x_goto (tgt := 78) dX8_layIn_71 (by decide) ?_
              refine x_putI dX8_layIn_78 flX8_330 rfl rfl rfl ?_
              refine x_top (lv' := [(0, _), (1, _), (2, _), (3, _)]) 4 rfl ?_
              first
              | (have ha : ¬ alv κ t s = true := by assumption
                 exact nx _ _ rfl hJ (by unfold fiF; rw [if_neg ha]; exact hf) (by unfold moF; rw [if_neg ha]; exact hm))
              | (have ha : alv κ t s = true := by assumption
                 refine nx _ _ rfl ((hJ.up (by unfold sce per; omega)).up (by unfold sce per; omega)) ?_ ?_
                 · rw [m_up_nj (by decide), m_up_eq]
                   unfold fiF
                   rw [if_pos ha]
                   first | (rw [if_pos (by omega)]) | (rw [if_neg (by omega)]; exact hf)
                 · rw [m_up_eq]
                   unfold moF
                   rw [if_pos ha]
                   first | (rw [if_pos (by omega)]) | (rw [if_neg (by omega)]; exact hm))
          · refine x_iload dX8_layIn_47 4 rfl ?_
            refine x_goto (tgt := 56) dX8_layIn_49 (by decide) ?_
            refine x_putI dX8_layIn_56 flX8_327 rfl rfl rfl ?_
            refine x_aload_n dX8_layIn_59 0 rfl rfl ?_
            refine x_iload dX8_layIn_60 4 rfl ?_
            refine x_aload_n dX8_layIn_62 0 rfl rfl ?_
            refine y_getI dX8_layIn_63 flX8_330 rfl rfl (m_up_nj (by decide)) ?_
            refine x_ic_le (tgt := 74) dX8_layIn_66 (by decide) (by first | omega | exact z_and_r _ _ | exact z_or_r _ _ | exact z_xor_r _ _) (fun h66 => ?_) (fun h66 => ?_)
            · refine x_aload_n dX8_layIn_74 0 rfl rfl ?_
              refine y_getI dX8_layIn_75 flX8_330 rfl rfl (m_up_nj (by decide)) ?_
              refine x_putI dX8_layIn_78 flX8_330 rfl rfl rfl ?_
              refine x_top (lv' := [(0, _), (1, _), (2, _), (3, _)]) 4 rfl ?_
              first
              | (have ha : ¬ alv κ t s = true := by assumption
                 exact nx _ _ rfl hJ (by unfold fiF; rw [if_neg ha]; exact hf) (by unfold moF; rw [if_neg ha]; exact hm))
              | (have ha : alv κ t s = true := by assumption
                 refine nx _ _ rfl ((hJ.up (by unfold sce per; omega)).up (by unfold sce per; omega)) ?_ ?_
                 · rw [m_up_nj (by decide), m_up_eq]
                   unfold fiF
                   rw [if_pos ha]
                   first | (rw [if_pos (by omega)]) | (rw [if_neg (by omega)]; exact hf)
                 · rw [m_up_eq]
                   unfold moF
                   rw [if_pos ha]
                   first | (rw [if_pos (by omega)]) | (rw [if_neg (by omega)]; exact hm))
            · refine x_iload dX8_layIn_69 4 rfl ?_
              refine x_goto (tgt := 78) dX8_layIn_71 (by decide) ?_
              refine x_putI dX8_layIn_78 flX8_330 rfl rfl rfl ?_
              refine x_top (lv' := [(0, _), (1, _), (2, _), (3, _)]) 4 rfl ?_
              first
              | (have ha : ¬ alv κ t s = true := by assumption
                 exact nx _ _ rfl hJ (by unfold fiF; rw [if_neg ha]; exact hf) (by unfold moF; rw [if_neg ha]; exact hm))
              | (have ha : alv κ t s = true := by assumption
                 refine nx _ _ rfl ((hJ.up (by unfold sce per; omega)).up (by unfold sce per; omega)) ?_ ?_
                 · rw [m_up_nj (by decide), m_up_eq]
                   unfold fiF
                   rw [if_pos ha]
                   first | (rw [if_pos (by omega)]) | (rw [if_neg (by omega)]; exact hf)
                 · rw [m_up_eq]
                   unfold moF
                   rw [if_pos ha]
                   first | (rw [if_pos (by omega)]) | (rw [if_neg (by omega)]; exact hm))
    · intro J hJ hf hm
      refine x_iload_n dX8_layIn_12 3 rfl rfl ?_
      refine x_aload_n dX8_layIn_13 0 rfl rfl ?_
      refine x_callVi (as := []) dX8_layIn_14 lvX8_286 rfl rfl rfl rfl rfl rfl rfl ⟨rfl, rfl⟩ (s_X8_states hJ hH hS) (fun z14 I14 L14 R14 hq14 => ?_)
      obtain ⟨rfl, rfl, rfl, rfl⟩ := hq14
      refine x_ic_ge (tgt := 87) dX8_layIn_17 (by decide) (by first | omega | exact z_and_r _ _ | exact z_or_r _ _ | exact z_xor_r _ _) (fun h17 => ?_) (fun h17 => ?_)
      · refine x_vret dX8_layIn_87 rfl ?_
        rw [← hQ]
        exact ⟨rfl, hJ, rfl, rfl, hf, hm⟩
      · exfalso; omega
  refine x_aload_n dX8_layIn_0 0 rfl rfl ?_
  refine x_iconst dX8_layIn_1 ?_
  refine x_putI dX8_layIn_2 flX8_327 rfl rfl rfl ?_
  refine x_aload_n dX8_layIn_5 0 rfl rfl ?_
  refine x_iconst dX8_layIn_6 ?_
  refine x_putI dX8_layIn_7 flX8_330 rfl rfl rfl ?_
  refine x_iconst dX8_layIn_10 ?_
  refine x_istore_n (lv' := [(0, _), (1, _), (2, _), (3, _)]) dX8_layIn_11 rfl rfl rfl ?_
  exact loop 0 (by omega) _ ((h0.up (by unfold sce per; omega)).up (by unfold sce per; omega)) (by rw [m_up_nj (by decide), m_up_eq]; rfl) (by rw [m_up_eq]; rfl)
theorem s_X8_rooms {r t : Int} (hH : iHs I) (hE : iEvs I) (h1 : rI r) (h2 : rI t) : Sp G mtX8_rooms [mr 0, mi r, mi t] shM I L rM (qi (fun z I' L' R' => z = (s_rooms r t I).1 ∧ Pe (s_rooms r t I).2 I' ∧ LF L L' ∧ R' = rM)) := by
  refine Sp.of pnX8_rooms rfl ?_
  show Rn G mtX8_rooms _ 0 [(0, mr 0), (1, mi r), (2, mi t)] [] shM I L rM
  generalize hQ : (qi (fun z I' L' R' => z = (s_rooms r t I).1 ∧ Pe (s_rooms r t I).2 I' ∧ LF L L' ∧ R' = rM)) = Q
  have hW := hH.2.2.1
  have hT := hH.2.2.2.1
  have hR := hH.1
  have hl := KA_lst hH (wo := 0) (k := I 0 13)
  refine x_aload_n dX8_rooms_0 0 rfl rfl ?_
  refine x_iload_n dX8_rooms_1 1 rfl rfl ?_
  refine x_callVi (as := [_]) dX8_rooms_2 lvX8_198 rfl rfl rfl rfl rfl rfl rfl ⟨rfl, rfl⟩ (s_X8_isRoom (by omega) (by omega)) (fun z2 I2 L2 R2 hq2 => ?_)
  obtain ⟨rfl, rfl, rfl, rfl⟩ := hq2
  refine y_ifb_eq (tgt := 16) dX8_rooms_5 (by decide) (fun h5 => ?_) (fun h5 => ?_)
  · refine x_iconst dX8_rooms_16 ?_
    refine x_iret dX8_rooms_17 rfl ?_
    rw [← hQ]
    have hs : s_rooms r t I = (-1, I) := by unfold s_rooms; rw [if_pos (by omega)]
    rw [hs]
    exact ⟨_, rfl, rfl, Pe.rf _, LF.rf _, rfl⟩
  · refine x_aload_n dX8_rooms_8 0 rfl rfl ?_
    refine x_iload_n dX8_rooms_9 2 rfl rfl ?_
    refine x_callVi (as := [_]) dX8_rooms_10 lvX8_339 rfl rfl rfl rfl rfl rfl rfl ⟨rfl, rfl⟩ (s_X8_isMinute (by omega) (by omega)) (fun z10 I10 L10 R10 hq10 => ?_)
    obtain ⟨rfl, rfl, rfl, rfl⟩ := hq10
    refine y_ifb_ne (tgt := 18) dX8_rooms_13 (by decide) (fun h13 => ?_) (fun h13 => ?_)
    · refine x_aload_n dX8_rooms_18 0 rfl rfl ?_
      refine x_callVi (as := []) dX8_rooms_19 lvX8_342 rfl rfl rfl rfl rfl rfl rfl ⟨rfl, rfl⟩ (s_X8_layAll hH hE) (fun z19 I19 L19 R19 hq19 => ?_)
      obtain ⟨rfl, hE2, hLF, rfl, hTb⟩ := hq19
      refine y_ifb_ne (tgt := 31) dX8_rooms_22 (by decide) (fun h22 => ?_) (fun h22 => ?_)
      · refine x_aload_n dX8_rooms_31 0 rfl rfl ?_
        refine x_iload_n dX8_rooms_32 1 rfl rfl ?_
        refine x_iload_n dX8_rooms_33 2 rfl rfl ?_
        obtain ⟨n, rfl⟩ : ∃ n : Nat, t = n := ⟨t.toNat, by omega⟩
        refine x_callVv (as := [_, _]) dX8_rooms_34 lvX8_346 rfl rfl rfl rfl rfl rfl rfl ⟨rfl, rfl⟩ (s_X8_layIn (t := n) hE2 (KA_H hH) (KA_S hH hE) (hTb (b01_1.mpr (by assumption)) ) (by omega) h1) (fun I34 L34 R34 hq34 => ?_)
        obtain ⟨hE5, rfl, rfl, hf5, hm5⟩ := hq34
        refine x_aload_n dX8_rooms_37 0 rfl rfl ?_
        refine x_aload_n dX8_rooms_38 0 rfl rfl ?_
        refine x_getI dX8_rooms_39 flX8_330 rfl rfl ?_
        refine x_aload_n dX8_rooms_42 0 rfl rfl ?_
        refine x_getI dX8_rooms_43 flX8_327 rfl rfl ?_
        rw [hf5, hm5]
        refine x_callVi (as := [_, _]) dX8_rooms_46 lvX8_130 rfl rfl rfl rfl rfl rfl rfl ⟨rfl, rfl⟩ (s_X8_tells) (fun z46 I46 L46 R46 hq46 => ?_)
        obtain ⟨rfl, rfl, rfl, rfl⟩ := hq46
        refine x_iret dX8_rooms_49 rfl ?_
        rw [← hQ]
        have hs : s_rooms r n I = (fiF (kap I 0 (I 0 13)) r n (nst (kap I 0 (I 0 13))), a_tl I (moF (kap I 0 (I 0 13)) r n (nst (kap I 0 (I 0 13))))) := by
          unfold s_rooms
          rw [if_neg (by omega), if_neg (by rw [Bool.not_eq_false]; assumption), Int.toNat_natCast]
        rw [hs]
        exact ⟨_, rfl, rfl, (kap_pe hE5).tl _, hLF, rfl⟩
      · refine x_aload_n dX8_rooms_25 0 rfl rfl ?_
        refine x_iconst dX8_rooms_26 ?_
        refine x_callVi (as := [_]) dX8_rooms_27 lvX8_122 rfl rfl rfl rfl rfl rfl rfl ⟨rfl, rfl⟩ (s_X8_meets (by omega)) (fun z27 I27 L27 R27 hq27 => ?_)
        obtain ⟨rfl, rfl, rfl, rfl⟩ := hq27
        refine x_iret dX8_rooms_30 rfl ?_
        rw [← hQ]
        have hs : s_rooms r t I = (-3, a_mt I 4) := by
          unfold s_rooms
          rw [if_neg (by omega), if_pos (by rw [← Bool.not_eq_true]; assumption)]
        rw [hs]
        exact ⟨_, rfl, rfl, (kap_pe hE2).mt 4, hLF, rfl⟩
    · refine x_iconst dX8_rooms_16 ?_
      refine x_iret dX8_rooms_17 rfl ?_
      rw [← hQ]
      have hs : s_rooms r t I = (-1, I) := by unfold s_rooms; rw [if_pos (by omega)]
      rw [hs]
      exact ⟨_, rfl, rfl, Pe.rf _, LF.rf _, rfl⟩
end

/-! THE CLASS: House, Night, Shelf. -/
section
variable {G : GT} {I L : MI} {R : MR} {h n s z N K : Nat}

theorem s_X0_clear  (hh : isH R h) : Sp G mtX0_clear [mr h] shX I L R (qv (fun I' L' R' => I' = m_up (m_up (m_up (m_up (m_up I h 0 1) h 1 0) h 2 0) h 3 12) h 4 0 ∧ L = L' ∧ R = R')) := by
  refine Sp.of pnX0_clear rfl ?_
  show Rn G mtX0_clear _ 0 [(0, mr h)] [] shX I L R
  generalize hQ : (qv (fun I' L' R' => I' = m_up (m_up (m_up (m_up (m_up I h 0 1) h 1 0) h 2 0) h 3 12) h 4 0 ∧ L = L' ∧ R = R')) = Q
  refine x_aload_n dX0_clear_0 0 rfl rfl ?_
  refine x_iconst dX0_clear_1 ?_
  refine x_putI dX0_clear_2 flX0_27 rfl (shH0 hh) rfl ?_
  refine x_aload_n dX0_clear_5 0 rfl rfl ?_
  refine x_iconst dX0_clear_6 ?_
  refine x_putI dX0_clear_7 flX0_31 rfl (shH0 hh) rfl ?_
  refine x_aload_n dX0_clear_10 0 rfl rfl ?_
  refine x_iconst dX0_clear_11 ?_
  refine x_putI dX0_clear_12 flX0_34 rfl (shH0 hh) rfl ?_
  refine x_aload_n dX0_clear_15 0 rfl rfl ?_
  refine x_bipush dX0_clear_16 (by decide) ?_
  refine x_putI dX0_clear_18 flX0_37 rfl (shH0 hh) rfl ?_
  refine x_aload_n dX0_clear_21 0 rfl rfl ?_
  refine x_iconst dX0_clear_22 ?_
  refine x_putI dX0_clear_23 flX0_40 rfl (shH0 hh) rfl ?_
  refine x_vret dX0_clear_26 rfl ?_
  rw [← hQ]
  exact ⟨rfl, rfl, rfl, rfl⟩
theorem s_X0_addDoor {a b bo : Int} (hh : isH R h) (h1 : 0 ≤ I h 1 ∧ I h 1 < 8) (ha : rI a) (hb : rI b) (ho : rI bo) : Sp G mtX0_addDoor [mr h, mi a, mi b, mi bo] shX I L R (qv (fun I' L' R' => I' h 1 = I h 1 + 1 ∧ I' (h + 1) (I h 1) = min a b ∧ I' (h + 2) (I h 1) = max a b ∧ I' h 4 = (if bo = 0 then I h 4 else z_or (I h 4) (z_shl 1 (I h 1))) ∧ (∀ c j, ¬ (c = h ∧ (j = 1 ∨ j = 4)) → ¬ (c = h + 1 ∧ j = I h 1) → ¬ (c = h + 2 ∧ j = I h 1) → I' c j = I c j) ∧ L = L' ∧ R = R')) := by
  refine Sp.of pnX0_addDoor rfl ?_
  show Rn G mtX0_addDoor _ 0 [(0, mr h), (1, mi a), (2, mi b), (3, mi bo)] [] shX I L R
  generalize hQ : (qv (fun I' L' R' => I' h 1 = I h 1 + 1 ∧ I' (h + 1) (I h 1) = min a b ∧ I' (h + 2) (I h 1) = max a b ∧ I' h 4 = (if bo = 0 then I h 4 else z_or (I h 4) (z_shl 1 (I h 1))) ∧ (∀ c j, ¬ (c = h ∧ (j = 1 ∨ j = 4)) → ¬ (c = h + 1 ∧ j = I h 1) → ¬ (c = h + 2 ∧ j = I h 1) → I' c j = I c j) ∧ L = L' ∧ R = R')) = Q
  refine x_aload_n dX0_addDoor_0 0 rfl rfl ?_
  refine x_getI dX0_addDoor_1 flX0_31 (shH0 hh) rfl ?_
  refine x_bipush dX0_addDoor_4 (by decide) ?_
  refine x_ic_lt (tgt := 10) dX0_addDoor_6 (by decide) (by first | omega | exact z_and_r _ _ | exact z_or_r _ _ | exact z_xor_r _ _) (fun h6 => ?_) (fun h6 => ?_)
  · refine x_aload_n dX0_addDoor_10 0 rfl rfl ?_
    refine x_getR dX0_addDoor_11 flX0_9 (shH0 hh) rfl hh.2.1 ?_
    refine x_aload_n dX0_addDoor_14 0 rfl rfl ?_
    refine x_getI dX0_addDoor_15 flX0_31 (shH0 hh) rfl ?_
    refine x_iload_n dX0_addDoor_18 1 rfl rfl ?_
    refine x_iload_n dX0_addDoor_19 2 rfl rfl ?_
    refine x_imin dX0_addDoor_20 lvX0_43 rfl (by first | omega | exact z_and_r _ _ | exact z_or_r _ _ | exact z_xor_r _ _) ?_
    refine x_iast dX0_addDoor_23 (shH1 hh) (by omega) ?_
    refine x_aload_n dX0_addDoor_24 0 rfl rfl ?_
    refine x_getR dX0_addDoor_25 flX0_15 (shH0 hh) rfl hh.2.2.1 ?_
    refine x_aload_n dX0_addDoor_28 0 rfl rfl ?_
    refine y_getI dX0_addDoor_29 flX0_31 (shH0 hh) rfl (m_up_ne (by omega) _) ?_
    refine x_iload_n dX0_addDoor_32 1 rfl rfl ?_
    refine x_iload_n dX0_addDoor_33 2 rfl rfl ?_
    refine x_imax dX0_addDoor_34 lvX0_49 rfl (by first | omega | exact z_and_r _ _ | exact z_or_r _ _ | exact z_xor_r _ _) ?_
    refine x_iast dX0_addDoor_37 (shH2 hh) (by omega) ?_
    refine x_iload_n dX0_addDoor_38 3 rfl rfl ?_
    refine x_if_eq (tgt := 57) dX0_addDoor_39 (by decide) (by first | omega | exact z_and_r _ _ | exact z_or_r _ _ | exact z_xor_r _ _) (fun h39 => ?_) (fun h39 => ?_)
    · refine x_aload_n dX0_addDoor_57 0 rfl rfl ?_
      refine x_dup dX0_addDoor_58 rfl ?_
      refine y_getI dX0_addDoor_59 flX0_31 (shH0 hh) rfl (((m_up_ne (by omega) _).trans (m_up_ne (by omega) _))) ?_
      refine x_iconst dX0_addDoor_62 ?_
      refine x_iadd dX0_addDoor_63 ?_
      refine x_putI dX0_addDoor_64 flX0_31 rfl (shH0 hh) rfl ?_
      refine x_vret dX0_addDoor_67 rfl ?_
      rw [← hQ]
      first
      | (have hb0 : bo = 0 := by assumption
         rw [if_pos hb0]
         refine ⟨rfl, m_up_eq, ?_, ?_, ?_, fun c j q1 q2 q3 => ?_, rfl, rfl⟩
         · rw [m_up_ne (by omega), m_up_ne (by omega), m_up_eq]
         · rw [m_up_ne (by omega), m_up_eq]
         · rw [m_up_nj (by decide), m_up_ne (by omega), m_up_ne (by omega)]
         · unfold m_up; rw [if_neg (by omega), if_neg (by omega), if_neg (by omega)])
      | (have hb0 : ¬ bo = 0 := by assumption
         rw [if_neg hb0]
         refine ⟨rfl, m_up_eq, ?_, ?_, ?_, fun c j q1 q2 q3 => ?_, rfl, rfl⟩
         · rw [m_up_ne (by omega), m_up_ne (by omega), m_up_ne (by omega), m_up_eq]
         · rw [m_up_ne (by omega), m_up_ne (by omega), m_up_eq]
         · rw [m_up_nj (by decide), m_up_eq]
         · unfold m_up; rw [if_neg (by omega), if_neg (by omega), if_neg (by omega), if_neg (by omega)])
    · refine x_aload_n dX0_addDoor_42 0 rfl rfl ?_
      refine x_dup dX0_addDoor_43 rfl ?_
      refine y_getI dX0_addDoor_44 flX0_40 (shH0 hh) rfl (((m_up_ne (by omega) _).trans (m_up_ne (by omega) _))) ?_
      refine x_iconst dX0_addDoor_47 ?_
      refine x_aload_n dX0_addDoor_48 0 rfl rfl ?_
      refine y_getI dX0_addDoor_49 flX0_31 (shH0 hh) rfl (((m_up_ne (by omega) _).trans (m_up_ne (by omega) _))) ?_
      refine x_ishl dX0_addDoor_52 ?_
      refine x_ior dX0_addDoor_53 ?_
      refine x_putI dX0_addDoor_54 flX0_40 rfl (shH0 hh) rfl ?_
      refine x_aload_n dX0_addDoor_57 0 rfl rfl ?_
      refine x_dup dX0_addDoor_58 rfl ?_
      refine y_getI dX0_addDoor_59 flX0_31 (shH0 hh) rfl (((m_up_nj (by decide)).trans (((m_up_ne (by omega) _).trans (m_up_ne (by omega) _))))) ?_
      refine x_iconst dX0_addDoor_62 ?_
      refine x_iadd dX0_addDoor_63 ?_
      refine x_putI dX0_addDoor_64 flX0_31 rfl (shH0 hh) rfl ?_
      refine x_vret dX0_addDoor_67 rfl ?_
      rw [← hQ]
      first
      | (have hb0 : bo = 0 := by assumption
         rw [if_pos hb0]
         refine ⟨rfl, m_up_eq, ?_, ?_, ?_, fun c j q1 q2 q3 => ?_, rfl, rfl⟩
         · rw [m_up_ne (by omega), m_up_ne (by omega), m_up_eq]
         · rw [m_up_ne (by omega), m_up_eq]
         · rw [m_up_nj (by decide), m_up_ne (by omega), m_up_ne (by omega)]
         · unfold m_up; rw [if_neg (by omega), if_neg (by omega), if_neg (by omega)])
      | (have hb0 : ¬ bo = 0 := by assumption
         rw [if_neg hb0]
         refine ⟨rfl, m_up_eq, ?_, ?_, ?_, fun c j q1 q2 q3 => ?_, rfl, rfl⟩
         · rw [m_up_ne (by omega), m_up_ne (by omega), m_up_ne (by omega), m_up_eq]
         · rw [m_up_ne (by omega), m_up_ne (by omega), m_up_eq]
         · rw [m_up_nj (by decide), m_up_eq]
         · unfold m_up; rw [if_neg (by omega), if_neg (by omega), if_neg (by omega), if_neg (by omega)])
  · refine x_vret dX0_addDoor_9 rfl ?_
    exfalso; omega
theorem s_X0_addWalker {a b : Int} (hh : isH R h) (h1 : 0 ≤ I h 2 ∧ I h 2 < 3) : Sp G mtX0_addWalker [mr h, mi a, mi b] shX I L R (qv (fun I' L' R' => I' h 2 = I h 2 + 1 ∧ I' (h + 3) (I h 2) = a ∧ I' (h + 4) (I h 2) = b ∧ (∀ c j, ¬ (c = h ∧ j = 2) → ¬ (c = h + 3 ∧ j = I h 2) → ¬ (c = h + 4 ∧ j = I h 2) → I' c j = I c j) ∧ L = L' ∧ R = R')) := by
  refine Sp.of pnX0_addWalker rfl ?_
  show Rn G mtX0_addWalker _ 0 [(0, mr h), (1, mi a), (2, mi b)] [] shX I L R
  generalize hQ : (qv (fun I' L' R' => I' h 2 = I h 2 + 1 ∧ I' (h + 3) (I h 2) = a ∧ I' (h + 4) (I h 2) = b ∧ (∀ c j, ¬ (c = h ∧ j = 2) → ¬ (c = h + 3 ∧ j = I h 2) → ¬ (c = h + 4 ∧ j = I h 2) → I' c j = I c j) ∧ L = L' ∧ R = R')) = Q
  refine x_aload_n dX0_addWalker_0 0 rfl rfl ?_
  refine x_getI dX0_addWalker_1 flX0_34 (shH0 hh) rfl ?_
  refine x_iconst dX0_addWalker_4 ?_
  refine x_ic_lt (tgt := 9) dX0_addWalker_5 (by decide) (by first | omega | exact z_and_r _ _ | exact z_or_r _ _ | exact z_xor_r _ _) (fun h5 => ?_) (fun h5 => ?_)
  · refine x_aload_n dX0_addWalker_9 0 rfl rfl ?_
    refine x_getR dX0_addWalker_10 flX0_18 (shH0 hh) rfl hh.2.2.2.1 ?_
    refine x_aload_n dX0_addWalker_13 0 rfl rfl ?_
    refine x_getI dX0_addWalker_14 flX0_34 (shH0 hh) rfl ?_
    refine x_iload_n dX0_addWalker_17 1 rfl rfl ?_
    refine x_iast dX0_addWalker_18 (shH3 hh) (by omega) ?_
    refine x_aload_n dX0_addWalker_19 0 rfl rfl ?_
    refine x_getR dX0_addWalker_20 flX0_21 (shH0 hh) rfl hh.2.2.2.2 ?_
    refine x_aload_n dX0_addWalker_23 0 rfl rfl ?_
    refine y_getI dX0_addWalker_24 flX0_34 (shH0 hh) rfl (m_up_ne (by omega) _) ?_
    refine x_iload_n dX0_addWalker_27 2 rfl rfl ?_
    refine x_iast dX0_addWalker_28 (shH4 hh) (by omega) ?_
    refine x_aload_n dX0_addWalker_29 0 rfl rfl ?_
    refine x_dup dX0_addWalker_30 rfl ?_
    refine y_getI dX0_addWalker_31 flX0_34 (shH0 hh) rfl (((m_up_ne (by omega) _).trans (m_up_ne (by omega) _))) ?_
    refine x_iconst dX0_addWalker_34 ?_
    refine x_iadd dX0_addWalker_35 ?_
    refine x_putI dX0_addWalker_36 flX0_34 rfl (shH0 hh) rfl ?_
    refine x_vret dX0_addWalker_39 rfl ?_
    rw [← hQ]
    refine ⟨rfl, m_up_eq, ?_, ?_, fun c j q1 q2 q3 => ?_, rfl, rfl⟩
    · rw [m_up_ne (by omega), m_up_ne (by omega), m_up_eq]
    · rw [m_up_ne (by omega), m_up_eq]
    · unfold m_up; rw [if_neg (by omega), if_neg (by omega), if_neg (by omega)]
  · refine x_vret dX0_addWalker_8 rfl ?_
    exfalso; omega
def dxD (I : MI) (h n : Nat) (x : Int) : Int := hxN (fun d x => hxL (fun k => diX I h (d : Int) (k : Int)) 3 x) n x
def dxW (I : MI) (h n : Nat) (x : Int) : Int := hxN (fun w x => 31 * (31 * x + I (h + 3) (w : Int)) + I (h + 4) (w : Int)) n x
def itX (I : MI) (n : Nat) (e w : Int) : Int := if w = 0 then I (n + 1) e else if w = 1 then I (n + 2) e else if w = 2 then I (n + 3) e else I (n + 4) e
def dxE (I : MI) (n k : Nat) (x : Int) : Int := hxN (fun e x => hxL (fun w => itX I n (e : Int) (w : Int)) 4 x) k x
def dxS (I : MI) (s z k : Nat) (x : Int) : Int := hxN (fun r x => hxL (fun i => I (s + 2 + r) (i : Int)) (I z (r : Int)).toNat (31 * x + I z (r : Int))) k x
set_option maxHeartbeats 1500000 in
theorem s_X0_digested {x : Int} (hh : isH R h) (hb1 : 0 ≤ I h 1 ∧ I h 1 ≤ 8) (hb2 : 0 ≤ I h 2 ∧ I h 2 ≤ 3) (hl : ∀ d, 0 ≤ d → d < 8 → rI (I (h + 1) d) ∧ rI (I (h + 2) d)) (hw : ∀ w, 0 ≤ w → w < 3 → rI (I (h + 3) w) ∧ rI (I (h + 4) w)) : Sp G mtX0_digested [mr h, ml x] shX I L R (ql (pu (dxW I h (I h 2).toNat (dxD I h (I h 1).toNat x)) I L R)) := by
  refine Sp.of pnX0_digested rfl ?_
  show Rn G mtX0_digested _ 0 [(0, mr h), (1, ml x)] [] shX I L R
  generalize hQ : (ql (pu (dxW I h (I h 2).toNat (dxD I h (I h 1).toNat x)) I L R)) = Q
  have l2 : ∀ w : Nat, w ≤ (I h 2).toNat → ∀ lv8, (lv8 = [(0, mr h), (1, ml (dxW I h w (dxD I h (I h 1).toNat x))), (3, mi (w : Int))]) → Rn G mtX0_digested Q 48 lv8 [] shX I L R := by
    refine lpn _ (fun w hwk ih => ?_) ?_
    · intro lv8 hlv
      subst hlv
      have hwr := hw (w : Int) (by omega) (by omega)
      refine x_iload_n dX0_digested_48 2 rfl rfl ?_
      refine x_aload_n dX0_digested_49 0 rfl rfl ?_
      refine x_getI dX0_digested_50 flX0_34 (shH0 hh) rfl ?_
      refine x_ic_ge (tgt := 90) dX0_digested_53 (by decide) (by omega) (fun h53 => ?_) (fun h53 => ?_)
      · exfalso; omega
      · refine x_ldc2 (31) dX0_digested_56 lkX0_68 ?_
        refine x_lload_n dX0_digested_59 1 rfl rfl ?_
        refine x_lmul dX0_digested_60 ?_
        refine x_aload_n dX0_digested_61 0 rfl rfl ?_
        refine x_getR dX0_digested_62 flX0_18 (shH0 hh) rfl hh.2.2.2.1 ?_
        refine x_iload_n dX0_digested_65 2 rfl rfl ?_
        refine x_iald dX0_digested_66 (shH3 hh) (by omega) ?_
        refine x_i2l dX0_digested_67 (by omega) ?_
        refine x_ladd dX0_digested_68 ?_
        refine x_lstore_n (lv' := [(0, _), (1, _), (3, _)]) dX0_digested_69 rfl rfl rfl ?_
        refine x_ldc2 (31) dX0_digested_70 lkX0_68 ?_
        refine x_lload_n dX0_digested_73 1 rfl rfl ?_
        refine x_lmul dX0_digested_74 ?_
        refine x_aload_n dX0_digested_75 0 rfl rfl ?_
        refine x_getR dX0_digested_76 flX0_21 (shH0 hh) rfl hh.2.2.2.2 ?_
        refine x_iload_n dX0_digested_79 2 rfl rfl ?_
        refine x_iald dX0_digested_80 (shH4 hh) (by omega) ?_
        refine x_i2l dX0_digested_81 (by omega) ?_
        refine x_ladd dX0_digested_82 ?_
        refine x_lstore_n (lv' := [(0, _), (1, _), (3, _)]) dX0_digested_83 rfl rfl rfl ?_
        refine x_iinc (lv' := [(0, _), (1, _), (3, _)]) dX0_digested_84 2 rfl rfl rfl ?_
        refine x_goto (tgt := 48) dX0_digested_87 (by decide) ?_
        exact ih _ rfl
    · intro lv8 hlv
      subst hlv
      refine x_iload_n dX0_digested_48 2 rfl rfl ?_
      refine x_aload_n dX0_digested_49 0 rfl rfl ?_
      refine x_getI dX0_digested_50 flX0_34 (shH0 hh) rfl ?_
      refine x_ic_ge (tgt := 90) dX0_digested_53 (by decide) (by omega) (fun h53 => ?_) (fun h53 => ?_)
      · refine x_lload_n dX0_digested_90 1 rfl rfl ?_
        refine x_lret dX0_digested_91 rfl ?_
        rw [← hQ]
        exact ⟨_, rfl, rfl, rfl, rfl, rfl⟩
      · exfalso; omega
  have l1 : ∀ d : Nat, d ≤ (I h 1).toNat → ∀ lv8, (lv8 = [(0, mr h), (1, ml (dxD I h d x)), (3, mi (d : Int))]) → Rn G mtX0_digested Q 2 lv8 [] shX I L R := by
    refine lpn _ (fun d hd ih => ?_) ?_
    · intro lv8 hlv
      subst hlv
      have hlr := hl (d : Int) (by omega) (by omega)
      have il : ∀ k : Nat, k ≤ 3 → Rn G mtX0_digested Q 13 [(0, mr h), (1, ml (hxL (fun k => diX I h (d : Int) (k : Int)) k (dxD I h d x))), (3, mi (d : Int)), (4, mi (k : Int))] [] shX I L R := by
        refine lpn 3 (fun k hk ihk => ?_) ?_
        · have hri : rI (diX I h (d : Int) (k : Int)) := by
            have := b01_r (tb (I h 4) (d : Int).toNat = true)
            unfold diX
            split
            · exact hlr.1
            · split
              · exact hlr.2
              · omega
          refine x_iload dX0_digested_13 3 rfl ?_
          refine x_iconst dX0_digested_15 ?_
          refine x_ic_gt (tgt := 40) dX0_digested_16 (by decide) (by omega) (fun h16 => ?_) (fun h16 => ?_)
          · exfalso; omega
          · refine x_ldc2 (31) dX0_digested_19 lkX0_68 ?_
            refine x_lload_n dX0_digested_22 1 rfl rfl ?_
            refine x_lmul dX0_digested_23 ?_
            refine x_aload_n dX0_digested_24 0 rfl rfl ?_
            refine x_iload_n dX0_digested_25 2 rfl rfl ?_
            refine x_iload dX0_digested_26 3 rfl ?_
            refine x_callVi (as := [_, _]) dX0_digested_28 lvX0_70 rfl (shH0 hh) rfl rfl rfl rfl rfl ⟨rfl, rfl⟩ (s_X0_doorItem hh (by omega) (by omega)) (fun z28 I28 L28 R28 hq28 => ?_)
            obtain ⟨rfl, rfl, rfl, rfl⟩ := hq28
            refine x_i2l dX0_digested_31 (by omega) ?_
            refine x_ladd dX0_digested_32 ?_
            refine x_lstore_n (lv' := [(0, _), (1, _), (3, _), (4, _)]) dX0_digested_33 rfl rfl rfl ?_
            refine x_iinc (lv' := [(0, _), (1, _), (3, _), (4, _)]) dX0_digested_34 3 rfl rfl rfl ?_
            refine x_goto (tgt := 13) dX0_digested_37 (by decide) ?_
            exact ihk
        · refine x_iload dX0_digested_13 3 rfl ?_
          refine x_iconst dX0_digested_15 ?_
          refine x_ic_gt (tgt := 40) dX0_digested_16 (by decide) (by omega) (fun h16 => ?_) (fun h16 => ?_)
          · refine x_iinc (lv' := [(0, _), (1, _), (3, _), (4, _)]) dX0_digested_40 2 rfl rfl rfl ?_
            refine x_goto (tgt := 2) dX0_digested_43 (by decide) ?_
            refine x_top (lv' := [(0, _), (1, _), (3, _)]) 4 rfl ?_
            exact ih _ rfl
          · exfalso; omega
      refine x_iload_n dX0_digested_2 2 rfl rfl ?_
      refine x_aload_n dX0_digested_3 0 rfl rfl ?_
      refine x_getI dX0_digested_4 flX0_31 (shH0 hh) rfl ?_
      refine x_ic_ge (tgt := 46) dX0_digested_7 (by decide) (by omega) (fun h7 => ?_) (fun h7 => ?_)
      · exfalso; omega
      · refine x_iconst dX0_digested_10 ?_
        refine x_istore (lv' := [(0, _), (1, _), (3, _), (4, _)]) dX0_digested_11 rfl rfl ?_
        exact il 0 (by omega)
    · intro lv8 hlv
      subst hlv
      refine x_iload_n dX0_digested_2 2 rfl rfl ?_
      refine x_aload_n dX0_digested_3 0 rfl rfl ?_
      refine x_getI dX0_digested_4 flX0_31 (shH0 hh) rfl ?_
      refine x_ic_ge (tgt := 46) dX0_digested_7 (by decide) (by omega) (fun h7 => ?_) (fun h7 => ?_)
      · refine x_iconst dX0_digested_46 ?_
        refine x_istore_n (lv' := [(0, _), (1, _), (3, _)]) dX0_digested_47 rfl rfl rfl ?_
        exact l2 0 (by omega) _ rfl
      · exfalso; omega
  refine x_iconst dX0_digested_0 ?_
  refine x_istore_n (lv' := [(0, _), (1, _), (3, _)]) dX0_digested_1 rfl rfl rfl ?_
  exact l1 0 (by omega) _ rfl
def adN (I : MI) (n : Nat) (k a b t : Int) : MI := m_up (m_up (m_up (m_up (m_up I (n + 1) (I n 0) k) (n + 2) (I n 0) a) (n + 3) (I n 0) b) (n + 4) (I n 0) t) n 0 (I n 0 + 1)
theorem s_X2_add {k a b t : Int} (hn : isN R n) (h0 : 0 ≤ I n 0 ∧ I n 0 < 24) : Sp G mtX2_add [mr n, mi k, mi a, mi b, mi t] shX I L R (qv (fun I' L' R' => I' = adN I n k a b t ∧ L = L' ∧ R = R')) := by
  refine Sp.of pnX2_add rfl ?_
  show Rn G mtX2_add _ 0 [(0, mr n), (1, mi k), (2, mi a), (3, mi b), (4, mi t)] [] shX I L R
  generalize hQ : (qv (fun I' L' R' => I' = adN I n k a b t ∧ L = L' ∧ R = R')) = Q
  refine x_aload_n dX2_add_0 0 rfl rfl ?_
  refine x_getI dX2_add_1 flX2_24 (shN0 hn) rfl ?_
  refine x_bipush dX2_add_4 (by decide) ?_
  refine x_ic_lt (tgt := 10) dX2_add_6 (by decide) (by first | omega | exact z_and_r _ _ | exact z_or_r _ _ | exact z_xor_r _ _) (fun h6 => ?_) (fun h6 => ?_)
  · refine x_aload_n dX2_add_10 0 rfl rfl ?_
    refine x_getR dX2_add_11 flX2_9 (shN0 hn) rfl hn.2.1 ?_
    refine x_aload_n dX2_add_14 0 rfl rfl ?_
    refine x_getI dX2_add_15 flX2_24 (shN0 hn) rfl ?_
    refine x_iload_n dX2_add_18 1 rfl rfl ?_
    refine x_iast dX2_add_19 (shN1 hn) (by omega) ?_
    refine x_aload_n dX2_add_20 0 rfl rfl ?_
    refine x_getR dX2_add_21 flX2_15 (shN0 hn) rfl hn.2.2.1 ?_
    refine x_aload_n dX2_add_24 0 rfl rfl ?_
    refine y_getI dX2_add_25 flX2_24 (shN0 hn) rfl (m_up_ne (by omega) _) ?_
    refine x_iload_n dX2_add_28 2 rfl rfl ?_
    refine x_iast dX2_add_29 (shN2 hn) (by omega) ?_
    refine x_aload_n dX2_add_30 0 rfl rfl ?_
    refine x_getR dX2_add_31 flX2_18 (shN0 hn) rfl hn.2.2.2.1 ?_
    refine x_aload_n dX2_add_34 0 rfl rfl ?_
    refine y_getI dX2_add_35 flX2_24 (shN0 hn) rfl (((m_up_ne (by omega) _).trans (m_up_ne (by omega) _))) ?_
    refine x_iload_n dX2_add_38 3 rfl rfl ?_
    refine x_iast dX2_add_39 (shN3 hn) (by omega) ?_
    refine x_aload_n dX2_add_40 0 rfl rfl ?_
    refine x_getR dX2_add_41 flX2_21 (shN0 hn) rfl hn.2.2.2.2 ?_
    refine x_aload_n dX2_add_44 0 rfl rfl ?_
    refine y_getI dX2_add_45 flX2_24 (shN0 hn) rfl (((m_up_ne (by omega) _).trans (((m_up_ne (by omega) _).trans (m_up_ne (by omega) _))))) ?_
    refine x_iload dX2_add_48 4 rfl ?_
    refine x_iast dX2_add_50 (shN4 hn) (by omega) ?_
    refine x_aload_n dX2_add_51 0 rfl rfl ?_
    refine x_dup dX2_add_52 rfl ?_
    refine y_getI dX2_add_53 flX2_24 (shN0 hn) rfl (((m_up_ne (by omega) _).trans (((m_up_ne (by omega) _).trans (((m_up_ne (by omega) _).trans (m_up_ne (by omega) _))))))) ?_
    refine x_iconst dX2_add_56 ?_
    refine x_iadd dX2_add_57 ?_
    refine x_putI dX2_add_58 flX2_24 rfl (shN0 hn) rfl ?_
    refine x_vret dX2_add_61 rfl ?_
    rw [← hQ]
    exact ⟨rfl, rfl, rfl, rfl⟩
  · refine x_vret dX2_add_9 rfl ?_
    exfalso; omega
theorem s_X2_addFrom {m : Nat} {e : Int} (hn : isN R n) (hm : isN R m) (h0 : 0 ≤ I n 0 ∧ I n 0 < 24) (he : 0 ≤ e ∧ e < 24) : Sp G mtX2_addFrom [mr n, mr m, mi e] shX I L R (qv (fun I' L' R' => I' = adN I n (I (m + 1) e) (I (m + 2) e) (I (m + 3) e) (I (m + 4) e) ∧ L = L' ∧ R = R')) := by
  refine Sp.of pnX2_addFrom rfl ?_
  show Rn G mtX2_addFrom _ 0 [(0, mr n), (1, mr m), (2, mi e)] [] shX I L R
  generalize hQ : (qv (fun I' L' R' => I' = adN I n (I (m + 1) e) (I (m + 2) e) (I (m + 3) e) (I (m + 4) e) ∧ L = L' ∧ R = R')) = Q
  refine x_aload_n dX2_addFrom_0 0 rfl rfl ?_
  refine x_aload_n dX2_addFrom_1 1 rfl rfl ?_
  refine x_getR dX2_addFrom_2 flX2_9 (shN0 hm) rfl hm.2.1 ?_
  refine x_iload_n dX2_addFrom_5 2 rfl rfl ?_
  refine x_iald dX2_addFrom_6 (shN1 hm) (by omega) ?_
  refine x_aload_n dX2_addFrom_7 1 rfl rfl ?_
  refine x_getR dX2_addFrom_8 flX2_15 (shN0 hm) rfl hm.2.2.1 ?_
  refine x_iload_n dX2_addFrom_11 2 rfl rfl ?_
  refine x_iald dX2_addFrom_12 (shN2 hm) (by omega) ?_
  refine x_aload_n dX2_addFrom_13 1 rfl rfl ?_
  refine x_getR dX2_addFrom_14 flX2_18 (shN0 hm) rfl hm.2.2.2.1 ?_
  refine x_iload_n dX2_addFrom_17 2 rfl rfl ?_
  refine x_iald dX2_addFrom_18 (shN3 hm) (by omega) ?_
  refine x_aload_n dX2_addFrom_19 1 rfl rfl ?_
  refine x_getR dX2_addFrom_20 flX2_21 (shN0 hm) rfl hm.2.2.2.2 ?_
  refine x_iload_n dX2_addFrom_23 2 rfl rfl ?_
  refine x_iald dX2_addFrom_24 (shN4 hm) (by omega) ?_
  refine x_callVv (as := [_, _, _, _]) dX2_addFrom_25 lvX2_28 rfl (shN0 hn) rfl rfl rfl rfl rfl ⟨rfl, rfl⟩ (s_X2_add hn h0) (fun I25 L25 R25 hq25 => ?_)
  obtain ⟨rfl, rfl, rfl⟩ := hq25
  refine x_vret dX2_addFrom_28 rfl ?_
  rw [← hQ]
  exact ⟨rfl, rfl, rfl, rfl⟩
theorem s_X2_names {e : Int} (hn : isN R n) (h0 : rI (I n 0)) (he : rI e) : Sp G mtX2_names [mr n, mi e] shX I L R (qi (pu (b01 (0 ≤ e ∧ e < I n 0)) I L R)) := by
  refine Sp.of pnX2_names rfl ?_
  show Rn G mtX2_names _ 0 [(0, mr n), (1, mi e)] [] shX I L R
  generalize hQ : (qi (pu (b01 (0 ≤ e ∧ e < I n 0)) I L R)) = Q
  refine x_iload_n dX2_names_0 1 rfl rfl ?_
  refine x_if_lt (tgt := 16) dX2_names_1 (by decide) (by first | omega | exact z_and_r _ _ | exact z_or_r _ _ | exact z_xor_r _ _) (fun h1 => ?_) (fun h1 => ?_)
  · refine x_iconst dX2_names_16 ?_
    refine x_zret dX2_names_17 rfl (by omega) ?_
    rw [← hQ]
    first | exact ⟨_, rfl, b01_t (by omega), rfl, rfl, rfl⟩ | exact ⟨_, rfl, b01_f (by omega), rfl, rfl, rfl⟩
  · refine x_iload_n dX2_names_4 1 rfl rfl ?_
    refine x_aload_n dX2_names_5 0 rfl rfl ?_
    refine x_getI dX2_names_6 flX2_24 (shN0 hn) rfl ?_
    refine x_ic_ge (tgt := 16) dX2_names_9 (by decide) (by first | omega | exact z_and_r _ _ | exact z_or_r _ _ | exact z_xor_r _ _) (fun h9 => ?_) (fun h9 => ?_)
    · refine x_iconst dX2_names_16 ?_
      refine x_zret dX2_names_17 rfl (by omega) ?_
      rw [← hQ]
      first | exact ⟨_, rfl, b01_t (by omega), rfl, rfl, rfl⟩ | exact ⟨_, rfl, b01_f (by omega), rfl, rfl, rfl⟩
    · refine x_iconst dX2_names_12 ?_
      refine x_goto (tgt := 17) dX2_names_13 (by decide) ?_
      refine x_zret dX2_names_17 rfl (by omega) ?_
      rw [← hQ]
      first | exact ⟨_, rfl, b01_t (by omega), rfl, rfl, rfl⟩ | exact ⟨_, rfl, b01_f (by omega), rfl, rfl, rfl⟩
theorem s_X2_isOf {e k : Int} (hn : isN R n) (he : 0 ≤ e ∧ e < 24) (hk : rI (I (n + 1) e)) (h1 : rI k) : Sp G mtX2_isOf [mr n, mi e, mi k] shX I L R (qi (pu (b01 (I (n + 1) e = k ∨ k = 2 ∧ I (n + 1) e = 3)) I L R)) := by
  refine Sp.of pnX2_isOf rfl ?_
  show Rn G mtX2_isOf _ 0 [(0, mr n), (1, mi e), (2, mi k)] [] shX I L R
  generalize hQ : (qi (pu (b01 (I (n + 1) e = k ∨ k = 2 ∧ I (n + 1) e = 3)) I L R)) = Q
  refine x_aload_n dX2_isOf_0 0 rfl rfl ?_
  refine x_getR dX2_isOf_1 flX2_9 (shN0 hn) rfl hn.2.1 ?_
  refine x_iload_n dX2_isOf_4 1 rfl rfl ?_
  refine x_iald dX2_isOf_5 (shN1 hn) (by omega) ?_
  refine x_iload_n dX2_isOf_6 2 rfl rfl ?_
  refine x_ic_eq (tgt := 25) dX2_isOf_7 (by decide) (by first | omega | exact z_and_r _ _ | exact z_or_r _ _ | exact z_xor_r _ _) (fun h7 => ?_) (fun h7 => ?_)
  · refine x_iconst dX2_isOf_25 ?_
    refine x_goto (tgt := 30) dX2_isOf_26 (by decide) ?_
    refine x_zret dX2_isOf_30 rfl (by omega) ?_
    rw [← hQ]
    first | exact ⟨_, rfl, b01_t (by omega), rfl, rfl, rfl⟩ | exact ⟨_, rfl, b01_f (by omega), rfl, rfl, rfl⟩
  · refine x_iload_n dX2_isOf_10 2 rfl rfl ?_
    refine x_iconst dX2_isOf_11 ?_
    refine x_ic_ne (tgt := 29) dX2_isOf_12 (by decide) (by first | omega | exact z_and_r _ _ | exact z_or_r _ _ | exact z_xor_r _ _) (fun h12 => ?_) (fun h12 => ?_)
    · refine x_iconst dX2_isOf_29 ?_
      refine x_zret dX2_isOf_30 rfl (by omega) ?_
      rw [← hQ]
      first | exact ⟨_, rfl, b01_t (by omega), rfl, rfl, rfl⟩ | exact ⟨_, rfl, b01_f (by omega), rfl, rfl, rfl⟩
    · refine x_aload_n dX2_isOf_15 0 rfl rfl ?_
      refine x_getR dX2_isOf_16 flX2_9 (shN0 hn) rfl hn.2.1 ?_
      refine x_iload_n dX2_isOf_19 1 rfl rfl ?_
      refine x_iald dX2_isOf_20 (shN1 hn) (by omega) ?_
      refine x_iconst dX2_isOf_21 ?_
      refine x_ic_ne (tgt := 29) dX2_isOf_22 (by decide) (by first | omega | exact z_and_r _ _ | exact z_or_r _ _ | exact z_xor_r _ _) (fun h22 => ?_) (fun h22 => ?_)
      · refine x_iconst dX2_isOf_29 ?_
        refine x_zret dX2_isOf_30 rfl (by omega) ?_
        rw [← hQ]
        first | exact ⟨_, rfl, b01_t (by omega), rfl, rfl, rfl⟩ | exact ⟨_, rfl, b01_f (by omega), rfl, rfl, rfl⟩
      · refine x_iconst dX2_isOf_25 ?_
        refine x_goto (tgt := 30) dX2_isOf_26 (by decide) ?_
        refine x_zret dX2_isOf_30 rfl (by omega) ?_
        rw [← hQ]
        first | exact ⟨_, rfl, b01_t (by omega), rfl, rfl, rfl⟩ | exact ⟨_, rfl, b01_f (by omega), rfl, rfl, rfl⟩
theorem s_X2_item {e w : Int} (hn : isN R n) (he : 0 ≤ e ∧ e < 24) (hw : 0 ≤ w ∧ w ≤ 3) : Sp G mtX2_item [mr n, mi e, mi w] shX I L R (qi (pu (itX I n e w) I L R)) := by
  refine Sp.of pnX2_item rfl ?_
  show Rn G mtX2_item _ 0 [(0, mr n), (1, mi e), (2, mi w)] [] shX I L R
  generalize hQ : (qi (pu (itX I n e w) I L R)) = Q
  have hk : w = 0 ∨ w = 1 ∨ w = 2 ∨ (w < 0 ∨ 2 < w) := by omega
  refine x_iload_n dX2_item_0 2 rfl rfl ?_
  rcases hk with sw1 | sw1 | sw1 | sw1
  · rw [sw1]
    refine x_tswIn (off := 27) (tgt := 28) dX2_item_1 (by decide) (by decide) rfl (by decide) ?_
    refine x_aload_n dX2_item_28 0 rfl rfl ?_
    refine x_getR dX2_item_29 flX2_9 (shN0 hn) rfl hn.2.1 ?_
    refine x_iload_n dX2_item_32 1 rfl rfl ?_
    refine x_iald dX2_item_33 (shN1 hn) (by omega) ?_
    refine x_iret dX2_item_34 rfl ?_
    rw [← hQ]
    refine ⟨_, rfl, ?_, rfl, rfl, rfl⟩
    unfold itX
    first | (rw [if_pos (by omega)]) | (rw [if_neg (by omega), if_pos (by omega)]) | (rw [if_neg (by omega), if_neg (by omega), if_pos (by omega)]) | (rw [if_neg (by omega), if_neg (by omega), if_neg (by omega)])
  · rw [sw1]
    refine x_tswIn (off := 34) (tgt := 35) dX2_item_1 (by decide) (by decide) rfl (by decide) ?_
    refine x_aload_n dX2_item_35 0 rfl rfl ?_
    refine x_getR dX2_item_36 flX2_15 (shN0 hn) rfl hn.2.2.1 ?_
    refine x_iload_n dX2_item_39 1 rfl rfl ?_
    refine x_iald dX2_item_40 (shN2 hn) (by omega) ?_
    refine x_iret dX2_item_41 rfl ?_
    rw [← hQ]
    refine ⟨_, rfl, ?_, rfl, rfl, rfl⟩
    unfold itX
    first | (rw [if_pos (by omega)]) | (rw [if_neg (by omega), if_pos (by omega)]) | (rw [if_neg (by omega), if_neg (by omega), if_pos (by omega)]) | (rw [if_neg (by omega), if_neg (by omega), if_neg (by omega)])
  · rw [sw1]
    refine x_tswIn (off := 41) (tgt := 42) dX2_item_1 (by decide) (by decide) rfl (by decide) ?_
    refine x_aload_n dX2_item_42 0 rfl rfl ?_
    refine x_getR dX2_item_43 flX2_18 (shN0 hn) rfl hn.2.2.2.1 ?_
    refine x_iload_n dX2_item_46 1 rfl rfl ?_
    refine x_iald dX2_item_47 (shN3 hn) (by omega) ?_
    refine x_iret dX2_item_48 rfl ?_
    rw [← hQ]
    refine ⟨_, rfl, ?_, rfl, rfl, rfl⟩
    unfold itX
    first | (rw [if_pos (by omega)]) | (rw [if_neg (by omega), if_pos (by omega)]) | (rw [if_neg (by omega), if_neg (by omega), if_pos (by omega)]) | (rw [if_neg (by omega), if_neg (by omega), if_neg (by omega)])
  · refine x_tswOut (tgt := 49) dX2_item_1 (by first | omega | exact z_and_r _ _ | exact z_or_r _ _ | exact z_xor_r _ _) (by omega) (by decide) ?_
    refine x_aload_n dX2_item_49 0 rfl rfl ?_
    refine x_getR dX2_item_50 flX2_21 (shN0 hn) rfl hn.2.2.2.2 ?_
    refine x_iload_n dX2_item_53 1 rfl rfl ?_
    refine x_iald dX2_item_54 (shN4 hn) (by omega) ?_
    refine x_iret dX2_item_55 rfl ?_
    rw [← hQ]
    refine ⟨_, rfl, ?_, rfl, rfl, rfl⟩
    unfold itX
    first | (rw [if_pos (by omega)]) | (rw [if_neg (by omega), if_pos (by omega)]) | (rw [if_neg (by omega), if_neg (by omega), if_pos (by omega)]) | (rw [if_neg (by omega), if_neg (by omega), if_neg (by omega)])
theorem s_X2_sightings  (hn : isN R n) (h0 : 0 ≤ I n 0 ∧ I n 0 ≤ 24) (hk : ∀ e, 0 ≤ e → e < I n 0 → rI (I (n + 1) e)) : Sp G mtX2_sightings [mr n] shX I L R (qi (pu (ctF (fun e => decide (I (n + 1) (e : Int) = 2 ∨ I (n + 1) (e : Int) = 3)) (I n 0).toNat) I L R)) := by
  refine Sp.of pnX2_sightings rfl ?_
  show Rn G mtX2_sightings _ 0 [(0, mr n)] [] shX I L R
  generalize hQ : (qi (pu (ctF (fun e => decide (I (n + 1) (e : Int) = 2 ∨ I (n + 1) (e : Int) = 3)) (I n 0).toNat) I L R)) = Q
  have loop : ∀ e : Nat, e ≤ (I n 0).toNat → Rn G mtX2_sightings Q 4 [(0, mr n), (1, mi (ctF (fun e => decide (I (n + 1) (e : Int) = 2 ∨ I (n + 1) (e : Int) = 3)) e)), (2, mi (e : Int))] [] shX I L R := by
    refine lpn _ (fun e he ih => ?_) ?_
    · have hr := hk (e : Int) (by omega) (by omega)
      rw [ctF_s] at ih
      simp only [decide_eq_true_eq] at ih
      refine x_iload_n dX2_sightings_4 2 rfl rfl ?_
      refine x_aload_n dX2_sightings_5 0 rfl rfl ?_
      refine x_getI dX2_sightings_6 flX2_24 (shN0 hn) rfl ?_
      refine x_ic_ge (tgt := 30) dX2_sightings_9 (by decide) (by first | omega | exact z_and_r _ _ | exact z_or_r _ _ | exact z_xor_r _ _) (fun h9 => ?_) (fun h9 => ?_)
      · exfalso; omega
      · refine x_aload_n dX2_sightings_12 0 rfl rfl ?_
        refine x_iload_n dX2_sightings_13 2 rfl rfl ?_
        refine x_iconst dX2_sightings_14 ?_
        refine x_callVi (as := [_, _]) dX2_sightings_15 lvX2_32 rfl (shN0 hn) rfl rfl rfl rfl rfl ⟨rfl, rfl⟩ (s_X2_isOf hn (by omega) hr (by omega)) (fun z15 I15 L15 R15 hq15 => ?_)
        obtain ⟨rfl, rfl, rfl, rfl⟩ := hq15
        refine y_ifb_eq (tgt := 24) dX2_sightings_18 (by decide) (fun h18 => ?_) (fun h18 => ?_)
        · refine x_iinc (lv' := [(0, _), (1, _), (2, _)]) dX2_sightings_24 2 rfl rfl rfl ?_
          refine x_goto (tgt := 4) dX2_sightings_27 (by decide) ?_
          first | (rw [if_pos (by omega)] at ih; exact ih) | (rw [if_neg (by omega), Int.add_zero] at ih; exact ih)
        · refine x_iinc (lv' := [(0, _), (1, _), (2, _)]) dX2_sightings_21 1 rfl rfl rfl ?_
          refine x_iinc (lv' := [(0, _), (1, _), (2, _)]) dX2_sightings_24 2 rfl rfl rfl ?_
          refine x_goto (tgt := 4) dX2_sightings_27 (by decide) ?_
          first | (rw [if_pos (by omega)] at ih; exact ih) | (rw [if_neg (by omega), Int.add_zero] at ih; exact ih)
    · refine x_iload_n dX2_sightings_4 2 rfl rfl ?_
      refine x_aload_n dX2_sightings_5 0 rfl rfl ?_
      refine x_getI dX2_sightings_6 flX2_24 (shN0 hn) rfl ?_
      refine x_ic_ge (tgt := 30) dX2_sightings_9 (by decide) (by first | omega | exact z_and_r _ _ | exact z_or_r _ _ | exact z_xor_r _ _) (fun h9 => ?_) (fun h9 => ?_)
      · refine x_iload_n dX2_sightings_30 1 rfl rfl ?_
        refine x_iret dX2_sightings_31 rfl ?_
        rw [← hQ]
        exact ⟨_, rfl, rfl, rfl, rfl, rfl⟩
      · exfalso; omega
  refine x_iconst dX2_sightings_0 ?_
  refine x_istore_n (lv' := [(0, _), (1, _)]) dX2_sightings_1 rfl rfl rfl ?_
  refine x_iconst dX2_sightings_2 ?_
  refine x_istore_n (lv' := [(0, _), (1, _), (2, _)]) dX2_sightings_3 rfl rfl rfl ?_
  exact loop 0 (by omega)
theorem s_X2_digested {x : Int} (hn : isN R n) (h0 : 0 ≤ I n 0 ∧ I n 0 ≤ 24) (hk : ∀ e, 0 ≤ e → e < I n 0 → rI (I (n + 1) e) ∧ rI (I (n + 2) e) ∧ rI (I (n + 3) e) ∧ rI (I (n + 4) e)) : Sp G mtX2_digested [mr n, ml x] shX I L R (ql (pu (dxE I n (I n 0).toNat x) I L R)) := by
  refine Sp.of pnX2_digested rfl ?_
  show Rn G mtX2_digested _ 0 [(0, mr n), (1, ml x)] [] shX I L R
  generalize hQ : (ql (pu (dxE I n (I n 0).toNat x) I L R)) = Q
  have l1 : ∀ e : Nat, e ≤ (I n 0).toNat → ∀ lv8, (lv8 = [(0, mr n), (1, ml (dxE I n e x)), (3, mi (e : Int))]) → Rn G mtX2_digested Q 2 lv8 [] shX I L R := by
    refine lpn _ (fun e he ih => ?_) ?_
    · intro lv8 hlv
      subst hlv
      have hr := hk (e : Int) (by omega) (by omega)
      have il : ∀ w : Nat, w ≤ 4 → Rn G mtX2_digested Q 13 [(0, mr n), (1, ml (hxL (fun w => itX I n (e : Int) (w : Int)) w (dxE I n e x))), (3, mi (e : Int)), (4, mi (w : Int))] [] shX I L R := by
        refine lpn 4 (fun w hw ihk => ?_) ?_
        · have hri : rI (itX I n (e : Int) (w : Int)) := by unfold itX; (repeat' split) <;> omega
          refine x_iload dX2_digested_13 3 rfl ?_
          refine x_iconst dX2_digested_15 ?_
          refine x_ic_gt (tgt := 40) dX2_digested_16 (by decide) (by omega) (fun h16 => ?_) (fun h16 => ?_)
          · exfalso; omega
          · refine x_ldc2 (31) dX2_digested_19 lkX2_36 ?_
            refine x_lload_n dX2_digested_22 1 rfl rfl ?_
            refine x_lmul dX2_digested_23 ?_
            refine x_aload_n dX2_digested_24 0 rfl rfl ?_
            refine x_iload_n dX2_digested_25 2 rfl rfl ?_
            refine x_iload dX2_digested_26 3 rfl ?_
            refine x_callVi (as := [_, _]) dX2_digested_28 lvX2_38 rfl (shN0 hn) rfl rfl rfl rfl rfl ⟨rfl, rfl⟩ (s_X2_item hn (by omega) (by omega)) (fun z28 I28 L28 R28 hq28 => ?_)
            obtain ⟨rfl, rfl, rfl, rfl⟩ := hq28
            refine x_i2l dX2_digested_31 (by omega) ?_
            refine x_ladd dX2_digested_32 ?_
            refine x_lstore_n (lv' := [(0, _), (1, _), (3, _), (4, _)]) dX2_digested_33 rfl rfl rfl ?_
            refine x_iinc (lv' := [(0, _), (1, _), (3, _), (4, _)]) dX2_digested_34 3 rfl rfl rfl ?_
            refine x_goto (tgt := 13) dX2_digested_37 (by decide) ?_
            exact ihk
        · refine x_iload dX2_digested_13 3 rfl ?_
          refine x_iconst dX2_digested_15 ?_
          refine x_ic_gt (tgt := 40) dX2_digested_16 (by decide) (by omega) (fun h16 => ?_) (fun h16 => ?_)
          · refine x_iinc (lv' := [(0, _), (1, _), (3, _), (4, _)]) dX2_digested_40 2 rfl rfl rfl ?_
            refine x_goto (tgt := 2) dX2_digested_43 (by decide) ?_
            refine x_top (lv' := [(0, _), (1, _), (3, _)]) 4 rfl ?_
            exact ih _ rfl
          · exfalso; omega
      refine x_iload_n dX2_digested_2 2 rfl rfl ?_
      refine x_aload_n dX2_digested_3 0 rfl rfl ?_
      refine x_getI dX2_digested_4 flX2_24 (shN0 hn) rfl ?_
      refine x_ic_ge (tgt := 46) dX2_digested_7 (by decide) (by omega) (fun h7 => ?_) (fun h7 => ?_)
      · exfalso; omega
      · refine x_iconst dX2_digested_10 ?_
        refine x_istore (lv' := [(0, _), (1, _), (3, _), (4, _)]) dX2_digested_11 rfl rfl ?_
        exact il 0 (by omega)
    · intro lv8 hlv
      subst hlv
      refine x_iload_n dX2_digested_2 2 rfl rfl ?_
      refine x_aload_n dX2_digested_3 0 rfl rfl ?_
      refine x_getI dX2_digested_4 flX2_24 (shN0 hn) rfl ?_
      refine x_ic_ge (tgt := 46) dX2_digested_7 (by decide) (by omega) (fun h7 => ?_) (fun h7 => ?_)
      · refine x_lload_n dX2_digested_46 1 rfl rfl ?_
        refine x_lret dX2_digested_47 rfl ?_
        rw [← hQ]
        exact ⟨_, rfl, rfl, rfl, rfl, rfl⟩
      · exfalso; omega
  refine x_iconst dX2_digested_0 ?_
  refine x_istore_n (lv' := [(0, _), (1, _), (3, _)]) dX2_digested_1 rfl rfl rfl ?_
  exact l1 0 (by omega) _ rfl
theorem s_X5_names {x : Int} (hs : isS R s z N K) (hx : rI x) : Sp G mtX5_names [mr s, mi x] shX I L R (qi (pu (b01 (0 ≤ x ∧ x < (N : Int))) I L R)) := by
  refine Sp.of pnX5_names rfl ?_
  show Rn G mtX5_names _ 0 [(0, mr s), (1, mi x)] [] shX I L R
  generalize hQ : (qi (pu (b01 (0 ≤ x ∧ x < (N : Int))) I L R)) = Q
  have hNK : N ≤ 6 ∧ K ≤ 80 ∧ s < z ∧ (z = 9 ∨ z = 16) ∧ s + 2 + N ≤ z := by rcases hs.1 with h | h <;> omega
  refine x_iload_n dX5_names_0 1 rfl rfl ?_
  refine x_if_lt (tgt := 17) dX5_names_1 (by decide) (by first | omega | exact z_and_r _ _ | exact z_or_r _ _ | exact z_xor_r _ _) (fun h1 => ?_) (fun h1 => ?_)
  · refine x_iconst dX5_names_17 ?_
    refine x_zret dX5_names_18 rfl (by omega) ?_
    rw [← hQ]
    first | exact ⟨_, rfl, b01_t (by omega), rfl, rfl, rfl⟩ | exact ⟨_, rfl, b01_f (by omega), rfl, rfl, rfl⟩
  · refine x_iload_n dX5_names_4 1 rfl rfl ?_
    refine x_aload_n dX5_names_5 0 rfl rfl ?_
    refine x_getR dX5_names_6 flX5_14 (shS0 hs) rfl hs.2.2.1 ?_
    refine x_alen dX5_names_9 (shSz hs) rfl ?_
    refine x_ic_ge (tgt := 17) dX5_names_10 (by decide) (by first | omega | exact z_and_r _ _ | exact z_or_r _ _ | exact z_xor_r _ _) (fun h10 => ?_) (fun h10 => ?_)
    · refine x_iconst dX5_names_17 ?_
      refine x_zret dX5_names_18 rfl (by omega) ?_
      rw [← hQ]
      first | exact ⟨_, rfl, b01_t (by omega), rfl, rfl, rfl⟩ | exact ⟨_, rfl, b01_f (by omega), rfl, rfl, rfl⟩
    · refine x_iconst dX5_names_13 ?_
      refine x_goto (tgt := 18) dX5_names_14 (by decide) ?_
      refine x_zret dX5_names_18 rfl (by omega) ?_
      rw [← hQ]
      first | exact ⟨_, rfl, b01_t (by omega), rfl, rfl, rfl⟩ | exact ⟨_, rfl, b01_f (by omega), rfl, rfl, rfl⟩
theorem s_X5_lacks {i : Nat} (hs : isS R s z N K) (hi : i < N) (hz : rI (I z (i : Int))) : Sp G mtX5_lacks [mr s, mi ↑i] shX I L R (qi (pu (b01 (I z (i : Int) < 0)) I L R)) := by
  refine Sp.of pnX5_lacks rfl ?_
  show Rn G mtX5_lacks _ 0 [(0, mr s), (1, mi ↑i)] [] shX I L R
  generalize hQ : (qi (pu (b01 (I z (i : Int) < 0)) I L R)) = Q
  have hNK : N ≤ 6 ∧ K ≤ 80 ∧ s < z ∧ (z = 9 ∨ z = 16) ∧ s + 2 + N ≤ z := by rcases hs.1 with h | h <;> omega
  refine x_aload_n dX5_lacks_0 0 rfl rfl ?_
  refine x_getR dX5_lacks_1 flX5_14 (shS0 hs) rfl hs.2.2.1 ?_
  refine x_iload_n dX5_lacks_4 1 rfl rfl ?_
  refine x_iald dX5_lacks_5 (shSz hs) (by omega) ?_
  refine x_if_ge (tgt := 13) dX5_lacks_6 (by decide) (by first | omega | exact z_and_r _ _ | exact z_or_r _ _ | exact z_xor_r _ _) (fun h6 => ?_) (fun h6 => ?_)
  · refine x_iconst dX5_lacks_13 ?_
    refine x_zret dX5_lacks_14 rfl (by omega) ?_
    rw [← hQ]
    first | exact ⟨_, rfl, b01_t (by omega), rfl, rfl, rfl⟩ | exact ⟨_, rfl, b01_f (by omega), rfl, rfl, rfl⟩
  · refine x_iconst dX5_lacks_9 ?_
    refine x_goto (tgt := 14) dX5_lacks_10 (by decide) ?_
    refine x_zret dX5_lacks_14 rfl (by omega) ?_
    rw [← hQ]
    first | exact ⟨_, rfl, b01_t (by omega), rfl, rfl, rfl⟩ | exact ⟨_, rfl, b01_f (by omega), rfl, rfl, rfl⟩
theorem s_X5_holds {i : Nat} {j : Int} (hs : isS R s z N K) (hi : i < N) (hz : rI (I z (i : Int))) (hj : rI j) : Sp G mtX5_holds [mr s, mi ↑i, mi j] shX I L R (qi (pu (b01 (0 ≤ j ∧ j < I z (i : Int))) I L R)) := by
  refine Sp.of pnX5_holds rfl ?_
  show Rn G mtX5_holds _ 0 [(0, mr s), (1, mi ↑i), (2, mi j)] [] shX I L R
  generalize hQ : (qi (pu (b01 (0 ≤ j ∧ j < I z (i : Int))) I L R)) = Q
  have hNK : N ≤ 6 ∧ K ≤ 80 ∧ s < z ∧ (z = 9 ∨ z = 16) ∧ s + 2 + N ≤ z := by rcases hs.1 with h | h <;> omega
  refine x_iload_n dX5_holds_0 2 rfl rfl ?_
  refine x_if_lt (tgt := 18) dX5_holds_1 (by decide) (by first | omega | exact z_and_r _ _ | exact z_or_r _ _ | exact z_xor_r _ _) (fun h1 => ?_) (fun h1 => ?_)
  · refine x_iconst dX5_holds_18 ?_
    refine x_zret dX5_holds_19 rfl (by omega) ?_
    rw [← hQ]
    first | exact ⟨_, rfl, b01_t (by omega), rfl, rfl, rfl⟩ | exact ⟨_, rfl, b01_f (by omega), rfl, rfl, rfl⟩
  · refine x_iload_n dX5_holds_4 2 rfl rfl ?_
    refine x_aload_n dX5_holds_5 0 rfl rfl ?_
    refine x_getR dX5_holds_6 flX5_14 (shS0 hs) rfl hs.2.2.1 ?_
    refine x_iload_n dX5_holds_9 1 rfl rfl ?_
    refine x_iald dX5_holds_10 (shSz hs) (by omega) ?_
    refine x_ic_ge (tgt := 18) dX5_holds_11 (by decide) (by first | omega | exact z_and_r _ _ | exact z_or_r _ _ | exact z_xor_r _ _) (fun h11 => ?_) (fun h11 => ?_)
    · refine x_iconst dX5_holds_18 ?_
      refine x_zret dX5_holds_19 rfl (by omega) ?_
      rw [← hQ]
      first | exact ⟨_, rfl, b01_t (by omega), rfl, rfl, rfl⟩ | exact ⟨_, rfl, b01_f (by omega), rfl, rfl, rfl⟩
    · refine x_iconst dX5_holds_14 ?_
      refine x_goto (tgt := 19) dX5_holds_15 (by decide) ?_
      refine x_zret dX5_holds_19 rfl (by omega) ?_
      rw [← hQ]
      first | exact ⟨_, rfl, b01_t (by omega), rfl, rfl, rfl⟩ | exact ⟨_, rfl, b01_f (by omega), rfl, rfl, rfl⟩
theorem s_X5_spans {i : Nat} {j m : Int} (hs : isS R s z N K) (hi : i < N) (hz : 0 ≤ I z (i : Int) ∧ I z (i : Int) ≤ 100) (hj : rI j) (hm : 0 ≤ m ∧ m ≤ 2147483647) : Sp G mtX5_spans [mr s, mi ↑i, mi j, mi m] shX I L R (qi (pu (b01 (0 ≤ j ∧ j ≤ I z (i : Int) - m)) I L R)) := by
  refine Sp.of pnX5_spans rfl ?_
  show Rn G mtX5_spans _ 0 [(0, mr s), (1, mi ↑i), (2, mi j), (3, mi m)] [] shX I L R
  generalize hQ : (qi (pu (b01 (0 ≤ j ∧ j ≤ I z (i : Int) - m)) I L R)) = Q
  have hNK : N ≤ 6 ∧ K ≤ 80 ∧ s < z ∧ (z = 9 ∨ z = 16) ∧ s + 2 + N ≤ z := by rcases hs.1 with h | h <;> omega
  refine x_iload_n dX5_spans_0 2 rfl rfl ?_
  refine x_if_lt (tgt := 20) dX5_spans_1 (by decide) (by first | omega | exact z_and_r _ _ | exact z_or_r _ _ | exact z_xor_r _ _) (fun h1 => ?_) (fun h1 => ?_)
  · refine x_iconst dX5_spans_20 ?_
    refine x_zret dX5_spans_21 rfl (by omega) ?_
    rw [← hQ]
    first | exact ⟨_, rfl, b01_t (by omega), rfl, rfl, rfl⟩ | exact ⟨_, rfl, b01_f (by omega), rfl, rfl, rfl⟩
  · refine x_iload_n dX5_spans_4 2 rfl rfl ?_
    refine x_aload_n dX5_spans_5 0 rfl rfl ?_
    refine x_getR dX5_spans_6 flX5_14 (shS0 hs) rfl hs.2.2.1 ?_
    refine x_iload_n dX5_spans_9 1 rfl rfl ?_
    refine x_iald dX5_spans_10 (shSz hs) (by omega) ?_
    refine x_iload_n dX5_spans_11 3 rfl rfl ?_
    refine x_isub dX5_spans_12 ?_
    refine x_ic_gt (tgt := 20) dX5_spans_13 (by decide) (by first | omega | exact z_and_r _ _ | exact z_or_r _ _ | exact z_xor_r _ _) (fun h13 => ?_) (fun h13 => ?_)
    · refine x_iconst dX5_spans_20 ?_
      refine x_zret dX5_spans_21 rfl (by omega) ?_
      rw [← hQ]
      first | exact ⟨_, rfl, b01_t (by omega), rfl, rfl, rfl⟩ | exact ⟨_, rfl, b01_f (by omega), rfl, rfl, rfl⟩
    · refine x_iconst dX5_spans_16 ?_
      refine x_goto (tgt := 21) dX5_spans_17 (by decide) ?_
      refine x_zret dX5_spans_21 rfl (by omega) ?_
      rw [← hQ]
      first | exact ⟨_, rfl, b01_t (by omega), rfl, rfl, rfl⟩ | exact ⟨_, rfl, b01_f (by omega), rfl, rfl, rfl⟩
theorem s_X5_make {i : Nat} {n v : Int} (hs : isS R s z N K) (hi : i < N) (hn : 0 ≤ n ∧ n ≤ K) : Sp G mtX5_make [mr s, mi ↑i, mi n, mi v] shX I L R (qv (fun I' L' R' => I' = m_fil (m_up I z (i : Int) n) (s + 2 + i) 0 n v ∧ L = L' ∧ R = R')) := by
  refine Sp.of pnX5_make rfl ?_
  show Rn G mtX5_make _ 0 [(0, mr s), (1, mi ↑i), (2, mi n), (3, mi v)] [] shX I L R
  generalize hQ : (qv (fun I' L' R' => I' = m_fil (m_up I z (i : Int) n) (s + 2 + i) 0 n v ∧ L = L' ∧ R = R')) = Q
  have hNK : N ≤ 6 ∧ K ≤ 80 ∧ s < z ∧ (z = 9 ∨ z = 16) ∧ s + 2 + N ≤ z := by rcases hs.1 with h | h <;> omega
  have loop : ∀ k : Nat, k ≤ n.toNat → Rn G mtX5_make Q 10 [(0, mr s), (1, mi ↑i), (2, mi n), (3, mi v), (4, mi (k : Int))] [] shX (m_fil (m_up I z (i : Int) n) (s + 2 + i) 0 (k : Int) v) L R := by
    refine lpn _ (fun k hk ih => ?_) ?_
    · refine x_iload dX5_make_10 4 rfl ?_
      refine x_iload_n dX5_make_12 2 rfl rfl ?_
      refine x_ic_ge (tgt := 32) dX5_make_13 (by decide) (by omega) (fun h13 => ?_) (fun h13 => ?_)
      · exfalso; omega
      · refine x_aload_n dX5_make_16 0 rfl rfl ?_
        refine x_getR dX5_make_17 flX5_9 (shS0 hs) rfl hs.2.1 ?_
        refine x_iload_n dX5_make_20 1 rfl rfl ?_
        refine x_aald dX5_make_21 (shS1 hs) (by omega) (hs.2.2.2 i hi) ?_
        refine x_iload dX5_make_22 4 rfl ?_
        refine x_iload_n dX5_make_24 3 rfl rfl ?_
        refine x_iast dX5_make_25 (shSi hs hi) (by omega) ?_
        refine x_iinc (lv' := [(0, _), (1, _), (2, _), (3, _), (4, _)]) dX5_make_26 4 rfl rfl rfl ?_
        refine x_goto (tgt := 10) dX5_make_29 (by decide) ?_
        rw [m_fil_s (by omega)]
        exact ih
    · refine x_iload dX5_make_10 4 rfl ?_
      refine x_iload_n dX5_make_12 2 rfl rfl ?_
      refine x_ic_ge (tgt := 32) dX5_make_13 (by decide) (by omega) (fun h13 => ?_) (fun h13 => ?_)
      · refine x_vret dX5_make_32 rfl ?_
        rw [← hQ]
        refine ⟨rfl, ?_, rfl, rfl⟩
        rw [show ((n.toNat : Nat) : Int) = n by omega]
      · exfalso; omega
  refine x_aload_n dX5_make_0 0 rfl rfl ?_
  refine x_getR dX5_make_1 flX5_14 (shS0 hs) rfl hs.2.2.1 ?_
  refine x_iload_n dX5_make_4 1 rfl rfl ?_
  refine x_iload_n dX5_make_5 2 rfl rfl ?_
  refine x_iast dX5_make_6 (shSz hs) (by omega) ?_
  refine x_iconst dX5_make_7 ?_
  refine x_istore (lv' := [(0, _), (1, _), (2, _), (3, _), (4, _)]) dX5_make_8 rfl rfl ?_
  have h9 := loop 0 (by omega)
  rw [show (((0 : Nat) : Nat) : Int) = 0 from rfl, m_fil_0] at h9
  exact h9
theorem s_X5_exchange {i : Nat} {j v : Int} (hs : isS R s z N K) (hi : i < N) (hj : 0 ≤ j ∧ j < K) : Sp G mtX5_exchange [mr s, mi ↑i, mi j, mi v] shX I L R (qi (fun z0 I' L' R' => z0 = I (s + 2 + i) j ∧ I' = m_up I (s + 2 + i) j v ∧ L = L' ∧ R = R')) := by
  refine Sp.of pnX5_exchange rfl ?_
  show Rn G mtX5_exchange _ 0 [(0, mr s), (1, mi ↑i), (2, mi j), (3, mi v)] [] shX I L R
  generalize hQ : (qi (fun z0 I' L' R' => z0 = I (s + 2 + i) j ∧ I' = m_up I (s + 2 + i) j v ∧ L = L' ∧ R = R')) = Q
  have hNK : N ≤ 6 ∧ K ≤ 80 ∧ s < z ∧ (z = 9 ∨ z = 16) ∧ s + 2 + N ≤ z := by rcases hs.1 with h | h <;> omega
  refine x_aload_n dX5_exchange_0 0 rfl rfl ?_
  refine x_getR dX5_exchange_1 flX5_9 (shS0 hs) rfl hs.2.1 ?_
  refine x_iload_n dX5_exchange_4 1 rfl rfl ?_
  refine x_aald dX5_exchange_5 (shS1 hs) (by omega) (hs.2.2.2 i hi) ?_
  refine x_iload_n dX5_exchange_6 2 rfl rfl ?_
  refine x_iald dX5_exchange_7 (shSi hs hi) (by omega) ?_
  refine x_istore (lv' := [(0, _), (1, _), (2, _), (3, _), (4, _)]) dX5_exchange_8 rfl rfl ?_
  refine x_aload_n dX5_exchange_10 0 rfl rfl ?_
  refine x_getR dX5_exchange_11 flX5_9 (shS0 hs) rfl hs.2.1 ?_
  refine x_iload_n dX5_exchange_14 1 rfl rfl ?_
  refine x_aald dX5_exchange_15 (shS1 hs) (by omega) (hs.2.2.2 i hi) ?_
  refine x_iload_n dX5_exchange_16 2 rfl rfl ?_
  refine x_iload_n dX5_exchange_17 3 rfl rfl ?_
  refine x_iast dX5_exchange_18 (shSi hs hi) (by omega) ?_
  refine x_iload dX5_exchange_19 4 rfl ?_
  refine x_iret dX5_exchange_21 rfl ?_
  rw [← hQ]
  exact ⟨_, rfl, rfl, rfl, rfl, rfl⟩
theorem s_X5_standing  (hs : isS R s z N K) (hz : ∀ i, 0 ≤ i → i < (N : Int) → rI (I z i)) : Sp G mtX5_standing [mr s] shX I L R (qi (pu (ctF (fun r => decide (0 ≤ I z (r : Int))) N) I L R)) := by
  refine Sp.of pnX5_standing rfl ?_
  show Rn G mtX5_standing _ 0 [(0, mr s)] [] shX I L R
  generalize hQ : (qi (pu (ctF (fun r => decide (0 ≤ I z (r : Int))) N) I L R)) = Q
  have hNK : N ≤ 6 ∧ K ≤ 80 ∧ s < z ∧ (z = 9 ∨ z = 16) ∧ s + 2 + N ≤ z := by rcases hs.1 with h | h <;> omega
  have loop : ∀ e : Nat, e ≤ N → Rn G mtX5_standing Q 4 [(0, mr s), (1, mi (ctF (fun r => decide (0 ≤ I z (r : Int))) e)), (2, mi (e : Int))] [] shX I L R := by
    refine lpn _ (fun e he ih => ?_) ?_
    · have hr := hz (e : Int) (by omega) (by omega)
      rw [ctF_s] at ih
      simp only [decide_eq_true_eq] at ih
      refine x_iload_n dX5_standing_4 2 rfl rfl ?_
      refine x_aload_n dX5_standing_5 0 rfl rfl ?_
      refine x_getR dX5_standing_6 flX5_14 (shS0 hs) rfl hs.2.2.1 ?_
      refine x_alen dX5_standing_9 (shSz hs) rfl ?_
      refine x_ic_ge (tgt := 31) dX5_standing_10 (by decide) (by first | omega | exact z_and_r _ _ | exact z_or_r _ _ | exact z_xor_r _ _) (fun h10 => ?_) (fun h10 => ?_)
      · exfalso; omega
      · refine x_aload_n dX5_standing_13 0 rfl rfl ?_
        refine x_getR dX5_standing_14 flX5_14 (shS0 hs) rfl hs.2.2.1 ?_
        refine x_iload_n dX5_standing_17 2 rfl rfl ?_
        refine x_iald dX5_standing_18 (shSz hs) (by omega) ?_
        refine x_if_lt (tgt := 25) dX5_standing_19 (by decide) (by first | omega | exact z_and_r _ _ | exact z_or_r _ _ | exact z_xor_r _ _) (fun h19 => ?_) (fun h19 => ?_)
        · refine x_iinc (lv' := [(0, _), (1, _), (2, _)]) dX5_standing_25 2 rfl rfl rfl ?_
          refine x_goto (tgt := 4) dX5_standing_28 (by decide) ?_
          first | (rw [if_pos (by omega)] at ih; exact ih) | (rw [if_neg (by omega), Int.add_zero] at ih; exact ih)
        · refine x_iinc (lv' := [(0, _), (1, _), (2, _)]) dX5_standing_22 1 rfl rfl rfl ?_
          refine x_iinc (lv' := [(0, _), (1, _), (2, _)]) dX5_standing_25 2 rfl rfl rfl ?_
          refine x_goto (tgt := 4) dX5_standing_28 (by decide) ?_
          first | (rw [if_pos (by omega)] at ih; exact ih) | (rw [if_neg (by omega), Int.add_zero] at ih; exact ih)
    · refine x_iload_n dX5_standing_4 2 rfl rfl ?_
      refine x_aload_n dX5_standing_5 0 rfl rfl ?_
      refine x_getR dX5_standing_6 flX5_14 (shS0 hs) rfl hs.2.2.1 ?_
      refine x_alen dX5_standing_9 (shSz hs) rfl ?_
      refine x_ic_ge (tgt := 31) dX5_standing_10 (by decide) (by first | omega | exact z_and_r _ _ | exact z_or_r _ _ | exact z_xor_r _ _) (fun h10 => ?_) (fun h10 => ?_)
      · refine x_iload_n dX5_standing_31 1 rfl rfl ?_
        refine x_iret dX5_standing_32 rfl ?_
        rw [← hQ]
        exact ⟨_, rfl, rfl, rfl, rfl, rfl⟩
      · exfalso; omega
  refine x_iconst dX5_standing_0 ?_
  refine x_istore_n (lv' := [(0, _), (1, _)]) dX5_standing_1 rfl rfl rfl ?_
  refine x_iconst dX5_standing_2 ?_
  refine x_istore_n (lv' := [(0, _), (1, _), (2, _)]) dX5_standing_3 rfl rfl rfl ?_
  exact loop 0 (by omega)
theorem s_X5_digested {x : Int} (hs : isS R s z N K) (hz : ∀ i : Nat, i < N → -1 ≤ I z (i : Int) ∧ I z (i : Int) ≤ K) (hr : ∀ (i : Nat) (j : Int), i < N → 0 ≤ j → j < K → rI (I (s + 2 + i) j)) : Sp G mtX5_digested [mr s, ml x] shX I L R (ql (pu (dxS I s z N x) I L R)) := by
  refine Sp.of pnX5_digested rfl ?_
  show Rn G mtX5_digested _ 0 [(0, mr s), (1, ml x)] [] shX I L R
  generalize hQ : (ql (pu (dxS I s z N x) I L R)) = Q
  have hNK : N ≤ 6 ∧ K ≤ 80 ∧ s < z ∧ (z = 9 ∨ z = 16) ∧ s + 2 + N ≤ z := by rcases hs.1 with h | h <;> omega
  have l1 : ∀ i : Nat, i ≤ N → ∀ lv8, (lv8 = [(0, mr s), (1, ml (dxS I s z i x)), (3, mi (i : Int))]) → Rn G mtX5_digested Q 2 lv8 [] shX I L R := by
    refine lpn _ (fun i hi ih => ?_) ?_
    · intro lv8 hlv
      subst hlv
      have hzr := hz i hi
      have il : ∀ j : Nat, j ≤ (I z (i : Int)).toNat → Rn G mtX5_digested Q 28 [(0, mr s), (1, ml (hxL (fun j => I (s + 2 + i) (j : Int)) j (31 * dxS I s z i x + I z (i : Int)))), (3, mi (i : Int)), (4, mi (j : Int))] [] shX I L R := by
        refine lpn _ (fun j hj ihk => ?_) ?_
        · have hri := hr i (j : Int) hi (by omega) (by omega)
          refine x_iload dX5_digested_28 3 rfl ?_
          refine x_aload_n dX5_digested_30 0 rfl rfl ?_
          refine x_getR dX5_digested_31 flX5_14 (shS0 hs) rfl hs.2.2.1 ?_
          refine x_iload_n dX5_digested_34 2 rfl rfl ?_
          refine x_iald dX5_digested_35 (shSz hs) (by omega) ?_
          refine x_ic_ge (tgt := 62) dX5_digested_36 (by decide) (by omega) (fun h36 => ?_) (fun h36 => ?_)
          · exfalso; omega
          · refine x_ldc2 (31) dX5_digested_39 lkX5_18 ?_
            refine x_lload_n dX5_digested_42 1 rfl rfl ?_
            refine x_lmul dX5_digested_43 ?_
            refine x_aload_n dX5_digested_44 0 rfl rfl ?_
            refine x_getR dX5_digested_45 flX5_9 (shS0 hs) rfl hs.2.1 ?_
            refine x_iload_n dX5_digested_48 2 rfl rfl ?_
            refine x_aald dX5_digested_49 (shS1 hs) (by omega) (hs.2.2.2 i hi) ?_
            refine x_iload dX5_digested_50 3 rfl ?_
            refine x_iald dX5_digested_52 (shSi hs hi) (by omega) ?_
            refine x_i2l dX5_digested_53 (by omega) ?_
            refine x_ladd dX5_digested_54 ?_
            refine x_lstore_n (lv' := [(0, _), (1, _), (3, _), (4, _)]) dX5_digested_55 rfl rfl rfl ?_
            refine x_iinc (lv' := [(0, _), (1, _), (3, _), (4, _)]) dX5_digested_56 3 rfl rfl rfl ?_
            refine x_goto (tgt := 28) dX5_digested_59 (by decide) ?_
            exact ihk
        · refine x_iload dX5_digested_28 3 rfl ?_
          refine x_aload_n dX5_digested_30 0 rfl rfl ?_
          refine x_getR dX5_digested_31 flX5_14 (shS0 hs) rfl hs.2.2.1 ?_
          refine x_iload_n dX5_digested_34 2 rfl rfl ?_
          refine x_iald dX5_digested_35 (shSz hs) (by omega) ?_
          refine x_ic_ge (tgt := 62) dX5_digested_36 (by decide) (by omega) (fun h36 => ?_) (fun h36 => ?_)
          · refine x_iinc (lv' := [(0, _), (1, _), (3, _), (4, _)]) dX5_digested_62 2 rfl rfl rfl ?_
            refine x_goto (tgt := 2) dX5_digested_65 (by decide) ?_
            refine x_top (lv' := [(0, _), (1, _), (3, _)]) 4 rfl ?_
            exact ih _ rfl
          · exfalso; omega
      refine x_iload_n dX5_digested_2 2 rfl rfl ?_
      refine x_aload_n dX5_digested_3 0 rfl rfl ?_
      refine x_getR dX5_digested_4 flX5_14 (shS0 hs) rfl hs.2.2.1 ?_
      refine x_alen dX5_digested_7 (shSz hs) rfl ?_
      refine x_ic_ge (tgt := 68) dX5_digested_8 (by decide) (by omega) (fun h8 => ?_) (fun h8 => ?_)
      · exfalso; omega
      · refine x_ldc2 (31) dX5_digested_11 lkX5_18 ?_
        refine x_lload_n dX5_digested_14 1 rfl rfl ?_
        refine x_lmul dX5_digested_15 ?_
        refine x_aload_n dX5_digested_16 0 rfl rfl ?_
        refine x_getR dX5_digested_17 flX5_14 (shS0 hs) rfl hs.2.2.1 ?_
        refine x_iload_n dX5_digested_20 2 rfl rfl ?_
        refine x_iald dX5_digested_21 (shSz hs) (by omega) ?_
        refine x_i2l dX5_digested_22 (by omega) ?_
        refine x_ladd dX5_digested_23 ?_
        refine x_lstore_n (lv' := [(0, _), (1, _), (3, _)]) dX5_digested_24 rfl rfl rfl ?_
        refine x_iconst dX5_digested_25 ?_
        refine x_istore (lv' := [(0, _), (1, _), (3, _), (4, _)]) dX5_digested_26 rfl rfl ?_
        exact il 0 (by omega)
    · intro lv8 hlv
      subst hlv
      refine x_iload_n dX5_digested_2 2 rfl rfl ?_
      refine x_aload_n dX5_digested_3 0 rfl rfl ?_
      refine x_getR dX5_digested_4 flX5_14 (shS0 hs) rfl hs.2.2.1 ?_
      refine x_alen dX5_digested_7 (shSz hs) rfl ?_
      refine x_ic_ge (tgt := 68) dX5_digested_8 (by decide) (by omega) (fun h8 => ?_) (fun h8 => ?_)
      · refine x_lload_n dX5_digested_68 1 rfl rfl ?_
        refine x_lret dX5_digested_69 rfl ?_
        rw [← hQ]
        exact ⟨_, rfl, rfl, rfl, rfl, rfl⟩
      · exfalso; omega
  refine x_iconst dX5_digested_0 ?_
  refine x_istore_n (lv' := [(0, _), (1, _), (3, _)]) dX5_digested_1 rfl rfl rfl ?_
  exact l1 0 (by omega) _ rfl
end

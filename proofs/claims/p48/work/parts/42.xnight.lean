section
variable {G : GT} {I L : MI} {R : MR} {h n s z N K : Nat}

theorem s_X0_clear  (hh : isH R h) : Sp G mtX0_clear [mr h] shX I L R (qv (fun I' L' R' => I' = m_up (m_up (m_up (m_up (m_up I h 0 1) h 1 0) h 2 0) h 3 12) h 4 0 ∧ L = L' ∧ R = R')) := by
  refine Sp.of pnX0_clear rfl ?_
  show Rn G mtX0_clear _ 0 [(0, mr h)] [] shX I L R
  generalize hQ : (qv (fun I' L' R' => I' = m_up (m_up (m_up (m_up (m_up I h 0 1) h 1 0) h 2 0) h 3 12) h 4 0 ∧ L = L' ∧ R = R')) = Q
  refine x_aload_n dX0_clear_0 0 rfl rfl ?_
  refine x_iconst dX0_clear_1 ?_
  refine x_putI dX0_clear_2 flX0_27 rfl (shH0 hh) rfl ?_
  refine x_aload_n dX0_clear_5 0 rfl rfl ?_
  refine x_iconst dX0_clear_6 ?_
  refine x_putI dX0_clear_7 flX0_31 rfl (shH0 hh) rfl ?_
  refine x_aload_n dX0_clear_10 0 rfl rfl ?_
  refine x_iconst dX0_clear_11 ?_
  refine x_putI dX0_clear_12 flX0_34 rfl (shH0 hh) rfl ?_
  refine x_aload_n dX0_clear_15 0 rfl rfl ?_
  refine x_bipush dX0_clear_16 (by decide) ?_
  refine x_putI dX0_clear_18 flX0_37 rfl (shH0 hh) rfl ?_
  refine x_aload_n dX0_clear_21 0 rfl rfl ?_
  refine x_iconst dX0_clear_22 ?_
  refine x_putI dX0_clear_23 flX0_40 rfl (shH0 hh) rfl ?_
  refine x_vret dX0_clear_26 rfl ?_
  rw [← hQ]
  exact ⟨rfl, rfl, rfl, rfl⟩
theorem s_X0_addDoor {a b bo : Int} (hh : isH R h) (h1 : 0 ≤ I h 1 ∧ I h 1 < 8) (ha : rI a) (hb : rI b) (ho : rI bo) : Sp G mtX0_addDoor [mr h, mi a, mi b, mi bo] shX I L R (qv (fun I' L' R' => I' h 1 = I h 1 + 1 ∧ I' (h + 1) (I h 1) = min a b ∧ I' (h + 2) (I h 1) = max a b ∧ I' h 4 = (if bo = 0 then I h 4 else z_or (I h 4) (z_shl 1 (I h 1))) ∧ (∀ c j, ¬ (c = h ∧ (j = 1 ∨ j = 4)) → ¬ (c = h + 1 ∧ j = I h 1) → ¬ (c = h + 2 ∧ j = I h 1) → I' c j = I c j) ∧ L = L' ∧ R = R')) := by
  refine Sp.of pnX0_addDoor rfl ?_
  show Rn G mtX0_addDoor _ 0 [(0, mr h), (1, mi a), (2, mi b), (3, mi bo)] [] shX I L R
  generalize hQ : (qv (fun I' L' R' => I' h 1 = I h 1 + 1 ∧ I' (h + 1) (I h 1) = min a b ∧ I' (h + 2) (I h 1) = max a b ∧ I' h 4 = (if bo = 0 then I h 4 else z_or (I h 4) (z_shl 1 (I h 1))) ∧ (∀ c j, ¬ (c = h ∧ (j = 1 ∨ j = 4)) → ¬ (c = h + 1 ∧ j = I h 1) → ¬ (c = h + 2 ∧ j = I h 1) → I' c j = I c j) ∧ L = L' ∧ R = R')) = Q
  refine x_aload_n dX0_addDoor_0 0 rfl rfl ?_
  refine x_getI dX0_addDoor_1 flX0_31 (shH0 hh) rfl ?_
  refine x_bipush dX0_addDoor_4 (by decide) ?_
  refine x_ic_lt (tgt := 10) dX0_addDoor_6 (by decide) (by first | omega | exact z_and_r _ _ | exact z_or_r _ _ | exact z_xor_r _ _) (fun h6 => ?_) (fun h6 => ?_)
  · refine x_aload_n dX0_addDoor_10 0 rfl rfl ?_
    refine x_getR dX0_addDoor_11 flX0_9 (shH0 hh) rfl hh.2.1 ?_
    refine x_aload_n dX0_addDoor_14 0 rfl rfl ?_
    refine x_getI dX0_addDoor_15 flX0_31 (shH0 hh) rfl ?_
    refine x_iload_n dX0_addDoor_18 1 rfl rfl ?_
    refine x_iload_n dX0_addDoor_19 2 rfl rfl ?_
    refine x_imin dX0_addDoor_20 lvX0_43 rfl (by first | omega | exact z_and_r _ _ | exact z_or_r _ _ | exact z_xor_r _ _) ?_
    refine x_iast dX0_addDoor_23 (shH1 hh) (by omega) ?_
    refine x_aload_n dX0_addDoor_24 0 rfl rfl ?_
    refine x_getR dX0_addDoor_25 flX0_15 (shH0 hh) rfl hh.2.2.1 ?_
    refine x_aload_n dX0_addDoor_28 0 rfl rfl ?_
    refine y_getI dX0_addDoor_29 flX0_31 (shH0 hh) rfl (m_up_ne (by omega) _) ?_
    refine x_iload_n dX0_addDoor_32 1 rfl rfl ?_
    refine x_iload_n dX0_addDoor_33 2 rfl rfl ?_
    refine x_imax dX0_addDoor_34 lvX0_49 rfl (by first | omega | exact z_and_r _ _ | exact z_or_r _ _ | exact z_xor_r _ _) ?_
    refine x_iast dX0_addDoor_37 (shH2 hh) (by omega) ?_
    refine x_iload_n dX0_addDoor_38 3 rfl rfl ?_
    refine x_if_eq (tgt := 57) dX0_addDoor_39 (by decide) (by first | omega | exact z_and_r _ _ | exact z_or_r _ _ | exact z_xor_r _ _) (fun h39 => ?_) (fun h39 => ?_)
    · refine x_aload_n dX0_addDoor_57 0 rfl rfl ?_
      refine x_dup dX0_addDoor_58 rfl ?_
      refine y_getI dX0_addDoor_59 flX0_31 (shH0 hh) rfl (((m_up_ne (by omega) _).trans (m_up_ne (by omega) _))) ?_
      refine x_iconst dX0_addDoor_62 ?_
      refine x_iadd dX0_addDoor_63 ?_
      refine x_putI dX0_addDoor_64 flX0_31 rfl (shH0 hh) rfl ?_
      refine x_vret dX0_addDoor_67 rfl ?_
      rw [← hQ]
      first
      | (have hb0 : bo = 0 := by assumption
         rw [if_pos hb0]
         refine ⟨rfl, m_up_eq, ?_, ?_, ?_, fun c j q1 q2 q3 => ?_, rfl, rfl⟩
         · rw [m_up_ne (by omega), m_up_ne (by omega), m_up_eq]
         · rw [m_up_ne (by omega), m_up_eq]
         · rw [m_up_nj (by decide), m_up_ne (by omega), m_up_ne (by omega)]
         · unfold m_up; rw [if_neg (by omega), if_neg (by omega), if_neg (by omega)])
      | (have hb0 : ¬ bo = 0 := by assumption
         rw [if_neg hb0]
         refine ⟨rfl, m_up_eq, ?_, ?_, ?_, fun c j q1 q2 q3 => ?_, rfl, rfl⟩
         · rw [m_up_ne (by omega), m_up_ne (by omega), m_up_ne (by omega), m_up_eq]
         · rw [m_up_ne (by omega), m_up_ne (by omega), m_up_eq]
         · rw [m_up_nj (by decide), m_up_eq]
         · unfold m_up; rw [if_neg (by omega), if_neg (by omega), if_neg (by omega), if_neg (by omega)])
    · refine x_aload_n dX0_addDoor_42 0 rfl rfl ?_
      refine x_dup dX0_addDoor_43 rfl ?_
      refine y_getI dX0_addDoor_44 flX0_40 (shH0 hh) rfl (((m_up_ne (by omega) _).trans (m_up_ne (by omega) _))) ?_
      refine x_iconst dX0_addDoor_47 ?_
      refine x_aload_n dX0_addDoor_48 0 rfl rfl ?_
      refine y_getI dX0_addDoor_49 flX0_31 (shH0 hh) rfl (((m_up_ne (by omega) _).trans (m_up_ne (by omega) _))) ?_
      refine x_ishl dX0_addDoor_52 ?_
      refine x_ior dX0_addDoor_53 ?_
      refine x_putI dX0_addDoor_54 flX0_40 rfl (shH0 hh) rfl ?_
      refine x_aload_n dX0_addDoor_57 0 rfl rfl ?_
      refine x_dup dX0_addDoor_58 rfl ?_
      refine y_getI dX0_addDoor_59 flX0_31 (shH0 hh) rfl (((m_up_nj (by decide)).trans (((m_up_ne (by omega) _).trans (m_up_ne (by omega) _))))) ?_
      refine x_iconst dX0_addDoor_62 ?_
      refine x_iadd dX0_addDoor_63 ?_
      refine x_putI dX0_addDoor_64 flX0_31 rfl (shH0 hh) rfl ?_
      refine x_vret dX0_addDoor_67 rfl ?_
      rw [← hQ]
      first
      | (have hb0 : bo = 0 := by assumption
         rw [if_pos hb0]
         refine ⟨rfl, m_up_eq, ?_, ?_, ?_, fun c j q1 q2 q3 => ?_, rfl, rfl⟩
         · rw [m_up_ne (by omega), m_up_ne (by omega), m_up_eq]
         · rw [m_up_ne (by omega), m_up_eq]
         · rw [m_up_nj (by decide), m_up_ne (by omega), m_up_ne (by omega)]
         · unfold m_up; rw [if_neg (by omega), if_neg (by omega), if_neg (by omega)])
      | (have hb0 : ¬ bo = 0 := by assumption
         rw [if_neg hb0]
         refine ⟨rfl, m_up_eq, ?_, ?_, ?_, fun c j q1 q2 q3 => ?_, rfl, rfl⟩
         · rw [m_up_ne (by omega), m_up_ne (by omega), m_up_ne (by omega), m_up_eq]
         · rw [m_up_ne (by omega), m_up_ne (by omega), m_up_eq]
         · rw [m_up_nj (by decide), m_up_eq]
         · unfold m_up; rw [if_neg (by omega), if_neg (by omega), if_neg (by omega), if_neg (by omega)])
  · refine x_vret dX0_addDoor_9 rfl ?_
    exfalso; omega
theorem s_X0_addWalker {a b : Int} (hh : isH R h) (h1 : 0 ≤ I h 2 ∧ I h 2 < 3) : Sp G mtX0_addWalker [mr h, mi a, mi b] shX I L R (qv (fun I' L' R' => I' h 2 = I h 2 + 1 ∧ I' (h + 3) (I h 2) = a ∧ I' (h + 4) (I h 2) = b ∧ (∀ c j, ¬ (c = h ∧ j = 2) → ¬ (c = h + 3 ∧ j = I h 2) → ¬ (c = h + 4 ∧ j = I h 2) → I' c j = I c j) ∧ L = L' ∧ R = R')) := by
  refine Sp.of pnX0_addWalker rfl ?_
  show Rn G mtX0_addWalker _ 0 [(0, mr h), (1, mi a), (2, mi b)] [] shX I L R
  generalize hQ : (qv (fun I' L' R' => I' h 2 = I h 2 + 1 ∧ I' (h + 3) (I h 2) = a ∧ I' (h + 4) (I h 2) = b ∧ (∀ c j, ¬ (c = h ∧ j = 2) → ¬ (c = h + 3 ∧ j = I h 2) → ¬ (c = h + 4 ∧ j = I h 2) → I' c j = I c j) ∧ L = L' ∧ R = R')) = Q
  refine x_aload_n dX0_addWalker_0 0 rfl rfl ?_
  refine x_getI dX0_addWalker_1 flX0_34 (shH0 hh) rfl ?_
  refine x_iconst dX0_addWalker_4 ?_
  refine x_ic_lt (tgt := 9) dX0_addWalker_5 (by decide) (by first | omega | exact z_and_r _ _ | exact z_or_r _ _ | exact z_xor_r _ _) (fun h5 => ?_) (fun h5 => ?_)
  · refine x_aload_n dX0_addWalker_9 0 rfl rfl ?_
    refine x_getR dX0_addWalker_10 flX0_18 (shH0 hh) rfl hh.2.2.2.1 ?_
    refine x_aload_n dX0_addWalker_13 0 rfl rfl ?_
    refine x_getI dX0_addWalker_14 flX0_34 (shH0 hh) rfl ?_
    refine x_iload_n dX0_addWalker_17 1 rfl rfl ?_
    refine x_iast dX0_addWalker_18 (shH3 hh) (by omega) ?_
    refine x_aload_n dX0_addWalker_19 0 rfl rfl ?_
    refine x_getR dX0_addWalker_20 flX0_21 (shH0 hh) rfl hh.2.2.2.2 ?_
    refine x_aload_n dX0_addWalker_23 0 rfl rfl ?_
    refine y_getI dX0_addWalker_24 flX0_34 (shH0 hh) rfl (m_up_ne (by omega) _) ?_
    refine x_iload_n dX0_addWalker_27 2 rfl rfl ?_
    refine x_iast dX0_addWalker_28 (shH4 hh) (by omega) ?_
    refine x_aload_n dX0_addWalker_29 0 rfl rfl ?_
    refine x_dup dX0_addWalker_30 rfl ?_
    refine y_getI dX0_addWalker_31 flX0_34 (shH0 hh) rfl (((m_up_ne (by omega) _).trans (m_up_ne (by omega) _))) ?_
    refine x_iconst dX0_addWalker_34 ?_
    refine x_iadd dX0_addWalker_35 ?_
    refine x_putI dX0_addWalker_36 flX0_34 rfl (shH0 hh) rfl ?_
    refine x_vret dX0_addWalker_39 rfl ?_
    rw [← hQ]
    refine ⟨rfl, m_up_eq, ?_, ?_, fun c j q1 q2 q3 => ?_, rfl, rfl⟩
    · rw [m_up_ne (by omega), m_up_ne (by omega), m_up_eq]
    · rw [m_up_ne (by omega), m_up_eq]
    · unfold m_up; rw [if_neg (by omega), if_neg (by omega), if_neg (by omega)]
  · refine x_vret dX0_addWalker_8 rfl ?_
    exfalso; omega
def adN (I : MI) (n : Nat) (k a b t : Int) : MI := m_up (m_up (m_up (m_up (m_up I (n + 1) (I n 0) k) (n + 2) (I n 0) a) (n + 3) (I n 0) b) (n + 4) (I n 0) t) n 0 (I n 0 + 1)
theorem s_X2_add {k a b t : Int} (hn : isN R n) (h0 : 0 ≤ I n 0 ∧ I n 0 < 24) : Sp G mtX2_add [mr n, mi k, mi a, mi b, mi t] shX I L R (qv (fun I' L' R' => I' = adN I n k a b t ∧ L = L' ∧ R = R')) := by
  refine Sp.of pnX2_add rfl ?_
  show Rn G mtX2_add _ 0 [(0, mr n), (1, mi k), (2, mi a), (3, mi b), (4, mi t)] [] shX I L R
  generalize hQ : (qv (fun I' L' R' => I' = adN I n k a b t ∧ L = L' ∧ R = R')) = Q
  refine x_aload_n dX2_add_0 0 rfl rfl ?_
  refine x_getI dX2_add_1 flX2_24 (shN0 hn) rfl ?_
  refine x_bipush dX2_add_4 (by decide) ?_
  refine x_ic_lt (tgt := 10) dX2_add_6 (by decide) (by first | omega | exact z_and_r _ _ | exact z_or_r _ _ | exact z_xor_r _ _) (fun h6 => ?_) (fun h6 => ?_)
  · refine x_aload_n dX2_add_10 0 rfl rfl ?_
    refine x_getR dX2_add_11 flX2_9 (shN0 hn) rfl hn.2.1 ?_
    refine x_aload_n dX2_add_14 0 rfl rfl ?_
    refine x_getI dX2_add_15 flX2_24 (shN0 hn) rfl ?_
    refine x_iload_n dX2_add_18 1 rfl rfl ?_
    refine x_iast dX2_add_19 (shN1 hn) (by omega) ?_
    refine x_aload_n dX2_add_20 0 rfl rfl ?_
    refine x_getR dX2_add_21 flX2_15 (shN0 hn) rfl hn.2.2.1 ?_
    refine x_aload_n dX2_add_24 0 rfl rfl ?_
    refine y_getI dX2_add_25 flX2_24 (shN0 hn) rfl (m_up_ne (by omega) _) ?_
    refine x_iload_n dX2_add_28 2 rfl rfl ?_
    refine x_iast dX2_add_29 (shN2 hn) (by omega) ?_
    refine x_aload_n dX2_add_30 0 rfl rfl ?_
    refine x_getR dX2_add_31 flX2_18 (shN0 hn) rfl hn.2.2.2.1 ?_
    refine x_aload_n dX2_add_34 0 rfl rfl ?_
    refine y_getI dX2_add_35 flX2_24 (shN0 hn) rfl (((m_up_ne (by omega) _).trans (m_up_ne (by omega) _))) ?_
    refine x_iload_n dX2_add_38 3 rfl rfl ?_
    refine x_iast dX2_add_39 (shN3 hn) (by omega) ?_
    refine x_aload_n dX2_add_40 0 rfl rfl ?_
    refine x_getR dX2_add_41 flX2_21 (shN0 hn) rfl hn.2.2.2.2 ?_
    refine x_aload_n dX2_add_44 0 rfl rfl ?_
    refine y_getI dX2_add_45 flX2_24 (shN0 hn) rfl (((m_up_ne (by omega) _).trans (((m_up_ne (by omega) _).trans (m_up_ne (by omega) _))))) ?_
    refine x_iload dX2_add_48 4 rfl ?_
    refine x_iast dX2_add_50 (shN4 hn) (by omega) ?_
    refine x_aload_n dX2_add_51 0 rfl rfl ?_
    refine x_dup dX2_add_52 rfl ?_
    refine y_getI dX2_add_53 flX2_24 (shN0 hn) rfl (((m_up_ne (by omega) _).trans (((m_up_ne (by omega) _).trans (((m_up_ne (by omega) _).trans (m_up_ne (by omega) _))))))) ?_
    refine x_iconst dX2_add_56 ?_
    refine x_iadd dX2_add_57 ?_
    refine x_putI dX2_add_58 flX2_24 rfl (shN0 hn) rfl ?_
    refine x_vret dX2_add_61 rfl ?_
    rw [← hQ]
    exact ⟨rfl, rfl, rfl, rfl⟩
  · refine x_vret dX2_add_9 rfl ?_
    exfalso; omega
theorem s_X2_names {e : Int} (hn : isN R n) (h0 : rI (I n 0)) (he : rI e) : Sp G mtX2_names [mr n, mi e] shX I L R (qi (pu (b01 (0 ≤ e ∧ e < I n 0)) I L R)) := by
  refine Sp.of pnX2_names rfl ?_
  show Rn G mtX2_names _ 0 [(0, mr n), (1, mi e)] [] shX I L R
  generalize hQ : (qi (pu (b01 (0 ≤ e ∧ e < I n 0)) I L R)) = Q
  refine x_iload_n dX2_names_0 1 rfl rfl ?_
  refine x_if_lt (tgt := 16) dX2_names_1 (by decide) (by first | omega | exact z_and_r _ _ | exact z_or_r _ _ | exact z_xor_r _ _) (fun h1 => ?_) (fun h1 => ?_)
  · refine x_iconst dX2_names_16 ?_
    refine x_zret dX2_names_17 rfl (by omega) ?_
    rw [← hQ]
    first | exact ⟨_, rfl, b01_t (by omega), rfl, rfl, rfl⟩ | exact ⟨_, rfl, b01_f (by omega), rfl, rfl, rfl⟩
  · refine x_iload_n dX2_names_4 1 rfl rfl ?_
    refine x_aload_n dX2_names_5 0 rfl rfl ?_
    refine x_getI dX2_names_6 flX2_24 (shN0 hn) rfl ?_
    refine x_ic_ge (tgt := 16) dX2_names_9 (by decide) (by first | omega | exact z_and_r _ _ | exact z_or_r _ _ | exact z_xor_r _ _) (fun h9 => ?_) (fun h9 => ?_)
    · refine x_iconst dX2_names_16 ?_
      refine x_zret dX2_names_17 rfl (by omega) ?_
      rw [← hQ]
      first | exact ⟨_, rfl, b01_t (by omega), rfl, rfl, rfl⟩ | exact ⟨_, rfl, b01_f (by omega), rfl, rfl, rfl⟩
    · refine x_iconst dX2_names_12 ?_
      refine x_goto (tgt := 17) dX2_names_13 (by decide) ?_
      refine x_zret dX2_names_17 rfl (by omega) ?_
      rw [← hQ]
      first | exact ⟨_, rfl, b01_t (by omega), rfl, rfl, rfl⟩ | exact ⟨_, rfl, b01_f (by omega), rfl, rfl, rfl⟩
theorem s_X2_isOf {e k : Int} (hn : isN R n) (he : 0 ≤ e ∧ e < 24) (hk : rI (I (n + 1) e)) (h1 : rI k) : Sp G mtX2_isOf [mr n, mi e, mi k] shX I L R (qi (pu (b01 (I (n + 1) e = k ∨ k = 2 ∧ I (n + 1) e = 3)) I L R)) := by
  refine Sp.of pnX2_isOf rfl ?_
  show Rn G mtX2_isOf _ 0 [(0, mr n), (1, mi e), (2, mi k)] [] shX I L R
  generalize hQ : (qi (pu (b01 (I (n + 1) e = k ∨ k = 2 ∧ I (n + 1) e = 3)) I L R)) = Q
  refine x_aload_n dX2_isOf_0 0 rfl rfl ?_
  refine x_getR dX2_isOf_1 flX2_9 (shN0 hn) rfl hn.2.1 ?_
  refine x_iload_n dX2_isOf_4 1 rfl rfl ?_
  refine x_iald dX2_isOf_5 (shN1 hn) (by omega) ?_
  refine x_iload_n dX2_isOf_6 2 rfl rfl ?_
  refine x_ic_eq (tgt := 25) dX2_isOf_7 (by decide) (by first | omega | exact z_and_r _ _ | exact z_or_r _ _ | exact z_xor_r _ _) (fun h7 => ?_) (fun h7 => ?_)
  · refine x_iconst dX2_isOf_25 ?_
    refine x_goto (tgt := 30) dX2_isOf_26 (by decide) ?_
    refine x_zret dX2_isOf_30 rfl (by omega) ?_
    rw [← hQ]
    first | exact ⟨_, rfl, b01_t (by omega), rfl, rfl, rfl⟩ | exact ⟨_, rfl, b01_f (by omega), rfl, rfl, rfl⟩
  · refine x_iload_n dX2_isOf_10 2 rfl rfl ?_
    refine x_iconst dX2_isOf_11 ?_
    refine x_ic_ne (tgt := 29) dX2_isOf_12 (by decide) (by first | omega | exact z_and_r _ _ | exact z_or_r _ _ | exact z_xor_r _ _) (fun h12 => ?_) (fun h12 => ?_)
    · refine x_iconst dX2_isOf_29 ?_
      refine x_zret dX2_isOf_30 rfl (by omega) ?_
      rw [← hQ]
      first | exact ⟨_, rfl, b01_t (by omega), rfl, rfl, rfl⟩ | exact ⟨_, rfl, b01_f (by omega), rfl, rfl, rfl⟩
    · refine x_aload_n dX2_isOf_15 0 rfl rfl ?_
      refine x_getR dX2_isOf_16 flX2_9 (shN0 hn) rfl hn.2.1 ?_
      refine x_iload_n dX2_isOf_19 1 rfl rfl ?_
      refine x_iald dX2_isOf_20 (shN1 hn) (by omega) ?_
      refine x_iconst dX2_isOf_21 ?_
      refine x_ic_ne (tgt := 29) dX2_isOf_22 (by decide) (by first | omega | exact z_and_r _ _ | exact z_or_r _ _ | exact z_xor_r _ _) (fun h22 => ?_) (fun h22 => ?_)
      · refine x_iconst dX2_isOf_29 ?_
        refine x_zret dX2_isOf_30 rfl (by omega) ?_
        rw [← hQ]
        first | exact ⟨_, rfl, b01_t (by omega), rfl, rfl, rfl⟩ | exact ⟨_, rfl, b01_f (by omega), rfl, rfl, rfl⟩
      · refine x_iconst dX2_isOf_25 ?_
        refine x_goto (tgt := 30) dX2_isOf_26 (by decide) ?_
        refine x_zret dX2_isOf_30 rfl (by omega) ?_
        rw [← hQ]
        first | exact ⟨_, rfl, b01_t (by omega), rfl, rfl, rfl⟩ | exact ⟨_, rfl, b01_f (by omega), rfl, rfl, rfl⟩
theorem s_X5_names {x : Int} (hs : isS R s z N K) (hx : rI x) : Sp G mtX5_names [mr s, mi x] shX I L R (qi (pu (b01 (0 ≤ x ∧ x < (N : Int))) I L R)) := by
  refine Sp.of pnX5_names rfl ?_
  show Rn G mtX5_names _ 0 [(0, mr s), (1, mi x)] [] shX I L R
  generalize hQ : (qi (pu (b01 (0 ≤ x ∧ x < (N : Int))) I L R)) = Q
  have hNK : N ≤ 6 ∧ K ≤ 80 ∧ s < z ∧ (z = 9 ∨ z = 16) ∧ s + 2 + N ≤ z := by rcases hs.1 with h | h <;> omega
  refine x_iload_n dX5_names_0 1 rfl rfl ?_
  refine x_if_lt (tgt := 17) dX5_names_1 (by decide) (by first | omega | exact z_and_r _ _ | exact z_or_r _ _ | exact z_xor_r _ _) (fun h1 => ?_) (fun h1 => ?_)
  · refine x_iconst dX5_names_17 ?_
    refine x_zret dX5_names_18 rfl (by omega) ?_
    rw [← hQ]
    first | exact ⟨_, rfl, b01_t (by omega), rfl, rfl, rfl⟩ | exact ⟨_, rfl, b01_f (by omega), rfl, rfl, rfl⟩
  · refine x_iload_n dX5_names_4 1 rfl rfl ?_
    refine x_aload_n dX5_names_5 0 rfl rfl ?_
    refine x_getR dX5_names_6 flX5_14 (shS0 hs) rfl hs.2.2.1 ?_
    refine x_alen dX5_names_9 (shSz hs) rfl ?_
    refine x_ic_ge (tgt := 17) dX5_names_10 (by decide) (by first | omega | exact z_and_r _ _ | exact z_or_r _ _ | exact z_xor_r _ _) (fun h10 => ?_) (fun h10 => ?_)
    · refine x_iconst dX5_names_17 ?_
      refine x_zret dX5_names_18 rfl (by omega) ?_
      rw [← hQ]
      first | exact ⟨_, rfl, b01_t (by omega), rfl, rfl, rfl⟩ | exact ⟨_, rfl, b01_f (by omega), rfl, rfl, rfl⟩
    · refine x_iconst dX5_names_13 ?_
      refine x_goto (tgt := 18) dX5_names_14 (by decide) ?_
      refine x_zret dX5_names_18 rfl (by omega) ?_
      rw [← hQ]
      first | exact ⟨_, rfl, b01_t (by omega), rfl, rfl, rfl⟩ | exact ⟨_, rfl, b01_f (by omega), rfl, rfl, rfl⟩
theorem s_X5_lacks {i : Nat} (hs : isS R s z N K) (hi : i < N) (hz : rI (I z (i : Int))) : Sp G mtX5_lacks [mr s, mi ↑i] shX I L R (qi (pu (b01 (I z (i : Int) < 0)) I L R)) := by
  refine Sp.of pnX5_lacks rfl ?_
  show Rn G mtX5_lacks _ 0 [(0, mr s), (1, mi ↑i)] [] shX I L R
  generalize hQ : (qi (pu (b01 (I z (i : Int) < 0)) I L R)) = Q
  have hNK : N ≤ 6 ∧ K ≤ 80 ∧ s < z ∧ (z = 9 ∨ z = 16) ∧ s + 2 + N ≤ z := by rcases hs.1 with h | h <;> omega
  refine x_aload_n dX5_lacks_0 0 rfl rfl ?_
  refine x_getR dX5_lacks_1 flX5_14 (shS0 hs) rfl hs.2.2.1 ?_
  refine x_iload_n dX5_lacks_4 1 rfl rfl ?_
  refine x_iald dX5_lacks_5 (shSz hs) (by omega) ?_
  refine x_if_ge (tgt := 13) dX5_lacks_6 (by decide) (by first | omega | exact z_and_r _ _ | exact z_or_r _ _ | exact z_xor_r _ _) (fun h6 => ?_) (fun h6 => ?_)
  · refine x_iconst dX5_lacks_13 ?_
    refine x_zret dX5_lacks_14 rfl (by omega) ?_
    rw [← hQ]
    first | exact ⟨_, rfl, b01_t (by omega), rfl, rfl, rfl⟩ | exact ⟨_, rfl, b01_f (by omega), rfl, rfl, rfl⟩
  · refine x_iconst dX5_lacks_9 ?_
    refine x_goto (tgt := 14) dX5_lacks_10 (by decide) ?_
    refine x_zret dX5_lacks_14 rfl (by omega) ?_
    rw [← hQ]
    first | exact ⟨_, rfl, b01_t (by omega), rfl, rfl, rfl⟩ | exact ⟨_, rfl, b01_f (by omega), rfl, rfl, rfl⟩
theorem s_X5_holds {i : Nat} {j : Int} (hs : isS R s z N K) (hi : i < N) (hz : rI (I z (i : Int))) (hj : rI j) : Sp G mtX5_holds [mr s, mi ↑i, mi j] shX I L R (qi (pu (b01 (0 ≤ j ∧ j < I z (i : Int))) I L R)) := by
  refine Sp.of pnX5_holds rfl ?_
  show Rn G mtX5_holds _ 0 [(0, mr s), (1, mi ↑i), (2, mi j)] [] shX I L R
  generalize hQ : (qi (pu (b01 (0 ≤ j ∧ j < I z (i : Int))) I L R)) = Q
  have hNK : N ≤ 6 ∧ K ≤ 80 ∧ s < z ∧ (z = 9 ∨ z = 16) ∧ s + 2 + N ≤ z := by rcases hs.1 with h | h <;> omega
  refine x_iload_n dX5_holds_0 2 rfl rfl ?_
  refine x_if_lt (tgt := 18) dX5_holds_1 (by decide) (by first | omega | exact z_and_r _ _ | exact z_or_r _ _ | exact z_xor_r _ _) (fun h1 => ?_) (fun h1 => ?_)
  · refine x_iconst dX5_holds_18 ?_
    refine x_zret dX5_holds_19 rfl (by omega) ?_
    rw [← hQ]
    first | exact ⟨_, rfl, b01_t (by omega), rfl, rfl, rfl⟩ | exact ⟨_, rfl, b01_f (by omega), rfl, rfl, rfl⟩
  · refine x_iload_n dX5_holds_4 2 rfl rfl ?_
    refine x_aload_n dX5_holds_5 0 rfl rfl ?_
    refine x_getR dX5_holds_6 flX5_14 (shS0 hs) rfl hs.2.2.1 ?_
    refine x_iload_n dX5_holds_9 1 rfl rfl ?_
    refine x_iald dX5_holds_10 (shSz hs) (by omega) ?_
    refine x_ic_ge (tgt := 18) dX5_holds_11 (by decide) (by first | omega | exact z_and_r _ _ | exact z_or_r _ _ | exact z_xor_r _ _) (fun h11 => ?_) (fun h11 => ?_)
    · refine x_iconst dX5_holds_18 ?_
      refine x_zret dX5_holds_19 rfl (by omega) ?_
      rw [← hQ]
      first | exact ⟨_, rfl, b01_t (by omega), rfl, rfl, rfl⟩ | exact ⟨_, rfl, b01_f (by omega), rfl, rfl, rfl⟩
    · refine x_iconst dX5_holds_14 ?_
      refine x_goto (tgt := 19) dX5_holds_15 (by decide) ?_
      refine x_zret dX5_holds_19 rfl (by omega) ?_
      rw [← hQ]
      first | exact ⟨_, rfl, b01_t (by omega), rfl, rfl, rfl⟩ | exact ⟨_, rfl, b01_f (by omega), rfl, rfl, rfl⟩
theorem s_X5_make {i : Nat} {n v : Int} (hs : isS R s z N K) (hi : i < N) (hn : 0 ≤ n ∧ n ≤ K) : Sp G mtX5_make [mr s, mi ↑i, mi n, mi v] shX I L R (qv (fun I' L' R' => I' = m_fil (m_up I z (i : Int) n) (s + 2 + i) 0 n v ∧ L = L' ∧ R = R')) := by
  refine Sp.of pnX5_make rfl ?_
  show Rn G mtX5_make _ 0 [(0, mr s), (1, mi ↑i), (2, mi n), (3, mi v)] [] shX I L R
  generalize hQ : (qv (fun I' L' R' => I' = m_fil (m_up I z (i : Int) n) (s + 2 + i) 0 n v ∧ L = L' ∧ R = R')) = Q
  have hNK : N ≤ 6 ∧ K ≤ 80 ∧ s < z ∧ (z = 9 ∨ z = 16) ∧ s + 2 + N ≤ z := by rcases hs.1 with h | h <;> omega
  have loop : ∀ k : Nat, k ≤ n.toNat → Rn G mtX5_make Q 10 [(0, mr s), (1, mi ↑i), (2, mi n), (3, mi v), (4, mi (k : Int))] [] shX (m_fil (m_up I z (i : Int) n) (s + 2 + i) 0 (k : Int) v) L R := by
    refine lpn _ (fun k hk ih => ?_) ?_
    · refine x_iload dX5_make_10 4 rfl ?_
      refine x_iload_n dX5_make_12 2 rfl rfl ?_
      refine x_ic_ge (tgt := 32) dX5_make_13 (by decide) (by omega) (fun h13 => ?_) (fun h13 => ?_)
      · exfalso; omega
      · refine x_aload_n dX5_make_16 0 rfl rfl ?_
        refine x_getR dX5_make_17 flX5_9 (shS0 hs) rfl hs.2.1 ?_
        refine x_iload_n dX5_make_20 1 rfl rfl ?_
        refine x_aald dX5_make_21 (shS1 hs) (by omega) (hs.2.2.2 i hi) ?_
        refine x_iload dX5_make_22 4 rfl ?_
        refine x_iload_n dX5_make_24 3 rfl rfl ?_
        refine x_iast dX5_make_25 (shSi hs hi) (by omega) ?_
        refine x_iinc (lv' := [(0, _), (1, _), (2, _), (3, _), (4, _)]) dX5_make_26 4 rfl rfl rfl ?_
        refine x_goto (tgt := 10) dX5_make_29 (by decide) ?_
        rw [m_fil_s (by omega)]
        exact ih
    · refine x_iload dX5_make_10 4 rfl ?_
      refine x_iload_n dX5_make_12 2 rfl rfl ?_
      refine x_ic_ge (tgt := 32) dX5_make_13 (by decide) (by omega) (fun h13 => ?_) (fun h13 => ?_)
      · refine x_vret dX5_make_32 rfl ?_
        rw [← hQ]
        refine ⟨rfl, ?_, rfl, rfl⟩
        rw [show ((n.toNat : Nat) : Int) = n by omega]
      · exfalso; omega
  refine x_aload_n dX5_make_0 0 rfl rfl ?_
  refine x_getR dX5_make_1 flX5_14 (shS0 hs) rfl hs.2.2.1 ?_
  refine x_iload_n dX5_make_4 1 rfl rfl ?_
  refine x_iload_n dX5_make_5 2 rfl rfl ?_
  refine x_iast dX5_make_6 (shSz hs) (by omega) ?_
  refine x_iconst dX5_make_7 ?_
  refine x_istore (lv' := [(0, _), (1, _), (2, _), (3, _), (4, _)]) dX5_make_8 rfl rfl ?_
  have h9 := loop 0 (by omega)
  rw [show (((0 : Nat) : Nat) : Int) = 0 from rfl, m_fil_0] at h9
  exact h9
theorem s_X5_exchange {i : Nat} {j v : Int} (hs : isS R s z N K) (hi : i < N) (hj : 0 ≤ j ∧ j < K) : Sp G mtX5_exchange [mr s, mi ↑i, mi j, mi v] shX I L R (qi (fun z0 I' L' R' => z0 = I (s + 2 + i) j ∧ I' = m_up I (s + 2 + i) j v ∧ L = L' ∧ R = R')) := by
  refine Sp.of pnX5_exchange rfl ?_
  show Rn G mtX5_exchange _ 0 [(0, mr s), (1, mi ↑i), (2, mi j), (3, mi v)] [] shX I L R
  generalize hQ : (qi (fun z0 I' L' R' => z0 = I (s + 2 + i) j ∧ I' = m_up I (s + 2 + i) j v ∧ L = L' ∧ R = R')) = Q
  have hNK : N ≤ 6 ∧ K ≤ 80 ∧ s < z ∧ (z = 9 ∨ z = 16) ∧ s + 2 + N ≤ z := by rcases hs.1 with h | h <;> omega
  refine x_aload_n dX5_exchange_0 0 rfl rfl ?_
  refine x_getR dX5_exchange_1 flX5_9 (shS0 hs) rfl hs.2.1 ?_
  refine x_iload_n dX5_exchange_4 1 rfl rfl ?_
  refine x_aald dX5_exchange_5 (shS1 hs) (by omega) (hs.2.2.2 i hi) ?_
  refine x_iload_n dX5_exchange_6 2 rfl rfl ?_
  refine x_iald dX5_exchange_7 (shSi hs hi) (by omega) ?_
  refine x_istore (lv' := [(0, _), (1, _), (2, _), (3, _), (4, _)]) dX5_exchange_8 rfl rfl ?_
  refine x_aload_n dX5_exchange_10 0 rfl rfl ?_
  refine x_getR dX5_exchange_11 flX5_9 (shS0 hs) rfl hs.2.1 ?_
  refine x_iload_n dX5_exchange_14 1 rfl rfl ?_
  refine x_aald dX5_exchange_15 (shS1 hs) (by omega) (hs.2.2.2 i hi) ?_
  refine x_iload_n dX5_exchange_16 2 rfl rfl ?_
  refine x_iload_n dX5_exchange_17 3 rfl rfl ?_
  refine x_iast dX5_exchange_18 (shSi hs hi) (by omega) ?_
  refine x_iload dX5_exchange_19 4 rfl ?_
  refine x_iret dX5_exchange_21 rfl ?_
  rw [← hQ]
  exact ⟨_, rfl, rfl, rfl, rfl, rfl⟩
end

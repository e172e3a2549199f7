/-! CONSTRUCTORS: the class's inner ones. -/
theorem ap_c {sh ext : MS} {a : Nat} {x : Nat ⊕ (Nat × Nat)} (h : sh[a]? = some x) : (sh ++ ext)[a]? = some x := by
  rw [List.getElem?_append_left (List.getElem?_eq_some_iff.mp h).1]
  exact h
/-- the same below n -/
def Sm (n : Nat) (M m : MM) : Prop := ∀ c, c < n → ∀ j, m.1 c j = M.1 c j ∧ m.2.1 c j = M.2.1 c j ∧ m.2.2 c j = M.2.2 c j
section
variable {G : GT} {sh : MS} {M : MM} {a : Nat}
theorem c_X0_clear (hc : sh[a]? = some (.inl 0)) : m_Spec G mtX0_clear true [mr a] sh M (fun v s m => v = none ∧ s = sh ∧ m = m_sI (m_sI (m_sI (m_sI (m_sI M a 0 1) a 1 0) a 2 0) a 3 12) a 4 0) := by
  refine m_Spec.of pnX0_clear (Nat.le_of_ble_eq_true rfl) ?_
  show m_Run G mtX0_clear true _ 0 0 0 [(0, mr a)] [] sh M
  refine r_aload_n dX0_clear_0 0 rfl rfl ?_
  refine r_iconst dX0_clear_1 ?_
  refine r_putI dX0_clear_2 flX0_27 rfl hc rfl ?_
  refine r_aload_n dX0_clear_5 0 rfl rfl ?_
  refine r_iconst dX0_clear_6 ?_
  refine r_putI dX0_clear_7 flX0_31 rfl hc rfl ?_
  refine r_aload_n dX0_clear_10 0 rfl rfl ?_
  refine r_iconst dX0_clear_11 ?_
  refine r_putI dX0_clear_12 flX0_34 rfl hc rfl ?_
  refine r_aload_n dX0_clear_15 0 rfl rfl ?_
  refine r_bipush dX0_clear_16 (by decide) ?_
  refine r_putI dX0_clear_18 flX0_37 rfl hc rfl ?_
  refine r_aload_n dX0_clear_21 0 rfl rfl ?_
  refine r_iconst dX0_clear_22 ?_
  refine r_putI dX0_clear_23 flX0_40 rfl hc rfl ?_
  refine r_vret dX0_clear_26 rfl ⟨Nat.le_of_ble_eq_true rfl, Nat.le_of_ble_eq_true rfl⟩ ?_
  exact ⟨rfl, rfl, rfl⟩
set_option maxHeartbeats 4000000 in
theorem c_X1_init (ha : sh.length = a + 1) (hc : sh[a]? = some (.inl 1)) : m_Spec G mtX1_init true [mr a] sh M (fun v s m => v = none ∧ s = sh ++ [.inr (0, 39), .inr (0, 84), .inr (0, 84)] ∧ Sm a M m ∧ m.2.2 a 0 = some (a + 1) ∧ m.2.2 a 1 = some (a + 2) ∧ m.2.2 a 2 = some (a + 3)) := by
  refine m_Spec.of pnX1_init (Nat.le_of_ble_eq_true rfl) ?_
  show m_Run G mtX1_init true _ 0 0 0 [(0, mr a)] [] sh M
  refine r_aload_n dX1_init_0 0 rfl rfl ?_
  refine r_objInit dX1_init_1 lvX1_3 wmObj.1 wmObj.2 rfl ?_
  refine r_aload_n dX1_init_4 0 rfl rfl ?_
  refine r_bipush dX1_init_5 (by decide) ?_
  refine r_newa (kd := 0) (N := 39) (a := (a + 1)) dX1_init_7 (Or.inl ⟨rfl, rfl⟩) waInt ⟨rfl, by decide⟩ ⟨Nat.le_of_ble_eq_true rfl, Nat.le_of_ble_eq_true rfl⟩ (by simp only [List.length_append, ha] <;> rfl) ?_
  refine r_putR dX1_init_9 flX1_9 rfl (ap_c hc) rfl ?_
  refine r_aload_n dX1_init_12 0 rfl rfl ?_
  refine r_bipush dX1_init_13 (by decide) ?_
  refine r_newa (kd := 0) (N := 84) (a := (a + 2)) dX1_init_15 (Or.inl ⟨rfl, rfl⟩) waInt ⟨rfl, by decide⟩ ⟨Nat.le_of_ble_eq_true rfl, Nat.le_of_ble_eq_true rfl⟩ (by simp only [List.length_append, ha] <;> rfl) ?_
  refine r_putR dX1_init_17 flX1_15 rfl (ap_c (ap_c hc)) rfl ?_
  refine r_aload_n dX1_init_20 0 rfl rfl ?_
  refine r_bipush dX1_init_21 (by decide) ?_
  refine r_newa (kd := 0) (N := 84) (a := (a + 3)) dX1_init_23 (Or.inl ⟨rfl, rfl⟩) waInt ⟨rfl, by decide⟩ ⟨Nat.le_of_ble_eq_true rfl, Nat.le_of_ble_eq_true rfl⟩ (by simp only [List.length_append, ha] <;> rfl) ?_
  refine r_putR dX1_init_25 flX1_18 rfl (ap_c (ap_c (ap_c hc))) rfl ?_
  refine r_vret dX1_init_28 rfl ⟨Nat.le_of_ble_eq_true rfl, Nat.le_of_ble_eq_true rfl⟩ ?_
  refine ⟨rfl, by simp [List.replicate], fun c h j => ⟨?_, ?_, ?_⟩, ?_, ?_, ?_⟩
  · simp only [m_sI, m_sL, m_sR, m_zap, m_grid, m_up, m_cl, true_and, and_true, and_self, if_true, if_false, false_and, and_false]
    repeat (first | rw [if_pos (by omega)] | rw [if_neg (by omega)])
  · simp only [m_sI, m_sL, m_sR, m_zap, m_grid, m_up, m_cl, true_and, and_true, and_self, if_true, if_false, false_and, and_false]
    repeat (first | rw [if_pos (by omega)] | rw [if_neg (by omega)])
  · simp only [m_sI, m_sL, m_sR, m_zap, m_grid, m_up, m_cl, true_and, and_true, and_self, if_true, if_false, false_and, and_false]
    repeat (first | rw [if_pos (by omega)] | rw [if_neg (by omega)])
  · simp only [m_sI, m_sL, m_sR, m_zap, m_grid, m_up, m_cl, true_and, and_true, and_self, if_true, if_false, false_and, and_false]
    repeat (first | rw [if_pos (by omega)] | rw [if_neg (by omega)])
  · simp only [m_sI, m_sL, m_sR, m_zap, m_grid, m_up, m_cl, true_and, and_true, and_self, if_true, if_false, false_and, and_false]
    repeat (first | rw [if_pos (by omega)] | rw [if_neg (by omega)])
  · simp only [m_sI, m_sL, m_sR, m_zap, m_grid, m_up, m_cl, true_and, and_true, and_self, if_true, if_false, false_and, and_false]
    repeat (first | rw [if_pos (by omega)] | rw [if_neg (by omega)])
set_option maxHeartbeats 4000000 in
theorem c_X2_init (ha : sh.length = a + 1) (hc : sh[a]? = some (.inl 2)) : m_Spec G mtX2_init true [mr a] sh M (fun v s m => v = none ∧ s = sh ++ [.inr (0, 24), .inr (0, 24), .inr (0, 24), .inr (0, 24)] ∧ Sm a M m ∧ (∀ j, m.1 a j = M.1 a j) ∧ m.2.2 a 1 = some (a + 1) ∧ m.2.2 a 2 = some (a + 2) ∧ m.2.2 a 3 = some (a + 3) ∧ m.2.2 a 4 = some (a + 4)) := by
  refine m_Spec.of pnX2_init (Nat.le_of_ble_eq_true rfl) ?_
  show m_Run G mtX2_init true _ 0 0 0 [(0, mr a)] [] sh M
  refine r_aload_n dX2_init_0 0 rfl rfl ?_
  refine r_objInit dX2_init_1 lvX2_3 wmObj.1 wmObj.2 rfl ?_
  refine r_aload_n dX2_init_4 0 rfl rfl ?_
  refine r_bipush dX2_init_5 (by decide) ?_
  refine r_newa (kd := 0) (N := 24) (a := (a + 1)) dX2_init_7 (Or.inl ⟨rfl, rfl⟩) waInt ⟨rfl, by decide⟩ ⟨Nat.le_of_ble_eq_true rfl, Nat.le_of_ble_eq_true rfl⟩ (by simp only [List.length_append, ha] <;> rfl) ?_
  refine r_putR dX2_init_9 flX2_9 rfl (ap_c hc) rfl ?_
  refine r_aload_n dX2_init_12 0 rfl rfl ?_
  refine r_bipush dX2_init_13 (by decide) ?_
  refine r_newa (kd := 0) (N := 24) (a := (a + 2)) dX2_init_15 (Or.inl ⟨rfl, rfl⟩) waInt ⟨rfl, by decide⟩ ⟨Nat.le_of_ble_eq_true rfl, Nat.le_of_ble_eq_true rfl⟩ (by simp only [List.length_append, ha] <;> rfl) ?_
  refine r_putR dX2_init_17 flX2_15 rfl (ap_c (ap_c hc)) rfl ?_
  refine r_aload_n dX2_init_20 0 rfl rfl ?_
  refine r_bipush dX2_init_21 (by decide) ?_
  refine r_newa (kd := 0) (N := 24) (a := (a + 3)) dX2_init_23 (Or.inl ⟨rfl, rfl⟩) waInt ⟨rfl, by decide⟩ ⟨Nat.le_of_ble_eq_true rfl, Nat.le_of_ble_eq_true rfl⟩ (by simp only [List.length_append, ha] <;> rfl) ?_
  refine r_putR dX2_init_25 flX2_18 rfl (ap_c (ap_c (ap_c hc))) rfl ?_
  refine r_aload_n dX2_init_28 0 rfl rfl ?_
  refine r_bipush dX2_init_29 (by decide) ?_
  refine r_newa (kd := 0) (N := 24) (a := (a + 4)) dX2_init_31 (Or.inl ⟨rfl, rfl⟩) waInt ⟨rfl, by decide⟩ ⟨Nat.le_of_ble_eq_true rfl, Nat.le_of_ble_eq_true rfl⟩ (by simp only [List.length_append, ha] <;> rfl) ?_
  refine r_putR dX2_init_33 flX2_21 rfl (ap_c (ap_c (ap_c (ap_c hc)))) rfl ?_
  refine r_vret dX2_init_36 rfl ⟨Nat.le_of_ble_eq_true rfl, Nat.le_of_ble_eq_true rfl⟩ ?_
  refine ⟨rfl, by simp [List.replicate], fun c h j => ⟨?_, ?_, ?_⟩, ?_, ?_, ?_, ?_, ?_⟩
  · simp only [m_sI, m_sL, m_sR, m_zap, m_grid, m_up, m_cl, true_and, and_true, and_self, if_true, if_false, false_and, and_false]
    repeat (first | rw [if_pos (by omega)] | rw [if_neg (by omega)])
  · simp only [m_sI, m_sL, m_sR, m_zap, m_grid, m_up, m_cl, true_and, and_true, and_self, if_true, if_false, false_and, and_false]
    repeat (first | rw [if_pos (by omega)] | rw [if_neg (by omega)])
  · simp only [m_sI, m_sL, m_sR, m_zap, m_grid, m_up, m_cl, true_and, and_true, and_self, if_true, if_false, false_and, and_false]
    repeat (first | rw [if_pos (by omega)] | rw [if_neg (by omega)])
  · intro j
    simp only [m_sI, m_sL, m_sR, m_zap, m_grid, m_up, m_cl, true_and, and_true, and_self, if_true, if_false, false_and, and_false]
    repeat (first | rw [if_pos (by omega)] | rw [if_neg (by omega)])
  · simp only [m_sI, m_sL, m_sR, m_zap, m_grid, m_up, m_cl, true_and, and_true, and_self, if_true, if_false, false_and, and_false]
    repeat (first | rw [if_pos (by omega)] | rw [if_neg (by omega)])
  · simp only [m_sI, m_sL, m_sR, m_zap, m_grid, m_up, m_cl, true_and, and_true, and_self, if_true, if_false, false_and, and_false]
    repeat (first | rw [if_pos (by omega)] | rw [if_neg (by omega)])
  · simp only [m_sI, m_sL, m_sR, m_zap, m_grid, m_up, m_cl, true_and, and_true, and_self, if_true, if_false, false_and, and_false]
    repeat (first | rw [if_pos (by omega)] | rw [if_neg (by omega)])
  · simp only [m_sI, m_sL, m_sR, m_zap, m_grid, m_up, m_cl, true_and, and_true, and_self, if_true, if_false, false_and, and_false]
    repeat (first | rw [if_pos (by omega)] | rw [if_neg (by omega)])
set_option maxHeartbeats 4000000 in
theorem c_X4_init (ha : sh.length = a + 1) (hc : sh[a]? = some (.inl 4)) : m_Spec G mtX4_init true [mr a] sh M (fun v s m => v = none ∧ s = sh ++ [.inr (0, 0)] ∧ Sm a M m ∧ (∀ j, m.1 a j = M.1 a j)) := by
  refine m_Spec.of pnX4_init (Nat.le_of_ble_eq_true rfl) ?_
  show m_Run G mtX4_init true _ 0 0 0 [(0, mr a)] [] sh M
  refine r_aload_n dX4_init_0 0 rfl rfl ?_
  refine r_objInit dX4_init_1 lvX4_3 wmObj.1 wmObj.2 rfl ?_
  refine r_aload_n dX4_init_4 0 rfl rfl ?_
  refine r_iconst dX4_init_5 ?_
  refine r_newa (kd := 0) (N := 0) (a := (a + 1)) dX4_init_6 (Or.inl ⟨rfl, rfl⟩) waInt ⟨rfl, by decide⟩ ⟨Nat.le_of_ble_eq_true rfl, Nat.le_of_ble_eq_true rfl⟩ (by simp only [List.length_append, ha] <;> rfl) ?_
  refine r_putR dX4_init_8 flX4_9 rfl (ap_c hc) rfl ?_
  refine r_vret dX4_init_11 rfl ⟨Nat.le_of_ble_eq_true rfl, Nat.le_of_ble_eq_true rfl⟩ ?_
  refine ⟨rfl, by simp [List.replicate], fun c h j => ⟨?_, ?_, ?_⟩, ?_⟩
  · simp only [m_sI, m_sL, m_sR, m_zap, m_grid, m_up, m_cl, true_and, and_true, and_self, if_true, if_false, false_and, and_false]
    repeat (first | rw [if_pos (by omega)] | rw [if_neg (by omega)])
  · simp only [m_sI, m_sL, m_sR, m_zap, m_grid, m_up, m_cl, true_and, and_true, and_self, if_true, if_false, false_and, and_false]
    repeat (first | rw [if_pos (by omega)] | rw [if_neg (by omega)])
  · simp only [m_sI, m_sL, m_sR, m_zap, m_grid, m_up, m_cl, true_and, and_true, and_self, if_true, if_false, false_and, and_false]
    repeat (first | rw [if_pos (by omega)] | rw [if_neg (by omega)])
  · intro j
    simp only [m_sI, m_sL, m_sR, m_zap, m_grid, m_up, m_cl, true_and, and_true, and_self, if_true, if_false, false_and, and_false]
    repeat (first | rw [if_pos (by omega)] | rw [if_neg (by omega)])
set_option maxHeartbeats 4000000 in
theorem c_X3_init (ha : sh.length = a + 1) {h : Nat} (hc : sh[a]? = some (.inl 3)) : m_Spec G mtX3_init true [mr a, mr h] sh M (fun v s m => v = none ∧ s = sh ++ [.inr (0, 31), .inr (0, 31), .inr (0, 31), .inr (0, 31), .inr (0, 3), .inr (0, 3), .inr (0, 1728)] ∧ Sm a M m ∧ m.2.2 a 5 = some (a + 1) ∧ m.2.2 a 6 = some (a + 2) ∧ m.2.2 a 7 = some (a + 3) ∧ m.2.2 a 8 = some (a + 4) ∧ m.2.2 a 9 = some (a + 5) ∧ m.2.2 a 10 = some (a + 6) ∧ m.2.2 a 11 = some (a + 7)) := by
  refine m_Spec.of pnX3_init (Nat.le_of_ble_eq_true rfl) ?_
  show m_Run G mtX3_init true _ 0 0 0 [(0, mr a), (1, mr h)] [] sh M
  refine r_aload_n dX3_init_0 0 rfl rfl ?_
  refine r_objInit dX3_init_1 lvX3_3 wmObj.1 wmObj.2 rfl ?_
  refine r_aload_n dX3_init_4 0 rfl rfl ?_
  refine r_aload_n dX3_init_5 1 rfl rfl ?_
  refine r_putR dX3_init_6 flX3_9 rfl hc rfl ?_
  refine r_aload_n dX3_init_9 0 rfl rfl ?_
  refine r_bipush dX3_init_10 (by decide) ?_
  refine r_newa (kd := 0) (N := 31) (a := (a + 1)) dX3_init_12 (Or.inl ⟨rfl, rfl⟩) waInt ⟨rfl, by decide⟩ ⟨Nat.le_of_ble_eq_true rfl, Nat.le_of_ble_eq_true rfl⟩ (by simp only [List.length_append, ha] <;> rfl) ?_
  refine r_putR dX3_init_14 flX3_15 rfl (ap_c hc) rfl ?_
  refine r_aload_n dX3_init_17 0 rfl rfl ?_
  refine r_bipush dX3_init_18 (by decide) ?_
  refine r_newa (kd := 0) (N := 31) (a := (a + 2)) dX3_init_20 (Or.inl ⟨rfl, rfl⟩) waInt ⟨rfl, by decide⟩ ⟨Nat.le_of_ble_eq_true rfl, Nat.le_of_ble_eq_true rfl⟩ (by simp only [List.length_append, ha] <;> rfl) ?_
  refine r_putR dX3_init_22 flX3_19 rfl (ap_c (ap_c hc)) rfl ?_
  refine r_aload_n dX3_init_25 0 rfl rfl ?_
  refine r_bipush dX3_init_26 (by decide) ?_
  refine r_newa (kd := 0) (N := 31) (a := (a + 3)) dX3_init_28 (Or.inl ⟨rfl, rfl⟩) waInt ⟨rfl, by decide⟩ ⟨Nat.le_of_ble_eq_true rfl, Nat.le_of_ble_eq_true rfl⟩ (by simp only [List.length_append, ha] <;> rfl) ?_
  refine r_putR dX3_init_30 flX3_22 rfl (ap_c (ap_c (ap_c hc))) rfl ?_
  refine r_aload_n dX3_init_33 0 rfl rfl ?_
  refine r_bipush dX3_init_34 (by decide) ?_
  refine r_newa (kd := 0) (N := 31) (a := (a + 4)) dX3_init_36 (Or.inl ⟨rfl, rfl⟩) waInt ⟨rfl, by decide⟩ ⟨Nat.le_of_ble_eq_true rfl, Nat.le_of_ble_eq_true rfl⟩ (by simp only [List.length_append, ha] <;> rfl) ?_
  refine r_putR dX3_init_38 flX3_25 rfl (ap_c (ap_c (ap_c (ap_c hc)))) rfl ?_
  refine r_aload_n dX3_init_41 0 rfl rfl ?_
  refine r_iconst dX3_init_42 ?_
  refine r_newa (kd := 0) (N := 3) (a := (a + 5)) dX3_init_43 (Or.inl ⟨rfl, rfl⟩) waInt ⟨rfl, by decide⟩ ⟨Nat.le_of_ble_eq_true rfl, Nat.le_of_ble_eq_true rfl⟩ (by simp only [List.length_append, ha] <;> rfl) ?_
  refine r_putR dX3_init_45 flX3_28 rfl (ap_c (ap_c (ap_c (ap_c (ap_c hc))))) rfl ?_
  refine r_aload_n dX3_init_48 0 rfl rfl ?_
  refine r_iconst dX3_init_49 ?_
  refine r_newa (kd := 0) (N := 3) (a := (a + 6)) dX3_init_50 (Or.inl ⟨rfl, rfl⟩) waInt ⟨rfl, by decide⟩ ⟨Nat.le_of_ble_eq_true rfl, Nat.le_of_ble_eq_true rfl⟩ (by simp only [List.length_append, ha] <;> rfl) ?_
  refine r_putR dX3_init_52 flX3_31 rfl (ap_c (ap_c (ap_c (ap_c (ap_c (ap_c hc)))))) rfl ?_
  refine r_aload_n dX3_init_55 0 rfl rfl ?_
  refine r_sipush dX3_init_56 (by decide) ?_
  refine r_newa (kd := 0) (N := 1728) (a := (a + 7)) dX3_init_59 (Or.inl ⟨rfl, rfl⟩) waInt ⟨rfl, by decide⟩ ⟨Nat.le_of_ble_eq_true rfl, Nat.le_of_ble_eq_true rfl⟩ (by simp only [List.length_append, ha] <;> rfl) ?_
  refine r_putR dX3_init_61 flX3_34 rfl (ap_c (ap_c (ap_c (ap_c (ap_c (ap_c (ap_c hc))))))) rfl ?_
  refine r_vret dX3_init_64 rfl ⟨Nat.le_of_ble_eq_true rfl, Nat.le_of_ble_eq_true rfl⟩ ?_
  refine ⟨rfl, by simp [List.replicate], fun c h j => ⟨?_, ?_, ?_⟩, ?_, ?_, ?_, ?_, ?_, ?_, ?_⟩
  · simp only [m_sI, m_sL, m_sR, m_zap, m_grid, m_up, m_cl, true_and, and_true, and_self, if_true, if_false, false_and, and_false]
    repeat (first | rw [if_pos (by omega)] | rw [if_neg (by omega)])
  · simp only [m_sI, m_sL, m_sR, m_zap, m_grid, m_up, m_cl, true_and, and_true, and_self, if_true, if_false, false_and, and_false]
    repeat (first | rw [if_pos (by omega)] | rw [if_neg (by omega)])
  · simp only [m_sI, m_sL, m_sR, m_zap, m_grid, m_up, m_cl, true_and, and_true, and_self, if_true, if_false, false_and, and_false]
    repeat (first | rw [if_pos (by omega)] | rw [if_neg (by omega)])
  · simp only [m_sI, m_sL, m_sR, m_zap, m_grid, m_up, m_cl, true_and, and_true, and_self, if_true, if_false, false_and, and_false]
    repeat (first | rw [if_pos (by omega)] | rw [if_neg (by omega)])
  · simp only [m_sI, m_sL, m_sR, m_zap, m_grid, m_up, m_cl, true_and, and_true, and_self, if_true, if_false, false_and, and_false]
    repeat (first | rw [if_pos (by omega)] | rw [if_neg (by omega)])
  · simp only [m_sI, m_sL, m_sR, m_zap, m_grid, m_up, m_cl, true_and, and_true, and_self, if_true, if_false, false_and, and_false]
    repeat (first | rw [if_pos (by omega)] | rw [if_neg (by omega)])
  · simp only [m_sI, m_sL, m_sR, m_zap, m_grid, m_up, m_cl, true_and, and_true, and_self, if_true, if_false, false_and, and_false]
    repeat (first | rw [if_pos (by omega)] | rw [if_neg (by omega)])
  · simp only [m_sI, m_sL, m_sR, m_zap, m_grid, m_up, m_cl, true_and, and_true, and_self, if_true, if_false, false_and, and_false]
    repeat (first | rw [if_pos (by omega)] | rw [if_neg (by omega)])
  · simp only [m_sI, m_sL, m_sR, m_zap, m_grid, m_up, m_cl, true_and, and_true, and_self, if_true, if_false, false_and, and_false]
    repeat (first | rw [if_pos (by omega)] | rw [if_neg (by omega)])
  · simp only [m_sI, m_sL, m_sR, m_zap, m_grid, m_up, m_cl, true_and, and_true, and_self, if_true, if_false, false_and, and_false]
    repeat (first | rw [if_pos (by omega)] | rw [if_neg (by omega)])
set_option maxHeartbeats 4000000 in
theorem c_X0_init (ha : sh.length = a + 1) (hc : sh[a]? = some (.inl 0)) : m_Spec G mtX0_init true [mr a] sh M (fun v s m => v = none ∧ s = sh ++ [.inr (0, 8), .inr (0, 8), .inr (0, 3), .inr (0, 3)] ∧ Sm a M m ∧ m.1 a 0 = 1 ∧ m.1 a 1 = 0 ∧ m.1 a 2 = 0 ∧ m.1 a 3 = 12 ∧ m.1 a 4 = 0 ∧ m.2.2 a 5 = some (a + 1) ∧ m.2.2 a 6 = some (a + 2) ∧ m.2.2 a 7 = some (a + 3) ∧ m.2.2 a 8 = some (a + 4)) := by
  refine m_Spec.of pnX0_init (Nat.le_of_ble_eq_true rfl) ?_
  show m_Run G mtX0_init true _ 0 0 0 [(0, mr a)] [] sh M
  refine r_aload_n dX0_init_0 0 rfl rfl ?_
  refine r_objInit dX0_init_1 lvX0_3 wmObj.1 wmObj.2 rfl ?_
  refine r_aload_n dX0_init_4 0 rfl rfl ?_
  refine r_bipush dX0_init_5 (by decide) ?_
  refine r_newa (kd := 0) (N := 8) (a := (a + 1)) dX0_init_7 (Or.inl ⟨rfl, rfl⟩) waInt ⟨rfl, by decide⟩ ⟨Nat.le_of_ble_eq_true rfl, Nat.le_of_ble_eq_true rfl⟩ (by simp only [List.length_append, ha] <;> rfl) ?_
  refine r_putR dX0_init_9 flX0_9 rfl (ap_c hc) rfl ?_
  refine r_aload_n dX0_init_12 0 rfl rfl ?_
  refine r_bipush dX0_init_13 (by decide) ?_
  refine r_newa (kd := 0) (N := 8) (a := (a + 2)) dX0_init_15 (Or.inl ⟨rfl, rfl⟩) waInt ⟨rfl, by decide⟩ ⟨Nat.le_of_ble_eq_true rfl, Nat.le_of_ble_eq_true rfl⟩ (by simp only [List.length_append, ha] <;> rfl) ?_
  refine r_putR dX0_init_17 flX0_15 rfl (ap_c (ap_c hc)) rfl ?_
  refine r_aload_n dX0_init_20 0 rfl rfl ?_
  refine r_iconst dX0_init_21 ?_
  refine r_newa (kd := 0) (N := 3) (a := (a + 3)) dX0_init_22 (Or.inl ⟨rfl, rfl⟩) waInt ⟨rfl, by decide⟩ ⟨Nat.le_of_ble_eq_true rfl, Nat.le_of_ble_eq_true rfl⟩ (by simp only [List.length_append, ha] <;> rfl) ?_
  refine r_putR dX0_init_24 flX0_18 rfl (ap_c (ap_c (ap_c hc))) rfl ?_
  refine r_aload_n dX0_init_27 0 rfl rfl ?_
  refine r_iconst dX0_init_28 ?_
  refine r_newa (kd := 0) (N := 3) (a := (a + 4)) dX0_init_29 (Or.inl ⟨rfl, rfl⟩) waInt ⟨rfl, by decide⟩ ⟨Nat.le_of_ble_eq_true rfl, Nat.le_of_ble_eq_true rfl⟩ (by simp only [List.length_append, ha] <;> rfl) ?_
  refine r_putR dX0_init_31 flX0_21 rfl (ap_c (ap_c (ap_c (ap_c hc)))) rfl ?_
  refine r_aload_n dX0_init_34 0 rfl rfl ?_
  refine r_callV (as := []) dX0_init_35 lvX0_24 rfl (c_X0_clear (ap_c (ap_c (ap_c (ap_c hc))))) (ap_c (ap_c (ap_c (ap_c hc)))) rfl rfl rfl rfl rfl ⟨Nat.le_of_ble_eq_true rfl, Nat.le_of_ble_eq_true rfl⟩ (fun v s m hq => ?_)
  obtain ⟨rfl, rfl, rfl⟩ := hq
  refine r_vret dX0_init_38 rfl ⟨Nat.le_of_ble_eq_true rfl, Nat.le_of_ble_eq_true rfl⟩ ?_
  refine ⟨rfl, by simp [List.replicate], fun c h j => ⟨?_, ?_, ?_⟩, ?_, ?_, ?_, ?_, ?_, ?_, ?_, ?_, ?_⟩
  · simp only [m_sI, m_sL, m_sR, m_zap, m_grid, m_up, m_cl, true_and, and_true, and_self, if_true, if_false, false_and, and_false]
    repeat (first | rw [if_pos (by omega)] | rw [if_neg (by omega)])
  · simp only [m_sI, m_sL, m_sR, m_zap, m_grid, m_up, m_cl, true_and, and_true, and_self, if_true, if_false, false_and, and_false]
    repeat (first | rw [if_pos (by omega)] | rw [if_neg (by omega)])
  · simp only [m_sI, m_sL, m_sR, m_zap, m_grid, m_up, m_cl, true_and, and_true, and_self, if_true, if_false, false_and, and_false]
    repeat (first | rw [if_pos (by omega)] | rw [if_neg (by omega)])
  · simp only [m_sI, m_sL, m_sR, m_zap, m_grid, m_up, m_cl, true_and, and_true, and_self, if_true, if_false, false_and, and_false]
    repeat (first | rw [if_pos (by omega)] | rw [if_neg (by omega)])
  · simp only [m_sI, m_sL, m_sR, m_zap, m_grid, m_up, m_cl, true_and, and_true, and_self, if_true, if_false, false_and, and_false]
    repeat (first | rw [if_pos (by omega)] | rw [if_neg (by omega)])
  · simp only [m_sI, m_sL, m_sR, m_zap, m_grid, m_up, m_cl, true_and, and_true, and_self, if_true, if_false, false_and, and_false]
    repeat (first | rw [if_pos (by omega)] | rw [if_neg (by omega)])
  · simp only [m_sI, m_sL, m_sR, m_zap, m_grid, m_up, m_cl, true_and, and_true, and_self, if_true, if_false, false_and, and_false]
    repeat (first | rw [if_pos (by omega)] | rw [if_neg (by omega)])
  · simp only [m_sI, m_sL, m_sR, m_zap, m_grid, m_up, m_cl, true_and, and_true, and_self, if_true, if_false, false_and, and_false]
    repeat (first | rw [if_pos (by omega)] | rw [if_neg (by omega)])
  · simp only [m_sI, m_sL, m_sR, m_zap, m_grid, m_up, m_cl, true_and, and_true, and_self, if_true, if_false, false_and, and_false]
    repeat (first | rw [if_pos (by omega)] | rw [if_neg (by omega)])
  · simp only [m_sI, m_sL, m_sR, m_zap, m_grid, m_up, m_cl, true_and, and_true, and_self, if_true, if_false, false_and, and_false]
    repeat (first | rw [if_pos (by omega)] | rw [if_neg (by omega)])
  · simp only [m_sI, m_sL, m_sR, m_zap, m_grid, m_up, m_cl, true_and, and_true, and_self, if_true, if_false, false_and, and_false]
    repeat (first | rw [if_pos (by omega)] | rw [if_neg (by omega)])
  · simp only [m_sI, m_sL, m_sR, m_zap, m_grid, m_up, m_cl, true_and, and_true, and_self, if_true, if_false, false_and, and_false]
    repeat (first | rw [if_pos (by omega)] | rw [if_neg (by omega)])
set_option maxHeartbeats 4000000 in
theorem c_X5_init_6 (ha : sh.length = a + 1) (hc : sh[a]? = some (.inl 5)) : m_Spec G mtX5_init true [mr a, mi 6, mi 40] sh M (fun v s m => v = none ∧ s = sh ++ (.inr (3, 6) :: List.replicate 6 (.inr (0, 40)) ++ [.inr (0, 6)]) ∧ Sm a M m ∧ m.2.2 a 0 = some (a + 1) ∧ m.2.2 a 1 = some (a + 8) ∧ (∀ i : Nat, i < 6 → m.2.2 (a + 1) (i : Int) = some (a + 2 + i)) ∧ (∀ i : Nat, i < 6 → m.1 (a + 8) (i : Int) = -1) ∧ (∀ i : Nat, i < 6 → ∀ j, m.1 (a + 2 + i) j = 0)) := by
  refine m_Spec.of pnX5_init (Nat.le_of_ble_eq_true rfl) ?_
  show m_Run G mtX5_init true _ 0 0 0 [(0, mr a), (1, mi 6), (2, mi 40)] [] sh M
  refine r_aload_n dX5_init_0 0 rfl rfl ?_
  refine r_objInit dX5_init_1 lvX5_1 wmObj.1 wmObj.2 rfl ?_
  refine r_aload_n dX5_init_4 0 rfl rfl ?_
  refine r_iload_n dX5_init_5 1 rfl rfl ?_
  refine r_iload_n dX5_init_6 2 rfl rfl ?_
  refine r_mna (N := 6) (K := 40) (a := (a + 1)) dX5_init_7 clX5_7 waInt ⟨rfl, rfl, by decide, by decide⟩ ⟨Nat.le_of_ble_eq_true rfl, Nat.le_of_ble_eq_true rfl⟩ (by simp only [List.length_append, ha] <;> rfl) ?_
  refine r_putR dX5_init_11 flX5_9 rfl (ap_c hc) rfl ?_
  refine r_aload_n dX5_init_14 0 rfl rfl ?_
  refine r_iload_n dX5_init_15 1 rfl rfl ?_
  refine r_newa (kd := 0) (N := 6) (a := (a + 8)) dX5_init_16 (Or.inl ⟨rfl, rfl⟩) waInt ⟨rfl, by decide⟩ ⟨Nat.le_of_ble_eq_true rfl, Nat.le_of_ble_eq_true rfl⟩ (by simp only [List.length_append, ha] <;> rfl) ?_
  refine r_putR dX5_init_18 flX5_14 rfl (ap_c (ap_c hc)) rfl ?_
  refine r_iconst dX5_init_21 ?_
  refine r_istore_n (lv' := [(0, _), (1, _), (2, _), (3, _)]) dX5_init_22 rfl rfl rfl ?_
  refine r_iload_n dX5_init_23 3 rfl rfl ?_
  refine r_iload_n dX5_init_24 1 rfl rfl ?_
  refine r_ic_ge (tgt := 41) dX5_init_25 (by decide) (by omega) (fun q => absurd (show ¬ (6 : Int) ≤ 0 by omega) (fun z => z q)) (fun _ => ?_)
  refine r_aload_n dX5_init_28 0 rfl rfl ?_
  refine r_getR (r := (a + 8)) dX5_init_29 flX5_14 (ap_c (ap_c hc)) rfl (by simp [m_up, m_zap, m_cl]) ?_
  refine r_iload_n dX5_init_32 3 rfl rfl ?_
  refine r_iconst dX5_init_33 ?_
  refine r_iast (n := 6) dX5_init_34 (by simp [ha]) (by omega) ?_
  refine r_iinc (lv' := [(0, _), (1, _), (2, _), (3, mi 1)]) dX5_init_35 3 rfl rfl rfl ?_
  refine r_goto (tgt := 23) dX5_init_38 (by decide) ?_
  refine r_iload_n dX5_init_23 3 rfl rfl ?_
  refine r_iload_n dX5_init_24 1 rfl rfl ?_
  refine r_ic_ge (tgt := 41) dX5_init_25 (by decide) (by omega) (fun q => absurd (show ¬ (6 : Int) ≤ 1 by omega) (fun z => z q)) (fun _ => ?_)
  refine r_aload_n dX5_init_28 0 rfl rfl ?_
  refine r_getR (r := (a + 8)) dX5_init_29 flX5_14 (ap_c (ap_c hc)) rfl (by simp [m_up, m_zap, m_cl]) ?_
  refine r_iload_n dX5_init_32 3 rfl rfl ?_
  refine r_iconst dX5_init_33 ?_
  refine r_iast (n := 6) dX5_init_34 (by simp [ha]) (by omega) ?_
  refine r_iinc (lv' := [(0, _), (1, _), (2, _), (3, mi 2)]) dX5_init_35 3 rfl rfl rfl ?_
  refine r_goto (tgt := 23) dX5_init_38 (by decide) ?_
  refine r_iload_n dX5_init_23 3 rfl rfl ?_
  refine r_iload_n dX5_init_24 1 rfl rfl ?_
  refine r_ic_ge (tgt := 41) dX5_init_25 (by decide) (by omega) (fun q => absurd (show ¬ (6 : Int) ≤ 2 by omega) (fun z => z q)) (fun _ => ?_)
  refine r_aload_n dX5_init_28 0 rfl rfl ?_
  refine r_getR (r := (a + 8)) dX5_init_29 flX5_14 (ap_c (ap_c hc)) rfl (by simp [m_up, m_zap, m_cl]) ?_
  refine r_iload_n dX5_init_32 3 rfl rfl ?_
  refine r_iconst dX5_init_33 ?_
  refine r_iast (n := 6) dX5_init_34 (by simp [ha]) (by omega) ?_
  refine r_iinc (lv' := [(0, _), (1, _), (2, _), (3, mi 3)]) dX5_init_35 3 rfl rfl rfl ?_
  refine r_goto (tgt := 23) dX5_init_38 (by decide) ?_
  refine r_iload_n dX5_init_23 3 rfl rfl ?_
  refine r_iload_n dX5_init_24 1 rfl rfl ?_
  refine r_ic_ge (tgt := 41) dX5_init_25 (by decide) (by omega) (fun q => absurd (show ¬ (6 : Int) ≤ 3 by omega) (fun z => z q)) (fun _ => ?_)
  refine r_aload_n dX5_init_28 0 rfl rfl ?_
  refine r_getR (r := (a + 8)) dX5_init_29 flX5_14 (ap_c (ap_c hc)) rfl (by simp [m_up, m_zap, m_cl]) ?_
  refine r_iload_n dX5_init_32 3 rfl rfl ?_
  refine r_iconst dX5_init_33 ?_
  refine r_iast (n := 6) dX5_init_34 (by simp [ha]) (by omega) ?_
  refine r_iinc (lv' := [(0, _), (1, _), (2, _), (3, mi 4)]) dX5_init_35 3 rfl rfl rfl ?_
  refine r_goto (tgt := 23) dX5_init_38 (by decide) ?_
  refine r_iload_n dX5_init_23 3 rfl rfl ?_
  refine r_iload_n dX5_init_24 1 rfl rfl ?_
  refine r_ic_ge (tgt := 41) dX5_init_25 (by decide) (by omega) (fun q => absurd (show ¬ (6 : Int) ≤ 4 by omega) (fun z => z q)) (fun _ => ?_)
  refine r_aload_n dX5_init_28 0 rfl rfl ?_
  refine r_getR (r := (a + 8)) dX5_init_29 flX5_14 (ap_c (ap_c hc)) rfl (by simp [m_up, m_zap, m_cl]) ?_
  refine r_iload_n dX5_init_32 3 rfl rfl ?_
  refine r_iconst dX5_init_33 ?_
  refine r_iast (n := 6) dX5_init_34 (by simp [ha]) (by omega) ?_
  refine r_iinc (lv' := [(0, _), (1, _), (2, _), (3, mi 5)]) dX5_init_35 3 rfl rfl rfl ?_
  refine r_goto (tgt := 23) dX5_init_38 (by decide) ?_
  refine r_iload_n dX5_init_23 3 rfl rfl ?_
  refine r_iload_n dX5_init_24 1 rfl rfl ?_
  refine r_ic_ge (tgt := 41) dX5_init_25 (by decide) (by omega) (fun q => absurd (show ¬ (6 : Int) ≤ 5 by omega) (fun z => z q)) (fun _ => ?_)
  refine r_aload_n dX5_init_28 0 rfl rfl ?_
  refine r_getR (r := (a + 8)) dX5_init_29 flX5_14 (ap_c (ap_c hc)) rfl (by simp [m_up, m_zap, m_cl]) ?_
  refine r_iload_n dX5_init_32 3 rfl rfl ?_
  refine r_iconst dX5_init_33 ?_
  refine r_iast (n := 6) dX5_init_34 (by simp [ha]) (by omega) ?_
  refine r_iinc (lv' := [(0, _), (1, _), (2, _), (3, mi 6)]) dX5_init_35 3 rfl rfl rfl ?_
  refine r_goto (tgt := 23) dX5_init_38 (by decide) ?_
  refine r_iload_n dX5_init_23 3 rfl rfl ?_
  refine r_iload_n dX5_init_24 1 rfl rfl ?_
  refine r_ic_ge (tgt := 41) dX5_init_25 (by decide) (by omega) (fun _ => ?_) (fun q => absurd (show (6 : Int) ≤ 6 by omega) q)
  refine r_vret dX5_init_41 rfl ⟨Nat.le_of_ble_eq_true rfl, Nat.le_of_ble_eq_true rfl⟩ ?_
  refine ⟨rfl, by simp [List.replicate], fun c h j => ⟨?_, ?_, ?_⟩, ?_, ?_, ?_, ?_, ?_⟩
  · simp only [m_sI, m_sL, m_sR, m_zap, m_grid, m_up, m_cl, true_and, and_true, and_self, if_true, if_false, false_and, and_false]
    repeat (first | rw [if_pos (by omega)] | rw [if_neg (by omega)])
  · simp only [m_sI, m_sL, m_sR, m_zap, m_grid, m_up, m_cl, true_and, and_true, and_self, if_true, if_false, false_and, and_false]
    repeat (first | rw [if_pos (by omega)] | rw [if_neg (by omega)])
  · simp only [m_sI, m_sL, m_sR, m_zap, m_grid, m_up, m_cl, true_and, and_true, and_self, if_true, if_false, false_and, and_false]
    repeat (first | rw [if_pos (by omega)] | rw [if_neg (by omega)])
  · simp only [m_sI, m_sL, m_sR, m_zap, m_grid, m_up, m_cl, true_and, and_true, and_self, if_true, if_false, false_and, and_false]
    repeat (first | rw [if_pos (by omega)] | rw [if_neg (by omega)])
  · simp only [m_sI, m_sL, m_sR, m_zap, m_grid, m_up, m_cl, true_and, and_true, and_self, if_true, if_false, false_and, and_false]
    repeat (first | rw [if_pos (by omega)] | rw [if_neg (by omega)])
  · intro i hi
    simp only [m_sI, m_sL, m_sR, m_zap, m_grid, m_up, m_cl, true_and, and_true, and_self, if_true, if_false, false_and, and_false]
    repeat (first | rw [if_pos (by omega)] | rw [if_neg (by omega)])
    rw [Int.toNat_natCast]
  · intro i hi
    have hi2 : i = 0 ∨ i = 1 ∨ i = 2 ∨ i = 3 ∨ i = 4 ∨ i = 5 := by omega
    rcases hi2 with rfl | rfl | rfl | rfl | rfl | rfl
    all_goals
      simp only [m_sI, m_sL, m_sR, m_zap, m_grid, m_up, m_cl, true_and, and_true, and_self, if_true, if_false, false_and, and_false]
      repeat (first | rw [if_pos (by omega)] | rw [if_neg (by omega)])
  · intro i hi j
    simp only [m_sI, m_sL, m_sR, m_zap, m_grid, m_up, m_cl, true_and, and_true, and_self, if_true, if_false, false_and, and_false]
    repeat (first | rw [if_pos (by omega)] | rw [if_neg (by omega)])
set_option maxHeartbeats 4000000 in
theorem c_X5_init_4 (ha : sh.length = a + 1) (hc : sh[a]? = some (.inl 5)) : m_Spec G mtX5_init true [mr a, mi 4, mi 80] sh M (fun v s m => v = none ∧ s = sh ++ (.inr (3, 4) :: List.replicate 4 (.inr (0, 80)) ++ [.inr (0, 4)]) ∧ Sm a M m ∧ m.2.2 a 0 = some (a + 1) ∧ m.2.2 a 1 = some (a + 6) ∧ (∀ i : Nat, i < 4 → m.2.2 (a + 1) (i : Int) = some (a + 2 + i)) ∧ (∀ i : Nat, i < 4 → m.1 (a + 6) (i : Int) = -1) ∧ (∀ i : Nat, i < 4 → ∀ j, m.1 (a + 2 + i) j = 0)) := by
  refine m_Spec.of pnX5_init (Nat.le_of_ble_eq_true rfl) ?_
  show m_Run G mtX5_init true _ 0 0 0 [(0, mr a), (1, mi 4), (2, mi 80)] [] sh M
  refine r_aload_n dX5_init_0 0 rfl rfl ?_
  refine r_objInit dX5_init_1 lvX5_1 wmObj.1 wmObj.2 rfl ?_
  refine r_aload_n dX5_init_4 0 rfl rfl ?_
  refine r_iload_n dX5_init_5 1 rfl rfl ?_
  refine r_iload_n dX5_init_6 2 rfl rfl ?_
  refine r_mna (N := 4) (K := 80) (a := (a + 1)) dX5_init_7 clX5_7 waInt ⟨rfl, rfl, by decide, by decide⟩ ⟨Nat.le_of_ble_eq_true rfl, Nat.le_of_ble_eq_true rfl⟩ (by simp only [List.length_append, ha] <;> rfl) ?_
  refine r_putR dX5_init_11 flX5_9 rfl (ap_c hc) rfl ?_
  refine r_aload_n dX5_init_14 0 rfl rfl ?_
  refine r_iload_n dX5_init_15 1 rfl rfl ?_
  refine r_newa (kd := 0) (N := 4) (a := (a + 6)) dX5_init_16 (Or.inl ⟨rfl, rfl⟩) waInt ⟨rfl, by decide⟩ ⟨Nat.le_of_ble_eq_true rfl, Nat.le_of_ble_eq_true rfl⟩ (by simp only [List.length_append, ha] <;> rfl) ?_
  refine r_putR dX5_init_18 flX5_14 rfl (ap_c (ap_c hc)) rfl ?_
  refine r_iconst dX5_init_21 ?_
  refine r_istore_n (lv' := [(0, _), (1, _), (2, _), (3, _)]) dX5_init_22 rfl rfl rfl ?_
  refine r_iload_n dX5_init_23 3 rfl rfl ?_
  refine r_iload_n dX5_init_24 1 rfl rfl ?_
  refine r_ic_ge (tgt := 41) dX5_init_25 (by decide) (by omega) (fun q => absurd (show ¬ (4 : Int) ≤ 0 by omega) (fun z => z q)) (fun _ => ?_)
  refine r_aload_n dX5_init_28 0 rfl rfl ?_
  refine r_getR (r := (a + 6)) dX5_init_29 flX5_14 (ap_c (ap_c hc)) rfl (by simp [m_up, m_zap, m_cl]) ?_
  refine r_iload_n dX5_init_32 3 rfl rfl ?_
  refine r_iconst dX5_init_33 ?_
  refine r_iast (n := 4) dX5_init_34 (by simp [ha]) (by omega) ?_
  refine r_iinc (lv' := [(0, _), (1, _), (2, _), (3, mi 1)]) dX5_init_35 3 rfl rfl rfl ?_
  refine r_goto (tgt := 23) dX5_init_38 (by decide) ?_
  refine r_iload_n dX5_init_23 3 rfl rfl ?_
  refine r_iload_n dX5_init_24 1 rfl rfl ?_
  refine r_ic_ge (tgt := 41) dX5_init_25 (by decide) (by omega) (fun q => absurd (show ¬ (4 : Int) ≤ 1 by omega) (fun z => z q)) (fun _ => ?_)
  refine r_aload_n dX5_init_28 0 rfl rfl ?_
  refine r_getR (r := (a + 6)) dX5_init_29 flX5_14 (ap_c (ap_c hc)) rfl (by simp [m_up, m_zap, m_cl]) ?_
  refine r_iload_n dX5_init_32 3 rfl rfl ?_
  refine r_iconst dX5_init_33 ?_
  refine r_iast (n := 4) dX5_init_34 (by simp [ha]) (by omega) ?_
  refine r_iinc (lv' := [(0, _), (1, _), (2, _), (3, mi 2)]) dX5_init_35 3 rfl rfl rfl ?_
  refine r_goto (tgt := 23) dX5_init_38 (by decide) ?_
  refine r_iload_n dX5_init_23 3 rfl rfl ?_
  refine r_iload_n dX5_init_24 1 rfl rfl ?_
  refine r_ic_ge (tgt := 41) dX5_init_25 (by decide) (by omega) (fun q => absurd (show ¬ (4 : Int) ≤ 2 by omega) (fun z => z q)) (fun _ => ?_)
  refine r_aload_n dX5_init_28 0 rfl rfl ?_
  refine r_getR (r := (a + 6)) dX5_init_29 flX5_14 (ap_c (ap_c hc)) rfl (by simp [m_up, m_zap, m_cl]) ?_
  refine r_iload_n dX5_init_32 3 rfl rfl ?_
  refine r_iconst dX5_init_33 ?_
  refine r_iast (n := 4) dX5_init_34 (by simp [ha]) (by omega) ?_
  refine r_iinc (lv' := [(0, _), (1, _), (2, _), (3, mi 3)]) dX5_init_35 3 rfl rfl rfl ?_
  refine r_goto (tgt := 23) dX5_init_38 (by decide) ?_
  refine r_iload_n dX5_init_23 3 rfl rfl ?_
  refine r_iload_n dX5_init_24 1 rfl rfl ?_
  refine r_ic_ge (tgt := 41) dX5_init_25 (by decide) (by omega) (fun q => absurd (show ¬ (4 : Int) ≤ 3 by omega) (fun z => z q)) (fun _ => ?_)
  refine r_aload_n dX5_init_28 0 rfl rfl ?_
  refine r_getR (r := (a + 6)) dX5_init_29 flX5_14 (ap_c (ap_c hc)) rfl (by simp [m_up, m_zap, m_cl]) ?_
  refine r_iload_n dX5_init_32 3 rfl rfl ?_
  refine r_iconst dX5_init_33 ?_
  refine r_iast (n := 4) dX5_init_34 (by simp [ha]) (by omega) ?_
  refine r_iinc (lv' := [(0, _), (1, _), (2, _), (3, mi 4)]) dX5_init_35 3 rfl rfl rfl ?_
  refine r_goto (tgt := 23) dX5_init_38 (by decide) ?_
  refine r_iload_n dX5_init_23 3 rfl rfl ?_
  refine r_iload_n dX5_init_24 1 rfl rfl ?_
  refine r_ic_ge (tgt := 41) dX5_init_25 (by decide) (by omega) (fun _ => ?_) (fun q => absurd (show (4 : Int) ≤ 4 by omega) q)
  refine r_vret dX5_init_41 rfl ⟨Nat.le_of_ble_eq_true rfl, Nat.le_of_ble_eq_true rfl⟩ ?_
  refine ⟨rfl, by simp [List.replicate], fun c h j => ⟨?_, ?_, ?_⟩, ?_, ?_, ?_, ?_, ?_⟩
  · simp only [m_sI, m_sL, m_sR, m_zap, m_grid, m_up, m_cl, true_and, and_true, and_self, if_true, if_false, false_and, and_false]
    repeat (first | rw [if_pos (by omega)] | rw [if_neg (by omega)])
  · simp only [m_sI, m_sL, m_sR, m_zap, m_grid, m_up, m_cl, true_and, and_true, and_self, if_true, if_false, false_and, and_false]
    repeat (first | rw [if_pos (by omega)] | rw [if_neg (by omega)])
  · simp only [m_sI, m_sL, m_sR, m_zap, m_grid, m_up, m_cl, true_and, and_true, and_self, if_true, if_false, false_and, and_false]
    repeat (first | rw [if_pos (by omega)] | rw [if_neg (by omega)])
  · simp only [m_sI, m_sL, m_sR, m_zap, m_grid, m_up, m_cl, true_and, and_true, and_self, if_true, if_false, false_and, and_false]
    repeat (first | rw [if_pos (by omega)] | rw [if_neg (by omega)])
  · simp only [m_sI, m_sL, m_sR, m_zap, m_grid, m_up, m_cl, true_and, and_true, and_self, if_true, if_false, false_and, and_false]
    repeat (first | rw [if_pos (by omega)] | rw [if_neg (by omega)])
  · intro i hi
    simp only [m_sI, m_sL, m_sR, m_zap, m_grid, m_up, m_cl, true_and, and_true, and_self, if_true, if_false, false_and, and_false]
    repeat (first | rw [if_pos (by omega)] | rw [if_neg (by omega)])
    rw [Int.toNat_natCast]
  · intro i hi
    have hi2 : i = 0 ∨ i = 1 ∨ i = 2 ∨ i = 3 := by omega
    rcases hi2 with rfl | rfl | rfl | rfl
    all_goals
      simp only [m_sI, m_sL, m_sR, m_zap, m_grid, m_up, m_cl, true_and, and_true, and_self, if_true, if_false, false_and, and_false]
      repeat (first | rw [if_pos (by omega)] | rw [if_neg (by omega)])
  · intro i hi j
    simp only [m_sI, m_sL, m_sR, m_zap, m_grid, m_up, m_cl, true_and, and_true, and_self, if_true, if_false, false_and, and_false]
    repeat (first | rw [if_pos (by omega)] | rw [if_neg (by omega)])
set_option maxHeartbeats 4000000 in
theorem c_X6_init (ha : sh.length = a + 1) (hc : sh[a]? = some (.inl 6)) : m_Spec G mtX6_init true [mr a] sh M (fun v s m => v = none ∧ s = sh ++ (.inl 1 :: .inr (0, 39) :: .inr (0, 84) :: .inr (0, 84) :: .inr (1, 837) :: .inr (0, 93) :: .inr (0, 93) :: .inr (0, 31) :: .inr (0, 31) :: [.inr (1, 1728), .inr (1, 1728), .inr (1, 1728)]) ∧ Sm a M m ∧ (∀ j, m.1 a j = M.1 a j) ∧ m.2.2 a 0 = some (a + 1) ∧ m.2.2 (a + 1) 0 = some (a + 2) ∧ m.2.2 (a + 1) 1 = some (a + 3) ∧ m.2.2 (a + 1) 2 = some (a + 4) ∧ m.2.2 a 1 = some (a + 5) ∧ m.2.2 a 2 = some (a + 6) ∧ m.2.2 a 3 = some (a + 7) ∧ m.2.2 a 4 = some (a + 8) ∧ m.2.2 a 5 = some (a + 9) ∧ m.2.2 a 6 = some (a + 10) ∧ m.2.2 a 7 = some (a + 11) ∧ m.2.2 a 8 = some (a + 12)) := by
  refine m_Spec.of pnX6_init (Nat.le_of_ble_eq_true rfl) ?_
  show m_Run G mtX6_init true _ 0 0 0 [(0, mr a)] [] sh M
  refine r_aload_n dX6_init_0 0 rfl rfl ?_
  refine r_objInit dX6_init_1 lvX6_3 wmObj.1 wmObj.2 rfl ?_
  refine r_aload_n dX6_init_4 0 rfl rfl ?_
  refine r_new (ci := 1) (N := 3) (a := a + 1) dX6_init_5 rfl clX6_9.1 clX6_9.2.1 clX6_9.2.2 rfl ⟨Nat.le_of_ble_eq_true rfl, Nat.le_of_ble_eq_true rfl⟩ (by simp only [List.length_append, ha] <;> rfl) ?_
  refine r_dup dX6_init_8 rfl ?_
  refine r_callI (as := []) dX6_init_9 lvX6_11 rfl (c_X1_init (a := a + 1) (by simp only [List.length_append, ha] <;> rfl) (by rw [List.getElem?_append_right (by omega), ha, Nat.sub_self]; rfl)) rfl rfl rfl ⟨Nat.le_of_ble_eq_true rfl, Nat.le_of_ble_eq_true rfl⟩ (fun v s m1 hq => ?_)
  obtain ⟨rfl, rfl, sm, f0, f1, f2⟩ := hq
  refine r_putR dX6_init_12 flX6_12 rfl (ap_c (ap_c hc)) rfl ?_
  refine r_aload_n dX6_init_15 0 rfl rfl ?_
  refine r_sipush dX6_init_16 (by decide) ?_
  refine r_newa (kd := 1) (N := 837) (a := (a + 5)) dX6_init_19 (Or.inr (Or.inl ⟨rfl, rfl⟩)) waLong ⟨rfl, by decide⟩ ⟨Nat.le_of_ble_eq_true rfl, Nat.le_of_ble_eq_true rfl⟩ (by simp only [List.length_append, ha] <;> rfl) ?_
  refine r_putR dX6_init_21 flX6_18 rfl (ap_c (ap_c (ap_c hc))) rfl ?_
  refine r_aload_n dX6_init_24 0 rfl rfl ?_
  refine r_bipush dX6_init_25 (by decide) ?_
  refine r_newa (kd := 0) (N := 93) (a := (a + 6)) dX6_init_27 (Or.inl ⟨rfl, rfl⟩) waInt ⟨rfl, by decide⟩ ⟨Nat.le_of_ble_eq_true rfl, Nat.le_of_ble_eq_true rfl⟩ (by simp only [List.length_append, ha] <;> rfl) ?_
  refine r_putR dX6_init_29 flX6_22 rfl (ap_c (ap_c (ap_c (ap_c hc)))) rfl ?_
  refine r_aload_n dX6_init_32 0 rfl rfl ?_
  refine r_bipush dX6_init_33 (by decide) ?_
  refine r_newa (kd := 0) (N := 93) (a := (a + 7)) dX6_init_35 (Or.inl ⟨rfl, rfl⟩) waInt ⟨rfl, by decide⟩ ⟨Nat.le_of_ble_eq_true rfl, Nat.le_of_ble_eq_true rfl⟩ (by simp only [List.length_append, ha] <;> rfl) ?_
  refine r_putR dX6_init_37 flX6_26 rfl (ap_c (ap_c (ap_c (ap_c (ap_c hc))))) rfl ?_
  refine r_aload_n dX6_init_40 0 rfl rfl ?_
  refine r_bipush dX6_init_41 (by decide) ?_
  refine r_newa (kd := 0) (N := 31) (a := (a + 8)) dX6_init_43 (Or.inl ⟨rfl, rfl⟩) waInt ⟨rfl, by decide⟩ ⟨Nat.le_of_ble_eq_true rfl, Nat.le_of_ble_eq_true rfl⟩ (by simp only [List.length_append, ha] <;> rfl) ?_
  refine r_putR dX6_init_45 flX6_29 rfl (ap_c (ap_c (ap_c (ap_c (ap_c (ap_c hc)))))) rfl ?_
  refine r_aload_n dX6_init_48 0 rfl rfl ?_
  refine r_bipush dX6_init_49 (by decide) ?_
  refine r_newa (kd := 0) (N := 31) (a := (a + 9)) dX6_init_51 (Or.inl ⟨rfl, rfl⟩) waInt ⟨rfl, by decide⟩ ⟨Nat.le_of_ble_eq_true rfl, Nat.le_of_ble_eq_true rfl⟩ (by simp only [List.length_append, ha] <;> rfl) ?_
  refine r_putR dX6_init_53 flX6_32 rfl (ap_c (ap_c (ap_c (ap_c (ap_c (ap_c (ap_c hc))))))) rfl ?_
  refine r_aload_n dX6_init_56 0 rfl rfl ?_
  refine r_sipush dX6_init_57 (by decide) ?_
  refine r_newa (kd := 1) (N := 1728) (a := (a + 10)) dX6_init_60 (Or.inr (Or.inl ⟨rfl, rfl⟩)) waLong ⟨rfl, by decide⟩ ⟨Nat.le_of_ble_eq_true rfl, Nat.le_of_ble_eq_true rfl⟩ (by simp only [List.length_append, ha] <;> rfl) ?_
  refine r_putR dX6_init_62 flX6_35 rfl (ap_c (ap_c (ap_c (ap_c (ap_c (ap_c (ap_c (ap_c hc)))))))) rfl ?_
  refine r_aload_n dX6_init_65 0 rfl rfl ?_
  refine r_sipush dX6_init_66 (by decide) ?_
  refine r_newa (kd := 1) (N := 1728) (a := (a + 11)) dX6_init_69 (Or.inr (Or.inl ⟨rfl, rfl⟩)) waLong ⟨rfl, by decide⟩ ⟨Nat.le_of_ble_eq_true rfl, Nat.le_of_ble_eq_true rfl⟩ (by simp only [List.length_append, ha] <;> rfl) ?_
  refine r_putR dX6_init_71 flX6_38 rfl (ap_c (ap_c (ap_c (ap_c (ap_c (ap_c (ap_c (ap_c (ap_c hc))))))))) rfl ?_
  refine r_aload_n dX6_init_74 0 rfl rfl ?_
  refine r_sipush dX6_init_75 (by decide) ?_
  refine r_newa (kd := 1) (N := 1728) (a := (a + 12)) dX6_init_78 (Or.inr (Or.inl ⟨rfl, rfl⟩)) waLong ⟨rfl, by decide⟩ ⟨Nat.le_of_ble_eq_true rfl, Nat.le_of_ble_eq_true rfl⟩ (by simp only [List.length_append, ha] <;> rfl) ?_
  refine r_putR dX6_init_80 flX6_41 rfl (ap_c (ap_c (ap_c (ap_c (ap_c (ap_c (ap_c (ap_c (ap_c (ap_c hc)))))))))) rfl ?_
  refine r_vret dX6_init_83 rfl ⟨Nat.le_of_ble_eq_true rfl, Nat.le_of_ble_eq_true rfl⟩ ?_
  refine ⟨rfl, by simp [List.replicate], fun c h j => ⟨?_, ?_, ?_⟩, ?_, ?_, ?_, ?_, ?_, ?_, ?_, ?_, ?_, ?_, ?_, ?_, ?_⟩
  · simp only [m_sI, m_sL, m_sR, m_zap, m_grid, m_up, m_cl, true_and, and_true, and_self, if_true, if_false, false_and, and_false]
    repeat (first | rw [if_pos (by omega)] | rw [if_neg (by omega)])
    refine (sm c (by omega) j).1.trans ?_
    simp only [m_sI, m_sL, m_sR, m_zap, m_grid, m_up, m_cl, true_and, and_true, and_self, if_true, if_false, false_and, and_false]
    repeat (first | rw [if_pos (by omega)] | rw [if_neg (by omega)])
  · simp only [m_sI, m_sL, m_sR, m_zap, m_grid, m_up, m_cl, true_and, and_true, and_self, if_true, if_false, false_and, and_false]
    repeat (first | rw [if_pos (by omega)] | rw [if_neg (by omega)])
    refine (sm c (by omega) j).2.1.trans ?_
    simp only [m_sI, m_sL, m_sR, m_zap, m_grid, m_up, m_cl, true_and, and_true, and_self, if_true, if_false, false_and, and_false]
    repeat (first | rw [if_pos (by omega)] | rw [if_neg (by omega)])
  · simp only [m_sI, m_sL, m_sR, m_zap, m_grid, m_up, m_cl, true_and, and_true, and_self, if_true, if_false, false_and, and_false]
    repeat (first | rw [if_pos (by omega)] | rw [if_neg (by omega)])
    refine (sm c (by omega) j).2.2.trans ?_
    simp only [m_sI, m_sL, m_sR, m_zap, m_grid, m_up, m_cl, true_and, and_true, and_self, if_true, if_false, false_and, and_false]
    repeat (first | rw [if_pos (by omega)] | rw [if_neg (by omega)])
  · intro j
    simp only [m_sI, m_sL, m_sR, m_zap, m_grid, m_up, m_cl, true_and, and_true, and_self, if_true, if_false, false_and, and_false]
    repeat (first | rw [if_pos (by omega)] | rw [if_neg (by omega)])
    refine (sm a (by omega) j).1.trans ?_
    simp only [m_sI, m_sL, m_sR, m_zap, m_grid, m_up, m_cl, true_and, and_true, and_self, if_true, if_false, false_and, and_false]
    repeat (first | rw [if_pos (by omega)] | rw [if_neg (by omega)])
  · simp only [m_sI, m_sL, m_sR, m_zap, m_grid, m_up, m_cl, true_and, and_true, and_self, if_true, if_false, false_and, and_false]
    repeat (first | rw [if_pos (by omega)] | rw [if_neg (by omega)])
  · simp only [m_sI, m_sL, m_sR, m_zap, m_grid, m_up, m_cl, true_and, and_true, and_self, if_true, if_false, false_and, and_false]
    repeat (first | rw [if_pos (by omega)] | rw [if_neg (by omega)])
    exact f0
  · simp only [m_sI, m_sL, m_sR, m_zap, m_grid, m_up, m_cl, true_and, and_true, and_self, if_true, if_false, false_and, and_false]
    repeat (first | rw [if_pos (by omega)] | rw [if_neg (by omega)])
    exact f1
  · simp only [m_sI, m_sL, m_sR, m_zap, m_grid, m_up, m_cl, true_and, and_true, and_self, if_true, if_false, false_and, and_false]
    repeat (first | rw [if_pos (by omega)] | rw [if_neg (by omega)])
    exact f2
  · simp only [m_sI, m_sL, m_sR, m_zap, m_grid, m_up, m_cl, true_and, and_true, and_self, if_true, if_false, false_and, and_false]
    repeat (first | rw [if_pos (by omega)] | rw [if_neg (by omega)])
  · simp only [m_sI, m_sL, m_sR, m_zap, m_grid, m_up, m_cl, true_and, and_true, and_self, if_true, if_false, false_and, and_false]
    repeat (first | rw [if_pos (by omega)] | rw [if_neg (by omega)])
  · simp only [m_sI, m_sL, m_sR, m_zap, m_grid, m_up, m_cl, true_and, and_true, and_self, if_true, if_false, false_and, and_false]
    repeat (first | rw [if_pos (by omega)] | rw [if_neg (by omega)])
  · simp only [m_sI, m_sL, m_sR, m_zap, m_grid, m_up, m_cl, true_and, and_true, and_self, if_true, if_false, false_and, and_false]
    repeat (first | rw [if_pos (by omega)] | rw [if_neg (by omega)])
  · simp only [m_sI, m_sL, m_sR, m_zap, m_grid, m_up, m_cl, true_and, and_true, and_self, if_true, if_false, false_and, and_false]
    repeat (first | rw [if_pos (by omega)] | rw [if_neg (by omega)])
  · simp only [m_sI, m_sL, m_sR, m_zap, m_grid, m_up, m_cl, true_and, and_true, and_self, if_true, if_false, false_and, and_false]
    repeat (first | rw [if_pos (by omega)] | rw [if_neg (by omega)])
  · simp only [m_sI, m_sL, m_sR, m_zap, m_grid, m_up, m_cl, true_and, and_true, and_self, if_true, if_false, false_and, and_false]
    repeat (first | rw [if_pos (by omega)] | rw [if_neg (by omega)])
  · simp only [m_sI, m_sL, m_sR, m_zap, m_grid, m_up, m_cl, true_and, and_true, and_self, if_true, if_false, false_and, and_false]
    repeat (first | rw [if_pos (by omega)] | rw [if_neg (by omega)])
end

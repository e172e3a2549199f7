/-! CONSTRUCTORS: the class's own; the reference's. -/
theorem okR_mk {R : MR} (h0 : R 0 0 = some 1 ∧ R 0 1 = some 10 ∧ R 0 2 = some 17 ∧ R 0 3 = some 19 ∧ R 0 4 = some 42 ∧ R 0 5 = some 50 ∧ R 0 6 = some 58 ∧ R 0 7 = some 63 ∧ R 0 15 = some 68) (h1 : R 1 0 = some 2 ∧ R 1 1 = some 9) (h2 : R 2 0 = some 3 ∧ R 2 1 = some 4 ∧ R 2 2 = some 5 ∧ R 2 3 = some 6 ∧ R 2 4 = some 7 ∧ R 2 5 = some 8) (h10 : R 10 0 = some 11 ∧ R 10 1 = some 16) (h11 : R 11 0 = some 12 ∧ R 11 1 = some 13 ∧ R 11 2 = some 14 ∧ R 11 3 = some 15) (h19 : R 19 0 = some 20 ∧ R 19 1 = some 24 ∧ R 19 2 = some 25 ∧ R 19 3 = some 26 ∧ R 19 4 = some 27 ∧ R 19 5 = some 28) (h20 : R 20 0 = some 21 ∧ R 20 1 = some 22 ∧ R 20 2 = some 23) (h32 : R 32 5 = some 33 ∧ R 32 6 = some 34 ∧ R 32 7 = some 35 ∧ R 32 8 = some 36) (h37 : R 37 5 = some 38 ∧ R 37 6 = some 39 ∧ R 37 7 = some 40 ∧ R 37 8 = some 41) (h42 : R 42 5 = some 43 ∧ R 42 6 = some 44 ∧ R 42 7 = some 45 ∧ R 42 8 = some 46 ∧ R 42 9 = some 47 ∧ R 42 10 = some 48 ∧ R 42 11 = some 49) (h50 : R 50 5 = some 51 ∧ R 50 6 = some 52 ∧ R 50 7 = some 53 ∧ R 50 8 = some 54 ∧ R 50 9 = some 55 ∧ R 50 10 = some 56 ∧ R 50 11 = some 57) (h58 : R 58 1 = some 59 ∧ R 58 2 = some 60 ∧ R 58 3 = some 61 ∧ R 58 4 = some 62) (h63 : R 63 1 = some 64 ∧ R 63 2 = some 65 ∧ R 63 3 = some 66 ∧ R 63 4 = some 67) : okR R := by
  intro a j v hv
  unfold rX at hv
  split at hv
  · split at hv
    · cases hv; exact h0.1
    · cases hv; exact h0.2.1
    · cases hv; exact h0.2.2.1
    · cases hv; exact h0.2.2.2.1
    · cases hv; exact h0.2.2.2.2.1
    · cases hv; exact h0.2.2.2.2.2.1
    · cases hv; exact h0.2.2.2.2.2.2.1
    · cases hv; exact h0.2.2.2.2.2.2.2.1
    · cases hv; exact h0.2.2.2.2.2.2.2.2
    · cases hv
  · split at hv
    · cases hv; exact h1.1
    · cases hv; exact h1.2
    · cases hv
  · split at hv
    · cases hv; exact h2.1
    · cases hv; exact h2.2.1
    · cases hv; exact h2.2.2.1
    · cases hv; exact h2.2.2.2.1
    · cases hv; exact h2.2.2.2.2.1
    · cases hv; exact h2.2.2.2.2.2
    · cases hv
  · split at hv
    · cases hv; exact h10.1
    · cases hv; exact h10.2
    · cases hv
  · split at hv
    · cases hv; exact h11.1
    · cases hv; exact h11.2.1
    · cases hv; exact h11.2.2.1
    · cases hv; exact h11.2.2.2
    · cases hv
  · split at hv
    · cases hv; exact h19.1
    · cases hv; exact h19.2.1
    · cases hv; exact h19.2.2.1
    · cases hv; exact h19.2.2.2.1
    · cases hv; exact h19.2.2.2.2.1
    · cases hv; exact h19.2.2.2.2.2
    · cases hv
  · split at hv
    · cases hv; exact h20.1
    · cases hv; exact h20.2.1
    · cases hv; exact h20.2.2
    · cases hv
  · split at hv
    · cases hv; exact h32.1
    · cases hv; exact h32.2.1
    · cases hv; exact h32.2.2.1
    · cases hv; exact h32.2.2.2
    · cases hv
  · split at hv
    · cases hv; exact h37.1
    · cases hv; exact h37.2.1
    · cases hv; exact h37.2.2.1
    · cases hv; exact h37.2.2.2
    · cases hv
  · split at hv
    · cases hv; exact h42.1
    · cases hv; exact h42.2.1
    · cases hv; exact h42.2.2.1
    · cases hv; exact h42.2.2.2.1
    · cases hv; exact h42.2.2.2.2.1
    · cases hv; exact h42.2.2.2.2.2.1
    · cases hv; exact h42.2.2.2.2.2.2
    · cases hv
  · split at hv
    · cases hv; exact h50.1
    · cases hv; exact h50.2.1
    · cases hv; exact h50.2.2.1
    · cases hv; exact h50.2.2.2.1
    · cases hv; exact h50.2.2.2.2.1
    · cases hv; exact h50.2.2.2.2.2.1
    · cases hv; exact h50.2.2.2.2.2.2
    · cases hv
  · split at hv
    · cases hv; exact h58.1
    · cases hv; exact h58.2.1
    · cases hv; exact h58.2.2.1
    · cases hv; exact h58.2.2.2
    · cases hv
  · split at hv
    · cases hv; exact h63.1
    · cases hv; exact h63.2.1
    · cases hv; exact h63.2.2.1
    · cases hv; exact h63.2.2.2
    · cases hv
  · cases hv
/-- what the class holds at first -/
def X0I (I L : MI) (R : MR) : Prop := okR R ∧ (R 0 8 = some 32 ∧ R 0 9 = some 37) ∧ tW R 29 30 31 ∧ (I 19 12 = 0 ∧ I 19 15 = 0) ∧ (I 32 0 = 1 ∧ I 32 1 = 0 ∧ I 32 2 = 0 ∧ I 32 3 = 12 ∧ I 32 4 = 0) ∧ I 58 0 = 0 ∧ (∀ r : Nat, r < 6 → I 9 (r : Int) = -1 ∧ ∀ i, I (3 + r) i = 0) ∧ (∀ t : Nat, t < 4 → I 16 (t : Int) = -1 ∧ ∀ i, I (12 + t) i = 0) ∧ (I 0 10 = 0 ∧ I 0 11 = 0 ∧ I 0 13 = 0 ∧ I 0 14 = 0) ∧ (∀ f : Nat, f < 6 → I 68 (f : Int) = 0) ∧ L 0 16 = 0 ∧ L 0 17 = 0 ∧ L 0 18 = 1
section
variable {G : GT} {M : MM}
set_option maxHeartbeats 8000000 in
theorem c_X7_init (hI : ∀ j, M.1 0 j = 0) (hL : ∀ j, M.2.1 0 j = 0) : m_Spec G mtX7_init true [mr 0] [.inl 7] M (fun v s m => v = none ∧ s = shX ∧ X0I m.1 m.2.1 m.2.2) := by
  refine m_Spec.of pnX7_init (Nat.le_of_ble_eq_true rfl) ?_
  show m_Run G mtX7_init true _ 0 0 0 [(0, mr 0)] [] [.inl 7] M
  refine r_aload_n dX7_init_0 0 rfl rfl ?_
  refine r_objInit dX7_init_1 lvX7_3 wmObj.1 wmObj.2 rfl ?_
  refine r_aload_n dX7_init_4 0 rfl rfl ?_
  refine r_new (ci := 5) (N := 2) (a := 1) dX7_init_5 rfl clX7_9.1 clX7_9.2.1 clX7_9.2.2 rfl ⟨Nat.le_of_ble_eq_true rfl, Nat.le_of_ble_eq_true rfl⟩ rfl ?_
  refine r_dup dX7_init_8 rfl ?_
  refine r_bipush dX7_init_9 (by decide) ?_
  refine r_bipush dX7_init_11 (by decide) ?_
  refine r_callI (as := [mi 6, mi 40]) dX7_init_13 lvX7_11 rfl (c_X5_init_6 (a := 1) rfl rfl) rfl rfl rfl ⟨Nat.le_of_ble_eq_true rfl, Nat.le_of_ble_eq_true rfl⟩ (fun v s m1 hq => ?_)
  obtain ⟨rfl, rfl, sm1, r0_1, r1_1, ra_1, rs_1, rz_1⟩ := hq
  show m_Run G mtX7_init true _ _ _ 16 [(0, mr 0)] [mr 1, mr 0] _ _
  refine r_putR dX7_init_16 flX7_14 rfl rfl rfl ?_
  refine r_aload_n dX7_init_19 0 rfl rfl ?_
  refine r_new (ci := 5) (N := 2) (a := 10) dX7_init_20 rfl clX7_9.1 clX7_9.2.1 clX7_9.2.2 rfl ⟨Nat.le_of_ble_eq_true rfl, Nat.le_of_ble_eq_true rfl⟩ rfl ?_
  refine r_dup dX7_init_23 rfl ?_
  refine r_iconst dX7_init_24 ?_
  refine r_bipush dX7_init_25 (by decide) ?_
  refine r_callI (as := [mi 4, mi 80]) dX7_init_27 lvX7_11 rfl (c_X5_init_4 (a := 10) rfl rfl) rfl rfl rfl ⟨Nat.le_of_ble_eq_true rfl, Nat.le_of_ble_eq_true rfl⟩ (fun v s m2 hq => ?_)
  obtain ⟨rfl, rfl, sm2, r0_2, r1_2, ra_2, rs_2, rz_2⟩ := hq
  show m_Run G mtX7_init true _ _ _ 30 [(0, mr 0)] [mr 10, mr 0] _ _
  refine r_putR dX7_init_30 flX7_18 rfl rfl rfl ?_
  refine r_aload_n dX7_init_33 0 rfl rfl ?_
  refine r_new (ci := 4) (N := 4) (a := 17) dX7_init_34 rfl clX7_21.1 clX7_21.2.1 clX7_21.2.2 rfl ⟨Nat.le_of_ble_eq_true rfl, Nat.le_of_ble_eq_true rfl⟩ rfl ?_
  refine r_dup dX7_init_37 rfl ?_
  refine r_callI (as := []) dX7_init_38 lvX7_23 rfl (c_X4_init (a := 17) rfl rfl) rfl rfl rfl ⟨Nat.le_of_ble_eq_true rfl, Nat.le_of_ble_eq_true rfl⟩ (fun v s m3 hq => ?_)
  obtain ⟨rfl, rfl, sm3, sI_3⟩ := hq
  show m_Run G mtX7_init true _ _ _ 41 [(0, mr 0)] [mr 17, mr 0] _ _
  refine r_putR dX7_init_41 flX7_24 rfl rfl rfl ?_
  refine r_aload_n dX7_init_44 0 rfl rfl ?_
  refine r_new (ci := 6) (N := 17) (a := 19) dX7_init_45 rfl clX7_28.1 clX7_28.2.1 clX7_28.2.2 rfl ⟨Nat.le_of_ble_eq_true rfl, Nat.le_of_ble_eq_true rfl⟩ rfl ?_
  refine r_dup dX7_init_48 rfl ?_
  refine r_callI (as := []) dX7_init_49 lvX7_30 rfl (c_X6_init (a := 19) rfl rfl) rfl rfl rfl ⟨Nat.le_of_ble_eq_true rfl, Nat.le_of_ble_eq_true rfl⟩ (fun v s m4 hq => ?_)
  obtain ⟨rfl, rfl, sm4, sI_4, r0_4, q0_4, q1_4, q2_4, r1_4, r2_4, r3_4, r4_4, r5_4, r6_4, r7_4, r8_4⟩ := hq
  show m_Run G mtX7_init true _ _ _ 52 [(0, mr 0)] [mr 19, mr 0] _ _
  refine r_putR dX7_init_52 flX7_31 rfl rfl rfl ?_
  refine r_aload_n dX7_init_55 0 rfl rfl ?_
  refine r_new (ci := 0) (N := 9) (a := 32) dX7_init_56 rfl clX7_35.1 clX7_35.2.1 clX7_35.2.2 rfl ⟨Nat.le_of_ble_eq_true rfl, Nat.le_of_ble_eq_true rfl⟩ rfl ?_
  refine r_dup dX7_init_59 rfl ?_
  refine r_callI (as := []) dX7_init_60 lvX7_37 rfl (c_X0_init (a := 32) rfl rfl) rfl rfl rfl ⟨Nat.le_of_ble_eq_true rfl, Nat.le_of_ble_eq_true rfl⟩ (fun v s m5 hq => ?_)
  obtain ⟨rfl, rfl, sm5, i0_5, i1_5, i2_5, i3_5, i4_5, r5_5, r6_5, r7_5, r8_5⟩ := hq
  show m_Run G mtX7_init true _ _ _ 63 [(0, mr 0)] [mr 32, mr 0] _ _
  refine r_putR dX7_init_63 flX7_38 rfl rfl rfl ?_
  refine r_aload_n dX7_init_66 0 rfl rfl ?_
  refine r_new (ci := 0) (N := 9) (a := 37) dX7_init_67 rfl clX7_35.1 clX7_35.2.1 clX7_35.2.2 rfl ⟨Nat.le_of_ble_eq_true rfl, Nat.le_of_ble_eq_true rfl⟩ rfl ?_
  refine r_dup dX7_init_70 rfl ?_
  refine r_callI (as := []) dX7_init_71 lvX7_37 rfl (c_X0_init (a := 37) rfl rfl) rfl rfl rfl ⟨Nat.le_of_ble_eq_true rfl, Nat.le_of_ble_eq_true rfl⟩ (fun v s m6 hq => ?_)
  obtain ⟨rfl, rfl, sm6, i0_6, i1_6, i2_6, i3_6, i4_6, r5_6, r6_6, r7_6, r8_6⟩ := hq
  show m_Run G mtX7_init true _ _ _ 74 [(0, mr 0)] [mr 37, mr 0] _ _
  refine r_putR dX7_init_74 flX7_42 rfl rfl rfl ?_
  refine r_aload_n dX7_init_77 0 rfl rfl ?_
  refine r_new (ci := 3) (N := 12) (a := 42) dX7_init_78 rfl clX7_45.1 clX7_45.2.1 clX7_45.2.2 rfl ⟨Nat.le_of_ble_eq_true rfl, Nat.le_of_ble_eq_true rfl⟩ rfl ?_
  refine r_dup dX7_init_81 rfl ?_
  refine r_aload_n dX7_init_82 0 rfl rfl ?_
  refine r_getR (r := 32) dX7_init_83 flX7_38 rfl rfl (by
          simp only [m_sI, m_sL, m_sR, m_zap, m_grid, m_up, m_cl, true_and, and_true, and_self, if_true, if_false, false_and, and_false]
          repeat (first | rw [if_pos (by omega)] | rw [if_neg (by omega)])
          rw [(sm6 0 (by omega) 8).2.2]
          simp only [m_sI, m_sL, m_sR, m_zap, m_grid, m_up, m_cl, true_and, and_true, and_self, if_true, if_false, false_and, and_false]
          repeat (first | rw [if_pos (by omega)] | rw [if_neg (by omega)])) ?_
  refine r_callI (as := [mr 32]) dX7_init_86 lvX7_47 rfl (c_X3_init (a := 42) rfl rfl) rfl rfl rfl ⟨Nat.le_of_ble_eq_true rfl, Nat.le_of_ble_eq_true rfl⟩ (fun v s m7 hq => ?_)
  obtain ⟨rfl, rfl, sm7, r5_7, r6_7, r7_7, r8_7, r9_7, r10_7, r11_7⟩ := hq
  show m_Run G mtX7_init true _ _ _ 89 [(0, mr 0)] [mr 42, mr 0] _ _
  refine r_putR dX7_init_89 flX7_50 rfl rfl rfl ?_
  refine r_aload_n dX7_init_92 0 rfl rfl ?_
  refine r_new (ci := 3) (N := 12) (a := 50) dX7_init_93 rfl clX7_45.1 clX7_45.2.1 clX7_45.2.2 rfl ⟨Nat.le_of_ble_eq_true rfl, Nat.le_of_ble_eq_true rfl⟩ rfl ?_
  refine r_dup dX7_init_96 rfl ?_
  refine r_aload_n dX7_init_97 0 rfl rfl ?_
  refine r_getR (r := 32) dX7_init_98 flX7_38 rfl rfl (by
          simp only [m_sI, m_sL, m_sR, m_zap, m_grid, m_up, m_cl, true_and, and_true, and_self, if_true, if_false, false_and, and_false]
          repeat (first | rw [if_pos (by omega)] | rw [if_neg (by omega)])
          rw [(sm7 0 (by omega) 8).2.2]
          simp only [m_sI, m_sL, m_sR, m_zap, m_grid, m_up, m_cl, true_and, and_true, and_self, if_true, if_false, false_and, and_false]
          repeat (first | rw [if_pos (by omega)] | rw [if_neg (by omega)])
          rw [(sm6 0 (by omega) 8).2.2]
          simp only [m_sI, m_sL, m_sR, m_zap, m_grid, m_up, m_cl, true_and, and_true, and_self, if_true, if_false, false_and, and_false]
          repeat (first | rw [if_pos (by omega)] | rw [if_neg (by omega)])) ?_
  refine r_callI (as := [mr 32]) dX7_init_101 lvX7_47 rfl (c_X3_init (a := 50) rfl rfl) rfl rfl rfl ⟨Nat.le_of_ble_eq_true rfl, Nat.le_of_ble_eq_true rfl⟩ (fun v s m8 hq => ?_)
  obtain ⟨rfl, rfl, sm8, r5_8, r6_8, r7_8, r8_8, r9_8, r10_8, r11_8⟩ := hq
  show m_Run G mtX7_init true _ _ _ 104 [(0, mr 0)] [mr 50, mr 0] _ _
  refine r_putR dX7_init_104 flX7_54 rfl rfl rfl ?_
  refine r_aload_n dX7_init_107 0 rfl rfl ?_
  refine r_new (ci := 2) (N := 5) (a := 58) dX7_init_108 rfl clX7_57.1 clX7_57.2.1 clX7_57.2.2 rfl ⟨Nat.le_of_ble_eq_true rfl, Nat.le_of_ble_eq_true rfl⟩ rfl ?_
  refine r_dup dX7_init_111 rfl ?_
  refine r_callI (as := []) dX7_init_112 lvX7_59 rfl (c_X2_init (a := 58) rfl rfl) rfl rfl rfl ⟨Nat.le_of_ble_eq_true rfl, Nat.le_of_ble_eq_true rfl⟩ (fun v s m9 hq => ?_)
  obtain ⟨rfl, rfl, sm9, sI_9, r1_9, r2_9, r3_9, r4_9⟩ := hq
  show m_Run G mtX7_init true _ _ _ 115 [(0, mr 0)] [mr 58, mr 0] _ _
  refine r_putR dX7_init_115 flX7_60 rfl rfl rfl ?_
  refine r_aload_n dX7_init_118 0 rfl rfl ?_
  refine r_new (ci := 2) (N := 5) (a := 63) dX7_init_119 rfl clX7_57.1 clX7_57.2.1 clX7_57.2.2 rfl ⟨Nat.le_of_ble_eq_true rfl, Nat.le_of_ble_eq_true rfl⟩ rfl ?_
  refine r_dup dX7_init_122 rfl ?_
  refine r_callI (as := []) dX7_init_123 lvX7_59 rfl (c_X2_init (a := 63) rfl rfl) rfl rfl rfl ⟨Nat.le_of_ble_eq_true rfl, Nat.le_of_ble_eq_true rfl⟩ (fun v s m10 hq => ?_)
  obtain ⟨rfl, rfl, sm10, sI_10, r1_10, r2_10, r3_10, r4_10⟩ := hq
  show m_Run G mtX7_init true _ _ _ 126 [(0, mr 0)] [mr 63, mr 0] _ _
  refine r_putR dX7_init_126 flX7_64 rfl rfl rfl ?_
  refine r_aload_n dX7_init_129 0 rfl rfl ?_
  refine r_bipush dX7_init_130 (by decide) ?_
  refine r_newa (kd := 0) (N := 6) (a := 68) dX7_init_132 (Or.inl ⟨rfl, rfl⟩) waInt ⟨rfl, by decide⟩ ⟨Nat.le_of_ble_eq_true rfl, Nat.le_of_ble_eq_true rfl⟩ rfl ?_
  refine r_putR dX7_init_134 flX7_67 rfl rfl rfl ?_
  refine r_aload_n dX7_init_137 0 rfl rfl ?_
  refine r_lconst 1 dX7_init_138 rfl ?_
  refine r_putL dX7_init_139 flX7_71 rfl rfl rfl ?_
  refine r_vret dX7_init_142 rfl ⟨Nat.le_of_ble_eq_true rfl, Nat.le_of_ble_eq_true rfl⟩ ?_
  refine ⟨rfl, rfl, okR_mk ⟨?_, ?_, ?_, ?_, ?_, ?_, ?_, ?_, ?_⟩ ⟨?_, ?_⟩ ⟨?_, ?_, ?_, ?_, ?_, ?_⟩ ⟨?_, ?_⟩ ⟨?_, ?_, ?_, ?_⟩ ⟨?_, ?_, ?_, ?_, ?_, ?_⟩ ⟨?_, ?_, ?_⟩ ⟨?_, ?_, ?_, ?_⟩ ⟨?_, ?_, ?_, ?_⟩ ⟨?_, ?_, ?_, ?_, ?_, ?_, ?_⟩ ⟨?_, ?_, ?_, ?_, ?_, ?_, ?_⟩ ⟨?_, ?_, ?_, ?_⟩ ⟨?_, ?_, ?_, ?_⟩, ⟨?_, ?_⟩, ⟨?_, ?_, ?_, Or.inl rfl, Or.inr (Or.inl rfl), Or.inr (Or.inr rfl), by decide, by decide, by decide⟩, ⟨?_, ?_⟩, ⟨?_, ?_, ?_, ?_, ?_⟩, ?_, fun r hr => ⟨?_, fun i => ?_⟩, fun t ht => ⟨?_, fun i => ?_⟩, ⟨?_, ?_, ?_, ?_⟩, fun f hf => ?_, ?_, ?_, ?_⟩
  · simp only [m_sI, m_sL, m_sR, m_zap, m_grid, m_up, m_cl, true_and, and_true, and_self, if_true, if_false, false_and, and_false]
    repeat (first | rw [if_pos (by omega)] | rw [if_neg (by omega)])
    rw [(sm10 0 (by omega) 0).2.2]
    simp only [m_sI, m_sL, m_sR, m_zap, m_grid, m_up, m_cl, true_and, and_true, and_self, if_true, if_false, false_and, and_false]
    repeat (first | rw [if_pos (by omega)] | rw [if_neg (by omega)])
    rw [(sm9 0 (by omega) 0).2.2]
    simp only [m_sI, m_sL, m_sR, m_zap, m_grid, m_up, m_cl, true_and, and_true, and_self, if_true, if_false, false_and, and_false]
    repeat (first | rw [if_pos (by omega)] | rw [if_neg (by omega)])
    rw [(sm8 0 (by omega) 0).2.2]
    simp only [m_sI, m_sL, m_sR, m_zap, m_grid, m_up, m_cl, true_and, and_true, and_self, if_true, if_false, false_and, and_false]
    repeat (first | rw [if_pos (by omega)] | rw [if_neg (by omega)])
    rw [(sm7 0 (by omega) 0).2.2]
    simp only [m_sI, m_sL, m_sR, m_zap, m_grid, m_up, m_cl, true_and, and_true, and_self, if_true, if_false, false_and, and_false]
    repeat (first | rw [if_pos (by omega)] | rw [if_neg (by omega)])
    rw [(sm6 0 (by omega) 0).2.2]
    simp only [m_sI, m_sL, m_sR, m_zap, m_grid, m_up, m_cl, true_and, and_true, and_self, if_true, if_false, false_and, and_false]
    repeat (first | rw [if_pos (by omega)] | rw [if_neg (by omega)])
    rw [(sm5 0 (by omega) 0).2.2]
    simp only [m_sI, m_sL, m_sR, m_zap, m_grid, m_up, m_cl, true_and, and_true, and_self, if_true, if_false, false_and, and_false]
    repeat (first | rw [if_pos (by omega)] | rw [if_neg (by omega)])
    rw [(sm4 0 (by omega) 0).2.2]
    simp only [m_sI, m_sL, m_sR, m_zap, m_grid, m_up, m_cl, true_and, and_true, and_self, if_true, if_false, false_and, and_false]
    repeat (first | rw [if_pos (by omega)] | rw [if_neg (by omega)])
    rw [(sm3 0 (by omega) 0).2.2]
    simp only [m_sI, m_sL, m_sR, m_zap, m_grid, m_up, m_cl, true_and, and_true, and_self, if_true, if_false, false_and, and_false]
    repeat (first | rw [if_pos (by omega)] | rw [if_neg (by omega)])
    rw [(sm2 0 (by omega) 0).2.2]
    simp only [m_sI, m_sL, m_sR, m_zap, m_grid, m_up, m_cl, true_and, and_true, and_self, if_true, if_false, false_and, and_false]
    repeat (first | rw [if_pos (by omega)] | rw [if_neg (by omega)])
  · simp only [m_sI, m_sL, m_sR, m_zap, m_grid, m_up, m_cl, true_and, and_true, and_self, if_true, if_false, false_and, and_false]
    repeat (first | rw [if_pos (by omega)] | rw [if_neg (by omega)])
    rw [(sm10 0 (by omega) 1).2.2]
    simp only [m_sI, m_sL, m_sR, m_zap, m_grid, m_up, m_cl, true_and, and_true, and_self, if_true, if_false, false_and, and_false]
    repeat (first | rw [if_pos (by omega)] | rw [if_neg (by omega)])
    rw [(sm9 0 (by omega) 1).2.2]
    simp only [m_sI, m_sL, m_sR, m_zap, m_grid, m_up, m_cl, true_and, and_true, and_self, if_true, if_false, false_and, and_false]
    repeat (first | rw [if_pos (by omega)] | rw [if_neg (by omega)])
    rw [(sm8 0 (by omega) 1).2.2]
    simp only [m_sI, m_sL, m_sR, m_zap, m_grid, m_up, m_cl, true_and, and_true, and_self, if_true, if_false, false_and, and_false]
    repeat (first | rw [if_pos (by omega)] | rw [if_neg (by omega)])
    rw [(sm7 0 (by omega) 1).2.2]
    simp only [m_sI, m_sL, m_sR, m_zap, m_grid, m_up, m_cl, true_and, and_true, and_self, if_true, if_false, false_and, and_false]
    repeat (first | rw [if_pos (by omega)] | rw [if_neg (by omega)])
    rw [(sm6 0 (by omega) 1).2.2]
    simp only [m_sI, m_sL, m_sR, m_zap, m_grid, m_up, m_cl, true_and, and_true, and_self, if_true, if_false, false_and, and_false]
    repeat (first | rw [if_pos (by omega)] | rw [if_neg (by omega)])
    rw [(sm5 0 (by omega) 1).2.2]
    simp only [m_sI, m_sL, m_sR, m_zap, m_grid, m_up, m_cl, true_and, and_true, and_self, if_true, if_false, false_and, and_false]
    repeat (first | rw [if_pos (by omega)] | rw [if_neg (by omega)])
    rw [(sm4 0 (by omega) 1).2.2]
    simp only [m_sI, m_sL, m_sR, m_zap, m_grid, m_up, m_cl, true_and, and_true, and_self, if_true, if_false, false_and, and_false]
    repeat (first | rw [if_pos (by omega)] | rw [if_neg (by omega)])
    rw [(sm3 0 (by omega) 1).2.2]
    simp only [m_sI, m_sL, m_sR, m_zap, m_grid, m_up, m_cl, true_and, and_true, and_self, if_true, if_false, false_and, and_false]
    repeat (first | rw [if_pos (by omega)] | rw [if_neg (by omega)])
  · simp only [m_sI, m_sL, m_sR, m_zap, m_grid, m_up, m_cl, true_and, and_true, and_self, if_true, if_false, false_and, and_false]
    repeat (first | rw [if_pos (by omega)] | rw [if_neg (by omega)])
    rw [(sm10 0 (by omega) 2).2.2]
    simp only [m_sI, m_sL, m_sR, m_zap, m_grid, m_up, m_cl, true_and, and_true, and_self, if_true, if_false, false_and, and_false]
    repeat (first | rw [if_pos (by omega)] | rw [if_neg (by omega)])
    rw [(sm9 0 (by omega) 2).2.2]
    simp only [m_sI, m_sL, m_sR, m_zap, m_grid, m_up, m_cl, true_and, and_true, and_self, if_true, if_false, false_and, and_false]
    repeat (first | rw [if_pos (by omega)] | rw [if_neg (by omega)])
    rw [(sm8 0 (by omega) 2).2.2]
    simp only [m_sI, m_sL, m_sR, m_zap, m_grid, m_up, m_cl, true_and, and_true, and_self, if_true, if_false, false_and, and_false]
    repeat (first | rw [if_pos (by omega)] | rw [if_neg (by omega)])
    rw [(sm7 0 (by omega) 2).2.2]
    simp only [m_sI, m_sL, m_sR, m_zap, m_grid, m_up, m_cl, true_and, and_true, and_self, if_true, if_false, false_and, and_false]
    repeat (first | rw [if_pos (by omega)] | rw [if_neg (by omega)])
    rw [(sm6 0 (by omega) 2).2.2]
    simp only [m_sI, m_sL, m_sR, m_zap, m_grid, m_up, m_cl, true_and, and_true, and_self, if_true, if_false, false_and, and_false]
    repeat (first | rw [if_pos (by omega)] | rw [if_neg (by omega)])
    rw [(sm5 0 (by omega) 2).2.2]
    simp only [m_sI, m_sL, m_sR, m_zap, m_grid, m_up, m_cl, true_and, and_true, and_self, if_true, if_false, false_and, and_false]
    repeat (first | rw [if_pos (by omega)] | rw [if_neg (by omega)])
    rw [(sm4 0 (by omega) 2).2.2]
    simp only [m_sI, m_sL, m_sR, m_zap, m_grid, m_up, m_cl, true_and, and_true, and_self, if_true, if_false, false_and, and_false]
    repeat (first | rw [if_pos (by omega)] | rw [if_neg (by omega)])
  · simp only [m_sI, m_sL, m_sR, m_zap, m_grid, m_up, m_cl, true_and, and_true, and_self, if_true, if_false, false_and, and_false]
    repeat (first | rw [if_pos (by omega)] | rw [if_neg (by omega)])
    rw [(sm10 0 (by omega) 3).2.2]
    simp only [m_sI, m_sL, m_sR, m_zap, m_grid, m_up, m_cl, true_and, and_true, and_self, if_true, if_false, false_and, and_false]
    repeat (first | rw [if_pos (by omega)] | rw [if_neg (by omega)])
    rw [(sm9 0 (by omega) 3).2.2]
    simp only [m_sI, m_sL, m_sR, m_zap, m_grid, m_up, m_cl, true_and, and_true, and_self, if_true, if_false, false_and, and_false]
    repeat (first | rw [if_pos (by omega)] | rw [if_neg (by omega)])
    rw [(sm8 0 (by omega) 3).2.2]
    simp only [m_sI, m_sL, m_sR, m_zap, m_grid, m_up, m_cl, true_and, and_true, and_self, if_true, if_false, false_and, and_false]
    repeat (first | rw [if_pos (by omega)] | rw [if_neg (by omega)])
    rw [(sm7 0 (by omega) 3).2.2]
    simp only [m_sI, m_sL, m_sR, m_zap, m_grid, m_up, m_cl, true_and, and_true, and_self, if_true, if_false, false_and, and_false]
    repeat (first | rw [if_pos (by omega)] | rw [if_neg (by omega)])
    rw [(sm6 0 (by omega) 3).2.2]
    simp only [m_sI, m_sL, m_sR, m_zap, m_grid, m_up, m_cl, true_and, and_true, and_self, if_true, if_false, false_and, and_false]
    repeat (first | rw [if_pos (by omega)] | rw [if_neg (by omega)])
    rw [(sm5 0 (by omega) 3).2.2]
    simp only [m_sI, m_sL, m_sR, m_zap, m_grid, m_up, m_cl, true_and, and_true, and_self, if_true, if_false, false_and, and_false]
    repeat (first | rw [if_pos (by omega)] | rw [if_neg (by omega)])
  · simp only [m_sI, m_sL, m_sR, m_zap, m_grid, m_up, m_cl, true_and, and_true, and_self, if_true, if_false, false_and, and_false]
    repeat (first | rw [if_pos (by omega)] | rw [if_neg (by omega)])
    rw [(sm10 0 (by omega) 4).2.2]
    simp only [m_sI, m_sL, m_sR, m_zap, m_grid, m_up, m_cl, true_and, and_true, and_self, if_true, if_false, false_and, and_false]
    repeat (first | rw [if_pos (by omega)] | rw [if_neg (by omega)])
    rw [(sm9 0 (by omega) 4).2.2]
    simp only [m_sI, m_sL, m_sR, m_zap, m_grid, m_up, m_cl, true_and, and_true, and_self, if_true, if_false, false_and, and_false]
    repeat (first | rw [if_pos (by omega)] | rw [if_neg (by omega)])
    rw [(sm8 0 (by omega) 4).2.2]
    simp only [m_sI, m_sL, m_sR, m_zap, m_grid, m_up, m_cl, true_and, and_true, and_self, if_true, if_false, false_and, and_false]
    repeat (first | rw [if_pos (by omega)] | rw [if_neg (by omega)])
  · simp only [m_sI, m_sL, m_sR, m_zap, m_grid, m_up, m_cl, true_and, and_true, and_self, if_true, if_false, false_and, and_false]
    repeat (first | rw [if_pos (by omega)] | rw [if_neg (by omega)])
    rw [(sm10 0 (by omega) 5).2.2]
    simp only [m_sI, m_sL, m_sR, m_zap, m_grid, m_up, m_cl, true_and, and_true, and_self, if_true, if_false, false_and, and_false]
    repeat (first | rw [if_pos (by omega)] | rw [if_neg (by omega)])
    rw [(sm9 0 (by omega) 5).2.2]
    simp only [m_sI, m_sL, m_sR, m_zap, m_grid, m_up, m_cl, true_and, and_true, and_self, if_true, if_false, false_and, and_false]
    repeat (first | rw [if_pos (by omega)] | rw [if_neg (by omega)])
  · simp only [m_sI, m_sL, m_sR, m_zap, m_grid, m_up, m_cl, true_and, and_true, and_self, if_true, if_false, false_and, and_false]
    repeat (first | rw [if_pos (by omega)] | rw [if_neg (by omega)])
    rw [(sm10 0 (by omega) 6).2.2]
    simp only [m_sI, m_sL, m_sR, m_zap, m_grid, m_up, m_cl, true_and, and_true, and_self, if_true, if_false, false_and, and_false]
    repeat (first | rw [if_pos (by omega)] | rw [if_neg (by omega)])
  · simp only [m_sI, m_sL, m_sR, m_zap, m_grid, m_up, m_cl, true_and, and_true, and_self, if_true, if_false, false_and, and_false]
    repeat (first | rw [if_pos (by omega)] | rw [if_neg (by omega)])
  · simp only [m_sI, m_sL, m_sR, m_zap, m_grid, m_up, m_cl, true_and, and_true, and_self, if_true, if_false, false_and, and_false]
    repeat (first | rw [if_pos (by omega)] | rw [if_neg (by omega)])
  · simp only [m_sI, m_sL, m_sR, m_zap, m_grid, m_up, m_cl, true_and, and_true, and_self, if_true, if_false, false_and, and_false]
    repeat (first | rw [if_pos (by omega)] | rw [if_neg (by omega)])
    rw [(sm10 1 (by omega) 0).2.2]
    simp only [m_sI, m_sL, m_sR, m_zap, m_grid, m_up, m_cl, true_and, and_true, and_self, if_true, if_false, false_and, and_false]
    repeat (first | rw [if_pos (by omega)] | rw [if_neg (by omega)])
    rw [(sm9 1 (by omega) 0).2.2]
    simp only [m_sI, m_sL, m_sR, m_zap, m_grid, m_up, m_cl, true_and, and_true, and_self, if_true, if_false, false_and, and_false]
    repeat (first | rw [if_pos (by omega)] | rw [if_neg (by omega)])
    rw [(sm8 1 (by omega) 0).2.2]
    simp only [m_sI, m_sL, m_sR, m_zap, m_grid, m_up, m_cl, true_and, and_true, and_self, if_true, if_false, false_and, and_false]
    repeat (first | rw [if_pos (by omega)] | rw [if_neg (by omega)])
    rw [(sm7 1 (by omega) 0).2.2]
    simp only [m_sI, m_sL, m_sR, m_zap, m_grid, m_up, m_cl, true_and, and_true, and_self, if_true, if_false, false_and, and_false]
    repeat (first | rw [if_pos (by omega)] | rw [if_neg (by omega)])
    rw [(sm6 1 (by omega) 0).2.2]
    simp only [m_sI, m_sL, m_sR, m_zap, m_grid, m_up, m_cl, true_and, and_true, and_self, if_true, if_false, false_and, and_false]
    repeat (first | rw [if_pos (by omega)] | rw [if_neg (by omega)])
    rw [(sm5 1 (by omega) 0).2.2]
    simp only [m_sI, m_sL, m_sR, m_zap, m_grid, m_up, m_cl, true_and, and_true, and_self, if_true, if_false, false_and, and_false]
    repeat (first | rw [if_pos (by omega)] | rw [if_neg (by omega)])
    rw [(sm4 1 (by omega) 0).2.2]
    simp only [m_sI, m_sL, m_sR, m_zap, m_grid, m_up, m_cl, true_and, and_true, and_self, if_true, if_false, false_and, and_false]
    repeat (first | rw [if_pos (by omega)] | rw [if_neg (by omega)])
    rw [(sm3 1 (by omega) 0).2.2]
    simp only [m_sI, m_sL, m_sR, m_zap, m_grid, m_up, m_cl, true_and, and_true, and_self, if_true, if_false, false_and, and_false]
    repeat (first | rw [if_pos (by omega)] | rw [if_neg (by omega)])
    rw [(sm2 1 (by omega) 0).2.2]
    simp only [m_sI, m_sL, m_sR, m_zap, m_grid, m_up, m_cl, true_and, and_true, and_self, if_true, if_false, false_and, and_false]
    repeat (first | rw [if_pos (by omega)] | rw [if_neg (by omega)])
    exact r0_1
  · simp only [m_sI, m_sL, m_sR, m_zap, m_grid, m_up, m_cl, true_and, and_true, and_self, if_true, if_false, false_and, and_false]
    repeat (first | rw [if_pos (by omega)] | rw [if_neg (by omega)])
    rw [(sm10 1 (by omega) 1).2.2]
    simp only [m_sI, m_sL, m_sR, m_zap, m_grid, m_up, m_cl, true_and, and_true, and_self, if_true, if_false, false_and, and_false]
    repeat (first | rw [if_pos (by omega)] | rw [if_neg (by omega)])
    rw [(sm9 1 (by omega) 1).2.2]
    simp only [m_sI, m_sL, m_sR, m_zap, m_grid, m_up, m_cl, true_and, and_true, and_self, if_true, if_false, false_and, and_false]
    repeat (first | rw [if_pos (by omega)] | rw [if_neg (by omega)])
    rw [(sm8 1 (by omega) 1).2.2]
    simp only [m_sI, m_sL, m_sR, m_zap, m_grid, m_up, m_cl, true_and, and_true, and_self, if_true, if_false, false_and, and_false]
    repeat (first | rw [if_pos (by omega)] | rw [if_neg (by omega)])
    rw [(sm7 1 (by omega) 1).2.2]
    simp only [m_sI, m_sL, m_sR, m_zap, m_grid, m_up, m_cl, true_and, and_true, and_self, if_true, if_false, false_and, and_false]
    repeat (first | rw [if_pos (by omega)] | rw [if_neg (by omega)])
    rw [(sm6 1 (by omega) 1).2.2]
    simp only [m_sI, m_sL, m_sR, m_zap, m_grid, m_up, m_cl, true_and, and_true, and_self, if_true, if_false, false_and, and_false]
    repeat (first | rw [if_pos (by omega)] | rw [if_neg (by omega)])
    rw [(sm5 1 (by omega) 1).2.2]
    simp only [m_sI, m_sL, m_sR, m_zap, m_grid, m_up, m_cl, true_and, and_true, and_self, if_true, if_false, false_and, and_false]
    repeat (first | rw [if_pos (by omega)] | rw [if_neg (by omega)])
    rw [(sm4 1 (by omega) 1).2.2]
    simp only [m_sI, m_sL, m_sR, m_zap, m_grid, m_up, m_cl, true_and, and_true, and_self, if_true, if_false, false_and, and_false]
    repeat (first | rw [if_pos (by omega)] | rw [if_neg (by omega)])
    rw [(sm3 1 (by omega) 1).2.2]
    simp only [m_sI, m_sL, m_sR, m_zap, m_grid, m_up, m_cl, true_and, and_true, and_self, if_true, if_false, false_and, and_false]
    repeat (first | rw [if_pos (by omega)] | rw [if_neg (by omega)])
    rw [(sm2 1 (by omega) 1).2.2]
    simp only [m_sI, m_sL, m_sR, m_zap, m_grid, m_up, m_cl, true_and, and_true, and_self, if_true, if_false, false_and, and_false]
    repeat (first | rw [if_pos (by omega)] | rw [if_neg (by omega)])
    exact r1_1
  · simp only [m_sI, m_sL, m_sR, m_zap, m_grid, m_up, m_cl, true_and, and_true, and_self, if_true, if_false, false_and, and_false]
    repeat (first | rw [if_pos (by omega)] | rw [if_neg (by omega)])
    rw [(sm10 2 (by omega) 0).2.2]
    simp only [m_sI, m_sL, m_sR, m_zap, m_grid, m_up, m_cl, true_and, and_true, and_self, if_true, if_false, false_and, and_false]
    repeat (first | rw [if_pos (by omega)] | rw [if_neg (by omega)])
    rw [(sm9 2 (by omega) 0).2.2]
    simp only [m_sI, m_sL, m_sR, m_zap, m_grid, m_up, m_cl, true_and, and_true, and_self, if_true, if_false, false_and, and_false]
    repeat (first | rw [if_pos (by omega)] | rw [if_neg (by omega)])
    rw [(sm8 2 (by omega) 0).2.2]
    simp only [m_sI, m_sL, m_sR, m_zap, m_grid, m_up, m_cl, true_and, and_true, and_self, if_true, if_false, false_and, and_false]
    repeat (first | rw [if_pos (by omega)] | rw [if_neg (by omega)])
    rw [(sm7 2 (by omega) 0).2.2]
    simp only [m_sI, m_sL, m_sR, m_zap, m_grid, m_up, m_cl, true_and, and_true, and_self, if_true, if_false, false_and, and_false]
    repeat (first | rw [if_pos (by omega)] | rw [if_neg (by omega)])
    rw [(sm6 2 (by omega) 0).2.2]
    simp only [m_sI, m_sL, m_sR, m_zap, m_grid, m_up, m_cl, true_and, and_true, and_self, if_true, if_false, false_and, and_false]
    repeat (first | rw [if_pos (by omega)] | rw [if_neg (by omega)])
    rw [(sm5 2 (by omega) 0).2.2]
    simp only [m_sI, m_sL, m_sR, m_zap, m_grid, m_up, m_cl, true_and, and_true, and_self, if_true, if_false, false_and, and_false]
    repeat (first | rw [if_pos (by omega)] | rw [if_neg (by omega)])
    rw [(sm4 2 (by omega) 0).2.2]
    simp only [m_sI, m_sL, m_sR, m_zap, m_grid, m_up, m_cl, true_and, and_true, and_self, if_true, if_false, false_and, and_false]
    repeat (first | rw [if_pos (by omega)] | rw [if_neg (by omega)])
    rw [(sm3 2 (by omega) 0).2.2]
    simp only [m_sI, m_sL, m_sR, m_zap, m_grid, m_up, m_cl, true_and, and_true, and_self, if_true, if_false, false_and, and_false]
    repeat (first | rw [if_pos (by omega)] | rw [if_neg (by omega)])
    rw [(sm2 2 (by omega) 0).2.2]
    simp only [m_sI, m_sL, m_sR, m_zap, m_grid, m_up, m_cl, true_and, and_true, and_self, if_true, if_false, false_and, and_false]
    repeat (first | rw [if_pos (by omega)] | rw [if_neg (by omega)])
    exact ra_1 0 (by omega)
  · simp only [m_sI, m_sL, m_sR, m_zap, m_grid, m_up, m_cl, true_and, and_true, and_self, if_true, if_false, false_and, and_false]
    repeat (first | rw [if_pos (by omega)] | rw [if_neg (by omega)])
    rw [(sm10 2 (by omega) 1).2.2]
    simp only [m_sI, m_sL, m_sR, m_zap, m_grid, m_up, m_cl, true_and, and_true, and_self, if_true, if_false, false_and, and_false]
    repeat (first | rw [if_pos (by omega)] | rw [if_neg (by omega)])
    rw [(sm9 2 (by omega) 1).2.2]
    simp only [m_sI, m_sL, m_sR, m_zap, m_grid, m_up, m_cl, true_and, and_true, and_self, if_true, if_false, false_and, and_false]
    repeat (first | rw [if_pos (by omega)] | rw [if_neg (by omega)])
    rw [(sm8 2 (by omega) 1).2.2]
    simp only [m_sI, m_sL, m_sR, m_zap, m_grid, m_up, m_cl, true_and, and_true, and_self, if_true, if_false, false_and, and_false]
    repeat (first | rw [if_pos (by omega)] | rw [if_neg (by omega)])
    rw [(sm7 2 (by omega) 1).2.2]
    simp only [m_sI, m_sL, m_sR, m_zap, m_grid, m_up, m_cl, true_and, and_true, and_self, if_true, if_false, false_and, and_false]
    repeat (first | rw [if_pos (by omega)] | rw [if_neg (by omega)])
    rw [(sm6 2 (by omega) 1).2.2]
    simp only [m_sI, m_sL, m_sR, m_zap, m_grid, m_up, m_cl, true_and, and_true, and_self, if_true, if_false, false_and, and_false]
    repeat (first | rw [if_pos (by omega)] | rw [if_neg (by omega)])
    rw [(sm5 2 (by omega) 1).2.2]
    simp only [m_sI, m_sL, m_sR, m_zap, m_grid, m_up, m_cl, true_and, and_true, and_self, if_true, if_false, false_and, and_false]
    repeat (first | rw [if_pos (by omega)] | rw [if_neg (by omega)])
    rw [(sm4 2 (by omega) 1).2.2]
    simp only [m_sI, m_sL, m_sR, m_zap, m_grid, m_up, m_cl, true_and, and_true, and_self, if_true, if_false, false_and, and_false]
    repeat (first | rw [if_pos (by omega)] | rw [if_neg (by omega)])
    rw [(sm3 2 (by omega) 1).2.2]
    simp only [m_sI, m_sL, m_sR, m_zap, m_grid, m_up, m_cl, true_and, and_true, and_self, if_true, if_false, false_and, and_false]
    repeat (first | rw [if_pos (by omega)] | rw [if_neg (by omega)])
    rw [(sm2 2 (by omega) 1).2.2]
    simp only [m_sI, m_sL, m_sR, m_zap, m_grid, m_up, m_cl, true_and, and_true, and_self, if_true, if_false, false_and, and_false]
    repeat (first | rw [if_pos (by omega)] | rw [if_neg (by omega)])
    exact ra_1 1 (by omega)
  · simp only [m_sI, m_sL, m_sR, m_zap, m_grid, m_up, m_cl, true_and, and_true, and_self, if_true, if_false, false_and, and_false]
    repeat (first | rw [if_pos (by omega)] | rw [if_neg (by omega)])
    rw [(sm10 2 (by omega) 2).2.2]
    simp only [m_sI, m_sL, m_sR, m_zap, m_grid, m_up, m_cl, true_and, and_true, and_self, if_true, if_false, false_and, and_false]
    repeat (first | rw [if_pos (by omega)] | rw [if_neg (by omega)])
    rw [(sm9 2 (by omega) 2).2.2]
    simp only [m_sI, m_sL, m_sR, m_zap, m_grid, m_up, m_cl, true_and, and_true, and_self, if_true, if_false, false_and, and_false]
    repeat (first | rw [if_pos (by omega)] | rw [if_neg (by omega)])
    rw [(sm8 2 (by omega) 2).2.2]
    simp only [m_sI, m_sL, m_sR, m_zap, m_grid, m_up, m_cl, true_and, and_true, and_self, if_true, if_false, false_and, and_false]
    repeat (first | rw [if_pos (by omega)] | rw [if_neg (by omega)])
    rw [(sm7 2 (by omega) 2).2.2]
    simp only [m_sI, m_sL, m_sR, m_zap, m_grid, m_up, m_cl, true_and, and_true, and_self, if_true, if_false, false_and, and_false]
    repeat (first | rw [if_pos (by omega)] | rw [if_neg (by omega)])
    rw [(sm6 2 (by omega) 2).2.2]
    simp only [m_sI, m_sL, m_sR, m_zap, m_grid, m_up, m_cl, true_and, and_true, and_self, if_true, if_false, false_and, and_false]
    repeat (first | rw [if_pos (by omega)] | rw [if_neg (by omega)])
    rw [(sm5 2 (by omega) 2).2.2]
    simp only [m_sI, m_sL, m_sR, m_zap, m_grid, m_up, m_cl, true_and, and_true, and_self, if_true, if_false, false_and, and_false]
    repeat (first | rw [if_pos (by omega)] | rw [if_neg (by omega)])
    rw [(sm4 2 (by omega) 2).2.2]
    simp only [m_sI, m_sL, m_sR, m_zap, m_grid, m_up, m_cl, true_and, and_true, and_self, if_true, if_false, false_and, and_false]
    repeat (first | rw [if_pos (by omega)] | rw [if_neg (by omega)])
    rw [(sm3 2 (by omega) 2).2.2]
    simp only [m_sI, m_sL, m_sR, m_zap, m_grid, m_up, m_cl, true_and, and_true, and_self, if_true, if_false, false_and, and_false]
    repeat (first | rw [if_pos (by omega)] | rw [if_neg (by omega)])
    rw [(sm2 2 (by omega) 2).2.2]
    simp only [m_sI, m_sL, m_sR, m_zap, m_grid, m_up, m_cl, true_and, and_true, and_self, if_true, if_false, false_and, and_false]
    repeat (first | rw [if_pos (by omega)] | rw [if_neg (by omega)])
    exact ra_1 2 (by omega)
  · simp only [m_sI, m_sL, m_sR, m_zap, m_grid, m_up, m_cl, true_and, and_true, and_self, if_true, if_false, false_and, and_false]
    repeat (first | rw [if_pos (by omega)] | rw [if_neg (by omega)])
    rw [(sm10 2 (by omega) 3).2.2]
    simp only [m_sI, m_sL, m_sR, m_zap, m_grid, m_up, m_cl, true_and, and_true, and_self, if_true, if_false, false_and, and_false]
    repeat (first | rw [if_pos (by omega)] | rw [if_neg (by omega)])
    rw [(sm9 2 (by omega) 3).2.2]
    simp only [m_sI, m_sL, m_sR, m_zap, m_grid, m_up, m_cl, true_and, and_true, and_self, if_true, if_false, false_and, and_false]
    repeat (first | rw [if_pos (by omega)] | rw [if_neg (by omega)])
    rw [(sm8 2 (by omega) 3).2.2]
    simp only [m_sI, m_sL, m_sR, m_zap, m_grid, m_up, m_cl, true_and, and_true, and_self, if_true, if_false, false_and, and_false]
    repeat (first | rw [if_pos (by omega)] | rw [if_neg (by omega)])
    rw [(sm7 2 (by omega) 3).2.2]
    simp only [m_sI, m_sL, m_sR, m_zap, m_grid, m_up, m_cl, true_and, and_true, and_self, if_true, if_false, false_and, and_false]
    repeat (first | rw [if_pos (by omega)] | rw [if_neg (by omega)])
    rw [(sm6 2 (by omega) 3).2.2]
    simp only [m_sI, m_sL, m_sR, m_zap, m_grid, m_up, m_cl, true_and, and_true, and_self, if_true, if_false, false_and, and_false]
    repeat (first | rw [if_pos (by omega)] | rw [if_neg (by omega)])
    rw [(sm5 2 (by omega) 3).2.2]
    simp only [m_sI, m_sL, m_sR, m_zap, m_grid, m_up, m_cl, true_and, and_true, and_self, if_true, if_false, false_and, and_false]
    repeat (first | rw [if_pos (by omega)] | rw [if_neg (by omega)])
    rw [(sm4 2 (by omega) 3).2.2]
    simp only [m_sI, m_sL, m_sR, m_zap, m_grid, m_up, m_cl, true_and, and_true, and_self, if_true, if_false, false_and, and_false]
    repeat (first | rw [if_pos (by omega)] | rw [if_neg (by omega)])
    rw [(sm3 2 (by omega) 3).2.2]
    simp only [m_sI, m_sL, m_sR, m_zap, m_grid, m_up, m_cl, true_and, and_true, and_self, if_true, if_false, false_and, and_false]
    repeat (first | rw [if_pos (by omega)] | rw [if_neg (by omega)])
    rw [(sm2 2 (by omega) 3).2.2]
    simp only [m_sI, m_sL, m_sR, m_zap, m_grid, m_up, m_cl, true_and, and_true, and_self, if_true, if_false, false_and, and_false]
    repeat (first | rw [if_pos (by omega)] | rw [if_neg (by omega)])
    exact ra_1 3 (by omega)
  · simp only [m_sI, m_sL, m_sR, m_zap, m_grid, m_up, m_cl, true_and, and_true, and_self, if_true, if_false, false_and, and_false]
    repeat (first | rw [if_pos (by omega)] | rw [if_neg (by omega)])
    rw [(sm10 2 (by omega) 4).2.2]
    simp only [m_sI, m_sL, m_sR, m_zap, m_grid, m_up, m_cl, true_and, and_true, and_self, if_true, if_false, false_and, and_false]
    repeat (first | rw [if_pos (by omega)] | rw [if_neg (by omega)])
    rw [(sm9 2 (by omega) 4).2.2]
    simp only [m_sI, m_sL, m_sR, m_zap, m_grid, m_up, m_cl, true_and, and_true, and_self, if_true, if_false, false_and, and_false]
    repeat (first | rw [if_pos (by omega)] | rw [if_neg (by omega)])
    rw [(sm8 2 (by omega) 4).2.2]
    simp only [m_sI, m_sL, m_sR, m_zap, m_grid, m_up, m_cl, true_and, and_true, and_self, if_true, if_false, false_and, and_false]
    repeat (first | rw [if_pos (by omega)] | rw [if_neg (by omega)])
    rw [(sm7 2 (by omega) 4).2.2]
    simp only [m_sI, m_sL, m_sR, m_zap, m_grid, m_up, m_cl, true_and, and_true, and_self, if_true, if_false, false_and, and_false]
    repeat (first | rw [if_pos (by omega)] | rw [if_neg (by omega)])
    rw [(sm6 2 (by omega) 4).2.2]
    simp only [m_sI, m_sL, m_sR, m_zap, m_grid, m_up, m_cl, true_and, and_true, and_self, if_true, if_false, false_and, and_false]
    repeat (first | rw [if_pos (by omega)] | rw [if_neg (by omega)])
    rw [(sm5 2 (by omega) 4).2.2]
    simp only [m_sI, m_sL, m_sR, m_zap, m_grid, m_up, m_cl, true_and, and_true, and_self, if_true, if_false, false_and, and_false]
    repeat (first | rw [if_pos (by omega)] | rw [if_neg (by omega)])
    rw [(sm4 2 (by omega) 4).2.2]
    simp only [m_sI, m_sL, m_sR, m_zap, m_grid, m_up, m_cl, true_and, and_true, and_self, if_true, if_false, false_and, and_false]
    repeat (first | rw [if_pos (by omega)] | rw [if_neg (by omega)])
    rw [(sm3 2 (by omega) 4).2.2]
    simp only [m_sI, m_sL, m_sR, m_zap, m_grid, m_up, m_cl, true_and, and_true, and_self, if_true, if_false, false_and, and_false]
    repeat (first | rw [if_pos (by omega)] | rw [if_neg (by omega)])
    rw [(sm2 2 (by omega) 4).2.2]
    simp only [m_sI, m_sL, m_sR, m_zap, m_grid, m_up, m_cl, true_and, and_true, and_self, if_true, if_false, false_and, and_false]
    repeat (first | rw [if_pos (by omega)] | rw [if_neg (by omega)])
    exact ra_1 4 (by omega)
  · simp only [m_sI, m_sL, m_sR, m_zap, m_grid, m_up, m_cl, true_and, and_true, and_self, if_true, if_false, false_and, and_false]
    repeat (first | rw [if_pos (by omega)] | rw [if_neg (by omega)])
    rw [(sm10 2 (by omega) 5).2.2]
    simp only [m_sI, m_sL, m_sR, m_zap, m_grid, m_up, m_cl, true_and, and_true, and_self, if_true, if_false, false_and, and_false]
    repeat (first | rw [if_pos (by omega)] | rw [if_neg (by omega)])
    rw [(sm9 2 (by omega) 5).2.2]
    simp only [m_sI, m_sL, m_sR, m_zap, m_grid, m_up, m_cl, true_and, and_true, and_self, if_true, if_false, false_and, and_false]
    repeat (first | rw [if_pos (by omega)] | rw [if_neg (by omega)])
    rw [(sm8 2 (by omega) 5).2.2]
    simp only [m_sI, m_sL, m_sR, m_zap, m_grid, m_up, m_cl, true_and, and_true, and_self, if_true, if_false, false_and, and_false]
    repeat (first | rw [if_pos (by omega)] | rw [if_neg (by omega)])
    rw [(sm7 2 (by omega) 5).2.2]
    simp only [m_sI, m_sL, m_sR, m_zap, m_grid, m_up, m_cl, true_and, and_true, and_self, if_true, if_false, false_and, and_false]
    repeat (first | rw [if_pos (by omega)] | rw [if_neg (by omega)])
    rw [(sm6 2 (by omega) 5).2.2]
    simp only [m_sI, m_sL, m_sR, m_zap, m_grid, m_up, m_cl, true_and, and_true, and_self, if_true, if_false, false_and, and_false]
    repeat (first | rw [if_pos (by omega)] | rw [if_neg (by omega)])
    rw [(sm5 2 (by omega) 5).2.2]
    simp only [m_sI, m_sL, m_sR, m_zap, m_grid, m_up, m_cl, true_and, and_true, and_self, if_true, if_false, false_and, and_false]
    repeat (first | rw [if_pos (by omega)] | rw [if_neg (by omega)])
    rw [(sm4 2 (by omega) 5).2.2]
    simp only [m_sI, m_sL, m_sR, m_zap, m_grid, m_up, m_cl, true_and, and_true, and_self, if_true, if_false, false_and, and_false]
    repeat (first | rw [if_pos (by omega)] | rw [if_neg (by omega)])
    rw [(sm3 2 (by omega) 5).2.2]
    simp only [m_sI, m_sL, m_sR, m_zap, m_grid, m_up, m_cl, true_and, and_true, and_self, if_true, if_false, false_and, and_false]
    repeat (first | rw [if_pos (by omega)] | rw [if_neg (by omega)])
    rw [(sm2 2 (by omega) 5).2.2]
    simp only [m_sI, m_sL, m_sR, m_zap, m_grid, m_up, m_cl, true_and, and_true, and_self, if_true, if_false, false_and, and_false]
    repeat (first | rw [if_pos (by omega)] | rw [if_neg (by omega)])
    exact ra_1 5 (by omega)
  · simp only [m_sI, m_sL, m_sR, m_zap, m_grid, m_up, m_cl, true_and, and_true, and_self, if_true, if_false, false_and, and_false]
    repeat (first | rw [if_pos (by omega)] | rw [if_neg (by omega)])
    rw [(sm10 10 (by omega) 0).2.2]
    simp only [m_sI, m_sL, m_sR, m_zap, m_grid, m_up, m_cl, true_and, and_true, and_self, if_true, if_false, false_and, and_false]
    repeat (first | rw [if_pos (by omega)] | rw [if_neg (by omega)])
    rw [(sm9 10 (by omega) 0).2.2]
    simp only [m_sI, m_sL, m_sR, m_zap, m_grid, m_up, m_cl, true_and, and_true, and_self, if_true, if_false, false_and, and_false]
    repeat (first | rw [if_pos (by omega)] | rw [if_neg (by omega)])
    rw [(sm8 10 (by omega) 0).2.2]
    simp only [m_sI, m_sL, m_sR, m_zap, m_grid, m_up, m_cl, true_and, and_true, and_self, if_true, if_false, false_and, and_false]
    repeat (first | rw [if_pos (by omega)] | rw [if_neg (by omega)])
    rw [(sm7 10 (by omega) 0).2.2]
    simp only [m_sI, m_sL, m_sR, m_zap, m_grid, m_up, m_cl, true_and, and_true, and_self, if_true, if_false, false_and, and_false]
    repeat (first | rw [if_pos (by omega)] | rw [if_neg (by omega)])
    rw [(sm6 10 (by omega) 0).2.2]
    simp only [m_sI, m_sL, m_sR, m_zap, m_grid, m_up, m_cl, true_and, and_true, and_self, if_true, if_false, false_and, and_false]
    repeat (first | rw [if_pos (by omega)] | rw [if_neg (by omega)])
    rw [(sm5 10 (by omega) 0).2.2]
    simp only [m_sI, m_sL, m_sR, m_zap, m_grid, m_up, m_cl, true_and, and_true, and_self, if_true, if_false, false_and, and_false]
    repeat (first | rw [if_pos (by omega)] | rw [if_neg (by omega)])
    rw [(sm4 10 (by omega) 0).2.2]
    simp only [m_sI, m_sL, m_sR, m_zap, m_grid, m_up, m_cl, true_and, and_true, and_self, if_true, if_false, false_and, and_false]
    repeat (first | rw [if_pos (by omega)] | rw [if_neg (by omega)])
    rw [(sm3 10 (by omega) 0).2.2]
    simp only [m_sI, m_sL, m_sR, m_zap, m_grid, m_up, m_cl, true_and, and_true, and_self, if_true, if_false, false_and, and_false]
    repeat (first | rw [if_pos (by omega)] | rw [if_neg (by omega)])
    exact r0_2
  · simp only [m_sI, m_sL, m_sR, m_zap, m_grid, m_up, m_cl, true_and, and_true, and_self, if_true, if_false, false_and, and_false]
    repeat (first | rw [if_pos (by omega)] | rw [if_neg (by omega)])
    rw [(sm10 10 (by omega) 1).2.2]
    simp only [m_sI, m_sL, m_sR, m_zap, m_grid, m_up, m_cl, true_and, and_true, and_self, if_true, if_false, false_and, and_false]
    repeat (first | rw [if_pos (by omega)] | rw [if_neg (by omega)])
    rw [(sm9 10 (by omega) 1).2.2]
    simp only [m_sI, m_sL, m_sR, m_zap, m_grid, m_up, m_cl, true_and, and_true, and_self, if_true, if_false, false_and, and_false]
    repeat (first | rw [if_pos (by omega)] | rw [if_neg (by omega)])
    rw [(sm8 10 (by omega) 1).2.2]
    simp only [m_sI, m_sL, m_sR, m_zap, m_grid, m_up, m_cl, true_and, and_true, and_self, if_true, if_false, false_and, and_false]
    repeat (first | rw [if_pos (by omega)] | rw [if_neg (by omega)])
    rw [(sm7 10 (by omega) 1).2.2]
    simp only [m_sI, m_sL, m_sR, m_zap, m_grid, m_up, m_cl, true_and, and_true, and_self, if_true, if_false, false_and, and_false]
    repeat (first | rw [if_pos (by omega)] | rw [if_neg (by omega)])
    rw [(sm6 10 (by omega) 1).2.2]
    simp only [m_sI, m_sL, m_sR, m_zap, m_grid, m_up, m_cl, true_and, and_true, and_self, if_true, if_false, false_and, and_false]
    repeat (first | rw [if_pos (by omega)] | rw [if_neg (by omega)])
    rw [(sm5 10 (by omega) 1).2.2]
    simp only [m_sI, m_sL, m_sR, m_zap, m_grid, m_up, m_cl, true_and, and_true, and_self, if_true, if_false, false_and, and_false]
    repeat (first | rw [if_pos (by omega)] | rw [if_neg (by omega)])
    rw [(sm4 10 (by omega) 1).2.2]
    simp only [m_sI, m_sL, m_sR, m_zap, m_grid, m_up, m_cl, true_and, and_true, and_self, if_true, if_false, false_and, and_false]
    repeat (first | rw [if_pos (by omega)] | rw [if_neg (by omega)])
    rw [(sm3 10 (by omega) 1).2.2]
    simp only [m_sI, m_sL, m_sR, m_zap, m_grid, m_up, m_cl, true_and, and_true, and_self, if_true, if_false, false_and, and_false]
    repeat (first | rw [if_pos (by omega)] | rw [if_neg (by omega)])
    exact r1_2
  · simp only [m_sI, m_sL, m_sR, m_zap, m_grid, m_up, m_cl, true_and, and_true, and_self, if_true, if_false, false_and, and_false]
    repeat (first | rw [if_pos (by omega)] | rw [if_neg (by omega)])
    rw [(sm10 11 (by omega) 0).2.2]
    simp only [m_sI, m_sL, m_sR, m_zap, m_grid, m_up, m_cl, true_and, and_true, and_self, if_true, if_false, false_and, and_false]
    repeat (first | rw [if_pos (by omega)] | rw [if_neg (by omega)])
    rw [(sm9 11 (by omega) 0).2.2]
    simp only [m_sI, m_sL, m_sR, m_zap, m_grid, m_up, m_cl, true_and, and_true, and_self, if_true, if_false, false_and, and_false]
    repeat (first | rw [if_pos (by omega)] | rw [if_neg (by omega)])
    rw [(sm8 11 (by omega) 0).2.2]
    simp only [m_sI, m_sL, m_sR, m_zap, m_grid, m_up, m_cl, true_and, and_true, and_self, if_true, if_false, false_and, and_false]
    repeat (first | rw [if_pos (by omega)] | rw [if_neg (by omega)])
    rw [(sm7 11 (by omega) 0).2.2]
    simp only [m_sI, m_sL, m_sR, m_zap, m_grid, m_up, m_cl, true_and, and_true, and_self, if_true, if_false, false_and, and_false]
    repeat (first | rw [if_pos (by omega)] | rw [if_neg (by omega)])
    rw [(sm6 11 (by omega) 0).2.2]
    simp only [m_sI, m_sL, m_sR, m_zap, m_grid, m_up, m_cl, true_and, and_true, and_self, if_true, if_false, false_and, and_false]
    repeat (first | rw [if_pos (by omega)] | rw [if_neg (by omega)])
    rw [(sm5 11 (by omega) 0).2.2]
    simp only [m_sI, m_sL, m_sR, m_zap, m_grid, m_up, m_cl, true_and, and_true, and_self, if_true, if_false, false_and, and_false]
    repeat (first | rw [if_pos (by omega)] | rw [if_neg (by omega)])
    rw [(sm4 11 (by omega) 0).2.2]
    simp only [m_sI, m_sL, m_sR, m_zap, m_grid, m_up, m_cl, true_and, and_true, and_self, if_true, if_false, false_and, and_false]
    repeat (first | rw [if_pos (by omega)] | rw [if_neg (by omega)])
    rw [(sm3 11 (by omega) 0).2.2]
    simp only [m_sI, m_sL, m_sR, m_zap, m_grid, m_up, m_cl, true_and, and_true, and_self, if_true, if_false, false_and, and_false]
    repeat (first | rw [if_pos (by omega)] | rw [if_neg (by omega)])
    exact ra_2 0 (by omega)
  · simp only [m_sI, m_sL, m_sR, m_zap, m_grid, m_up, m_cl, true_and, and_true, and_self, if_true, if_false, false_and, and_false]
    repeat (first | rw [if_pos (by omega)] | rw [if_neg (by omega)])
    rw [(sm10 11 (by omega) 1).2.2]
    simp only [m_sI, m_sL, m_sR, m_zap, m_grid, m_up, m_cl, true_and, and_true, and_self, if_true, if_false, false_and, and_false]
    repeat (first | rw [if_pos (by omega)] | rw [if_neg (by omega)])
    rw [(sm9 11 (by omega) 1).2.2]
    simp only [m_sI, m_sL, m_sR, m_zap, m_grid, m_up, m_cl, true_and, and_true, and_self, if_true, if_false, false_and, and_false]
    repeat (first | rw [if_pos (by omega)] | rw [if_neg (by omega)])
    rw [(sm8 11 (by omega) 1).2.2]
    simp only [m_sI, m_sL, m_sR, m_zap, m_grid, m_up, m_cl, true_and, and_true, and_self, if_true, if_false, false_and, and_false]
    repeat (first | rw [if_pos (by omega)] | rw [if_neg (by omega)])
    rw [(sm7 11 (by omega) 1).2.2]
    simp only [m_sI, m_sL, m_sR, m_zap, m_grid, m_up, m_cl, true_and, and_true, and_self, if_true, if_false, false_and, and_false]
    repeat (first | rw [if_pos (by omega)] | rw [if_neg (by omega)])
    rw [(sm6 11 (by omega) 1).2.2]
    simp only [m_sI, m_sL, m_sR, m_zap, m_grid, m_up, m_cl, true_and, and_true, and_self, if_true, if_false, false_and, and_false]
    repeat (first | rw [if_pos (by omega)] | rw [if_neg (by omega)])
    rw [(sm5 11 (by omega) 1).2.2]
    simp only [m_sI, m_sL, m_sR, m_zap, m_grid, m_up, m_cl, true_and, and_true, and_self, if_true, if_false, false_and, and_false]
    repeat (first | rw [if_pos (by omega)] | rw [if_neg (by omega)])
    rw [(sm4 11 (by omega) 1).2.2]
    simp only [m_sI, m_sL, m_sR, m_zap, m_grid, m_up, m_cl, true_and, and_true, and_self, if_true, if_false, false_and, and_false]
    repeat (first | rw [if_pos (by omega)] | rw [if_neg (by omega)])
    rw [(sm3 11 (by omega) 1).2.2]
    simp only [m_sI, m_sL, m_sR, m_zap, m_grid, m_up, m_cl, true_and, and_true, and_self, if_true, if_false, false_and, and_false]
    repeat (first | rw [if_pos (by omega)] | rw [if_neg (by omega)])
    exact ra_2 1 (by omega)
  · simp only [m_sI, m_sL, m_sR, m_zap, m_grid, m_up, m_cl, true_and, and_true, and_self, if_true, if_false, false_and, and_false]
    repeat (first | rw [if_pos (by omega)] | rw [if_neg (by omega)])
    rw [(sm10 11 (by omega) 2).2.2]
    simp only [m_sI, m_sL, m_sR, m_zap, m_grid, m_up, m_cl, true_and, and_true, and_self, if_true, if_false, false_and, and_false]
    repeat (first | rw [if_pos (by omega)] | rw [if_neg (by omega)])
    rw [(sm9 11 (by omega) 2).2.2]
    simp only [m_sI, m_sL, m_sR, m_zap, m_grid, m_up, m_cl, true_and, and_true, and_self, if_true, if_false, false_and, and_false]
    repeat (first | rw [if_pos (by omega)] | rw [if_neg (by omega)])
    rw [(sm8 11 (by omega) 2).2.2]
    simp only [m_sI, m_sL, m_sR, m_zap, m_grid, m_up, m_cl, true_and, and_true, and_self, if_true, if_false, false_and, and_false]
    repeat (first | rw [if_pos (by omega)] | rw [if_neg (by omega)])
    rw [(sm7 11 (by omega) 2).2.2]
    simp only [m_sI, m_sL, m_sR, m_zap, m_grid, m_up, m_cl, true_and, and_true, and_self, if_true, if_false, false_and, and_false]
    repeat (first | rw [if_pos (by omega)] | rw [if_neg (by omega)])
    rw [(sm6 11 (by omega) 2).2.2]
    simp only [m_sI, m_sL, m_sR, m_zap, m_grid, m_up, m_cl, true_and, and_true, and_self, if_true, if_false, false_and, and_false]
    repeat (first | rw [if_pos (by omega)] | rw [if_neg (by omega)])
    rw [(sm5 11 (by omega) 2).2.2]
    simp only [m_sI, m_sL, m_sR, m_zap, m_grid, m_up, m_cl, true_and, and_true, and_self, if_true, if_false, false_and, and_false]
    repeat (first | rw [if_pos (by omega)] | rw [if_neg (by omega)])
    rw [(sm4 11 (by omega) 2).2.2]
    simp only [m_sI, m_sL, m_sR, m_zap, m_grid, m_up, m_cl, true_and, and_true, and_self, if_true, if_false, false_and, and_false]
    repeat (first | rw [if_pos (by omega)] | rw [if_neg (by omega)])
    rw [(sm3 11 (by omega) 2).2.2]
    simp only [m_sI, m_sL, m_sR, m_zap, m_grid, m_up, m_cl, true_and, and_true, and_self, if_true, if_false, false_and, and_false]
    repeat (first | rw [if_pos (by omega)] | rw [if_neg (by omega)])
    exact ra_2 2 (by omega)
  · simp only [m_sI, m_sL, m_sR, m_zap, m_grid, m_up, m_cl, true_and, and_true, and_self, if_true, if_false, false_and, and_false]
    repeat (first | rw [if_pos (by omega)] | rw [if_neg (by omega)])
    rw [(sm10 11 (by omega) 3).2.2]
    simp only [m_sI, m_sL, m_sR, m_zap, m_grid, m_up, m_cl, true_and, and_true, and_self, if_true, if_false, false_and, and_false]
    repeat (first | rw [if_pos (by omega)] | rw [if_neg (by omega)])
    rw [(sm9 11 (by omega) 3).2.2]
    simp only [m_sI, m_sL, m_sR, m_zap, m_grid, m_up, m_cl, true_and, and_true, and_self, if_true, if_false, false_and, and_false]
    repeat (first | rw [if_pos (by omega)] | rw [if_neg (by omega)])
    rw [(sm8 11 (by omega) 3).2.2]
    simp only [m_sI, m_sL, m_sR, m_zap, m_grid, m_up, m_cl, true_and, and_true, and_self, if_true, if_false, false_and, and_false]
    repeat (first | rw [if_pos (by omega)] | rw [if_neg (by omega)])
    rw [(sm7 11 (by omega) 3).2.2]
    simp only [m_sI, m_sL, m_sR, m_zap, m_grid, m_up, m_cl, true_and, and_true, and_self, if_true, if_false, false_and, and_false]
    repeat (first | rw [if_pos (by omega)] | rw [if_neg (by omega)])
    rw [(sm6 11 (by omega) 3).2.2]
    simp only [m_sI, m_sL, m_sR, m_zap, m_grid, m_up, m_cl, true_and, and_true, and_self, if_true, if_false, false_and, and_false]
    repeat (first | rw [if_pos (by omega)] | rw [if_neg (by omega)])
    rw [(sm5 11 (by omega) 3).2.2]
    simp only [m_sI, m_sL, m_sR, m_zap, m_grid, m_up, m_cl, true_and, and_true, and_self, if_true, if_false, false_and, and_false]
    repeat (first | rw [if_pos (by omega)] | rw [if_neg (by omega)])
    rw [(sm4 11 (by omega) 3).2.2]
    simp only [m_sI, m_sL, m_sR, m_zap, m_grid, m_up, m_cl, true_and, and_true, and_self, if_true, if_false, false_and, and_false]
    repeat (first | rw [if_pos (by omega)] | rw [if_neg (by omega)])
    rw [(sm3 11 (by omega) 3).2.2]
    simp only [m_sI, m_sL, m_sR, m_zap, m_grid, m_up, m_cl, true_and, and_true, and_self, if_true, if_false, false_and, and_false]
    repeat (first | rw [if_pos (by omega)] | rw [if_neg (by omega)])
    exact ra_2 3 (by omega)
  · simp only [m_sI, m_sL, m_sR, m_zap, m_grid, m_up, m_cl, true_and, and_true, and_self, if_true, if_false, false_and, and_false]
    repeat (first | rw [if_pos (by omega)] | rw [if_neg (by omega)])
    rw [(sm10 19 (by omega) 0).2.2]
    simp only [m_sI, m_sL, m_sR, m_zap, m_grid, m_up, m_cl, true_and, and_true, and_self, if_true, if_false, false_and, and_false]
    repeat (first | rw [if_pos (by omega)] | rw [if_neg (by omega)])
    rw [(sm9 19 (by omega) 0).2.2]
    simp only [m_sI, m_sL, m_sR, m_zap, m_grid, m_up, m_cl, true_and, and_true, and_self, if_true, if_false, false_and, and_false]
    repeat (first | rw [if_pos (by omega)] | rw [if_neg (by omega)])
    rw [(sm8 19 (by omega) 0).2.2]
    simp only [m_sI, m_sL, m_sR, m_zap, m_grid, m_up, m_cl, true_and, and_true, and_self, if_true, if_false, false_and, and_false]
    repeat (first | rw [if_pos (by omega)] | rw [if_neg (by omega)])
    rw [(sm7 19 (by omega) 0).2.2]
    simp only [m_sI, m_sL, m_sR, m_zap, m_grid, m_up, m_cl, true_and, and_true, and_self, if_true, if_false, false_and, and_false]
    repeat (first | rw [if_pos (by omega)] | rw [if_neg (by omega)])
    rw [(sm6 19 (by omega) 0).2.2]
    simp only [m_sI, m_sL, m_sR, m_zap, m_grid, m_up, m_cl, true_and, and_true, and_self, if_true, if_false, false_and, and_false]
    repeat (first | rw [if_pos (by omega)] | rw [if_neg (by omega)])
    rw [(sm5 19 (by omega) 0).2.2]
    simp only [m_sI, m_sL, m_sR, m_zap, m_grid, m_up, m_cl, true_and, and_true, and_self, if_true, if_false, false_and, and_false]
    repeat (first | rw [if_pos (by omega)] | rw [if_neg (by omega)])
    exact r0_4
  · simp only [m_sI, m_sL, m_sR, m_zap, m_grid, m_up, m_cl, true_and, and_true, and_self, if_true, if_false, false_and, and_false]
    repeat (first | rw [if_pos (by omega)] | rw [if_neg (by omega)])
    rw [(sm10 19 (by omega) 1).2.2]
    simp only [m_sI, m_sL, m_sR, m_zap, m_grid, m_up, m_cl, true_and, and_true, and_self, if_true, if_false, false_and, and_false]
    repeat (first | rw [if_pos (by omega)] | rw [if_neg (by omega)])
    rw [(sm9 19 (by omega) 1).2.2]
    simp only [m_sI, m_sL, m_sR, m_zap, m_grid, m_up, m_cl, true_and, and_true, and_self, if_true, if_false, false_and, and_false]
    repeat (first | rw [if_pos (by omega)] | rw [if_neg (by omega)])
    rw [(sm8 19 (by omega) 1).2.2]
    simp only [m_sI, m_sL, m_sR, m_zap, m_grid, m_up, m_cl, true_and, and_true, and_self, if_true, if_false, false_and, and_false]
    repeat (first | rw [if_pos (by omega)] | rw [if_neg (by omega)])
    rw [(sm7 19 (by omega) 1).2.2]
    simp only [m_sI, m_sL, m_sR, m_zap, m_grid, m_up, m_cl, true_and, and_true, and_self, if_true, if_false, false_and, and_false]
    repeat (first | rw [if_pos (by omega)] | rw [if_neg (by omega)])
    rw [(sm6 19 (by omega) 1).2.2]
    simp only [m_sI, m_sL, m_sR, m_zap, m_grid, m_up, m_cl, true_and, and_true, and_self, if_true, if_false, false_and, and_false]
    repeat (first | rw [if_pos (by omega)] | rw [if_neg (by omega)])
    rw [(sm5 19 (by omega) 1).2.2]
    simp only [m_sI, m_sL, m_sR, m_zap, m_grid, m_up, m_cl, true_and, and_true, and_self, if_true, if_false, false_and, and_false]
    repeat (first | rw [if_pos (by omega)] | rw [if_neg (by omega)])
    exact r1_4
  · simp only [m_sI, m_sL, m_sR, m_zap, m_grid, m_up, m_cl, true_and, and_true, and_self, if_true, if_false, false_and, and_false]
    repeat (first | rw [if_pos (by omega)] | rw [if_neg (by omega)])
    rw [(sm10 19 (by omega) 2).2.2]
    simp only [m_sI, m_sL, m_sR, m_zap, m_grid, m_up, m_cl, true_and, and_true, and_self, if_true, if_false, false_and, and_false]
    repeat (first | rw [if_pos (by omega)] | rw [if_neg (by omega)])
    rw [(sm9 19 (by omega) 2).2.2]
    simp only [m_sI, m_sL, m_sR, m_zap, m_grid, m_up, m_cl, true_and, and_true, and_self, if_true, if_false, false_and, and_false]
    repeat (first | rw [if_pos (by omega)] | rw [if_neg (by omega)])
    rw [(sm8 19 (by omega) 2).2.2]
    simp only [m_sI, m_sL, m_sR, m_zap, m_grid, m_up, m_cl, true_and, and_true, and_self, if_true, if_false, false_and, and_false]
    repeat (first | rw [if_pos (by omega)] | rw [if_neg (by omega)])
    rw [(sm7 19 (by omega) 2).2.2]
    simp only [m_sI, m_sL, m_sR, m_zap, m_grid, m_up, m_cl, true_and, and_true, and_self, if_true, if_false, false_and, and_false]
    repeat (first | rw [if_pos (by omega)] | rw [if_neg (by omega)])
    rw [(sm6 19 (by omega) 2).2.2]
    simp only [m_sI, m_sL, m_sR, m_zap, m_grid, m_up, m_cl, true_and, and_true, and_self, if_true, if_false, false_and, and_false]
    repeat (first | rw [if_pos (by omega)] | rw [if_neg (by omega)])
    rw [(sm5 19 (by omega) 2).2.2]
    simp only [m_sI, m_sL, m_sR, m_zap, m_grid, m_up, m_cl, true_and, and_true, and_self, if_true, if_false, false_and, and_false]
    repeat (first | rw [if_pos (by omega)] | rw [if_neg (by omega)])
    exact r2_4
  · simp only [m_sI, m_sL, m_sR, m_zap, m_grid, m_up, m_cl, true_and, and_true, and_self, if_true, if_false, false_and, and_false]
    repeat (first | rw [if_pos (by omega)] | rw [if_neg (by omega)])
    rw [(sm10 19 (by omega) 3).2.2]
    simp only [m_sI, m_sL, m_sR, m_zap, m_grid, m_up, m_cl, true_and, and_true, and_self, if_true, if_false, false_and, and_false]
    repeat (first | rw [if_pos (by omega)] | rw [if_neg (by omega)])
    rw [(sm9 19 (by omega) 3).2.2]
    simp only [m_sI, m_sL, m_sR, m_zap, m_grid, m_up, m_cl, true_and, and_true, and_self, if_true, if_false, false_and, and_false]
    repeat (first | rw [if_pos (by omega)] | rw [if_neg (by omega)])
    rw [(sm8 19 (by omega) 3).2.2]
    simp only [m_sI, m_sL, m_sR, m_zap, m_grid, m_up, m_cl, true_and, and_true, and_self, if_true, if_false, false_and, and_false]
    repeat (first | rw [if_pos (by omega)] | rw [if_neg (by omega)])
    rw [(sm7 19 (by omega) 3).2.2]
    simp only [m_sI, m_sL, m_sR, m_zap, m_grid, m_up, m_cl, true_and, and_true, and_self, if_true, if_false, false_and, and_false]
    repeat (first | rw [if_pos (by omega)] | rw [if_neg (by omega)])
    rw [(sm6 19 (by omega) 3).2.2]
    simp only [m_sI, m_sL, m_sR, m_zap, m_grid, m_up, m_cl, true_and, and_true, and_self, if_true, if_false, false_and, and_false]
    repeat (first | rw [if_pos (by omega)] | rw [if_neg (by omega)])
    rw [(sm5 19 (by omega) 3).2.2]
    simp only [m_sI, m_sL, m_sR, m_zap, m_grid, m_up, m_cl, true_and, and_true, and_self, if_true, if_false, false_and, and_false]
    repeat (first | rw [if_pos (by omega)] | rw [if_neg (by omega)])
    exact r3_4
  · simp only [m_sI, m_sL, m_sR, m_zap, m_grid, m_up, m_cl, true_and, and_true, and_self, if_true, if_false, false_and, and_false]
    repeat (first | rw [if_pos (by omega)] | rw [if_neg (by omega)])
    rw [(sm10 19 (by omega) 4).2.2]
    simp only [m_sI, m_sL, m_sR, m_zap, m_grid, m_up, m_cl, true_and, and_true, and_self, if_true, if_false, false_and, and_false]
    repeat (first | rw [if_pos (by omega)] | rw [if_neg (by omega)])
    rw [(sm9 19 (by omega) 4).2.2]
    simp only [m_sI, m_sL, m_sR, m_zap, m_grid, m_up, m_cl, true_and, and_true, and_self, if_true, if_false, false_and, and_false]
    repeat (first | rw [if_pos (by omega)] | rw [if_neg (by omega)])
    rw [(sm8 19 (by omega) 4).2.2]
    simp only [m_sI, m_sL, m_sR, m_zap, m_grid, m_up, m_cl, true_and, and_true, and_self, if_true, if_false, false_and, and_false]
    repeat (first | rw [if_pos (by omega)] | rw [if_neg (by omega)])
    rw [(sm7 19 (by omega) 4).2.2]
    simp only [m_sI, m_sL, m_sR, m_zap, m_grid, m_up, m_cl, true_and, and_true, and_self, if_true, if_false, false_and, and_false]
    repeat (first | rw [if_pos (by omega)] | rw [if_neg (by omega)])
    rw [(sm6 19 (by omega) 4).2.2]
    simp only [m_sI, m_sL, m_sR, m_zap, m_grid, m_up, m_cl, true_and, and_true, and_self, if_true, if_false, false_and, and_false]
    repeat (first | rw [if_pos (by omega)] | rw [if_neg (by omega)])
    rw [(sm5 19 (by omega) 4).2.2]
    simp only [m_sI, m_sL, m_sR, m_zap, m_grid, m_up, m_cl, true_and, and_true, and_self, if_true, if_false, false_and, and_false]
    repeat (first | rw [if_pos (by omega)] | rw [if_neg (by omega)])
    exact r4_4
  · simp only [m_sI, m_sL, m_sR, m_zap, m_grid, m_up, m_cl, true_and, and_true, and_self, if_true, if_false, false_and, and_false]
    repeat (first | rw [if_pos (by omega)] | rw [if_neg (by omega)])
    rw [(sm10 19 (by omega) 5).2.2]
    simp only [m_sI, m_sL, m_sR, m_zap, m_grid, m_up, m_cl, true_and, and_true, and_self, if_true, if_false, false_and, and_false]
    repeat (first | rw [if_pos (by omega)] | rw [if_neg (by omega)])
    rw [(sm9 19 (by omega) 5).2.2]
    simp only [m_sI, m_sL, m_sR, m_zap, m_grid, m_up, m_cl, true_and, and_true, and_self, if_true, if_false, false_and, and_false]
    repeat (first | rw [if_pos (by omega)] | rw [if_neg (by omega)])
    rw [(sm8 19 (by omega) 5).2.2]
    simp only [m_sI, m_sL, m_sR, m_zap, m_grid, m_up, m_cl, true_and, and_true, and_self, if_true, if_false, false_and, and_false]
    repeat (first | rw [if_pos (by omega)] | rw [if_neg (by omega)])
    rw [(sm7 19 (by omega) 5).2.2]
    simp only [m_sI, m_sL, m_sR, m_zap, m_grid, m_up, m_cl, true_and, and_true, and_self, if_true, if_false, false_and, and_false]
    repeat (first | rw [if_pos (by omega)] | rw [if_neg (by omega)])
    rw [(sm6 19 (by omega) 5).2.2]
    simp only [m_sI, m_sL, m_sR, m_zap, m_grid, m_up, m_cl, true_and, and_true, and_self, if_true, if_false, false_and, and_false]
    repeat (first | rw [if_pos (by omega)] | rw [if_neg (by omega)])
    rw [(sm5 19 (by omega) 5).2.2]
    simp only [m_sI, m_sL, m_sR, m_zap, m_grid, m_up, m_cl, true_and, and_true, and_self, if_true, if_false, false_and, and_false]
    repeat (first | rw [if_pos (by omega)] | rw [if_neg (by omega)])
    exact r5_4
  · simp only [m_sI, m_sL, m_sR, m_zap, m_grid, m_up, m_cl, true_and, and_true, and_self, if_true, if_false, false_and, and_false]
    repeat (first | rw [if_pos (by omega)] | rw [if_neg (by omega)])
    rw [(sm10 20 (by omega) 0).2.2]
    simp only [m_sI, m_sL, m_sR, m_zap, m_grid, m_up, m_cl, true_and, and_true, and_self, if_true, if_false, false_and, and_false]
    repeat (first | rw [if_pos (by omega)] | rw [if_neg (by omega)])
    rw [(sm9 20 (by omega) 0).2.2]
    simp only [m_sI, m_sL, m_sR, m_zap, m_grid, m_up, m_cl, true_and, and_true, and_self, if_true, if_false, false_and, and_false]
    repeat (first | rw [if_pos (by omega)] | rw [if_neg (by omega)])
    rw [(sm8 20 (by omega) 0).2.2]
    simp only [m_sI, m_sL, m_sR, m_zap, m_grid, m_up, m_cl, true_and, and_true, and_self, if_true, if_false, false_and, and_false]
    repeat (first | rw [if_pos (by omega)] | rw [if_neg (by omega)])
    rw [(sm7 20 (by omega) 0).2.2]
    simp only [m_sI, m_sL, m_sR, m_zap, m_grid, m_up, m_cl, true_and, and_true, and_self, if_true, if_false, false_and, and_false]
    repeat (first | rw [if_pos (by omega)] | rw [if_neg (by omega)])
    rw [(sm6 20 (by omega) 0).2.2]
    simp only [m_sI, m_sL, m_sR, m_zap, m_grid, m_up, m_cl, true_and, and_true, and_self, if_true, if_false, false_and, and_false]
    repeat (first | rw [if_pos (by omega)] | rw [if_neg (by omega)])
    rw [(sm5 20 (by omega) 0).2.2]
    simp only [m_sI, m_sL, m_sR, m_zap, m_grid, m_up, m_cl, true_and, and_true, and_self, if_true, if_false, false_and, and_false]
    repeat (first | rw [if_pos (by omega)] | rw [if_neg (by omega)])
    exact q0_4
  · simp only [m_sI, m_sL, m_sR, m_zap, m_grid, m_up, m_cl, true_and, and_true, and_self, if_true, if_false, false_and, and_false]
    repeat (first | rw [if_pos (by omega)] | rw [if_neg (by omega)])
    rw [(sm10 20 (by omega) 1).2.2]
    simp only [m_sI, m_sL, m_sR, m_zap, m_grid, m_up, m_cl, true_and, and_true, and_self, if_true, if_false, false_and, and_false]
    repeat (first | rw [if_pos (by omega)] | rw [if_neg (by omega)])
    rw [(sm9 20 (by omega) 1).2.2]
    simp only [m_sI, m_sL, m_sR, m_zap, m_grid, m_up, m_cl, true_and, and_true, and_self, if_true, if_false, false_and, and_false]
    repeat (first | rw [if_pos (by omega)] | rw [if_neg (by omega)])
    rw [(sm8 20 (by omega) 1).2.2]
    simp only [m_sI, m_sL, m_sR, m_zap, m_grid, m_up, m_cl, true_and, and_true, and_self, if_true, if_false, false_and, and_false]
    repeat (first | rw [if_pos (by omega)] | rw [if_neg (by omega)])
    rw [(sm7 20 (by omega) 1).2.2]
    simp only [m_sI, m_sL, m_sR, m_zap, m_grid, m_up, m_cl, true_and, and_true, and_self, if_true, if_false, false_and, and_false]
    repeat (first | rw [if_pos (by omega)] | rw [if_neg (by omega)])
    rw [(sm6 20 (by omega) 1).2.2]
    simp only [m_sI, m_sL, m_sR, m_zap, m_grid, m_up, m_cl, true_and, and_true, and_self, if_true, if_false, false_and, and_false]
    repeat (first | rw [if_pos (by omega)] | rw [if_neg (by omega)])
    rw [(sm5 20 (by omega) 1).2.2]
    simp only [m_sI, m_sL, m_sR, m_zap, m_grid, m_up, m_cl, true_and, and_true, and_self, if_true, if_false, false_and, and_false]
    repeat (first | rw [if_pos (by omega)] | rw [if_neg (by omega)])
    exact q1_4
  · simp only [m_sI, m_sL, m_sR, m_zap, m_grid, m_up, m_cl, true_and, and_true, and_self, if_true, if_false, false_and, and_false]
    repeat (first | rw [if_pos (by omega)] | rw [if_neg (by omega)])
    rw [(sm10 20 (by omega) 2).2.2]
    simp only [m_sI, m_sL, m_sR, m_zap, m_grid, m_up, m_cl, true_and, and_true, and_self, if_true, if_false, false_and, and_false]
    repeat (first | rw [if_pos (by omega)] | rw [if_neg (by omega)])
    rw [(sm9 20 (by omega) 2).2.2]
    simp only [m_sI, m_sL, m_sR, m_zap, m_grid, m_up, m_cl, true_and, and_true, and_self, if_true, if_false, false_and, and_false]
    repeat (first | rw [if_pos (by omega)] | rw [if_neg (by omega)])
    rw [(sm8 20 (by omega) 2).2.2]
    simp only [m_sI, m_sL, m_sR, m_zap, m_grid, m_up, m_cl, true_and, and_true, and_self, if_true, if_false, false_and, and_false]
    repeat (first | rw [if_pos (by omega)] | rw [if_neg (by omega)])
    rw [(sm7 20 (by omega) 2).2.2]
    simp only [m_sI, m_sL, m_sR, m_zap, m_grid, m_up, m_cl, true_and, and_true, and_self, if_true, if_false, false_and, and_false]
    repeat (first | rw [if_pos (by omega)] | rw [if_neg (by omega)])
    rw [(sm6 20 (by omega) 2).2.2]
    simp only [m_sI, m_sL, m_sR, m_zap, m_grid, m_up, m_cl, true_and, and_true, and_self, if_true, if_false, false_and, and_false]
    repeat (first | rw [if_pos (by omega)] | rw [if_neg (by omega)])
    rw [(sm5 20 (by omega) 2).2.2]
    simp only [m_sI, m_sL, m_sR, m_zap, m_grid, m_up, m_cl, true_and, and_true, and_self, if_true, if_false, false_and, and_false]
    repeat (first | rw [if_pos (by omega)] | rw [if_neg (by omega)])
    exact q2_4
  · simp only [m_sI, m_sL, m_sR, m_zap, m_grid, m_up, m_cl, true_and, and_true, and_self, if_true, if_false, false_and, and_false]
    repeat (first | rw [if_pos (by omega)] | rw [if_neg (by omega)])
    rw [(sm10 32 (by omega) 5).2.2]
    simp only [m_sI, m_sL, m_sR, m_zap, m_grid, m_up, m_cl, true_and, and_true, and_self, if_true, if_false, false_and, and_false]
    repeat (first | rw [if_pos (by omega)] | rw [if_neg (by omega)])
    rw [(sm9 32 (by omega) 5).2.2]
    simp only [m_sI, m_sL, m_sR, m_zap, m_grid, m_up, m_cl, true_and, and_true, and_self, if_true, if_false, false_and, and_false]
    repeat (first | rw [if_pos (by omega)] | rw [if_neg (by omega)])
    rw [(sm8 32 (by omega) 5).2.2]
    simp only [m_sI, m_sL, m_sR, m_zap, m_grid, m_up, m_cl, true_and, and_true, and_self, if_true, if_false, false_and, and_false]
    repeat (first | rw [if_pos (by omega)] | rw [if_neg (by omega)])
    rw [(sm7 32 (by omega) 5).2.2]
    simp only [m_sI, m_sL, m_sR, m_zap, m_grid, m_up, m_cl, true_and, and_true, and_self, if_true, if_false, false_and, and_false]
    repeat (first | rw [if_pos (by omega)] | rw [if_neg (by omega)])
    rw [(sm6 32 (by omega) 5).2.2]
    simp only [m_sI, m_sL, m_sR, m_zap, m_grid, m_up, m_cl, true_and, and_true, and_self, if_true, if_false, false_and, and_false]
    repeat (first | rw [if_pos (by omega)] | rw [if_neg (by omega)])
    exact r5_5
  · simp only [m_sI, m_sL, m_sR, m_zap, m_grid, m_up, m_cl, true_and, and_true, and_self, if_true, if_false, false_and, and_false]
    repeat (first | rw [if_pos (by omega)] | rw [if_neg (by omega)])
    rw [(sm10 32 (by omega) 6).2.2]
    simp only [m_sI, m_sL, m_sR, m_zap, m_grid, m_up, m_cl, true_and, and_true, and_self, if_true, if_false, false_and, and_false]
    repeat (first | rw [if_pos (by omega)] | rw [if_neg (by omega)])
    rw [(sm9 32 (by omega) 6).2.2]
    simp only [m_sI, m_sL, m_sR, m_zap, m_grid, m_up, m_cl, true_and, and_true, and_self, if_true, if_false, false_and, and_false]
    repeat (first | rw [if_pos (by omega)] | rw [if_neg (by omega)])
    rw [(sm8 32 (by omega) 6).2.2]
    simp only [m_sI, m_sL, m_sR, m_zap, m_grid, m_up, m_cl, true_and, and_true, and_self, if_true, if_false, false_and, and_false]
    repeat (first | rw [if_pos (by omega)] | rw [if_neg (by omega)])
    rw [(sm7 32 (by omega) 6).2.2]
    simp only [m_sI, m_sL, m_sR, m_zap, m_grid, m_up, m_cl, true_and, and_true, and_self, if_true, if_false, false_and, and_false]
    repeat (first | rw [if_pos (by omega)] | rw [if_neg (by omega)])
    rw [(sm6 32 (by omega) 6).2.2]
    simp only [m_sI, m_sL, m_sR, m_zap, m_grid, m_up, m_cl, true_and, and_true, and_self, if_true, if_false, false_and, and_false]
    repeat (first | rw [if_pos (by omega)] | rw [if_neg (by omega)])
    exact r6_5
  · simp only [m_sI, m_sL, m_sR, m_zap, m_grid, m_up, m_cl, true_and, and_true, and_self, if_true, if_false, false_and, and_false]
    repeat (first | rw [if_pos (by omega)] | rw [if_neg (by omega)])
    rw [(sm10 32 (by omega) 7).2.2]
    simp only [m_sI, m_sL, m_sR, m_zap, m_grid, m_up, m_cl, true_and, and_true, and_self, if_true, if_false, false_and, and_false]
    repeat (first | rw [if_pos (by omega)] | rw [if_neg (by omega)])
    rw [(sm9 32 (by omega) 7).2.2]
    simp only [m_sI, m_sL, m_sR, m_zap, m_grid, m_up, m_cl, true_and, and_true, and_self, if_true, if_false, false_and, and_false]
    repeat (first | rw [if_pos (by omega)] | rw [if_neg (by omega)])
    rw [(sm8 32 (by omega) 7).2.2]
    simp only [m_sI, m_sL, m_sR, m_zap, m_grid, m_up, m_cl, true_and, and_true, and_self, if_true, if_false, false_and, and_false]
    repeat (first | rw [if_pos (by omega)] | rw [if_neg (by omega)])
    rw [(sm7 32 (by omega) 7).2.2]
    simp only [m_sI, m_sL, m_sR, m_zap, m_grid, m_up, m_cl, true_and, and_true, and_self, if_true, if_false, false_and, and_false]
    repeat (first | rw [if_pos (by omega)] | rw [if_neg (by omega)])
    rw [(sm6 32 (by omega) 7).2.2]
    simp only [m_sI, m_sL, m_sR, m_zap, m_grid, m_up, m_cl, true_and, and_true, and_self, if_true, if_false, false_and, and_false]
    repeat (first | rw [if_pos (by omega)] | rw [if_neg (by omega)])
    exact r7_5
  · simp only [m_sI, m_sL, m_sR, m_zap, m_grid, m_up, m_cl, true_and, and_true, and_self, if_true, if_false, false_and, and_false]
    repeat (first | rw [if_pos (by omega)] | rw [if_neg (by omega)])
    rw [(sm10 32 (by omega) 8).2.2]
    simp only [m_sI, m_sL, m_sR, m_zap, m_grid, m_up, m_cl, true_and, and_true, and_self, if_true, if_false, false_and, and_false]
    repeat (first | rw [if_pos (by omega)] | rw [if_neg (by omega)])
    rw [(sm9 32 (by omega) 8).2.2]
    simp only [m_sI, m_sL, m_sR, m_zap, m_grid, m_up, m_cl, true_and, and_true, and_self, if_true, if_false, false_and, and_false]
    repeat (first | rw [if_pos (by omega)] | rw [if_neg (by omega)])
    rw [(sm8 32 (by omega) 8).2.2]
    simp only [m_sI, m_sL, m_sR, m_zap, m_grid, m_up, m_cl, true_and, and_true, and_self, if_true, if_false, false_and, and_false]
    repeat (first | rw [if_pos (by omega)] | rw [if_neg (by omega)])
    rw [(sm7 32 (by omega) 8).2.2]
    simp only [m_sI, m_sL, m_sR, m_zap, m_grid, m_up, m_cl, true_and, and_true, and_self, if_true, if_false, false_and, and_false]
    repeat (first | rw [if_pos (by omega)] | rw [if_neg (by omega)])
    rw [(sm6 32 (by omega) 8).2.2]
    simp only [m_sI, m_sL, m_sR, m_zap, m_grid, m_up, m_cl, true_and, and_true, and_self, if_true, if_false, false_and, and_false]
    repeat (first | rw [if_pos (by omega)] | rw [if_neg (by omega)])
    exact r8_5
  · simp only [m_sI, m_sL, m_sR, m_zap, m_grid, m_up, m_cl, true_and, and_true, and_self, if_true, if_false, false_and, and_false]
    repeat (first | rw [if_pos (by omega)] | rw [if_neg (by omega)])
    rw [(sm10 37 (by omega) 5).2.2]
    simp only [m_sI, m_sL, m_sR, m_zap, m_grid, m_up, m_cl, true_and, and_true, and_self, if_true, if_false, false_and, and_false]
    repeat (first | rw [if_pos (by omega)] | rw [if_neg (by omega)])
    rw [(sm9 37 (by omega) 5).2.2]
    simp only [m_sI, m_sL, m_sR, m_zap, m_grid, m_up, m_cl, true_and, and_true, and_self, if_true, if_false, false_and, and_false]
    repeat (first | rw [if_pos (by omega)] | rw [if_neg (by omega)])
    rw [(sm8 37 (by omega) 5).2.2]
    simp only [m_sI, m_sL, m_sR, m_zap, m_grid, m_up, m_cl, true_and, and_true, and_self, if_true, if_false, false_and, and_false]
    repeat (first | rw [if_pos (by omega)] | rw [if_neg (by omega)])
    rw [(sm7 37 (by omega) 5).2.2]
    simp only [m_sI, m_sL, m_sR, m_zap, m_grid, m_up, m_cl, true_and, and_true, and_self, if_true, if_false, false_and, and_false]
    repeat (first | rw [if_pos (by omega)] | rw [if_neg (by omega)])
    exact r5_6
  · simp only [m_sI, m_sL, m_sR, m_zap, m_grid, m_up, m_cl, true_and, and_true, and_self, if_true, if_false, false_and, and_false]
    repeat (first | rw [if_pos (by omega)] | rw [if_neg (by omega)])
    rw [(sm10 37 (by omega) 6).2.2]
    simp only [m_sI, m_sL, m_sR, m_zap, m_grid, m_up, m_cl, true_and, and_true, and_self, if_true, if_false, false_and, and_false]
    repeat (first | rw [if_pos (by omega)] | rw [if_neg (by omega)])
    rw [(sm9 37 (by omega) 6).2.2]
    simp only [m_sI, m_sL, m_sR, m_zap, m_grid, m_up, m_cl, true_and, and_true, and_self, if_true, if_false, false_and, and_false]
    repeat (first | rw [if_pos (by omega)] | rw [if_neg (by omega)])
    rw [(sm8 37 (by omega) 6).2.2]
    simp only [m_sI, m_sL, m_sR, m_zap, m_grid, m_up, m_cl, true_and, and_true, and_self, if_true, if_false, false_and, and_false]
    repeat (first | rw [if_pos (by omega)] | rw [if_neg (by omega)])
    rw [(sm7 37 (by omega) 6).2.2]
    simp only [m_sI, m_sL, m_sR, m_zap, m_grid, m_up, m_cl, true_and, and_true, and_self, if_true, if_false, false_and, and_false]
    repeat (first | rw [if_pos (by omega)] | rw [if_neg (by omega)])
    exact r6_6
  · simp only [m_sI, m_sL, m_sR, m_zap, m_grid, m_up, m_cl, true_and, and_true, and_self, if_true, if_false, false_and, and_false]
    repeat (first | rw [if_pos (by omega)] | rw [if_neg (by omega)])
    rw [(sm10 37 (by omega) 7).2.2]
    simp only [m_sI, m_sL, m_sR, m_zap, m_grid, m_up, m_cl, true_and, and_true, and_self, if_true, if_false, false_and, and_false]
    repeat (first | rw [if_pos (by omega)] | rw [if_neg (by omega)])
    rw [(sm9 37 (by omega) 7).2.2]
    simp only [m_sI, m_sL, m_sR, m_zap, m_grid, m_up, m_cl, true_and, and_true, and_self, if_true, if_false, false_and, and_false]
    repeat (first | rw [if_pos (by omega)] | rw [if_neg (by omega)])
    rw [(sm8 37 (by omega) 7).2.2]
    simp only [m_sI, m_sL, m_sR, m_zap, m_grid, m_up, m_cl, true_and, and_true, and_self, if_true, if_false, false_and, and_false]
    repeat (first | rw [if_pos (by omega)] | rw [if_neg (by omega)])
    rw [(sm7 37 (by omega) 7).2.2]
    simp only [m_sI, m_sL, m_sR, m_zap, m_grid, m_up, m_cl, true_and, and_true, and_self, if_true, if_false, false_and, and_false]
    repeat (first | rw [if_pos (by omega)] | rw [if_neg (by omega)])
    exact r7_6
  · simp only [m_sI, m_sL, m_sR, m_zap, m_grid, m_up, m_cl, true_and, and_true, and_self, if_true, if_false, false_and, and_false]
    repeat (first | rw [if_pos (by omega)] | rw [if_neg (by omega)])
    rw [(sm10 37 (by omega) 8).2.2]
    simp only [m_sI, m_sL, m_sR, m_zap, m_grid, m_up, m_cl, true_and, and_true, and_self, if_true, if_false, false_and, and_false]
    repeat (first | rw [if_pos (by omega)] | rw [if_neg (by omega)])
    rw [(sm9 37 (by omega) 8).2.2]
    simp only [m_sI, m_sL, m_sR, m_zap, m_grid, m_up, m_cl, true_and, and_true, and_self, if_true, if_false, false_and, and_false]
    repeat (first | rw [if_pos (by omega)] | rw [if_neg (by omega)])
    rw [(sm8 37 (by omega) 8).2.2]
    simp only [m_sI, m_sL, m_sR, m_zap, m_grid, m_up, m_cl, true_and, and_true, and_self, if_true, if_false, false_and, and_false]
    repeat (first | rw [if_pos (by omega)] | rw [if_neg (by omega)])
    rw [(sm7 37 (by omega) 8).2.2]
    simp only [m_sI, m_sL, m_sR, m_zap, m_grid, m_up, m_cl, true_and, and_true, and_self, if_true, if_false, false_and, and_false]
    repeat (first | rw [if_pos (by omega)] | rw [if_neg (by omega)])
    exact r8_6
  · simp only [m_sI, m_sL, m_sR, m_zap, m_grid, m_up, m_cl, true_and, and_true, and_self, if_true, if_false, false_and, and_false]
    repeat (first | rw [if_pos (by omega)] | rw [if_neg (by omega)])
    rw [(sm10 42 (by omega) 5).2.2]
    simp only [m_sI, m_sL, m_sR, m_zap, m_grid, m_up, m_cl, true_and, and_true, and_self, if_true, if_false, false_and, and_false]
    repeat (first | rw [if_pos (by omega)] | rw [if_neg (by omega)])
    rw [(sm9 42 (by omega) 5).2.2]
    simp only [m_sI, m_sL, m_sR, m_zap, m_grid, m_up, m_cl, true_and, and_true, and_self, if_true, if_false, false_and, and_false]
    repeat (first | rw [if_pos (by omega)] | rw [if_neg (by omega)])
    rw [(sm8 42 (by omega) 5).2.2]
    simp only [m_sI, m_sL, m_sR, m_zap, m_grid, m_up, m_cl, true_and, and_true, and_self, if_true, if_false, false_and, and_false]
    repeat (first | rw [if_pos (by omega)] | rw [if_neg (by omega)])
    exact r5_7
  · simp only [m_sI, m_sL, m_sR, m_zap, m_grid, m_up, m_cl, true_and, and_true, and_self, if_true, if_false, false_and, and_false]
    repeat (first | rw [if_pos (by omega)] | rw [if_neg (by omega)])
    rw [(sm10 42 (by omega) 6).2.2]
    simp only [m_sI, m_sL, m_sR, m_zap, m_grid, m_up, m_cl, true_and, and_true, and_self, if_true, if_false, false_and, and_false]
    repeat (first | rw [if_pos (by omega)] | rw [if_neg (by omega)])
    rw [(sm9 42 (by omega) 6).2.2]
    simp only [m_sI, m_sL, m_sR, m_zap, m_grid, m_up, m_cl, true_and, and_true, and_self, if_true, if_false, false_and, and_false]
    repeat (first | rw [if_pos (by omega)] | rw [if_neg (by omega)])
    rw [(sm8 42 (by omega) 6).2.2]
    simp only [m_sI, m_sL, m_sR, m_zap, m_grid, m_up, m_cl, true_and, and_true, and_self, if_true, if_false, false_and, and_false]
    repeat (first | rw [if_pos (by omega)] | rw [if_neg (by omega)])
    exact r6_7
  · simp only [m_sI, m_sL, m_sR, m_zap, m_grid, m_up, m_cl, true_and, and_true, and_self, if_true, if_false, false_and, and_false]
    repeat (first | rw [if_pos (by omega)] | rw [if_neg (by omega)])
    rw [(sm10 42 (by omega) 7).2.2]
    simp only [m_sI, m_sL, m_sR, m_zap, m_grid, m_up, m_cl, true_and, and_true, and_self, if_true, if_false, false_and, and_false]
    repeat (first | rw [if_pos (by omega)] | rw [if_neg (by omega)])
    rw [(sm9 42 (by omega) 7).2.2]
    simp only [m_sI, m_sL, m_sR, m_zap, m_grid, m_up, m_cl, true_and, and_true, and_self, if_true, if_false, false_and, and_false]
    repeat (first | rw [if_pos (by omega)] | rw [if_neg (by omega)])
    rw [(sm8 42 (by omega) 7).2.2]
    simp only [m_sI, m_sL, m_sR, m_zap, m_grid, m_up, m_cl, true_and, and_true, and_self, if_true, if_false, false_and, and_false]
    repeat (first | rw [if_pos (by omega)] | rw [if_neg (by omega)])
    exact r7_7
  · simp only [m_sI, m_sL, m_sR, m_zap, m_grid, m_up, m_cl, true_and, and_true, and_self, if_true, if_false, false_and, and_false]
    repeat (first | rw [if_pos (by omega)] | rw [if_neg (by omega)])
    rw [(sm10 42 (by omega) 8).2.2]
    simp only [m_sI, m_sL, m_sR, m_zap, m_grid, m_up, m_cl, true_and, and_true, and_self, if_true, if_false, false_and, and_false]
    repeat (first | rw [if_pos (by omega)] | rw [if_neg (by omega)])
    rw [(sm9 42 (by omega) 8).2.2]
    simp only [m_sI, m_sL, m_sR, m_zap, m_grid, m_up, m_cl, true_and, and_true, and_self, if_true, if_false, false_and, and_false]
    repeat (first | rw [if_pos (by omega)] | rw [if_neg (by omega)])
    rw [(sm8 42 (by omega) 8).2.2]
    simp only [m_sI, m_sL, m_sR, m_zap, m_grid, m_up, m_cl, true_and, and_true, and_self, if_true, if_false, false_and, and_false]
    repeat (first | rw [if_pos (by omega)] | rw [if_neg (by omega)])
    exact r8_7
  · simp only [m_sI, m_sL, m_sR, m_zap, m_grid, m_up, m_cl, true_and, and_true, and_self, if_true, if_false, false_and, and_false]
    repeat (first | rw [if_pos (by omega)] | rw [if_neg (by omega)])
    rw [(sm10 42 (by omega) 9).2.2]
    simp only [m_sI, m_sL, m_sR, m_zap, m_grid, m_up, m_cl, true_and, and_true, and_self, if_true, if_false, false_and, and_false]
    repeat (first | rw [if_pos (by omega)] | rw [if_neg (by omega)])
    rw [(sm9 42 (by omega) 9).2.2]
    simp only [m_sI, m_sL, m_sR, m_zap, m_grid, m_up, m_cl, true_and, and_true, and_self, if_true, if_false, false_and, and_false]
    repeat (first | rw [if_pos (by omega)] | rw [if_neg (by omega)])
    rw [(sm8 42 (by omega) 9).2.2]
    simp only [m_sI, m_sL, m_sR, m_zap, m_grid, m_up, m_cl, true_and, and_true, and_self, if_true, if_false, false_and, and_false]
    repeat (first | rw [if_pos (by omega)] | rw [if_neg (by omega)])
    exact r9_7
  · simp only [m_sI, m_sL, m_sR, m_zap, m_grid, m_up, m_cl, true_and, and_true, and_self, if_true, if_false, false_and, and_false]
    repeat (first | rw [if_pos (by omega)] | rw [if_neg (by omega)])
    rw [(sm10 42 (by omega) 10).2.2]
    simp only [m_sI, m_sL, m_sR, m_zap, m_grid, m_up, m_cl, true_and, and_true, and_self, if_true, if_false, false_and, and_false]
    repeat (first | rw [if_pos (by omega)] | rw [if_neg (by omega)])
    rw [(sm9 42 (by omega) 10).2.2]
    simp only [m_sI, m_sL, m_sR, m_zap, m_grid, m_up, m_cl, true_and, and_true, and_self, if_true, if_false, false_and, and_false]
    repeat (first | rw [if_pos (by omega)] | rw [if_neg (by omega)])
    rw [(sm8 42 (by omega) 10).2.2]
    simp only [m_sI, m_sL, m_sR, m_zap, m_grid, m_up, m_cl, true_and, and_true, and_self, if_true, if_false, false_and, and_false]
    repeat (first | rw [if_pos (by omega)] | rw [if_neg (by omega)])
    exact r10_7
  · simp only [m_sI, m_sL, m_sR, m_zap, m_grid, m_up, m_cl, true_and, and_true, and_self, if_true, if_false, false_and, and_false]
    repeat (first | rw [if_pos (by omega)] | rw [if_neg (by omega)])
    rw [(sm10 42 (by omega) 11).2.2]
    simp only [m_sI, m_sL, m_sR, m_zap, m_grid, m_up, m_cl, true_and, and_true, and_self, if_true, if_false, false_and, and_false]
    repeat (first | rw [if_pos (by omega)] | rw [if_neg (by omega)])
    rw [(sm9 42 (by omega) 11).2.2]
    simp only [m_sI, m_sL, m_sR, m_zap, m_grid, m_up, m_cl, true_and, and_true, and_self, if_true, if_false, false_and, and_false]
    repeat (first | rw [if_pos (by omega)] | rw [if_neg (by omega)])
    rw [(sm8 42 (by omega) 11).2.2]
    simp only [m_sI, m_sL, m_sR, m_zap, m_grid, m_up, m_cl, true_and, and_true, and_self, if_true, if_false, false_and, and_false]
    repeat (first | rw [if_pos (by omega)] | rw [if_neg (by omega)])
    exact r11_7
  · simp only [m_sI, m_sL, m_sR, m_zap, m_grid, m_up, m_cl, true_and, and_true, and_self, if_true, if_false, false_and, and_false]
    repeat (first | rw [if_pos (by omega)] | rw [if_neg (by omega)])
    rw [(sm10 50 (by omega) 5).2.2]
    simp only [m_sI, m_sL, m_sR, m_zap, m_grid, m_up, m_cl, true_and, and_true, and_self, if_true, if_false, false_and, and_false]
    repeat (first | rw [if_pos (by omega)] | rw [if_neg (by omega)])
    rw [(sm9 50 (by omega) 5).2.2]
    simp only [m_sI, m_sL, m_sR, m_zap, m_grid, m_up, m_cl, true_and, and_true, and_self, if_true, if_false, false_and, and_false]
    repeat (first | rw [if_pos (by omega)] | rw [if_neg (by omega)])
    exact r5_8
  · simp only [m_sI, m_sL, m_sR, m_zap, m_grid, m_up, m_cl, true_and, and_true, and_self, if_true, if_false, false_and, and_false]
    repeat (first | rw [if_pos (by omega)] | rw [if_neg (by omega)])
    rw [(sm10 50 (by omega) 6).2.2]
    simp only [m_sI, m_sL, m_sR, m_zap, m_grid, m_up, m_cl, true_and, and_true, and_self, if_true, if_false, false_and, and_false]
    repeat (first | rw [if_pos (by omega)] | rw [if_neg (by omega)])
    rw [(sm9 50 (by omega) 6).2.2]
    simp only [m_sI, m_sL, m_sR, m_zap, m_grid, m_up, m_cl, true_and, and_true, and_self, if_true, if_false, false_and, and_false]
    repeat (first | rw [if_pos (by omega)] | rw [if_neg (by omega)])
    exact r6_8
  · simp only [m_sI, m_sL, m_sR, m_zap, m_grid, m_up, m_cl, true_and, and_true, and_self, if_true, if_false, false_and, and_false]
    repeat (first | rw [if_pos (by omega)] | rw [if_neg (by omega)])
    rw [(sm10 50 (by omega) 7).2.2]
    simp only [m_sI, m_sL, m_sR, m_zap, m_grid, m_up, m_cl, true_and, and_true, and_self, if_true, if_false, false_and, and_false]
    repeat (first | rw [if_pos (by omega)] | rw [if_neg (by omega)])
    rw [(sm9 50 (by omega) 7).2.2]
    simp only [m_sI, m_sL, m_sR, m_zap, m_grid, m_up, m_cl, true_and, and_true, and_self, if_true, if_false, false_and, and_false]
    repeat (first | rw [if_pos (by omega)] | rw [if_neg (by omega)])
    exact r7_8
  · simp only [m_sI, m_sL, m_sR, m_zap, m_grid, m_up, m_cl, true_and, and_true, and_self, if_true, if_false, false_and, and_false]
    repeat (first | rw [if_pos (by omega)] | rw [if_neg (by omega)])
    rw [(sm10 50 (by omega) 8).2.2]
    simp only [m_sI, m_sL, m_sR, m_zap, m_grid, m_up, m_cl, true_and, and_true, and_self, if_true, if_false, false_and, and_false]
    repeat (first | rw [if_pos (by omega)] | rw [if_neg (by omega)])
    rw [(sm9 50 (by omega) 8).2.2]
    simp only [m_sI, m_sL, m_sR, m_zap, m_grid, m_up, m_cl, true_and, and_true, and_self, if_true, if_false, false_and, and_false]
    repeat (first | rw [if_pos (by omega)] | rw [if_neg (by omega)])
    exact r8_8
  · simp only [m_sI, m_sL, m_sR, m_zap, m_grid, m_up, m_cl, true_and, and_true, and_self, if_true, if_false, false_and, and_false]
    repeat (first | rw [if_pos (by omega)] | rw [if_neg (by omega)])
    rw [(sm10 50 (by omega) 9).2.2]
    simp only [m_sI, m_sL, m_sR, m_zap, m_grid, m_up, m_cl, true_and, and_true, and_self, if_true, if_false, false_and, and_false]
    repeat (first | rw [if_pos (by omega)] | rw [if_neg (by omega)])
    rw [(sm9 50 (by omega) 9).2.2]
    simp only [m_sI, m_sL, m_sR, m_zap, m_grid, m_up, m_cl, true_and, and_true, and_self, if_true, if_false, false_and, and_false]
    repeat (first | rw [if_pos (by omega)] | rw [if_neg (by omega)])
    exact r9_8
  · simp only [m_sI, m_sL, m_sR, m_zap, m_grid, m_up, m_cl, true_and, and_true, and_self, if_true, if_false, false_and, and_false]
    repeat (first | rw [if_pos (by omega)] | rw [if_neg (by omega)])
    rw [(sm10 50 (by omega) 10).2.2]
    simp only [m_sI, m_sL, m_sR, m_zap, m_grid, m_up, m_cl, true_and, and_true, and_self, if_true, if_false, false_and, and_false]
    repeat (first | rw [if_pos (by omega)] | rw [if_neg (by omega)])
    rw [(sm9 50 (by omega) 10).2.2]
    simp only [m_sI, m_sL, m_sR, m_zap, m_grid, m_up, m_cl, true_and, and_true, and_self, if_true, if_false, false_and, and_false]
    repeat (first | rw [if_pos (by omega)] | rw [if_neg (by omega)])
    exact r10_8
  · simp only [m_sI, m_sL, m_sR, m_zap, m_grid, m_up, m_cl, true_and, and_true, and_self, if_true, if_false, false_and, and_false]
    repeat (first | rw [if_pos (by omega)] | rw [if_neg (by omega)])
    rw [(sm10 50 (by omega) 11).2.2]
    simp only [m_sI, m_sL, m_sR, m_zap, m_grid, m_up, m_cl, true_and, and_true, and_self, if_true, if_false, false_and, and_false]
    repeat (first | rw [if_pos (by omega)] | rw [if_neg (by omega)])
    rw [(sm9 50 (by omega) 11).2.2]
    simp only [m_sI, m_sL, m_sR, m_zap, m_grid, m_up, m_cl, true_and, and_true, and_self, if_true, if_false, false_and, and_false]
    repeat (first | rw [if_pos (by omega)] | rw [if_neg (by omega)])
    exact r11_8
  · simp only [m_sI, m_sL, m_sR, m_zap, m_grid, m_up, m_cl, true_and, and_true, and_self, if_true, if_false, false_and, and_false]
    repeat (first | rw [if_pos (by omega)] | rw [if_neg (by omega)])
    rw [(sm10 58 (by omega) 1).2.2]
    simp only [m_sI, m_sL, m_sR, m_zap, m_grid, m_up, m_cl, true_and, and_true, and_self, if_true, if_false, false_and, and_false]
    repeat (first | rw [if_pos (by omega)] | rw [if_neg (by omega)])
    exact r1_9
  · simp only [m_sI, m_sL, m_sR, m_zap, m_grid, m_up, m_cl, true_and, and_true, and_self, if_true, if_false, false_and, and_false]
    repeat (first | rw [if_pos (by omega)] | rw [if_neg (by omega)])
    rw [(sm10 58 (by omega) 2).2.2]
    simp only [m_sI, m_sL, m_sR, m_zap, m_grid, m_up, m_cl, true_and, and_true, and_self, if_true, if_false, false_and, and_false]
    repeat (first | rw [if_pos (by omega)] | rw [if_neg (by omega)])
    exact r2_9
  · simp only [m_sI, m_sL, m_sR, m_zap, m_grid, m_up, m_cl, true_and, and_true, and_self, if_true, if_false, false_and, and_false]
    repeat (first | rw [if_pos (by omega)] | rw [if_neg (by omega)])
    rw [(sm10 58 (by omega) 3).2.2]
    simp only [m_sI, m_sL, m_sR, m_zap, m_grid, m_up, m_cl, true_and, and_true, and_self, if_true, if_false, false_and, and_false]
    repeat (first | rw [if_pos (by omega)] | rw [if_neg (by omega)])
    exact r3_9
  · simp only [m_sI, m_sL, m_sR, m_zap, m_grid, m_up, m_cl, true_and, and_true, and_self, if_true, if_false, false_and, and_false]
    repeat (first | rw [if_pos (by omega)] | rw [if_neg (by omega)])
    rw [(sm10 58 (by omega) 4).2.2]
    simp only [m_sI, m_sL, m_sR, m_zap, m_grid, m_up, m_cl, true_and, and_true, and_self, if_true, if_false, false_and, and_false]
    repeat (first | rw [if_pos (by omega)] | rw [if_neg (by omega)])
    exact r4_9
  · simp only [m_sI, m_sL, m_sR, m_zap, m_grid, m_up, m_cl, true_and, and_true, and_self, if_true, if_false, false_and, and_false]
    repeat (first | rw [if_pos (by omega)] | rw [if_neg (by omega)])
    exact r1_10
  · simp only [m_sI, m_sL, m_sR, m_zap, m_grid, m_up, m_cl, true_and, and_true, and_self, if_true, if_false, false_and, and_false]
    repeat (first | rw [if_pos (by omega)] | rw [if_neg (by omega)])
    exact r2_10
  · simp only [m_sI, m_sL, m_sR, m_zap, m_grid, m_up, m_cl, true_and, and_true, and_self, if_true, if_false, false_and, and_false]
    repeat (first | rw [if_pos (by omega)] | rw [if_neg (by omega)])
    exact r3_10
  · simp only [m_sI, m_sL, m_sR, m_zap, m_grid, m_up, m_cl, true_and, and_true, and_self, if_true, if_false, false_and, and_false]
    repeat (first | rw [if_pos (by omega)] | rw [if_neg (by omega)])
    exact r4_10
  · simp only [m_sI, m_sL, m_sR, m_zap, m_grid, m_up, m_cl, true_and, and_true, and_self, if_true, if_false, false_and, and_false]
    repeat (first | rw [if_pos (by omega)] | rw [if_neg (by omega)])
    rw [(sm10 0 (by omega) 8).2.2]
    simp only [m_sI, m_sL, m_sR, m_zap, m_grid, m_up, m_cl, true_and, and_true, and_self, if_true, if_false, false_and, and_false]
    repeat (first | rw [if_pos (by omega)] | rw [if_neg (by omega)])
    rw [(sm9 0 (by omega) 8).2.2]
    simp only [m_sI, m_sL, m_sR, m_zap, m_grid, m_up, m_cl, true_and, and_true, and_self, if_true, if_false, false_and, and_false]
    repeat (first | rw [if_pos (by omega)] | rw [if_neg (by omega)])
    rw [(sm8 0 (by omega) 8).2.2]
    simp only [m_sI, m_sL, m_sR, m_zap, m_grid, m_up, m_cl, true_and, and_true, and_self, if_true, if_false, false_and, and_false]
    repeat (first | rw [if_pos (by omega)] | rw [if_neg (by omega)])
    rw [(sm7 0 (by omega) 8).2.2]
    simp only [m_sI, m_sL, m_sR, m_zap, m_grid, m_up, m_cl, true_and, and_true, and_self, if_true, if_false, false_and, and_false]
    repeat (first | rw [if_pos (by omega)] | rw [if_neg (by omega)])
    rw [(sm6 0 (by omega) 8).2.2]
    simp only [m_sI, m_sL, m_sR, m_zap, m_grid, m_up, m_cl, true_and, and_true, and_self, if_true, if_false, false_and, and_false]
    repeat (first | rw [if_pos (by omega)] | rw [if_neg (by omega)])
  · simp only [m_sI, m_sL, m_sR, m_zap, m_grid, m_up, m_cl, true_and, and_true, and_self, if_true, if_false, false_and, and_false]
    repeat (first | rw [if_pos (by omega)] | rw [if_neg (by omega)])
    rw [(sm10 0 (by omega) 9).2.2]
    simp only [m_sI, m_sL, m_sR, m_zap, m_grid, m_up, m_cl, true_and, and_true, and_self, if_true, if_false, false_and, and_false]
    repeat (first | rw [if_pos (by omega)] | rw [if_neg (by omega)])
    rw [(sm9 0 (by omega) 9).2.2]
    simp only [m_sI, m_sL, m_sR, m_zap, m_grid, m_up, m_cl, true_and, and_true, and_self, if_true, if_false, false_and, and_false]
    repeat (first | rw [if_pos (by omega)] | rw [if_neg (by omega)])
    rw [(sm8 0 (by omega) 9).2.2]
    simp only [m_sI, m_sL, m_sR, m_zap, m_grid, m_up, m_cl, true_and, and_true, and_self, if_true, if_false, false_and, and_false]
    repeat (first | rw [if_pos (by omega)] | rw [if_neg (by omega)])
    rw [(sm7 0 (by omega) 9).2.2]
    simp only [m_sI, m_sL, m_sR, m_zap, m_grid, m_up, m_cl, true_and, and_true, and_self, if_true, if_false, false_and, and_false]
    repeat (first | rw [if_pos (by omega)] | rw [if_neg (by omega)])
  · simp only [m_sI, m_sL, m_sR, m_zap, m_grid, m_up, m_cl, true_and, and_true, and_self, if_true, if_false, false_and, and_false]
    repeat (first | rw [if_pos (by omega)] | rw [if_neg (by omega)])
    rw [(sm10 19 (by omega) 6).2.2]
    simp only [m_sI, m_sL, m_sR, m_zap, m_grid, m_up, m_cl, true_and, and_true, and_self, if_true, if_false, false_and, and_false]
    repeat (first | rw [if_pos (by omega)] | rw [if_neg (by omega)])
    rw [(sm9 19 (by omega) 6).2.2]
    simp only [m_sI, m_sL, m_sR, m_zap, m_grid, m_up, m_cl, true_and, and_true, and_self, if_true, if_false, false_and, and_false]
    repeat (first | rw [if_pos (by omega)] | rw [if_neg (by omega)])
    rw [(sm8 19 (by omega) 6).2.2]
    simp only [m_sI, m_sL, m_sR, m_zap, m_grid, m_up, m_cl, true_and, and_true, and_self, if_true, if_false, false_and, and_false]
    repeat (first | rw [if_pos (by omega)] | rw [if_neg (by omega)])
    rw [(sm7 19 (by omega) 6).2.2]
    simp only [m_sI, m_sL, m_sR, m_zap, m_grid, m_up, m_cl, true_and, and_true, and_self, if_true, if_false, false_and, and_false]
    repeat (first | rw [if_pos (by omega)] | rw [if_neg (by omega)])
    rw [(sm6 19 (by omega) 6).2.2]
    simp only [m_sI, m_sL, m_sR, m_zap, m_grid, m_up, m_cl, true_and, and_true, and_self, if_true, if_false, false_and, and_false]
    repeat (first | rw [if_pos (by omega)] | rw [if_neg (by omega)])
    rw [(sm5 19 (by omega) 6).2.2]
    simp only [m_sI, m_sL, m_sR, m_zap, m_grid, m_up, m_cl, true_and, and_true, and_self, if_true, if_false, false_and, and_false]
    repeat (first | rw [if_pos (by omega)] | rw [if_neg (by omega)])
    exact r6_4
  · simp only [m_sI, m_sL, m_sR, m_zap, m_grid, m_up, m_cl, true_and, and_true, and_self, if_true, if_false, false_and, and_false]
    repeat (first | rw [if_pos (by omega)] | rw [if_neg (by omega)])
    rw [(sm10 19 (by omega) 7).2.2]
    simp only [m_sI, m_sL, m_sR, m_zap, m_grid, m_up, m_cl, true_and, and_true, and_self, if_true, if_false, false_and, and_false]
    repeat (first | rw [if_pos (by omega)] | rw [if_neg (by omega)])
    rw [(sm9 19 (by omega) 7).2.2]
    simp only [m_sI, m_sL, m_sR, m_zap, m_grid, m_up, m_cl, true_and, and_true, and_self, if_true, if_false, false_and, and_false]
    repeat (first | rw [if_pos (by omega)] | rw [if_neg (by omega)])
    rw [(sm8 19 (by omega) 7).2.2]
    simp only [m_sI, m_sL, m_sR, m_zap, m_grid, m_up, m_cl, true_and, and_true, and_self, if_true, if_false, false_and, and_false]
    repeat (first | rw [if_pos (by omega)] | rw [if_neg (by omega)])
    rw [(sm7 19 (by omega) 7).2.2]
    simp only [m_sI, m_sL, m_sR, m_zap, m_grid, m_up, m_cl, true_and, and_true, and_self, if_true, if_false, false_and, and_false]
    repeat (first | rw [if_pos (by omega)] | rw [if_neg (by omega)])
    rw [(sm6 19 (by omega) 7).2.2]
    simp only [m_sI, m_sL, m_sR, m_zap, m_grid, m_up, m_cl, true_and, and_true, and_self, if_true, if_false, false_and, and_false]
    repeat (first | rw [if_pos (by omega)] | rw [if_neg (by omega)])
    rw [(sm5 19 (by omega) 7).2.2]
    simp only [m_sI, m_sL, m_sR, m_zap, m_grid, m_up, m_cl, true_and, and_true, and_self, if_true, if_false, false_and, and_false]
    repeat (first | rw [if_pos (by omega)] | rw [if_neg (by omega)])
    exact r7_4
  · simp only [m_sI, m_sL, m_sR, m_zap, m_grid, m_up, m_cl, true_and, and_true, and_self, if_true, if_false, false_and, and_false]
    repeat (first | rw [if_pos (by omega)] | rw [if_neg (by omega)])
    rw [(sm10 19 (by omega) 8).2.2]
    simp only [m_sI, m_sL, m_sR, m_zap, m_grid, m_up, m_cl, true_and, and_true, and_self, if_true, if_false, false_and, and_false]
    repeat (first | rw [if_pos (by omega)] | rw [if_neg (by omega)])
    rw [(sm9 19 (by omega) 8).2.2]
    simp only [m_sI, m_sL, m_sR, m_zap, m_grid, m_up, m_cl, true_and, and_true, and_self, if_true, if_false, false_and, and_false]
    repeat (first | rw [if_pos (by omega)] | rw [if_neg (by omega)])
    rw [(sm8 19 (by omega) 8).2.2]
    simp only [m_sI, m_sL, m_sR, m_zap, m_grid, m_up, m_cl, true_and, and_true, and_self, if_true, if_false, false_and, and_false]
    repeat (first | rw [if_pos (by omega)] | rw [if_neg (by omega)])
    rw [(sm7 19 (by omega) 8).2.2]
    simp only [m_sI, m_sL, m_sR, m_zap, m_grid, m_up, m_cl, true_and, and_true, and_self, if_true, if_false, false_and, and_false]
    repeat (first | rw [if_pos (by omega)] | rw [if_neg (by omega)])
    rw [(sm6 19 (by omega) 8).2.2]
    simp only [m_sI, m_sL, m_sR, m_zap, m_grid, m_up, m_cl, true_and, and_true, and_self, if_true, if_false, false_and, and_false]
    repeat (first | rw [if_pos (by omega)] | rw [if_neg (by omega)])
    rw [(sm5 19 (by omega) 8).2.2]
    simp only [m_sI, m_sL, m_sR, m_zap, m_grid, m_up, m_cl, true_and, and_true, and_self, if_true, if_false, false_and, and_false]
    repeat (first | rw [if_pos (by omega)] | rw [if_neg (by omega)])
    exact r8_4
  · simp only [m_sI, m_sL, m_sR, m_zap, m_grid, m_up, m_cl, true_and, and_true, and_self, if_true, if_false, false_and, and_false]
    repeat (first | rw [if_pos (by omega)] | rw [if_neg (by omega)])
    rw [(sm10 19 (by omega) 12).1]
    simp only [m_sI, m_sL, m_sR, m_zap, m_grid, m_up, m_cl, true_and, and_true, and_self, if_true, if_false, false_and, and_false]
    repeat (first | rw [if_pos (by omega)] | rw [if_neg (by omega)])
    rw [(sm9 19 (by omega) 12).1]
    simp only [m_sI, m_sL, m_sR, m_zap, m_grid, m_up, m_cl, true_and, and_true, and_self, if_true, if_false, false_and, and_false]
    repeat (first | rw [if_pos (by omega)] | rw [if_neg (by omega)])
    rw [(sm8 19 (by omega) 12).1]
    simp only [m_sI, m_sL, m_sR, m_zap, m_grid, m_up, m_cl, true_and, and_true, and_self, if_true, if_false, false_and, and_false]
    repeat (first | rw [if_pos (by omega)] | rw [if_neg (by omega)])
    rw [(sm7 19 (by omega) 12).1]
    simp only [m_sI, m_sL, m_sR, m_zap, m_grid, m_up, m_cl, true_and, and_true, and_self, if_true, if_false, false_and, and_false]
    repeat (first | rw [if_pos (by omega)] | rw [if_neg (by omega)])
    rw [(sm6 19 (by omega) 12).1]
    simp only [m_sI, m_sL, m_sR, m_zap, m_grid, m_up, m_cl, true_and, and_true, and_self, if_true, if_false, false_and, and_false]
    repeat (first | rw [if_pos (by omega)] | rw [if_neg (by omega)])
    rw [(sm5 19 (by omega) 12).1]
    simp only [m_sI, m_sL, m_sR, m_zap, m_grid, m_up, m_cl, true_and, and_true, and_self, if_true, if_false, false_and, and_false]
    repeat (first | rw [if_pos (by omega)] | rw [if_neg (by omega)])
    rw [sI_4]
    simp only [m_sI, m_sL, m_sR, m_zap, m_grid, m_up, m_cl, true_and, and_true, and_self, if_true, if_false, false_and, and_false]
    repeat (first | rw [if_pos (by omega)] | rw [if_neg (by omega)])
  · simp only [m_sI, m_sL, m_sR, m_zap, m_grid, m_up, m_cl, true_and, and_true, and_self, if_true, if_false, false_and, and_false]
    repeat (first | rw [if_pos (by omega)] | rw [if_neg (by omega)])
    rw [(sm10 19 (by omega) 15).1]
    simp only [m_sI, m_sL, m_sR, m_zap, m_grid, m_up, m_cl, true_and, and_true, and_self, if_true, if_false, false_and, and_false]
    repeat (first | rw [if_pos (by omega)] | rw [if_neg (by omega)])
    rw [(sm9 19 (by omega) 15).1]
    simp only [m_sI, m_sL, m_sR, m_zap, m_grid, m_up, m_cl, true_and, and_true, and_self, if_true, if_false, false_and, and_false]
    repeat (first | rw [if_pos (by omega)] | rw [if_neg (by omega)])
    rw [(sm8 19 (by omega) 15).1]
    simp only [m_sI, m_sL, m_sR, m_zap, m_grid, m_up, m_cl, true_and, and_true, and_self, if_true, if_false, false_and, and_false]
    repeat (first | rw [if_pos (by omega)] | rw [if_neg (by omega)])
    rw [(sm7 19 (by omega) 15).1]
    simp only [m_sI, m_sL, m_sR, m_zap, m_grid, m_up, m_cl, true_and, and_true, and_self, if_true, if_false, false_and, and_false]
    repeat (first | rw [if_pos (by omega)] | rw [if_neg (by omega)])
    rw [(sm6 19 (by omega) 15).1]
    simp only [m_sI, m_sL, m_sR, m_zap, m_grid, m_up, m_cl, true_and, and_true, and_self, if_true, if_false, false_and, and_false]
    repeat (first | rw [if_pos (by omega)] | rw [if_neg (by omega)])
    rw [(sm5 19 (by omega) 15).1]
    simp only [m_sI, m_sL, m_sR, m_zap, m_grid, m_up, m_cl, true_and, and_true, and_self, if_true, if_false, false_and, and_false]
    repeat (first | rw [if_pos (by omega)] | rw [if_neg (by omega)])
    rw [sI_4]
    simp only [m_sI, m_sL, m_sR, m_zap, m_grid, m_up, m_cl, true_and, and_true, and_self, if_true, if_false, false_and, and_false]
    repeat (first | rw [if_pos (by omega)] | rw [if_neg (by omega)])
  · simp only [m_sI, m_sL, m_sR, m_zap, m_grid, m_up, m_cl, true_and, and_true, and_self, if_true, if_false, false_and, and_false]
    repeat (first | rw [if_pos (by omega)] | rw [if_neg (by omega)])
    rw [(sm10 32 (by omega) 0).1]
    simp only [m_sI, m_sL, m_sR, m_zap, m_grid, m_up, m_cl, true_and, and_true, and_self, if_true, if_false, false_and, and_false]
    repeat (first | rw [if_pos (by omega)] | rw [if_neg (by omega)])
    rw [(sm9 32 (by omega) 0).1]
    simp only [m_sI, m_sL, m_sR, m_zap, m_grid, m_up, m_cl, true_and, and_true, and_self, if_true, if_false, false_and, and_false]
    repeat (first | rw [if_pos (by omega)] | rw [if_neg (by omega)])
    rw [(sm8 32 (by omega) 0).1]
    simp only [m_sI, m_sL, m_sR, m_zap, m_grid, m_up, m_cl, true_and, and_true, and_self, if_true, if_false, false_and, and_false]
    repeat (first | rw [if_pos (by omega)] | rw [if_neg (by omega)])
    rw [(sm7 32 (by omega) 0).1]
    simp only [m_sI, m_sL, m_sR, m_zap, m_grid, m_up, m_cl, true_and, and_true, and_self, if_true, if_false, false_and, and_false]
    repeat (first | rw [if_pos (by omega)] | rw [if_neg (by omega)])
    rw [(sm6 32 (by omega) 0).1]
    simp only [m_sI, m_sL, m_sR, m_zap, m_grid, m_up, m_cl, true_and, and_true, and_self, if_true, if_false, false_and, and_false]
    repeat (first | rw [if_pos (by omega)] | rw [if_neg (by omega)])
    exact i0_5
  · simp only [m_sI, m_sL, m_sR, m_zap, m_grid, m_up, m_cl, true_and, and_true, and_self, if_true, if_false, false_and, and_false]
    repeat (first | rw [if_pos (by omega)] | rw [if_neg (by omega)])
    rw [(sm10 32 (by omega) 1).1]
    simp only [m_sI, m_sL, m_sR, m_zap, m_grid, m_up, m_cl, true_and, and_true, and_self, if_true, if_false, false_and, and_false]
    repeat (first | rw [if_pos (by omega)] | rw [if_neg (by omega)])
    rw [(sm9 32 (by omega) 1).1]
    simp only [m_sI, m_sL, m_sR, m_zap, m_grid, m_up, m_cl, true_and, and_true, and_self, if_true, if_false, false_and, and_false]
    repeat (first | rw [if_pos (by omega)] | rw [if_neg (by omega)])
    rw [(sm8 32 (by omega) 1).1]
    simp only [m_sI, m_sL, m_sR, m_zap, m_grid, m_up, m_cl, true_and, and_true, and_self, if_true, if_false, false_and, and_false]
    repeat (first | rw [if_pos (by omega)] | rw [if_neg (by omega)])
    rw [(sm7 32 (by omega) 1).1]
    simp only [m_sI, m_sL, m_sR, m_zap, m_grid, m_up, m_cl, true_and, and_true, and_self, if_true, if_false, false_and, and_false]
    repeat (first | rw [if_pos (by omega)] | rw [if_neg (by omega)])
    rw [(sm6 32 (by omega) 1).1]
    simp only [m_sI, m_sL, m_sR, m_zap, m_grid, m_up, m_cl, true_and, and_true, and_self, if_true, if_false, false_and, and_false]
    repeat (first | rw [if_pos (by omega)] | rw [if_neg (by omega)])
    exact i1_5
  · simp only [m_sI, m_sL, m_sR, m_zap, m_grid, m_up, m_cl, true_and, and_true, and_self, if_true, if_false, false_and, and_false]
    repeat (first | rw [if_pos (by omega)] | rw [if_neg (by omega)])
    rw [(sm10 32 (by omega) 2).1]
    simp only [m_sI, m_sL, m_sR, m_zap, m_grid, m_up, m_cl, true_and, and_true, and_self, if_true, if_false, false_and, and_false]
    repeat (first | rw [if_pos (by omega)] | rw [if_neg (by omega)])
    rw [(sm9 32 (by omega) 2).1]
    simp only [m_sI, m_sL, m_sR, m_zap, m_grid, m_up, m_cl, true_and, and_true, and_self, if_true, if_false, false_and, and_false]
    repeat (first | rw [if_pos (by omega)] | rw [if_neg (by omega)])
    rw [(sm8 32 (by omega) 2).1]
    simp only [m_sI, m_sL, m_sR, m_zap, m_grid, m_up, m_cl, true_and, and_true, and_self, if_true, if_false, false_and, and_false]
    repeat (first | rw [if_pos (by omega)] | rw [if_neg (by omega)])
    rw [(sm7 32 (by omega) 2).1]
    simp only [m_sI, m_sL, m_sR, m_zap, m_grid, m_up, m_cl, true_and, and_true, and_self, if_true, if_false, false_and, and_false]
    repeat (first | rw [if_pos (by omega)] | rw [if_neg (by omega)])
    rw [(sm6 32 (by omega) 2).1]
    simp only [m_sI, m_sL, m_sR, m_zap, m_grid, m_up, m_cl, true_and, and_true, and_self, if_true, if_false, false_and, and_false]
    repeat (first | rw [if_pos (by omega)] | rw [if_neg (by omega)])
    exact i2_5
  · simp only [m_sI, m_sL, m_sR, m_zap, m_grid, m_up, m_cl, true_and, and_true, and_self, if_true, if_false, false_and, and_false]
    repeat (first | rw [if_pos (by omega)] | rw [if_neg (by omega)])
    rw [(sm10 32 (by omega) 3).1]
    simp only [m_sI, m_sL, m_sR, m_zap, m_grid, m_up, m_cl, true_and, and_true, and_self, if_true, if_false, false_and, and_false]
    repeat (first | rw [if_pos (by omega)] | rw [if_neg (by omega)])
    rw [(sm9 32 (by omega) 3).1]
    simp only [m_sI, m_sL, m_sR, m_zap, m_grid, m_up, m_cl, true_and, and_true, and_self, if_true, if_false, false_and, and_false]
    repeat (first | rw [if_pos (by omega)] | rw [if_neg (by omega)])
    rw [(sm8 32 (by omega) 3).1]
    simp only [m_sI, m_sL, m_sR, m_zap, m_grid, m_up, m_cl, true_and, and_true, and_self, if_true, if_false, false_and, and_false]
    repeat (first | rw [if_pos (by omega)] | rw [if_neg (by omega)])
    rw [(sm7 32 (by omega) 3).1]
    simp only [m_sI, m_sL, m_sR, m_zap, m_grid, m_up, m_cl, true_and, and_true, and_self, if_true, if_false, false_and, and_false]
    repeat (first | rw [if_pos (by omega)] | rw [if_neg (by omega)])
    rw [(sm6 32 (by omega) 3).1]
    simp only [m_sI, m_sL, m_sR, m_zap, m_grid, m_up, m_cl, true_and, and_true, and_self, if_true, if_false, false_and, and_false]
    repeat (first | rw [if_pos (by omega)] | rw [if_neg (by omega)])
    exact i3_5
  · simp only [m_sI, m_sL, m_sR, m_zap, m_grid, m_up, m_cl, true_and, and_true, and_self, if_true, if_false, false_and, and_false]
    repeat (first | rw [if_pos (by omega)] | rw [if_neg (by omega)])
    rw [(sm10 32 (by omega) 4).1]
    simp only [m_sI, m_sL, m_sR, m_zap, m_grid, m_up, m_cl, true_and, and_true, and_self, if_true, if_false, false_and, and_false]
    repeat (first | rw [if_pos (by omega)] | rw [if_neg (by omega)])
    rw [(sm9 32 (by omega) 4).1]
    simp only [m_sI, m_sL, m_sR, m_zap, m_grid, m_up, m_cl, true_and, and_true, and_self, if_true, if_false, false_and, and_false]
    repeat (first | rw [if_pos (by omega)] | rw [if_neg (by omega)])
    rw [(sm8 32 (by omega) 4).1]
    simp only [m_sI, m_sL, m_sR, m_zap, m_grid, m_up, m_cl, true_and, and_true, and_self, if_true, if_false, false_and, and_false]
    repeat (first | rw [if_pos (by omega)] | rw [if_neg (by omega)])
    rw [(sm7 32 (by omega) 4).1]
    simp only [m_sI, m_sL, m_sR, m_zap, m_grid, m_up, m_cl, true_and, and_true, and_self, if_true, if_false, false_and, and_false]
    repeat (first | rw [if_pos (by omega)] | rw [if_neg (by omega)])
    rw [(sm6 32 (by omega) 4).1]
    simp only [m_sI, m_sL, m_sR, m_zap, m_grid, m_up, m_cl, true_and, and_true, and_self, if_true, if_false, false_and, and_false]
    repeat (first | rw [if_pos (by omega)] | rw [if_neg (by omega)])
    exact i4_5
  · simp only [m_sI, m_sL, m_sR, m_zap, m_grid, m_up, m_cl, true_and, and_true, and_self, if_true, if_false, false_and, and_false]
    repeat (first | rw [if_pos (by omega)] | rw [if_neg (by omega)])
    rw [(sm10 58 (by omega) 0).1]
    simp only [m_sI, m_sL, m_sR, m_zap, m_grid, m_up, m_cl, true_and, and_true, and_self, if_true, if_false, false_and, and_false]
    repeat (first | rw [if_pos (by omega)] | rw [if_neg (by omega)])
    rw [sI_9]
    simp only [m_sI, m_sL, m_sR, m_zap, m_grid, m_up, m_cl, true_and, and_true, and_self, if_true, if_false, false_and, and_false]
    repeat (first | rw [if_pos (by omega)] | rw [if_neg (by omega)])
  · simp only [m_sI, m_sL, m_sR, m_zap, m_grid, m_up, m_cl, true_and, and_true, and_self, if_true, if_false, false_and, and_false]
    repeat (first | rw [if_pos (by omega)] | rw [if_neg (by omega)])
    rw [(sm10 9 (by omega) _).1]
    simp only [m_sI, m_sL, m_sR, m_zap, m_grid, m_up, m_cl, true_and, and_true, and_self, if_true, if_false, false_and, and_false]
    repeat (first | rw [if_pos (by omega)] | rw [if_neg (by omega)])
    rw [(sm9 9 (by omega) _).1]
    simp only [m_sI, m_sL, m_sR, m_zap, m_grid, m_up, m_cl, true_and, and_true, and_self, if_true, if_false, false_and, and_false]
    repeat (first | rw [if_pos (by omega)] | rw [if_neg (by omega)])
    rw [(sm8 9 (by omega) _).1]
    simp only [m_sI, m_sL, m_sR, m_zap, m_grid, m_up, m_cl, true_and, and_true, and_self, if_true, if_false, false_and, and_false]
    repeat (first | rw [if_pos (by omega)] | rw [if_neg (by omega)])
    rw [(sm7 9 (by omega) _).1]
    simp only [m_sI, m_sL, m_sR, m_zap, m_grid, m_up, m_cl, true_and, and_true, and_self, if_true, if_false, false_and, and_false]
    repeat (first | rw [if_pos (by omega)] | rw [if_neg (by omega)])
    rw [(sm6 9 (by omega) _).1]
    simp only [m_sI, m_sL, m_sR, m_zap, m_grid, m_up, m_cl, true_and, and_true, and_self, if_true, if_false, false_and, and_false]
    repeat (first | rw [if_pos (by omega)] | rw [if_neg (by omega)])
    rw [(sm5 9 (by omega) _).1]
    simp only [m_sI, m_sL, m_sR, m_zap, m_grid, m_up, m_cl, true_and, and_true, and_self, if_true, if_false, false_and, and_false]
    repeat (first | rw [if_pos (by omega)] | rw [if_neg (by omega)])
    rw [(sm4 9 (by omega) _).1]
    simp only [m_sI, m_sL, m_sR, m_zap, m_grid, m_up, m_cl, true_and, and_true, and_self, if_true, if_false, false_and, and_false]
    repeat (first | rw [if_pos (by omega)] | rw [if_neg (by omega)])
    rw [(sm3 9 (by omega) _).1]
    simp only [m_sI, m_sL, m_sR, m_zap, m_grid, m_up, m_cl, true_and, and_true, and_self, if_true, if_false, false_and, and_false]
    repeat (first | rw [if_pos (by omega)] | rw [if_neg (by omega)])
    rw [(sm2 9 (by omega) _).1]
    simp only [m_sI, m_sL, m_sR, m_zap, m_grid, m_up, m_cl, true_and, and_true, and_self, if_true, if_false, false_and, and_false]
    repeat (first | rw [if_pos (by omega)] | rw [if_neg (by omega)])
    exact rs_1 r hr
  · simp only [m_sI, m_sL, m_sR, m_zap, m_grid, m_up, m_cl, true_and, and_true, and_self, if_true, if_false, false_and, and_false]
    repeat (first | rw [if_pos (by omega)] | rw [if_neg (by omega)])
    rw [(sm10 (3 + r) (by omega) i).1]
    simp only [m_sI, m_sL, m_sR, m_zap, m_grid, m_up, m_cl, true_and, and_true, and_self, if_true, if_false, false_and, and_false]
    repeat (first | rw [if_pos (by omega)] | rw [if_neg (by omega)])
    rw [(sm9 (3 + r) (by omega) i).1]
    simp only [m_sI, m_sL, m_sR, m_zap, m_grid, m_up, m_cl, true_and, and_true, and_self, if_true, if_false, false_and, and_false]
    repeat (first | rw [if_pos (by omega)] | rw [if_neg (by omega)])
    rw [(sm8 (3 + r) (by omega) i).1]
    simp only [m_sI, m_sL, m_sR, m_zap, m_grid, m_up, m_cl, true_and, and_true, and_self, if_true, if_false, false_and, and_false]
    repeat (first | rw [if_pos (by omega)] | rw [if_neg (by omega)])
    rw [(sm7 (3 + r) (by omega) i).1]
    simp only [m_sI, m_sL, m_sR, m_zap, m_grid, m_up, m_cl, true_and, and_true, and_self, if_true, if_false, false_and, and_false]
    repeat (first | rw [if_pos (by omega)] | rw [if_neg (by omega)])
    rw [(sm6 (3 + r) (by omega) i).1]
    simp only [m_sI, m_sL, m_sR, m_zap, m_grid, m_up, m_cl, true_and, and_true, and_self, if_true, if_false, false_and, and_false]
    repeat (first | rw [if_pos (by omega)] | rw [if_neg (by omega)])
    rw [(sm5 (3 + r) (by omega) i).1]
    simp only [m_sI, m_sL, m_sR, m_zap, m_grid, m_up, m_cl, true_and, and_true, and_self, if_true, if_false, false_and, and_false]
    repeat (first | rw [if_pos (by omega)] | rw [if_neg (by omega)])
    rw [(sm4 (3 + r) (by omega) i).1]
    simp only [m_sI, m_sL, m_sR, m_zap, m_grid, m_up, m_cl, true_and, and_true, and_self, if_true, if_false, false_and, and_false]
    repeat (first | rw [if_pos (by omega)] | rw [if_neg (by omega)])
    rw [(sm3 (3 + r) (by omega) i).1]
    simp only [m_sI, m_sL, m_sR, m_zap, m_grid, m_up, m_cl, true_and, and_true, and_self, if_true, if_false, false_and, and_false]
    repeat (first | rw [if_pos (by omega)] | rw [if_neg (by omega)])
    rw [(sm2 (3 + r) (by omega) i).1]
    simp only [m_sI, m_sL, m_sR, m_zap, m_grid, m_up, m_cl, true_and, and_true, and_self, if_true, if_false, false_and, and_false]
    repeat (first | rw [if_pos (by omega)] | rw [if_neg (by omega)])
    exact rz_1 r hr i
  · simp only [m_sI, m_sL, m_sR, m_zap, m_grid, m_up, m_cl, true_and, and_true, and_self, if_true, if_false, false_and, and_false]
    repeat (first | rw [if_pos (by omega)] | rw [if_neg (by omega)])
    rw [(sm10 16 (by omega) _).1]
    simp only [m_sI, m_sL, m_sR, m_zap, m_grid, m_up, m_cl, true_and, and_true, and_self, if_true, if_false, false_and, and_false]
    repeat (first | rw [if_pos (by omega)] | rw [if_neg (by omega)])
    rw [(sm9 16 (by omega) _).1]
    simp only [m_sI, m_sL, m_sR, m_zap, m_grid, m_up, m_cl, true_and, and_true, and_self, if_true, if_false, false_and, and_false]
    repeat (first | rw [if_pos (by omega)] | rw [if_neg (by omega)])
    rw [(sm8 16 (by omega) _).1]
    simp only [m_sI, m_sL, m_sR, m_zap, m_grid, m_up, m_cl, true_and, and_true, and_self, if_true, if_false, false_and, and_false]
    repeat (first | rw [if_pos (by omega)] | rw [if_neg (by omega)])
    rw [(sm7 16 (by omega) _).1]
    simp only [m_sI, m_sL, m_sR, m_zap, m_grid, m_up, m_cl, true_and, and_true, and_self, if_true, if_false, false_and, and_false]
    repeat (first | rw [if_pos (by omega)] | rw [if_neg (by omega)])
    rw [(sm6 16 (by omega) _).1]
    simp only [m_sI, m_sL, m_sR, m_zap, m_grid, m_up, m_cl, true_and, and_true, and_self, if_true, if_false, false_and, and_false]
    repeat (first | rw [if_pos (by omega)] | rw [if_neg (by omega)])
    rw [(sm5 16 (by omega) _).1]
    simp only [m_sI, m_sL, m_sR, m_zap, m_grid, m_up, m_cl, true_and, and_true, and_self, if_true, if_false, false_and, and_false]
    repeat (first | rw [if_pos (by omega)] | rw [if_neg (by omega)])
    rw [(sm4 16 (by omega) _).1]
    simp only [m_sI, m_sL, m_sR, m_zap, m_grid, m_up, m_cl, true_and, and_true, and_self, if_true, if_false, false_and, and_false]
    repeat (first | rw [if_pos (by omega)] | rw [if_neg (by omega)])
    rw [(sm3 16 (by omega) _).1]
    simp only [m_sI, m_sL, m_sR, m_zap, m_grid, m_up, m_cl, true_and, and_true, and_self, if_true, if_false, false_and, and_false]
    repeat (first | rw [if_pos (by omega)] | rw [if_neg (by omega)])
    exact rs_2 t ht
  · simp only [m_sI, m_sL, m_sR, m_zap, m_grid, m_up, m_cl, true_and, and_true, and_self, if_true, if_false, false_and, and_false]
    repeat (first | rw [if_pos (by omega)] | rw [if_neg (by omega)])
    rw [(sm10 (12 + t) (by omega) i).1]
    simp only [m_sI, m_sL, m_sR, m_zap, m_grid, m_up, m_cl, true_and, and_true, and_self, if_true, if_false, false_and, and_false]
    repeat (first | rw [if_pos (by omega)] | rw [if_neg (by omega)])
    rw [(sm9 (12 + t) (by omega) i).1]
    simp only [m_sI, m_sL, m_sR, m_zap, m_grid, m_up, m_cl, true_and, and_true, and_self, if_true, if_false, false_and, and_false]
    repeat (first | rw [if_pos (by omega)] | rw [if_neg (by omega)])
    rw [(sm8 (12 + t) (by omega) i).1]
    simp only [m_sI, m_sL, m_sR, m_zap, m_grid, m_up, m_cl, true_and, and_true, and_self, if_true, if_false, false_and, and_false]
    repeat (first | rw [if_pos (by omega)] | rw [if_neg (by omega)])
    rw [(sm7 (12 + t) (by omega) i).1]
    simp only [m_sI, m_sL, m_sR, m_zap, m_grid, m_up, m_cl, true_and, and_true, and_self, if_true, if_false, false_and, and_false]
    repeat (first | rw [if_pos (by omega)] | rw [if_neg (by omega)])
    rw [(sm6 (12 + t) (by omega) i).1]
    simp only [m_sI, m_sL, m_sR, m_zap, m_grid, m_up, m_cl, true_and, and_true, and_self, if_true, if_false, false_and, and_false]
    repeat (first | rw [if_pos (by omega)] | rw [if_neg (by omega)])
    rw [(sm5 (12 + t) (by omega) i).1]
    simp only [m_sI, m_sL, m_sR, m_zap, m_grid, m_up, m_cl, true_and, and_true, and_self, if_true, if_false, false_and, and_false]
    repeat (first | rw [if_pos (by omega)] | rw [if_neg (by omega)])
    rw [(sm4 (12 + t) (by omega) i).1]
    simp only [m_sI, m_sL, m_sR, m_zap, m_grid, m_up, m_cl, true_and, and_true, and_self, if_true, if_false, false_and, and_false]
    repeat (first | rw [if_pos (by omega)] | rw [if_neg (by omega)])
    rw [(sm3 (12 + t) (by omega) i).1]
    simp only [m_sI, m_sL, m_sR, m_zap, m_grid, m_up, m_cl, true_and, and_true, and_self, if_true, if_false, false_and, and_false]
    repeat (first | rw [if_pos (by omega)] | rw [if_neg (by omega)])
    exact rz_2 t ht i
  · simp only [m_sI, m_sL, m_sR, m_zap, m_grid, m_up, m_cl, true_and, and_true, and_self, if_true, if_false, false_and, and_false]
    repeat (first | rw [if_pos (by omega)] | rw [if_neg (by omega)])
    rw [(sm10 0 (by omega) 10).1]
    simp only [m_sI, m_sL, m_sR, m_zap, m_grid, m_up, m_cl, true_and, and_true, and_self, if_true, if_false, false_and, and_false]
    repeat (first | rw [if_pos (by omega)] | rw [if_neg (by omega)])
    rw [(sm9 0 (by omega) 10).1]
    simp only [m_sI, m_sL, m_sR, m_zap, m_grid, m_up, m_cl, true_and, and_true, and_self, if_true, if_false, false_and, and_false]
    repeat (first | rw [if_pos (by omega)] | rw [if_neg (by omega)])
    rw [(sm8 0 (by omega) 10).1]
    simp only [m_sI, m_sL, m_sR, m_zap, m_grid, m_up, m_cl, true_and, and_true, and_self, if_true, if_false, false_and, and_false]
    repeat (first | rw [if_pos (by omega)] | rw [if_neg (by omega)])
    rw [(sm7 0 (by omega) 10).1]
    simp only [m_sI, m_sL, m_sR, m_zap, m_grid, m_up, m_cl, true_and, and_true, and_self, if_true, if_false, false_and, and_false]
    repeat (first | rw [if_pos (by omega)] | rw [if_neg (by omega)])
    rw [(sm6 0 (by omega) 10).1]
    simp only [m_sI, m_sL, m_sR, m_zap, m_grid, m_up, m_cl, true_and, and_true, and_self, if_true, if_false, false_and, and_false]
    repeat (first | rw [if_pos (by omega)] | rw [if_neg (by omega)])
    rw [(sm5 0 (by omega) 10).1]
    simp only [m_sI, m_sL, m_sR, m_zap, m_grid, m_up, m_cl, true_and, and_true, and_self, if_true, if_false, false_and, and_false]
    repeat (first | rw [if_pos (by omega)] | rw [if_neg (by omega)])
    rw [(sm4 0 (by omega) 10).1]
    simp only [m_sI, m_sL, m_sR, m_zap, m_grid, m_up, m_cl, true_and, and_true, and_self, if_true, if_false, false_and, and_false]
    repeat (first | rw [if_pos (by omega)] | rw [if_neg (by omega)])
    rw [(sm3 0 (by omega) 10).1]
    simp only [m_sI, m_sL, m_sR, m_zap, m_grid, m_up, m_cl, true_and, and_true, and_self, if_true, if_false, false_and, and_false]
    repeat (first | rw [if_pos (by omega)] | rw [if_neg (by omega)])
    rw [(sm2 0 (by omega) 10).1]
    simp only [m_sI, m_sL, m_sR, m_zap, m_grid, m_up, m_cl, true_and, and_true, and_self, if_true, if_false, false_and, and_false]
    repeat (first | rw [if_pos (by omega)] | rw [if_neg (by omega)])
    rw [(sm1 0 (by omega) 10).1]
    simp only [m_sI, m_sL, m_sR, m_zap, m_grid, m_up, m_cl, true_and, and_true, and_self, if_true, if_false, false_and, and_false]
    repeat (first | rw [if_pos (by omega)] | rw [if_neg (by omega)])
    exact hI 10
  · simp only [m_sI, m_sL, m_sR, m_zap, m_grid, m_up, m_cl, true_and, and_true, and_self, if_true, if_false, false_and, and_false]
    repeat (first | rw [if_pos (by omega)] | rw [if_neg (by omega)])
    rw [(sm10 0 (by omega) 11).1]
    simp only [m_sI, m_sL, m_sR, m_zap, m_grid, m_up, m_cl, true_and, and_true, and_self, if_true, if_false, false_and, and_false]
    repeat (first | rw [if_pos (by omega)] | rw [if_neg (by omega)])
    rw [(sm9 0 (by omega) 11).1]
    simp only [m_sI, m_sL, m_sR, m_zap, m_grid, m_up, m_cl, true_and, and_true, and_self, if_true, if_false, false_and, and_false]
    repeat (first | rw [if_pos (by omega)] | rw [if_neg (by omega)])
    rw [(sm8 0 (by omega) 11).1]
    simp only [m_sI, m_sL, m_sR, m_zap, m_grid, m_up, m_cl, true_and, and_true, and_self, if_true, if_false, false_and, and_false]
    repeat (first | rw [if_pos (by omega)] | rw [if_neg (by omega)])
    rw [(sm7 0 (by omega) 11).1]
    simp only [m_sI, m_sL, m_sR, m_zap, m_grid, m_up, m_cl, true_and, and_true, and_self, if_true, if_false, false_and, and_false]
    repeat (first | rw [if_pos (by omega)] | rw [if_neg (by omega)])
    rw [(sm6 0 (by omega) 11).1]
    simp only [m_sI, m_sL, m_sR, m_zap, m_grid, m_up, m_cl, true_and, and_true, and_self, if_true, if_false, false_and, and_false]
    repeat (first | rw [if_pos (by omega)] | rw [if_neg (by omega)])
    rw [(sm5 0 (by omega) 11).1]
    simp only [m_sI, m_sL, m_sR, m_zap, m_grid, m_up, m_cl, true_and, and_true, and_self, if_true, if_false, false_and, and_false]
    repeat (first | rw [if_pos (by omega)] | rw [if_neg (by omega)])
    rw [(sm4 0 (by omega) 11).1]
    simp only [m_sI, m_sL, m_sR, m_zap, m_grid, m_up, m_cl, true_and, and_true, and_self, if_true, if_false, false_and, and_false]
    repeat (first | rw [if_pos (by omega)] | rw [if_neg (by omega)])
    rw [(sm3 0 (by omega) 11).1]
    simp only [m_sI, m_sL, m_sR, m_zap, m_grid, m_up, m_cl, true_and, and_true, and_self, if_true, if_false, false_and, and_false]
    repeat (first | rw [if_pos (by omega)] | rw [if_neg (by omega)])
    rw [(sm2 0 (by omega) 11).1]
    simp only [m_sI, m_sL, m_sR, m_zap, m_grid, m_up, m_cl, true_and, and_true, and_self, if_true, if_false, false_and, and_false]
    repeat (first | rw [if_pos (by omega)] | rw [if_neg (by omega)])
    rw [(sm1 0 (by omega) 11).1]
    simp only [m_sI, m_sL, m_sR, m_zap, m_grid, m_up, m_cl, true_and, and_true, and_self, if_true, if_false, false_and, and_false]
    repeat (first | rw [if_pos (by omega)] | rw [if_neg (by omega)])
    exact hI 11
  · simp only [m_sI, m_sL, m_sR, m_zap, m_grid, m_up, m_cl, true_and, and_true, and_self, if_true, if_false, false_and, and_false]
    repeat (first | rw [if_pos (by omega)] | rw [if_neg (by omega)])
    rw [(sm10 0 (by omega) 13).1]
    simp only [m_sI, m_sL, m_sR, m_zap, m_grid, m_up, m_cl, true_and, and_true, and_self, if_true, if_false, false_and, and_false]
    repeat (first | rw [if_pos (by omega)] | rw [if_neg (by omega)])
    rw [(sm9 0 (by omega) 13).1]
    simp only [m_sI, m_sL, m_sR, m_zap, m_grid, m_up, m_cl, true_and, and_true, and_self, if_true, if_false, false_and, and_false]
    repeat (first | rw [if_pos (by omega)] | rw [if_neg (by omega)])
    rw [(sm8 0 (by omega) 13).1]
    simp only [m_sI, m_sL, m_sR, m_zap, m_grid, m_up, m_cl, true_and, and_true, and_self, if_true, if_false, false_and, and_false]
    repeat (first | rw [if_pos (by omega)] | rw [if_neg (by omega)])
    rw [(sm7 0 (by omega) 13).1]
    simp only [m_sI, m_sL, m_sR, m_zap, m_grid, m_up, m_cl, true_and, and_true, and_self, if_true, if_false, false_and, and_false]
    repeat (first | rw [if_pos (by omega)] | rw [if_neg (by omega)])
    rw [(sm6 0 (by omega) 13).1]
    simp only [m_sI, m_sL, m_sR, m_zap, m_grid, m_up, m_cl, true_and, and_true, and_self, if_true, if_false, false_and, and_false]
    repeat (first | rw [if_pos (by omega)] | rw [if_neg (by omega)])
    rw [(sm5 0 (by omega) 13).1]
    simp only [m_sI, m_sL, m_sR, m_zap, m_grid, m_up, m_cl, true_and, and_true, and_self, if_true, if_false, false_and, and_false]
    repeat (first | rw [if_pos (by omega)] | rw [if_neg (by omega)])
    rw [(sm4 0 (by omega) 13).1]
    simp only [m_sI, m_sL, m_sR, m_zap, m_grid, m_up, m_cl, true_and, and_true, and_self, if_true, if_false, false_and, and_false]
    repeat (first | rw [if_pos (by omega)] | rw [if_neg (by omega)])
    rw [(sm3 0 (by omega) 13).1]
    simp only [m_sI, m_sL, m_sR, m_zap, m_grid, m_up, m_cl, true_and, and_true, and_self, if_true, if_false, false_and, and_false]
    repeat (first | rw [if_pos (by omega)] | rw [if_neg (by omega)])
    rw [(sm2 0 (by omega) 13).1]
    simp only [m_sI, m_sL, m_sR, m_zap, m_grid, m_up, m_cl, true_and, and_true, and_self, if_true, if_false, false_and, and_false]
    repeat (first | rw [if_pos (by omega)] | rw [if_neg (by omega)])
    rw [(sm1 0 (by omega) 13).1]
    simp only [m_sI, m_sL, m_sR, m_zap, m_grid, m_up, m_cl, true_and, and_true, and_self, if_true, if_false, false_and, and_false]
    repeat (first | rw [if_pos (by omega)] | rw [if_neg (by omega)])
    exact hI 13
  · simp only [m_sI, m_sL, m_sR, m_zap, m_grid, m_up, m_cl, true_and, and_true, and_self, if_true, if_false, false_and, and_false]
    repeat (first | rw [if_pos (by omega)] | rw [if_neg (by omega)])
    rw [(sm10 0 (by omega) 14).1]
    simp only [m_sI, m_sL, m_sR, m_zap, m_grid, m_up, m_cl, true_and, and_true, and_self, if_true, if_false, false_and, and_false]
    repeat (first | rw [if_pos (by omega)] | rw [if_neg (by omega)])
    rw [(sm9 0 (by omega) 14).1]
    simp only [m_sI, m_sL, m_sR, m_zap, m_grid, m_up, m_cl, true_and, and_true, and_self, if_true, if_false, false_and, and_false]
    repeat (first | rw [if_pos (by omega)] | rw [if_neg (by omega)])
    rw [(sm8 0 (by omega) 14).1]
    simp only [m_sI, m_sL, m_sR, m_zap, m_grid, m_up, m_cl, true_and, and_true, and_self, if_true, if_false, false_and, and_false]
    repeat (first | rw [if_pos (by omega)] | rw [if_neg (by omega)])
    rw [(sm7 0 (by omega) 14).1]
    simp only [m_sI, m_sL, m_sR, m_zap, m_grid, m_up, m_cl, true_and, and_true, and_self, if_true, if_false, false_and, and_false]
    repeat (first | rw [if_pos (by omega)] | rw [if_neg (by omega)])
    rw [(sm6 0 (by omega) 14).1]
    simp only [m_sI, m_sL, m_sR, m_zap, m_grid, m_up, m_cl, true_and, and_true, and_self, if_true, if_false, false_and, and_false]
    repeat (first | rw [if_pos (by omega)] | rw [if_neg (by omega)])
    rw [(sm5 0 (by omega) 14).1]
    simp only [m_sI, m_sL, m_sR, m_zap, m_grid, m_up, m_cl, true_and, and_true, and_self, if_true, if_false, false_and, and_false]
    repeat (first | rw [if_pos (by omega)] | rw [if_neg (by omega)])
    rw [(sm4 0 (by omega) 14).1]
    simp only [m_sI, m_sL, m_sR, m_zap, m_grid, m_up, m_cl, true_and, and_true, and_self, if_true, if_false, false_and, and_false]
    repeat (first | rw [if_pos (by omega)] | rw [if_neg (by omega)])
    rw [(sm3 0 (by omega) 14).1]
    simp only [m_sI, m_sL, m_sR, m_zap, m_grid, m_up, m_cl, true_and, and_true, and_self, if_true, if_false, false_and, and_false]
    repeat (first | rw [if_pos (by omega)] | rw [if_neg (by omega)])
    rw [(sm2 0 (by omega) 14).1]
    simp only [m_sI, m_sL, m_sR, m_zap, m_grid, m_up, m_cl, true_and, and_true, and_self, if_true, if_false, false_and, and_false]
    repeat (first | rw [if_pos (by omega)] | rw [if_neg (by omega)])
    rw [(sm1 0 (by omega) 14).1]
    simp only [m_sI, m_sL, m_sR, m_zap, m_grid, m_up, m_cl, true_and, and_true, and_self, if_true, if_false, false_and, and_false]
    repeat (first | rw [if_pos (by omega)] | rw [if_neg (by omega)])
    exact hI 14
  · simp only [m_sI, m_sL, m_sR, m_zap, m_grid, m_up, m_cl, true_and, and_true, and_self, if_true, if_false, false_and, and_false]
    repeat (first | rw [if_pos (by omega)] | rw [if_neg (by omega)])
  · simp only [m_sI, m_sL, m_sR, m_zap, m_grid, m_up, m_cl, true_and, and_true, and_self, if_true, if_false, false_and, and_false]
    repeat (first | rw [if_pos (by omega)] | rw [if_neg (by omega)])
    rw [(sm10 0 (by omega) 16).2.1]
    simp only [m_sI, m_sL, m_sR, m_zap, m_grid, m_up, m_cl, true_and, and_true, and_self, if_true, if_false, false_and, and_false]
    repeat (first | rw [if_pos (by omega)] | rw [if_neg (by omega)])
    rw [(sm9 0 (by omega) 16).2.1]
    simp only [m_sI, m_sL, m_sR, m_zap, m_grid, m_up, m_cl, true_and, and_true, and_self, if_true, if_false, false_and, and_false]
    repeat (first | rw [if_pos (by omega)] | rw [if_neg (by omega)])
    rw [(sm8 0 (by omega) 16).2.1]
    simp only [m_sI, m_sL, m_sR, m_zap, m_grid, m_up, m_cl, true_and, and_true, and_self, if_true, if_false, false_and, and_false]
    repeat (first | rw [if_pos (by omega)] | rw [if_neg (by omega)])
    rw [(sm7 0 (by omega) 16).2.1]
    simp only [m_sI, m_sL, m_sR, m_zap, m_grid, m_up, m_cl, true_and, and_true, and_self, if_true, if_false, false_and, and_false]
    repeat (first | rw [if_pos (by omega)] | rw [if_neg (by omega)])
    rw [(sm6 0 (by omega) 16).2.1]
    simp only [m_sI, m_sL, m_sR, m_zap, m_grid, m_up, m_cl, true_and, and_true, and_self, if_true, if_false, false_and, and_false]
    repeat (first | rw [if_pos (by omega)] | rw [if_neg (by omega)])
    rw [(sm5 0 (by omega) 16).2.1]
    simp only [m_sI, m_sL, m_sR, m_zap, m_grid, m_up, m_cl, true_and, and_true, and_self, if_true, if_false, false_and, and_false]
    repeat (first | rw [if_pos (by omega)] | rw [if_neg (by omega)])
    rw [(sm4 0 (by omega) 16).2.1]
    simp only [m_sI, m_sL, m_sR, m_zap, m_grid, m_up, m_cl, true_and, and_true, and_self, if_true, if_false, false_and, and_false]
    repeat (first | rw [if_pos (by omega)] | rw [if_neg (by omega)])
    rw [(sm3 0 (by omega) 16).2.1]
    simp only [m_sI, m_sL, m_sR, m_zap, m_grid, m_up, m_cl, true_and, and_true, and_self, if_true, if_false, false_and, and_false]
    repeat (first | rw [if_pos (by omega)] | rw [if_neg (by omega)])
    rw [(sm2 0 (by omega) 16).2.1]
    simp only [m_sI, m_sL, m_sR, m_zap, m_grid, m_up, m_cl, true_and, and_true, and_self, if_true, if_false, false_and, and_false]
    repeat (first | rw [if_pos (by omega)] | rw [if_neg (by omega)])
    rw [(sm1 0 (by omega) 16).2.1]
    simp only [m_sI, m_sL, m_sR, m_zap, m_grid, m_up, m_cl, true_and, and_true, and_self, if_true, if_false, false_and, and_false]
    repeat (first | rw [if_pos (by omega)] | rw [if_neg (by omega)])
    exact hL 16
  · simp only [m_sI, m_sL, m_sR, m_zap, m_grid, m_up, m_cl, true_and, and_true, and_self, if_true, if_false, false_and, and_false]
    repeat (first | rw [if_pos (by omega)] | rw [if_neg (by omega)])
    rw [(sm10 0 (by omega) 17).2.1]
    simp only [m_sI, m_sL, m_sR, m_zap, m_grid, m_up, m_cl, true_and, and_true, and_self, if_true, if_false, false_and, and_false]
    repeat (first | rw [if_pos (by omega)] | rw [if_neg (by omega)])
    rw [(sm9 0 (by omega) 17).2.1]
    simp only [m_sI, m_sL, m_sR, m_zap, m_grid, m_up, m_cl, true_and, and_true, and_self, if_true, if_false, false_and, and_false]
    repeat (first | rw [if_pos (by omega)] | rw [if_neg (by omega)])
    rw [(sm8 0 (by omega) 17).2.1]
    simp only [m_sI, m_sL, m_sR, m_zap, m_grid, m_up, m_cl, true_and, and_true, and_self, if_true, if_false, false_and, and_false]
    repeat (first | rw [if_pos (by omega)] | rw [if_neg (by omega)])
    rw [(sm7 0 (by omega) 17).2.1]
    simp only [m_sI, m_sL, m_sR, m_zap, m_grid, m_up, m_cl, true_and, and_true, and_self, if_true, if_false, false_and, and_false]
    repeat (first | rw [if_pos (by omega)] | rw [if_neg (by omega)])
    rw [(sm6 0 (by omega) 17).2.1]
    simp only [m_sI, m_sL, m_sR, m_zap, m_grid, m_up, m_cl, true_and, and_true, and_self, if_true, if_false, false_and, and_false]
    repeat (first | rw [if_pos (by omega)] | rw [if_neg (by omega)])
    rw [(sm5 0 (by omega) 17).2.1]
    simp only [m_sI, m_sL, m_sR, m_zap, m_grid, m_up, m_cl, true_and, and_true, and_self, if_true, if_false, false_and, and_false]
    repeat (first | rw [if_pos (by omega)] | rw [if_neg (by omega)])
    rw [(sm4 0 (by omega) 17).2.1]
    simp only [m_sI, m_sL, m_sR, m_zap, m_grid, m_up, m_cl, true_and, and_true, and_self, if_true, if_false, false_and, and_false]
    repeat (first | rw [if_pos (by omega)] | rw [if_neg (by omega)])
    rw [(sm3 0 (by omega) 17).2.1]
    simp only [m_sI, m_sL, m_sR, m_zap, m_grid, m_up, m_cl, true_and, and_true, and_self, if_true, if_false, false_and, and_false]
    repeat (first | rw [if_pos (by omega)] | rw [if_neg (by omega)])
    rw [(sm2 0 (by omega) 17).2.1]
    simp only [m_sI, m_sL, m_sR, m_zap, m_grid, m_up, m_cl, true_and, and_true, and_self, if_true, if_false, false_and, and_false]
    repeat (first | rw [if_pos (by omega)] | rw [if_neg (by omega)])
    rw [(sm1 0 (by omega) 17).2.1]
    simp only [m_sI, m_sL, m_sR, m_zap, m_grid, m_up, m_cl, true_and, and_true, and_self, if_true, if_false, false_and, and_false]
    repeat (first | rw [if_pos (by omega)] | rw [if_neg (by omega)])
    exact hL 17
  · simp only [m_sI, m_sL, m_sR, m_zap, m_grid, m_up, m_cl, true_and, and_true, and_self, if_true, if_false, false_and, and_false]
    repeat (first | rw [if_pos (by omega)] | rw [if_neg (by omega)])
end

/-! CONSTRUCTORS: the class's own; the reference's. -/
theorem okR_mk {R : MR} (h0 : R 0 0 = some 1 ∧ R 0 1 = some 10 ∧ R 0 2 = some 17 ∧ R 0 3 = some 19 ∧ R 0 4 = some 42 ∧ R 0 5 = some 50 ∧ R 0 6 = some 58 ∧ R 0 7 = some 63 ∧ R 0 15 = some 68) (h1 : R 1 0 = some 2 ∧ R 1 1 = some 9) (h2 : R 2 0 = some 3 ∧ R 2 1 = some 4 ∧ R 2 2 = some 5 ∧ R 2 3 = some 6 ∧ R 2 4 = some 7 ∧ R 2 5 = some 8) (h10 : R 10 0 = some 11 ∧ R 10 1 = some 16) (h11 : R 11 0 = some 12 ∧ R 11 1 = some 13 ∧ R 11 2 = some 14 ∧ R 11 3 = some 15) (h19 : R 19 0 = some 20 ∧ R 19 1 = some 24 ∧ R 19 2 = some 25 ∧ R 19 3 = some 26 ∧ R 19 4 = some 27 ∧ R 19 5 = some 28) (h20 : R 20 0 = some 21 ∧ R 20 1 = some 22 ∧ R 20 2 = some 23) (h32 : R 32 5 = some 33 ∧ R 32 6 = some 34 ∧ R 32 7 = some 35 ∧ R 32 8 = some 36) (h37 : R 37 5 = some 38 ∧ R 37 6 = some 39 ∧ R 37 7 = some 40 ∧ R 37 8 = some 41) (h42 : R 42 5 = some 43 ∧ R 42 6 = some 44 ∧ R 42 7 = some 45 ∧ R 42 8 = some 46 ∧ R 42 9 = some 47 ∧ R 42 10 = some 48 ∧ R 42 11 = some 49) (h50 : R 50 5 = some 51 ∧ R 50 6 = some 52 ∧ R 50 7 = some 53 ∧ R 50 8 = some 54 ∧ R 50 9 = some 55 ∧ R 50 10 = some 56 ∧ R 50 11 = some 57) (h58 : R 58 1 = some 59 ∧ R 58 2 = some 60 ∧ R 58 3 = some 61 ∧ R 58 4 = some 62) (h63 : R 63 1 = some 64 ∧ R 63 2 = some 65 ∧ R 63 3 = some 66 ∧ R 63 4 = some 67) : okR R := by
  intro a j v hv
  unfold rX at hv
  split at hv
  · split at hv
    · cases hv; exact h0.1
    · cases hv; exact h0.2.1
    · cases hv; exact h0.2.2.1
    · cases hv; exact h0.2.2.2.1
    · cases hv; exact h0.2.2.2.2.1
    · cases hv; exact h0.2.2.2.2.2.1
    · cases hv; exact h0.2.2.2.2.2.2.1
    · cases hv; exact h0.2.2.2.2.2.2.2.1
    · cases hv; exact h0.2.2.2.2.2.2.2.2
    · cases hv
  · split at hv
    · cases hv; exact h1.1
    · cases hv; exact h1.2
    · cases hv
  · split at hv
    · cases hv; exact h2.1
    · cases hv; exact h2.2.1
    · cases hv; exact h2.2.2.1
    · cases hv; exact h2.2.2.2.1
    · cases hv; exact h2.2.2.2.2.1
    · cases hv; exact h2.2.2.2.2.2
    · cases hv
  · split at hv
    · cases hv; exact h10.1
    · cases hv; exact h10.2
    · cases hv
  · split at hv
    · cases hv; exact h11.1
    · cases hv; exact h11.2.1
    · cases hv; exact h11.2.2.1
    · cases hv; exact h11.2.2.2
    · cases hv
  · split at hv
    · cases hv; exact h19.1
    · cases hv; exact h19.2.1
    · cases hv; exact h19.2.2.1
    · cases hv; exact h19.2.2.2.1
    · cases hv; exact h19.2.2.2.2.1
    · cases hv; exact h19.2.2.2.2.2
    · cases hv
  · split at hv
    · cases hv; exact h20.1
    · cases hv; exact h20.2.1
    · cases hv; exact h20.2.2
    · cases hv
  · split at hv
    · cases hv; exact h32.1
    · cases hv; exact h32.2.1
    · cases hv; exact h32.2.2.1
    · cases hv; exact h32.2.2.2
    · cases hv
  · split at hv
    · cases hv; exact h37.1
    · cases hv; exact h37.2.1
    · cases hv; exact h37.2.2.1
    · cases hv; exact h37.2.2.2
    · cases hv
  · split at hv
    · cases hv; exact h42.1
    · cases hv; exact h42.2.1
    · cases hv; exact h42.2.2.1
    · cases hv; exact h42.2.2.2.1
    · cases hv; exact h42.2.2.2.2.1
    · cases hv; exact h42.2.2.2.2.2.1
    · cases hv; exact h42.2.2.2.2.2.2
    · cases hv
  · split at hv
    · cases hv; exact h50.1
    · cases hv; exact h50.2.1
    · cases hv; exact h50.2.2.1
    · cases hv; exact h50.2.2.2.1
    · cases hv; exact h50.2.2.2.2.1
    · cases hv; exact h50.2.2.2.2.2.1
    · cases hv; exact h50.2.2.2.2.2.2
    · cases hv
  · split at hv
    · cases hv; exact h58.1
    · cases hv; exact h58.2.1
    · cases hv; exact h58.2.2.1
    · cases hv; exact h58.2.2.2
    · cases hv
  · split at hv
    · cases hv; exact h63.1
    · cases hv; exact h63.2.1
    · cases hv; exact h63.2.2.1
    · cases hv; exact h63.2.2.2
    · cases hv
  · cases hv
/-- what the class holds at first -/
def X0I (I L : MI) (R : MR) : Prop := okR R ∧ (R 0 8 = some 32 ∧ R 0 9 = some 37) ∧ tW R 29 30 31 ∧ (I 19 12 = 0 ∧ I 19 15 = 0) ∧ (I 32 0 = 1 ∧ I 32 1 = 0 ∧ I 32 2 = 0 ∧ I 32 3 = 12 ∧ I 32 4 = 0) ∧ I 58 0 = 0 ∧ (∀ r : Nat, r < 6 → I 9 (r : Int) = -1 ∧ ∀ i, I (3 + r) i = 0) ∧ (∀ t : Nat, t < 4 → I 16 (t : Int) = -1 ∧ ∀ i, I (12 + t) i = 0) ∧ (I 0 10 = 0 ∧ I 0 11 = 0 ∧ I 0 13 = 0 ∧ I 0 14 = 0) ∧ (∀ f : Nat, f < 6 → I 68 (f : Int) = 0) ∧ L 0 16 = 0 ∧ L 0 17 = 0 ∧ L 0 18 = 1
section
variable {G : GT} {M : MM}
set_option maxHeartbeats 8000000 in
theorem c_X7_init (hI : ∀ j, M.1 0 j = 0) (hL : ∀ j, M.2.1 0 j = 0) : m_Spec G mtX7_init true [mr 0] [.inl 7] M (fun v s m => v = none ∧ s = shX ∧ X0I m.1 m.2.1 m.2.2) := by
  refine m_Spec.of pnX7_init (Nat.le_of_ble_eq_true rfl) ?_
  show m_Run G mtX7_init true _ 0 0 0 [(0, mr 0)] [] [.inl 7] M
  refine r_aload_n dX7_init_0 0 rfl rfl ?_
  refine r_objInit dX7_init_1 lvX7_3 wmObj.1 wmObj.2 rfl ?_
  refine r_aload_n dX7_init_4 0 rfl rfl ?_
  refine r_new (ci := 5) (N := 2) (a := 1) dX7_init_5 rfl clX7_9.1 clX7_9.2.1 clX7_9.2.2 rfl ⟨Nat.le_of_ble_eq_true rfl, Nat.le_of_ble_eq_true rfl⟩ rfl ?_
  refine r_dup dX7_init_8 rfl ?_
  refine r_bipush dX7_init_9 (by decide) ?_
  refine r_bipush dX7_init_11 (by decide) ?_
  refine r_callI (as := [mi 6, mi 40]) dX7_init_13 lvX7_11 rfl (c_X5_init_6 (a := 1) rfl rfl) rfl rfl rfl ⟨Nat.le_of_ble_eq_true rfl, Nat.le_of_ble_eq_true rfl⟩ (fun v s m1 hq => ?_)
  obtain ⟨rfl, rfl, sm1, r0_1, r1_1, ra_1, rs_1, rz_1⟩ := hq
  show m_Run G mtX7_init true _ _ _ 16 [(0, mr 0)] [mr 1, mr 0] _ _
  refine r_putR dX7_init_16 flX7_14 rfl rfl rfl ?_
  refine r_aload_n dX7_init_19 0 rfl rfl ?_
  refine r_new (ci := 5) (N := 2) (a := 10) dX7_init_20 rfl clX7_9.1 clX7_9.2.1 clX7_9.2.2 rfl ⟨Nat.le_of_ble_eq_true rfl, Nat.le_of_ble_eq_true rfl⟩ rfl ?_
  refine r_dup dX7_init_23 rfl ?_
  refine r_iconst dX7_init_24 ?_
  refine r_bipush dX7_init_25 (by decide) ?_
  refine r_callI (as := [mi 4, mi 80]) dX7_init_27 lvX7_11 rfl (c_X5_init_4 (a := 10) rfl rfl) rfl rfl rfl ⟨Nat.le_of_ble_eq_true rfl, Nat.le_of_ble_eq_true rfl⟩ (fun v s m2 hq => ?_)
  obtain ⟨rfl, rfl, sm2, r0_2, r1_2, ra_2, rs_2, rz_2⟩ := hq
  show m_Run G mtX7_init true _ _ _ 30 [(0, mr 0)] [mr 10, mr 0] _ _
  refine r_putR dX7_init_30 flX7_18 rfl rfl rfl ?_
  refine r_aload_n dX7_init_33 0 rfl rfl ?_
  refine r_new (ci := 4) (N := 4) (a := 17) dX7_init_34 rfl clX7_21.1 clX7_21.2.1 clX7_21.2.2 rfl ⟨Nat.le_of_ble_eq_true rfl, Nat.le_of_ble_eq_true rfl⟩ rfl ?_
  refine r_dup dX7_init_37 rfl ?_
  refine r_callI (as := []) dX7_init_38 lvX7_23 rfl (c_X4_init (a := 17) rfl rfl) rfl rfl rfl ⟨Nat.le_of_ble_eq_true rfl, Nat.le_of_ble_eq_true rfl⟩ (fun v s m3 hq => ?_)
  obtain ⟨rfl, rfl, sm3, sI_3⟩ := hq
  show m_Run G mtX7_init true _ _ _ 41 [(0, mr 0)] [mr 17, mr 0] _ _
  refine r_putR dX7_init_41 flX7_24 rfl rfl rfl ?_
  refine r_aload_n dX7_init_44 0 rfl rfl ?_
  refine r_new (ci := 6) (N := 17) (a := 19) dX7_init_45 rfl clX7_28.1 clX7_28.2.1 clX7_28.2.2 rfl ⟨Nat.le_of_ble_eq_true rfl, Nat.le_of_ble_eq_true rfl⟩ rfl ?_
  refine r_dup dX7_init_48 rfl ?_
  refine r_callI (as := []) dX7_init_49 lvX7_30 rfl (c_X6_init (a := 19) rfl rfl) rfl rfl rfl ⟨Nat.le_of_ble_eq_true rfl, Nat.le_of_ble_eq_true rfl⟩ (fun v s m4 hq => ?_)
  obtain ⟨rfl, rfl, sm4, sI_4, r0_4, q0_4, q1_4, q2_4, r1_4, r2_4, r3_4, r4_4, r5_4, r6_4, r7_4, r8_4⟩ := hq
  show m_Run G mtX7_init true _ _ _ 52 [(0, mr 0)] [mr 19, mr 0] _ _
  refine r_putR dX7_init_52 flX7_31 rfl rfl rfl ?_
  refine r_aload_n dX7_init_55 0 rfl rfl ?_
  refine r_new (ci := 0) (N := 9) (a := 32) dX7_init_56 rfl clX7_35.1 clX7_35.2.1 clX7_35.2.2 rfl ⟨Nat.le_of_ble_eq_true rfl, Nat.le_of_ble_eq_true rfl⟩ rfl ?_
  refine r_dup dX7_init_59 rfl ?_
  refine r_callI (as := []) dX7_init_60 lvX7_37 rfl (c_X0_init (a := 32) rfl rfl) rfl rfl rfl ⟨Nat.le_of_ble_eq_true rfl, Nat.le_of_ble_eq_true rfl⟩ (fun v s m5 hq => ?_)
  obtain ⟨rfl, rfl, sm5, i0_5, i1_5, i2_5, i3_5, i4_5, r5_5, r6_5, r7_5, r8_5⟩ := hq
  show m_Run G mtX7_init true _ _ _ 63 [(0, mr 0)] [mr 32, mr 0] _ _
  refine r_putR dX7_init_63 flX7_38 rfl rfl rfl ?_
  refine r_aload_n dX7_init_66 0 rfl rfl ?_
  refine r_new (ci := 0) (N := 9) (a := 37) dX7_init_67 rfl clX7_35.1 clX7_35.2.1 clX7_35.2.2 rfl ⟨Nat.le_of_ble_eq_true rfl, Nat.le_of_ble_eq_true rfl⟩ rfl ?_
  refine r_dup dX7_init_70 rfl ?_
  refine r_callI (as := []) dX7_init_71 lvX7_37 rfl (c_X0_init (a := 37) rfl rfl) rfl rfl rfl ⟨Nat.le_of_ble_eq_true rfl, Nat.le_of_ble_eq_true rfl⟩ (fun v s m6 hq => ?_)
  obtain ⟨rfl, rfl, sm6, i0_6, i1_6, i2_6, i3_6, i4_6, r5_6, r6_6, r7_6, r8_6⟩ := hq
  show m_Run G mtX7_init true _ _ _ 74 [(0, mr 0)] [mr 37, mr 0] _ _
  refine r_putR dX7_init_74 flX7_42 rfl rfl rfl ?_
  refine r_aload_n dX7_init_77 0 rfl rfl ?_
  refine r_new (ci := 3) (N := 12) (a := 42) dX7_init_78 rfl clX7_45.1 clX7_45.2.1 clX7_45.2.2 rfl ⟨Nat.le_of_ble_eq_true rfl, Nat.le_of_ble_eq_true rfl⟩ rfl ?_
  refine r_dup dX7_init_81 rfl ?_
  refine r_aload_n dX7_init_82 0 rfl rfl ?_
  refine r_getR (r := 32) dX7_init_83 flX7_38 rfl rfl (by
          simp only [m_sI, m_sL, m_sR, m_zap, m_grid, m_up, m_cl, true_and, and_true, and_self, if_true, if_false, false_and, and_false]
          repeat (first | rw [if_pos (by omega)] | rw [if_neg (by omega)])
          rw [(sm6 0 (by omega) 8).2.2]
          simp only [m_sI, m_sL, m_sR, m_zap, m_grid, m_up, m_cl, true_and, and_true, and_self, if_true, if_false, false_and, and_false]
          repeat (first | rw [if_pos (by omega)] | rw [if_neg (by omega)])) ?_
  refine r_callI (as := [mr 32]) dX7_init_86 lvX7_47 rfl (c_X3_init (a := 42) rfl rfl) rfl rfl rfl ⟨Nat.le_of_ble_eq_true rfl, Nat.le_of_ble_eq_true rfl⟩ (fun v s m7 hq => ?_)
  obtain ⟨rfl, rfl, sm7, r5_7, r6_7, r7_7, r8_7, r9_7, r10_7, r11_7⟩ := hq
  show m_Run G mtX7_init true _ _ _ 89 [(0, mr 0)] [mr 42, mr 0] _ _
  refine r_putR dX7_init_89 flX7_50 rfl rfl rfl ?_
  refine r_aload_n dX7_init_92 0 rfl rfl ?_
  refine r_new (ci := 3) (N := 12) (a := 50) dX7_init_93 rfl clX7_45.1 clX7_45.2.1 clX7_45.2.2 rfl ⟨Nat.le_of_ble_eq_true rfl, Nat.le_of_ble_eq_true rfl⟩ rfl ?_
  refine r_dup dX7_init_96 rfl ?_
  refine r_aload_n dX7_init_97 0 rfl rfl ?_
  refine r_getR (r := 32) dX7_init_98 flX7_38 rfl rfl (by
          simp only [m_sI, m_sL, m_sR, m_zap, m_grid, m_up, m_cl, true_and, and_true, and_self, if_true, if_false, false_and, and_false]
          repeat (first | rw [if_pos (by omega)] | rw [if_neg (by omega)])
          rw [(sm7 0 (by omega) 8).2.2]
          simp only [m_sI, m_sL, m_sR, m_zap, m_grid, m_up, m_cl, true_and, and_true, and_self, if_true, if_false, false_and, and_false]
          repeat (first | rw [if_pos (by omega)] | rw [if_neg (by omega)])
          rw [(sm6 0 (by omega) 8).2.2]
          simp only [m_sI, m_sL, m_sR, m_zap, m_grid, m_up, m_cl, true_and, and_true, and_self, if_true, if_false, false_and, and_false]
          repeat (first | rw [if_pos (by omega)] | rw [if_neg (by omega)])) ?_
  refine r_callI (as := [mr 32]) dX7_init_101 lvX7_47 rfl (c_X3_init (a := 50) rfl rfl) rfl rfl rfl ⟨Nat.le_of_ble_eq_true rfl, Nat.le_of_ble_eq_true rfl⟩ (fun v s m8 hq => ?_)
  obtain ⟨rfl, rfl, sm8, r5_8, r6_8, r7_8, r8_8, r9_8, r10_8, r11_8⟩ := hq
  show m_Run G mtX7_init true _ _ _ 104 [(0, mr 0)] [mr 50, mr 0] _ _
  refine r_putR dX7_init_104 flX7_54 rfl rfl rfl ?_
  refine r_aload_n dX7_init_107 0 rfl rfl ?_
  refine r_new (ci := 2) (N := 5) (a := 58) dX7_init_108 rfl clX7_57.1 clX7_57.2.1 clX7_57.2.2 rfl ⟨Nat.le_of_ble_eq_true rfl, Nat.le_of_ble_eq_true rfl⟩ rfl ?_
  refine r_dup dX7_init_111 rfl ?_
  refine r_callI (as := []) dX7_init_112 lvX7_59 rfl (c_X2_init (a := 58) rfl rfl) rfl rfl rfl ⟨Nat.le_of_ble_eq_true rfl, Nat.le_of_ble_eq_true rfl⟩ (fun v s m9 hq => ?_)
  obtain ⟨rfl, rfl, sm9, sI_9, r1_9, r2_9, r3_9, r4_9⟩ := hq
  show m_Run G mtX7_init true _ _ _ 115 [(0, mr 0)] [mr 58, mr 0] _ _
  refine r_putR dX7_init_115 flX7_60 rfl rfl rfl ?_
  refine r_aload_n dX7_init_118 0 rfl rfl ?_
  refine r_new (ci := 2) (N := 5) (a := 63) dX7_init_119 rfl clX7_57.1 clX7_57.2.1 clX7_57.2.2 rfl ⟨Nat.le_of_ble_eq_true rfl, Nat.le_of_ble_eq_true rfl⟩ rfl ?_
  refine r_dup dX7_init_122 rfl ?_
  refine r_callI (as := []) dX7_init_123 lvX7_59 rfl (c_X2_init (a := 63) rfl rfl) rfl rfl rfl ⟨Nat.le_of_ble_eq_true rfl, Nat.le_of_ble_eq_true rfl⟩ (fun v s m10 hq => ?_)
  obtain ⟨rfl, rfl, sm10, sI_10, r1_10, r2_10, r3_10, r4_10⟩ := hq
  show m_Run G mtX7_init true _ _ _ 126 [(0, mr 0)] [mr 63, mr 0] _ _
  refine r_putR dX7_init_126 flX7_64 rfl rfl rfl ?_
  refine r_aload_n dX7_init_129 0 rfl rfl ?_
  refine r_bipush dX7_init_130 (by decide) ?_
  refine r_newa (kd := 0) (N := 6) (a := 68) dX7_init_132 (Or.inl ⟨rfl, rfl⟩) waInt ⟨rfl, by decide⟩ ⟨Nat.le_of_ble_eq_true rfl, Nat.le_of_ble_eq_true rfl⟩ rfl ?_
  refine r_putR dX7_init_134 flX7_67 rfl rfl rfl ?_
  refine r_aload_n dX7_init_137 0 rfl rfl ?_
  refine r_lconst 1 dX7_init_138 rfl ?_
  refine r_putL dX7_init_139 flX7_71 rfl rfl rfl ?_
  refine r_vret dX7_init_142 rfl ⟨Nat.le_of_ble_eq_true rfl, Nat.le_of_ble_eq_true rfl⟩ ?_
  refine ⟨rfl, rfl, okR_mk ⟨?_, ?_, ?_, ?_, ?_, ?_, ?_, ?_, ?_⟩ ⟨?_, ?_⟩ ⟨?_, ?_, ?_, ?_, ?_, ?_⟩ ⟨?_, ?_⟩ ⟨?_, ?_, ?_, ?_⟩ ⟨?_, ?_, ?_, ?_, ?_, ?_⟩ ⟨?_, ?_, ?_⟩ ⟨?_, ?_, ?_, ?_⟩ ⟨?_, ?_, ?_, ?_⟩ ⟨?_, ?_, ?_, ?_, ?_, ?_, ?_⟩ ⟨?_, ?_, ?_, ?_, ?_, ?_, ?_⟩ ⟨?_, ?_, ?_, ?_⟩ ⟨?_, ?_, ?_, ?_⟩, ⟨?_, ?_⟩, ⟨?_, ?_, ?_, Or.inl rfl, Or.inr (Or.inl rfl), Or.inr (Or.inr rfl), by decide, by decide, by decide⟩, ⟨?_, ?_⟩, ⟨?_, ?_, ?_, ?_, ?_⟩, ?_, fun r hr => ⟨?_, fun i => ?_⟩, fun t ht => ⟨?_, fun i => ?_⟩, ⟨?_, ?_, ?_, ?_⟩, fun f hf => ?_, ?_, ?_, ?_⟩
  · simp only [m_sI, m_sL, m_sR, m_zap, m_grid, m_up, m_cl, true_and, and_true, and_self, if_true, if_false, false_and, and_false]
    repeat (first | rw [if_pos (by omega)] | rw [if_neg (by omega)])
    rw [(sm10 0 (by omega) 0).2.2]
    simp only [m_sI, m_sL, m_sR, m_zap, m_grid, m_up, m_cl, true_and, and_true, and_self, if_true, if_false, false_and, and_false]
    repeat (first | rw [if_pos (by omega)] | rw [if_neg (by omega)])
    rw [(sm9 0 (by omega) 0).2.2]
    simp only [m_sI, m_sL, m_sR, m_zap, m_grid, m_up, m_cl, true_and, and_true, and_self, if_true, if_false, false_and, and_false]
    repeat (first | rw [if_pos (by omega)] | rw [if_neg (by omega)])
    rw [(sm8 0 (by omega) 0).2.2]
    simp only [m_sI, m_sL, m_sR, m_zap, m_grid, m_up, m_cl, true_and, and_true, and_self, if_true, if_false, false_and, and_false]
    repeat (first | rw [if_pos (by omega)] | rw [if_neg (by omega)])
    rw [(sm7 0 (by omega) 0).2.2]
    simp only [m_sI, m_sL, m_sR, m_zap, m_grid, m_up, m_cl, true_and, and_true, and_self, if_true, if_false, false_and, and_false]
    repeat (first | rw [if_pos (by omega)] | rw [if_neg (by omega)])
    rw [(sm6 0 (by omega) 0).2.2]
    simp only [m_sI, m_sL, m_sR, m_zap, m_grid, m_up, m_cl, true_and, and_true, and_self, if_true, if_false, false_and, and_false]
    repeat (first | rw [if_pos (by omega)] | rw [if_neg (by omega)])
    rw [(sm5 0 (by omega) 0).2.2]
    simp only [m_sI, m_sL, m_sR, m_zap, m_grid, m_up, m_cl, true_and, and_true, and_self, if_true, if_false, false_and, and_false]
    repeat (first | rw [if_pos (by omega)] | rw [if_neg (by omega)])
    rw [(sm4 0 (by omega) 0).2.2]
    simp only [m_sI, m_sL, m_sR, m_zap, m_grid, m_up, m_cl, true_and, and_true, and_self, if_true, if_false, false_and, and_false]
    repeat (first | rw [if_pos (by omega)] | rw [if_neg (by omega)])
    rw [(sm3 0 (by omega) 0).2.2]
    simp only [m_sI, m_sL, m_sR, m_zap, m_grid, m_up, m_cl, true_and, and_true, and_self, if_true, if_false, false_and, and_false]
    repeat (first | rw [if_pos (by omega)] | rw [if_neg (by omega)])
    rw [(sm2 0 (by omega) 0).2.2]
    simp only [m_sI, m_sL, m_sR, m_zap, m_grid, m_up, m_cl, true_and, and_true, and_self, if_true, if_false, false_and, and_false]
    repeat (first | rw [if_pos (by omega)] | rw [if_neg (by omega)])
  · simp only [m_sI, m_sL, m_sR, m_zap, m_grid, m_up, m_cl, true_and, and_true, and_self, if_true, if_false, false_and, and_false]
    repeat (first | rw [if_pos (by omega)] | rw [if_neg (by omega)])
    rw [(sm10 0 (by omega) 1).2.2]
    simp only [m_sI, m_sL, m_sR, m_zap, m_grid, m_up, m_cl, true_and, and_true, and_self, if_true, if_false, false_and, and_false]
    repeat (first | rw [if_pos (by omega)] | rw [if_neg (by omega)])
    rw [(sm9 0 (by omega) 1).2.2]
    simp only [m_sI, m_sL, m_sR, m_zap, m_grid, m_up, m_cl, true_and, and_true, and_self, if_true, if_false, false_and, and_false]
    repeat (first | rw [if_pos (by omega)] | rw [if_neg (by omega)])
    rw [(sm8 0 (by omega) 1).2.2]
    simp only [m_sI, m_sL, m_sR, m_zap, m_grid, m_up, m_cl, true_and, and_true, and_self, if_true, if_false, false_and, and_false]
    repeat (first | rw [if_pos (by omega)] | rw [if_neg (by omega)])
    rw [(sm7 0 (by omega) 1).2.2]
    simp only [m_sI, m_sL, m_sR, m_zap, m_grid, m_up, m_cl, true_and, and_true, and_self, if_true, if_false, false_and, and_false]
    repeat (first | rw [if_pos (by omega)] | rw [if_neg (by omega)])
    rw [(sm6 0 (by omega) 1).2.2]
    simp only [m_sI, m_sL, m_sR, m_zap, m_grid, m_up, m_cl, true_and, and_true, and_self, if_true, if_false, false_and, and_false]
    repeat (first | rw [if_pos (by omega)] | rw [if_neg (by omega)])
    rw [(sm5 0 (by omega) 1).2.2]
    simp only [m_sI, m_sL, m_sR, m_zap, m_grid, m_up, m_cl, true_and, and_true, and_self, if_true, if_false, false_and, and_false]
    repeat (first | rw [if_pos (by omega)] | rw [if_neg (by omega)])
    rw [(sm4 0 (by omega) 1).2.2]
    simp only [m_sI, m_sL, m_sR, m_zap, m_grid, m_up, m_cl, true_and, and_true, and_self, if_true, if_false, false_and, and_false]
    repeat (first | rw [if_pos (by omega)] | rw [if_neg (by omega)])
    rw [(sm3 0 (by omega) 1).2.2]
    simp only [m_sI, m_sL, m_sR, m_zap, m_grid, m_up, m_cl, true_and, and_true, and_self, if_true, if_false, false_and, and_false]
    repeat (first | rw [if_pos (by omega)] | rw [if_neg (by omega)])
  · simp only [m_sI, m_sL, m_sR, m_zap, m_grid, m_up, m_cl, true_and, and_true, and_self, if_true, if_false, false_and, and_false]
    repeat (first | rw [if_pos (by omega)] | rw [if_neg (by omega)])
    rw [(sm10 0 (by omega) 2).2.2]
    simp only [m_sI, m_sL, m_sR, m_zap, m_grid, m_up, m_cl, true_and, and_true, and_self, if_true, if_false, false_and, and_false]
    repeat (first | rw [if_pos (by omega)] | rw [if_neg (by omega)])
    rw [(sm9 0 (by omega) 2).2.2]
    simp only [m_sI, m_sL, m_sR, m_zap, m_grid, m_up, m_cl, true_and, and_true, and_self, if_true, if_false, false_and, and_false]
    repeat (first | rw [if_pos (by omega)] | rw [if_neg (by omega)])
    rw [(sm8 0 (by omega) 2).2.2]
    simp only [m_sI, m_sL, m_sR, m_zap, m_grid, m_up, m_cl, true_and, and_true, and_self, if_true, if_false, false_and, and_false]
    repeat (first | rw [if_pos (by omega)] | rw [if_neg (by omega)])
    rw [(sm7 0 (by omega) 2).2.2]
    simp only [m_sI, m_sL, m_sR, m_zap, m_grid, m_up, m_cl, true_and, and_true, and_self, if_true, if_false, false_and, and_false]
    repeat (first | rw [if_pos (by omega)] | rw [if_neg (by omega)])
    rw [(sm6 0 (by omega) 2).2.2]
    simp only [m_sI, m_sL, m_sR, m_zap, m_grid, m_up, m_cl, true_and, and_true, and_self, if_true, if_false, false_and, and_false]
    repeat (first | rw [if_pos (by omega)] | rw [if_neg (by omega)])
    rw [(sm5 0 (by omega) 2).2.2]
    simp only [m_sI, m_sL, m_sR, m_zap, m_grid, m_up, m_cl, true_and, and_true, and_self, if_true, if_false, false_and, and_false]
    repeat (first | rw [if_pos (by omega)] | rw [if_neg (by omega)])
    rw [(sm4 0 (by omega) 2).2.2]
    simp only [m_sI, m_sL, m_sR, m_zap, m_grid, m_up, m_cl, true_and, and_true, and_self, if_true, if_false, false_and, and_false]
    repeat (first | rw [if_pos (by omega)] | rw [if_neg (by omega)])
  · simp only [m_sI, m_sL, m_sR, m_zap, m_grid, m_up, m_cl, true_and, and_true, and_self, if_true, if_false, false_and, and_false]
    repeat (first | rw [if_pos (by omega)] | rw [if_neg (by omega)])
    rw [(sm10 0 (by omega) 3).2.2]
    simp only [m_sI, m_sL, m_sR, m_zap, m_grid, m_up, m_cl, true_and, and_true, and_self, if_true, if_false, false_and, and_false]
    repeat (first | rw [if_pos (by omega)] | rw [if_neg (by omega)])
    rw [(sm9 0 (by omega) 3).2.2]
    simp only [m_sI, m_sL, m_sR, m_zap, m_grid, m_up, m_cl, true_and, and_true, and_self, if_true, if_false, false_and, and_false]
    repeat (first | rw [if_pos (by omega)] | rw [if_neg (by omega)])
    rw [(sm8 0 (by omega) 3).2.2]
    simp only [m_sI, m_sL, m_sR, m_zap, m_grid, m_up, m_cl, true_and, and_true, and_self, if_true, if_false, false_and, and_false]
    repeat (first | rw [if_pos (by omega)] | rw [if_neg (by omega)])
    rw [(sm7 0 (by omega) 3).2.2]
    simp only [m_sI, m_sL, m_sR, m_zap, m_grid, m_up, m_cl, true_and, and_true, and_self, if_true, if_false, false_and, and_false]
    repeat (first | rw [if_pos (by omega)] | rw [if_neg (by omega)])
    rw [(sm6 0 (by omega) 3).2.2]
    simp only [m_sI, m_sL, m_sR, m_zap, m_grid, m_up, m_cl, true_and, and_true, and_self, if_true, if_false, false_and, and_false]
    repeat (first | rw [if_pos (by omega)] | rw [if_neg (by omega)])
    rw [(sm5 0 (by omega) 3).2.2]
    simp only [m_sI, m_sL, m_sR, m_zap, m_grid, m_up, m_cl, true_and, and_true, and_self, if_true, if_false, false_and, and_false]
    repeat (first | rw [if_pos (by omega)] | rw [if_neg (by omega)])
  · simp only [m_sI, m_sL, m_sR, m_zap, m_grid, m_up, m_cl, true_and, and_true, and_self, if_true, if_false, false_and, and_false]
    repeat (first | rw [if_pos (by omega)] | rw [if_neg (by omega)])
    rw [(sm10 0 (by omega) 4).2.2]
    simp only [m_sI, m_sL, m_sR, m_zap, m_grid, m_up, m_cl, true_and, and_true, and_self, if_true, if_false, false_and, and_false]
    repeat (first | rw [if_pos (by omega)] | rw [if_neg (by omega)])
    rw [(sm9 0 (by omega) 4).2.2]
    simp only [m_sI, m_sL, m_sR, m_zap, m_grid, m_up, m_cl, true_and, and_true, and_self, if_true, if_false, false_and, and_false]
    repeat (first | rw [if_pos (by omega)] | rw [if_neg (by omega)])
    rw [(sm8 0 (by omega) 4).2.2]
    simp only [m_sI, m_sL, m_sR, m_zap, m_grid, m_up, m_cl, true_and, and_true, and_self, if_true, if_false, false_and, and_false]
    repeat (first | rw [if_pos (by omega)] | rw [if_neg (by omega)])
  · simp only [m_sI, m_sL, m_sR, m_zap, m_grid, m_up, m_cl, true_and, and_true, and_self, if_true, if_false, false_and, and_false]
    repeat (first | rw [if_pos (by omega)] | rw [if_neg (by omega)])
    rw [(sm10 0 (by omega) 5).2.2]
    simp only [m_sI, m_sL, m_sR, m_zap, m_grid, m_up, m_cl, true_and, and_true, and_self, if_true, if_false, false_and, and_false]
    repeat (first | rw [if_pos (by omega)] | rw [if_neg (by omega)])
    rw [(sm9 0 (by omega) 5).2.2]
    simp only [m_sI, m_sL, m_sR, m_zap, m_grid, m_up, m_cl, true_and, and_true, and_self, if_true, if_false, false_and, and_false]
    repeat (first | rw [if_pos (by omega)] | rw [if_neg (by omega)])
  · simp only [m_sI, m_sL, m_sR, m_zap, m_grid, m_up, m_cl, true_and, and_true, and_self, if_true, if_false, false_and, and_false]
    repeat (first | rw [if_pos (by omega)] | rw [if_neg (by omega)])
    rw [(sm10 0 (by omega) 6).2.2]
    simp only [m_sI, m_sL, m_sR, m_zap, m_grid, m_up, m_cl, true_and, and_true, and_self, if_true, if_false, false_and, and_false]
    repeat (first | rw [if_pos (by omega)] | rw [if_neg (by omega)])
  · simp only [m_sI, m_sL, m_sR, m_zap, m_grid, m_up, m_cl, true_and, and_true, and_self, if_true, if_false, false_and, and_false]
    repeat (first | rw [if_pos (by omega)] | rw [if_neg (by omega)])
  · simp only [m_sI, m_sL, m_sR, m_zap, m_grid, m_up, m_cl, true_and, and_true, and_self, if_true, if_false, false_and, and_false]
    repeat (first | rw [if_pos (by omega)] | rw [if_neg (by omega)])
  · simp only [m_sI, m_sL, m_sR, m_zap, m_grid, m_up, m_cl, true_and, and_true, and_self, if_true, if_false, false_and, and_false]
    repeat (first | rw [if_pos (by omega)] | rw [if_neg (by omega)])
    rw [(sm10 1 (by omega) 0).2.2]
    simp only [m_sI, m_sL, m_sR, m_zap, m_grid, m_up, m_cl, true_and, and_true, and_self, if_true, if_false, false_and, and_false]
    repeat (first | rw [if_pos (by omega)] | rw [if_neg (by omega)])
    rw [(sm9 1 (by omega) 0).2.2]
    simp only [m_sI, m_sL, m_sR, m_zap, m_grid, m_up, m_cl, true_and, and_true, and_self, if_true, if_false, false_and, and_false]
    repeat (first | rw [if_pos (by omega)] | rw [if_neg (by omega)])
    rw [(sm8 1 (by omega) 0).2.2]
    simp only [m_sI, m_sL, m_sR, m_zap, m_grid, m_up, m_cl, true_and, and_true, and_self, if_true, if_false, false_and, and_false]
    repeat (first | rw [if_pos (by omega)] | rw [if_neg (by omega)])
    rw [(sm7 1 (by omega) 0).2.2]
    simp only [m_sI, m_sL, m_sR, m_zap, m_grid, m_up, m_cl, true_and, and_true, and_self, if_true, if_false, false_and, and_false]
    repeat (first | rw [if_pos (by omega)] | rw [if_neg (by omega)])
    rw [(sm6 1 (by omega) 0).2.2]
    simp only [m_sI, m_sL, m_sR, m_zap, m_grid, m_up, m_cl, true_and, and_true, and_self, if_true, if_false, false_and, and_false]
    repeat (first | rw [if_pos (by omega)] | rw [if_neg (by omega)])
    rw [(sm5 1 (by omega) 0).2.2]
    simp only [m_sI, m_sL, m_sR, m_zap, m_grid, m_up, m_cl, true_and, and_true, and_self, if_true, if_false, false_and, and_false]
    repeat (first | rw [if_pos (by omega)] | rw [if_neg (by omega)])
    rw [(sm4 1 (by omega) 0).2.2]
    simp only [m_sI, m_sL, m_sR, m_zap, m_grid, m_up, m_cl, true_and, and_true, and_self, if_true, if_false, false_and, and_false]
    repeat (first | rw [if_pos (by omega)] | rw [if_neg (by omega)])
    rw [(sm3 1 (by omega) 0).2.2]
    simp only [m_sI, m_sL, m_sR, m_zap, m_grid, m_up, m_cl, true_and, and_true, and_self, if_true, if_false, false_and, and_false]
    repeat (first | rw [if_pos (by omega)] | rw [if_neg (by omega)])
    rw [(sm2 1 (by omega) 0).2.2]
    simp only [m_sI, m_sL, m_sR, m_zap, m_grid, m_up, m_cl, true_and, and_true, and_self, if_true, if_false, false_and, and_false]
    repeat (first | rw [if_pos (by omega)] | rw [if_neg (by omega)])
    exact r0_1
  · simp only [m_sI, m_sL, m_sR, m_zap, m_grid, m_up, m_cl, true_and, and_true, and_self, if_true, if_false, false_and, and_false]
    repeat (first | rw [if_pos (by omega)] | rw [if_neg (by omega)])
    rw [(sm10 1 (by omega) 1).2.2]
    simp only [m_sI, m_sL, m_sR, m_zap, m_grid, m_up, m_cl, true_and, and_true, and_self, if_true, if_false, false_and, and_false]
    repeat (first | rw [if_pos (by omega)] | rw [if_neg (by omega)])
    rw [(sm9 1 (by omega) 1).2.2]
    simp only [m_sI, m_sL, m_sR, m_zap, m_grid, m_up, m_cl, true_and, and_true, and_self, if_true, if_false, false_and, and_false]
    repeat (first | rw [if_pos (by omega)] | rw [if_neg (by omega)])
    rw [(sm8 1 (by omega) 1).2.2]
    simp only [m_sI, m_sL, m_sR, m_zap, m_grid, m_up, m_cl, true_and, and_true, and_self, if_true, if_false, false_and, and_false]
    repeat (first | rw [if_pos (by omega)] | rw [if_neg (by omega)])
    rw [(sm7 1 (by omega) 1).2.2]
    simp only [m_sI, m_sL, m_sR, m_zap, m_grid, m_up, m_cl, true_and, and_true, and_self, if_true, if_false, false_and, and_false]
    repeat (first | rw [if_pos (by omega)] | rw [if_neg (by omega)])
    rw [(sm6 1 (by omega) 1).2.2]
    simp only [m_sI, m_sL, m_sR, m_zap, m_grid, m_up, m_cl, true_and, and_true, and_self, if_true, if_false, false_and, and_false]
    repeat (first | rw [if_pos (by omega)] | rw [if_neg (by omega)])
    rw [(sm5 1 (by omega) 1).2.2]
    simp only [m_sI, m_sL, m_sR, m_zap, m_grid, m_up, m_cl, true_and, and_true, and_self, if_true, if_false, false_and, and_false]
    repeat (first | rw [if_pos (by omega)] | rw [if_neg (by omega)])
    rw [(sm4 1 (by omega) 1).2.2]
    simp only [m_sI, m_sL, m_sR, m_zap, m_grid, m_up, m_cl, true_and, and_true, and_self, if_true, if_false, false_and, and_false]
    repeat (first | rw [if_pos (by omega)] | rw [if_neg (by omega)])
    rw [(sm3 1 (by omega) 1).2.2]
    simp only [m_sI, m_sL, m_sR, m_zap, m_grid, m_up, m_cl, true_and, and_true, and_self, if_true, if_false, false_and, and_false]
    repeat (first | rw [if_pos (by omega)] | rw [if_neg (by omega)])
    rw [(sm2 1 (by omega) 1).2.2]
    simp only [m_sI, m_sL, m_sR, m_zap, m_grid, m_up, m_cl, true_and, and_true, and_self, if_true, if_false, false_and, and_false]
    repeat (first | rw [if_pos (by omega)] | rw [if_neg (by omega)])
    exact r1_1
  · simp only [m_sI, m_sL, m_sR, m_zap, m_grid, m_up, m_cl, true_and, and_true, and_self, if_true, if_false, false_and, and_false]
    repeat (first | rw [if_pos (by omega)] | rw [if_neg (by omega)])
    rw [(sm10 2 (by omega) 0).2.2]
    simp only [m_sI, m_sL, m_sR, m_zap, m_grid, m_up, m_cl, true_and, and_true, and_self, if_true, if_false, false_and, and_false]
    repeat (first | rw [if_pos (by omega)] | rw [if_neg (by omega)])
    rw [(sm9 2 (by omega) 0).2.2]
    simp only [m_sI, m_sL, m_sR, m_zap, m_grid, m_up, m_cl, true_and, and_true, and_self, if_true, if_false, false_and, and_false]
    repeat (first | rw [if_pos (by omega)] | rw [if_neg (by omega)])
    rw [(sm8 2 (by omega) 0).2.2]
    simp only [m_sI, m_sL, m_sR, m_zap, m_grid, m_up, m_cl, true_and, and_true, and_self, if_true, if_false, false_and, and_false]
    repeat (first | rw [if_pos (by omega)] | rw [if_neg (by omega)])
    rw [(sm7 2 (by omega) 0).2.2]
    simp only [m_sI, m_sL, m_sR, m_zap, m_grid, m_up, m_cl, true_and, and_true, and_self, if_true, if_false, false_and, and_false]
    repeat (first | rw [if_pos (by omega)] | rw [if_neg (by omega)])
    rw [(sm6 2 (by omega) 0).2.2]
    simp only [m_sI, m_sL, m_sR, m_zap, m_grid, m_up, m_cl, true_and, and_true, and_self, if_true, if_false, false_and, and_false]
    repeat (first | rw [if_pos (by omega)] | rw [if_neg (by omega)])
    rw [(sm5 2 (by omega) 0).2.2]
    simp only [m_sI, m_sL, m_sR, m_zap, m_grid, m_up, m_cl, true_and, and_true, and_self, if_true, if_false, false_and, and_false]
    repeat (first | rw [if_pos (by omega)] | rw [if_neg (by omega)])
    rw [(sm4 2 (by omega) 0).2.2]
    simp only [m_sI, m_sL, m_sR, m_zap, m_grid, m_up, m_cl, true_and, and_true, and_self, if_true, if_false, false_and, and_false]
    repeat (first | rw [if_pos (by omega)] | rw [if_neg (by omega)])
    rw [(sm3 2 (by omega) 0).2.2]
    simp only [m_sI, m_sL, m_sR, m_zap, m_grid, m_up, m_cl, true_and, and_true, and_self, if_true, if_false, false_and, and_false]
    repeat (first | rw [if_pos (by omega)] | rw [if_neg (by omega)])
    rw [(sm2 2 (by omega) 0).2.2]
    simp only [m_sI, m_sL, m_sR, m_zap, m_grid, m_up, m_cl, true_and, and_true, and_self, if_true, if_false, false_and, and_false]
    repeat (first | rw [if_pos (by omega)] | rw [if_neg (by omega)])
    exact ra_1 0 (by omega)
  · simp only [m_sI, m_sL, m_sR, m_zap, m_grid, m_up, m_cl, true_and, and_true, and_self, if_true, if_false, false_and, and_false]
    repeat (first | rw [if_pos (by omega)] | rw [if_neg (by omega)])
    rw [(sm10 2 (by omega) 1).2.2]
    simp only [m_sI, m_sL, m_sR, m_zap, m_grid, m_up, m_cl, true_and, and_true, and_self, if_true, if_false, false_and, and_false]
    repeat (first | rw [if_pos (by omega)] | rw [if_neg (by omega)])
    rw [(sm9 2 (by omega) 1).2.2]
    simp only [m_sI, m_sL, m_sR, m_zap, m_grid, m_up, m_cl, true_and, and_true, and_self, if_true, if_false, false_and, and_false]
    repeat (first | rw [if_pos (by omega)] | rw [if_neg (by omega)])
    rw [(sm8 2 (by omega) 1).2.2]
    simp only [m_sI, m_sL, m_sR, m_zap, m_grid, m_up, m_cl, true_and, and_true, and_self, if_true, if_false, false_and, and_false]
    repeat (first | rw [if_pos (by omega)] | rw [if_neg (by omega)])
    rw [(sm7 2 (by omega) 1).2.2]
    simp only [m_sI, m_sL, m_sR, m_zap, m_grid, m_up, m_cl, true_and, and_true, and_self, if_true, if_false, false_and, and_false]
    repeat (first | rw [if_pos (by omega)] | rw [if_neg (by omega)])
    rw [(sm6 2 (by omega) 1).2.2]
    simp only [m_sI, m_sL, m_sR, m_zap, m_grid, m_up, m_cl, true_and, and_true, and_self, if_true, if_false, false_and, and_false]
    repeat (first | rw [if_pos (by omega)] | rw [if_neg (by omega)])
    rw [(sm5 2 (by omega) 1).2.2]
    simp only [m_sI, m_sL, m_sR, m_zap, m_grid, m_up, m_cl, true_and, and_true, and_self, if_true, if_false, false_and, and_false]
    repeat (first | rw [if_pos (by omega)] | rw [if_neg (by omega)])
    rw [(sm4 2 (by omega) 1).2.2]
    simp only [m_sI, m_sL, m_sR, m_zap, m_grid, m_up, m_cl, true_and, and_true, and_self, if_true, if_false, false_and, and_false]
    repeat (first | rw [if_pos (by omega)] | rw [if_neg (by omega)])
    rw [(sm3 2 (by omega) 1).2.2]
    simp only [m_sI, m_sL, m_sR, m_zap, m_grid, m_up, m_cl, true_and, and_true, and_self, if_true, if_false, false_and, and_false]
    repeat (first | rw [if_pos (by omega)] | rw [if_neg (by omega)])
    rw [(sm2 2 (by omega) 1).2.2]
    simp only [m_sI, m_sL, m_sR, m_zap, m_grid, m_up, m_cl, true_and, and_true, and_self, if_true, if_false, false_and, and_false]
    repeat (first | rw [if_pos (by omega)] | rw [if_neg (by omega)])
    exact ra_1 1 (by omega)
  · simp only [m_sI, m_sL, m_sR, m_zap, m_grid, m_up, m_cl, true_and, and_true, and_self, if_true, if_false, false_and, and_false]
    repeat (first | rw [if_pos (by omega)] | rw [if_neg (by omega)])
    rw [(sm10 2 (by omega) 2).2.2]
    simp only [m_sI, m_sL, m_sR, m_zap, m_grid, m_up, m_cl, true_and, and_true, and_self, if_true, if_false, false_and, and_false]
    repeat (first | rw [if_pos (by omega)] | rw [if_neg (by omega)])
    rw [(sm9 2 (by omega) 2).2.2]
    simp only [m_sI, m_sL, m_sR, m_zap, m_grid, m_up, m_cl, true_and, and_true, and_self, if_true, if_false, false_and, and_false]
    repeat (first | rw [if_pos (by omega)] | rw [if_neg (by omega)])
    rw [(sm8 2 (by omega) 2).2.2]
    simp only [m_sI, m_sL, m_sR, m_zap, m_grid, m_up, m_cl, true_and, and_true, and_self, if_true, if_false, false_and, and_false]
    repeat (first | rw [if_pos (by omega)] | rw [if_neg (by omega)])
    rw [(sm7 2 (by omega) 2).2.2]
    simp only [m_sI, m_sL, m_sR, m_zap, m_grid, m_up, m_cl, true_and, and_true, and_self, if_true, if_false, false_and, and_false]
    repeat (first | rw [if_pos (by omega)] | rw [if_neg (by omega)])
    rw [(sm6 2 (by omega) 2).2.2]
    simp only [m_sI, m_sL, m_sR, m_zap, m_grid, m_up, m_cl, true_and, and_true, and_self, if_true, if_false, false_and, and_false]
    repeat (first | rw [if_pos (by omega)] | rw [if_neg (by omega)])
    rw [(sm5 2 (by omega) 2).2.2]
    simp only [m_sI, m_sL, m_sR, m_zap, m_grid, m_up, m_cl, true_and, and_true, and_self, if_true, if_false, false_and, and_false]
    repeat (first | rw [if_pos (by omega)] | rw [if_neg (by omega)])
    rw [(sm4 2 (by omega) 2).2.2]
    simp only [m_sI, m_sL, m_sR, m_zap, m_grid, m_up, m_cl, true_and, and_true, and_self, if_true, if_false, false_and, and_false]
    repeat (first | rw [if_pos (by omega)] | rw [if_neg (by omega)])
    rw [(sm3 2 (by omega) 2).2.2]
    simp only [m_sI, m_sL, m_sR, m_zap, m_grid, m_up, m_cl, true_and, and_true, and_self, if_true, if_false, false_and, and_false]
    repeat (first | rw [if_pos (by omega)] | rw [if_neg (by omega)])
    rw [(sm2 2 (by omega) 2).2.2]
    simp only [m_sI, m_sL, m_sR, m_zap, m_grid, m_up, m_cl, true_and, and_true, and_self, if_true, if_false, false_and, and_false]
    repeat (first | rw [if_pos (by omega)] | rw [if_neg (by omega)])
    exact ra_1 2 (by omega)
  · simp only [m_sI, m_sL, m_sR, m_zap, m_grid, m_up, m_cl, true_and, and_true, and_self, if_true, if_false, false_and, and_false]
    repeat (first | rw [if_pos (by omega)] | rw [if_neg (by omega)])
    rw [(sm10 2 (by omega) 3).2.2]
    simp only [m_sI, m_sL, m_sR, m_zap, m_grid, m_up, m_cl, true_and, and_true, and_self, if_true, if_false, false_and, and_false]
    repeat (first | rw [if_pos (by omega)] | rw [if_neg (by omega)])
    rw [(sm9 2 (by omega) 3).2.2]
    simp only [m_sI, m_sL, m_sR, m_zap, m_grid, m_up, m_cl, true_and, and_true, and_self, if_true, if_false, false_and, and_false]
    repeat (first | rw [if_pos (by omega)] | rw [if_neg (by omega)])
    rw [(sm8 2 (by omega) 3).2.2]
    simp only [m_sI, m_sL, m_sR, m_zap, m_grid, m_up, m_cl, true_and, and_true, and_self, if_true, if_false, false_and, and_false]
    repeat (first | rw [if_pos (by omega)] | rw [if_neg (by omega)])
    rw [(sm7 2 (by omega) 3).2.2]
    simp only [m_sI, m_sL, m_sR, m_zap, m_grid, m_up, m_cl, true_and, and_true, and_self, if_true, if_false, false_and, and_false]
    repeat (first | rw [if_pos (by omega)] | rw [if_neg (by omega)])
    rw [(sm6 2 (by omega) 3).2.2]
    simp only [m_sI, m_sL, m_sR, m_zap, m_grid, m_up, m_cl, true_and, and_true, and_self, if_true, if_false, false_and, and_false]
    repeat (first | rw [if_pos (by omega)] | rw [if_neg (by omega)])
    rw [(sm5 2 (by omega) 3).2.2]
    simp only [m_sI, m_sL, m_sR, m_zap, m_grid, m_up, m_cl, true_and, and_true, and_self, if_true, if_false, false_and, and_false]
    repeat (first | rw [if_pos (by omega)] | rw [if_neg (by omega)])
    rw [(sm4 2 (by omega) 3).2.2]
    simp only [m_sI, m_sL, m_sR, m_zap, m_grid, m_up, m_cl, true_and, and_true, and_self, if_true, if_false, false_and, and_false]
    repeat (first | rw [if_pos (by omega)] | rw [if_neg (by omega)])
    rw [(sm3 2 (by omega) 3).2.2]
    simp only [m_sI, m_sL, m_sR, m_zap, m_grid, m_up, m_cl, true_and, and_true, and_self, if_true, if_false, false_and, and_false]
    repeat (first | rw [if_pos (by omega)] | rw [if_neg (by omega)])
    rw [(sm2 2 (by omega) 3).2.2]
    simp only [m_sI, m_sL, m_sR, m_zap, m_grid, m_up, m_cl, true_and, and_true, and_self, if_true, if_false, false_and, and_false]
    repeat (first | rw [if_pos (by omega)] | rw [if_neg (by omega)])
    exact ra_1 3 (by omega)
  · simp only [m_sI, m_sL, m_sR, m_zap, m_grid, m_up, m_cl, true_and, and_true, and_self, if_true, if_false, false_and, and_false]
    repeat (first | rw [if_pos (by omega)] | rw [if_neg (by omega)])
    rw [(sm10 2 (by omega) 4).2.2]
    simp only [m_sI, m_sL, m_sR, m_zap, m_grid, m_up, m_cl, true_and, and_true, and_self, if_true, if_false, false_and, and_false]
    repeat (first | rw [if_pos (by omega)] | rw [if_neg (by omega)])
    rw [(sm9 2 (by omega) 4).2.2]
    simp only [m_sI, m_sL, m_sR, m_zap, m_grid, m_up, m_cl, true_and, and_true, and_self, if_true, if_false, false_and, and_false]
    repeat (first | rw [if_pos (by omega)] | rw [if_neg (by omega)])
    rw [(sm8 2 (by omega) 4).2.2]
    simp only [m_sI, m_sL, m_sR, m_zap, m_grid, m_up, m_cl, true_and, and_true, and_self, if_true, if_false, false_and, and_false]
    repeat (first | rw [if_pos (by omega)] | rw [if_neg (by omega)])
    rw [(sm7 2 (by omega) 4).2.2]
    simp only [m_sI, m_sL, m_sR, m_zap, m_grid, m_up, m_cl, true_and, and_true, and_self, if_true, if_false, false_and, and_false]
    repeat (first | rw [if_pos (by omega)] | rw [if_neg (by omega)])
    rw [(sm6 2 (by omega) 4).2.2]
    simp only [m_sI, m_sL, m_sR, m_zap, m_grid, m_up, m_cl, true_and, and_true, and_self, if_true, if_false, false_and, and_false]
    repeat (first | rw [if_pos (by omega)] | rw [if_neg (by omega)])
    rw [(sm5 2 (by omega) 4).2.2]
    simp only [m_sI, m_sL, m_sR, m_zap, m_grid, m_up, m_cl, true_and, and_true, and_self, if_true, if_false, false_and, and_false]
    repeat (first | rw [if_pos (by omega)] | rw [if_neg (by omega)])
    rw [(sm4 2 (by omega) 4).2.2]
    simp only [m_sI, m_sL, m_sR, m_zap, m_grid, m_up, m_cl, true_and, and_true, and_self, if_true, if_false, false_and, and_false]
    repeat (first | rw [if_pos (by omega)] | rw [if_neg (by omega)])
    rw [(sm3 2 (by omega) 4).2.2]
    simp only [m_sI, m_sL, m_sR, m_zap, m_grid, m_up, m_cl, true_and, and_true, and_self, if_true, if_false, false_and, and_false]
    repeat (first | rw [if_pos (by omega)] | rw [if_neg (by omega)])
    rw [(sm2 2 (by omega) 4).2.2]
    simp only [m_sI, m_sL, m_sR, m_zap, m_grid, m_up, m_cl, true_and, and_true, and_self, if_true, if_false, false_and, and_false]
    repeat (first | rw [if_pos (by omega)] | rw [if_neg (by omega)])
    exact ra_1 4 (by omega)
  · simp only [m_sI, m_sL, m_sR, m_zap, m_grid, m_up, m_cl, true_and, and_true, and_self, if_true, if_false, false_and, and_false]
    repeat (first | rw [if_pos (by omega)] | rw [if_neg (by omega)])
    rw [(sm10 2 (by omega) 5).2.2]
    simp only [m_sI, m_sL, m_sR, m_zap, m_grid, m_up, m_cl, true_and, and_true, and_self, if_true, if_false, false_and, and_false]
    repeat (first | rw [if_pos (by omega)] | rw [if_neg (by omega)])
    rw [(sm9 2 (by omega) 5).2.2]
    simp only [m_sI, m_sL, m_sR, m_zap, m_grid, m_up, m_cl, true_and, and_true, and_self, if_true, if_false, false_and, and_false]
    repeat (first | rw [if_pos (by omega)] | rw [if_neg (by omega)])
    rw [(sm8 2 (by omega) 5).2.2]
    simp only [m_sI, m_sL, m_sR, m_zap, m_grid, m_up, m_cl, true_and, and_true, and_self, if_true, if_false, false_and, and_false]
    repeat (first | rw [if_pos (by omega)] | rw [if_neg (by omega)])
    rw [(sm7 2 (by omega) 5).2.2]
    simp only [m_sI, m_sL, m_sR, m_zap, m_grid, m_up, m_cl, true_and, and_true, and_self, if_true, if_false, false_and, and_false]
    repeat (first | rw [if_pos (by omega)] | rw [if_neg (by omega)])
    rw [(sm6 2 (by omega) 5).2.2]
    simp only [m_sI, m_sL, m_sR, m_zap, m_grid, m_up, m_cl, true_and, and_true, and_self, if_true, if_false, false_and, and_false]
    repeat (first | rw [if_pos (by omega)] | rw [if_neg (by omega)])
    rw [(sm5 2 (by omega) 5).2.2]
    simp only [m_sI, m_sL, m_sR, m_zap, m_grid, m_up, m_cl, true_and, and_true, and_self, if_true, if_false, false_and, and_false]
    repeat (first | rw [if_pos (by omega)] | rw [if_neg (by omega)])
    rw [(sm4 2 (by omega) 5).2.2]
    simp only [m_sI, m_sL, m_sR, m_zap, m_grid, m_up, m_cl, true_and, and_true, and_self, if_true, if_false, false_and, and_false]
    repeat (first | rw [if_pos (by omega)] | rw [if_neg (by omega)])
    rw [(sm3 2 (by omega) 5).2.2]
    simp only [m_sI, m_sL, m_sR, m_zap, m_grid, m_up, m_cl, true_and, and_true, and_self, if_true, if_false, false_and, and_false]
    repeat (first | rw [if_pos (by omega)] | rw [if_neg (by omega)])
    rw [(sm2 2 (by omega) 5).2.2]
    simp only [m_sI, m_sL, m_sR, m_zap, m_grid, m_up, m_cl, true_and, and_true, and_self, if_true, if_false, false_and, and_false]
    repeat (first | rw [if_pos (by omega)] | rw [if_neg (by omega)])
    exact ra_1 5 (by omega)
  · simp only [m_sI, m_sL, m_sR, m_zap, m_grid, m_up, m_cl, true_and, and_true, and_self, if_true, if_false, false_and, and_false]
    repeat (first | rw [if_pos (by omega)] | rw [if_neg (by omega)])
    rw [(sm10 10 (by omega) 0).2.2]
    simp only [m_sI, m_sL, m_sR, m_zap, m_grid, m_up, m_cl, true_and, and_true, and_self, if_true, if_false, false_and, and_false]
    repeat (first | rw [if_pos (by omega)] | rw [if_neg (by omega)])
    rw [(sm9 10 (by omega) 0).2.2]
    simp only [m_sI, m_sL, m_sR, m_zap, m_grid, m_up, m_cl, true_and, and_true, and_self, if_true, if_false, false_and, and_false]
    repeat (first | rw [if_pos (by omega)] | rw [if_neg (by omega)])
    rw [(sm8 10 (by omega) 0).2.2]
    simp only [m_sI, m_sL, m_sR, m_zap, m_grid, m_up, m_cl, true_and, and_true, and_self, if_true, if_false, false_and, and_false]
    repeat (first | rw [if_pos (by omega)] | rw [if_neg (by omega)])
    rw [(sm7 10 (by omega) 0).2.2]
    simp only [m_sI, m_sL, m_sR, m_zap, m_grid, m_up, m_cl, true_and, and_true, and_self, if_true, if_false, false_and, and_false]
    repeat (first | rw [if_pos (by omega)] | rw [if_neg (by omega)])
    rw [(sm6 10 (by omega) 0).2.2]
    simp only [m_sI, m_sL, m_sR, m_zap, m_grid, m_up, m_cl, true_and, and_true, and_self, if_true, if_false, false_and, and_false]
    repeat (first | rw [if_pos (by omega)] | rw [if_neg (by omega)])
    rw [(sm5 10 (by omega) 0).2.2]
    simp only [m_sI, m_sL, m_sR, m_zap, m_grid, m_up, m_cl, true_and, and_true, and_self, if_true, if_false, false_and, and_false]
    repeat (first | rw [if_pos (by omega)] | rw [if_neg (by omega)])
    rw [(sm4 10 (by omega) 0).2.2]
    simp only [m_sI, m_sL, m_sR, m_zap, m_grid, m_up, m_cl, true_and, and_true, and_self, if_true, if_false, false_and, and_false]
    repeat (first | rw [if_pos (by omega)] | rw [if_neg (by omega)])
    rw [(sm3 10 (by omega) 0).2.2]
    simp only [m_sI, m_sL, m_sR, m_zap, m_grid, m_up, m_cl, true_and, and_true, and_self, if_true, if_false, false_and, and_false]
    repeat (first | rw [if_pos (by omega)] | rw [if_neg (by omega)])
    exact r0_2
  · simp only [m_sI, m_sL, m_sR, m_zap, m_grid, m_up, m_cl, true_and, and_true, and_self, if_true, if_false, false_and, and_false]
    repeat (first | rw [if_pos (by omega)] | rw [if_neg (by omega)])
    rw [(sm10 10 (by omega) 1).2.2]
    simp only [m_sI, m_sL, m_sR, m_zap, m_grid, m_up, m_cl, true_and, and_true, and_self, if_true, if_false, false_and, and_false]
    repeat (first | rw [if_pos (by omega)] | rw [if_neg (by omega)])
    rw [(sm9 10 (by omega) 1).2.2]
    simp only [m_sI, m_sL, m_sR, m_zap, m_grid, m_up, m_cl, true_and, and_true, and_self, if_true, if_false, false_and, and_false]
    repeat (first | rw [if_pos (by omega)] | rw [if_neg (by omega)])
    rw [(sm8 10 (by omega) 1).2.2]
    simp only [m_sI, m_sL, m_sR, m_zap, m_grid, m_up, m_cl, true_and, and_true, and_self, if_true, if_false, false_and, and_false]
    repeat (first | rw [if_pos (by omega)] | rw [if_neg (by omega)])
    rw [(sm7 10 (by omega) 1).2.2]
    simp only [m_sI, m_sL, m_sR, m_zap, m_grid, m_up, m_cl, true_and, and_true, and_self, if_true, if_false, false_and, and_false]
    repeat (first | rw [if_pos (by omega)] | rw [if_neg (by omega)])
    rw [(sm6 10 (by omega) 1).2.2]
    simp only [m_sI, m_sL, m_sR, m_zap, m_grid, m_up, m_cl, true_and, and_true, and_self, if_true, if_false, false_and, and_false]
    repeat (first | rw [if_pos (by omega)] | rw [if_neg (by omega)])
    rw [(sm5 10 (by omega) 1).2.2]
    simp only [m_sI, m_sL, m_sR, m_zap, m_grid, m_up, m_cl, true_and, and_true, and_self, if_true, if_false, false_and, and_false]
    repeat (first | rw [if_pos (by omega)] | rw [if_neg (by omega)])
    rw [(sm4 10 (by omega) 1).2.2]
    simp only [m_sI, m_sL, m_sR, m_zap, m_grid, m_up, m_cl, true_and, and_true, and_self, if_true, if_false, false_and, and_false]
    repeat (first | rw [if_pos (by omega)] | rw [if_neg (by omega)])
    rw [(sm3 10 (by omega) 1).2.2]
    simp only [m_sI, m_sL, m_sR, m_zap, m_grid, m_up, m_cl, true_and, and_true, and_self, if_true, if_false, false_and, and_false]
    repeat (first | rw [if_pos (by omega)] | rw [if_neg (by omega)])
    exact r1_2
  · simp only [m_sI, m_sL, m_sR, m_zap, m_grid, m_up, m_cl, true_and, and_true, and_self, if_true, if_false, false_and, and_false]
    repeat (first | rw [if_pos (by omega)] | rw [if_neg (by omega)])
    rw [(sm10 11 (by omega) 0).2.2]
    simp only [m_sI, m_sL, m_sR, m_zap, m_grid, m_up, m_cl, true_and, and_true, and_self, if_true, if_false, false_and, and_false]
    repeat (first | rw [if_pos (by omega)] | rw [if_neg (by omega)])
    rw [(sm9 11 (by omega) 0).2.2]
    simp only [m_sI, m_sL, m_sR, m_zap, m_grid, m_up, m_cl, true_and, and_true, and_self, if_true, if_false, false_and, and_false]
    repeat (first | rw [if_pos (by omega)] | rw [if_neg (by omega)])
    rw [(sm8 11 (by omega) 0).2.2]
    simp only [m_sI, m_sL, m_sR, m_zap, m_grid, m_up, m_cl, true_and, and_true, and_self, if_true, if_false, false_and, and_false]
    repeat (first | rw [if_pos (by omega)] | rw [if_neg (by omega)])
    rw [(sm7 11 (by omega) 0).2.2]
    simp only [m_sI, m_sL, m_sR, m_zap, m_grid, m_up, m_cl, true_and, and_true, and_self, if_true, if_false, false_and, and_false]
    repeat (first | rw [if_pos (by omega)] | rw [if_neg (by omega)])
    rw [(sm6 11 (by omega) 0).2.2]
    simp only [m_sI, m_sL, m_sR, m_zap, m_grid, m_up, m_cl, true_and, and_true, and_self, if_true, if_false, false_and, and_false]
    repeat (first | rw [if_pos (by omega)] | rw [if_neg (by omega)])
    rw [(sm5 11 (by omega) 0).2.2]
    simp only [m_sI, m_sL, m_sR, m_zap, m_grid, m_up, m_cl, true_and, and_true, and_self, if_true, if_false, false_and, and_false]
    repeat (first | rw [if_pos (by omega)] | rw [if_neg (by omega)])
    rw [(sm4 11 (by omega) 0).2.2]
    simp only [m_sI, m_sL, m_sR, m_zap, m_grid, m_up, m_cl, true_and, and_true, and_self, if_true, if_false, false_and, and_false]
    repeat (first | rw [if_pos (by omega)] | rw [if_neg (by omega)])
    rw [(sm3 11 (by omega) 0).2.2]
    simp only [m_sI, m_sL, m_sR, m_zap, m_grid, m_up, m_cl, true_and, and_true, and_self, if_true, if_false, false_and, and_false]
    repeat (first | rw [if_pos (by omega)] | rw [if_neg (by omega)])
    exact ra_2 0 (by omega)
  · simp only [m_sI, m_sL, m_sR, m_zap, m_grid, m_up, m_cl, true_and, and_true, and_self, if_true, if_false, false_and, and_false]
    repeat (first | rw [if_pos (by omega)] | rw [if_neg (by omega)])
    rw [(sm10 11 (by omega) 1).2.2]
    simp only [m_sI, m_sL, m_sR, m_zap, m_grid, m_up, m_cl, true_and, and_true, and_self, if_true, if_false, false_and, and_false]
    repeat (first | rw [if_pos (by omega)] | rw [if_neg (by omega)])
    rw [(sm9 11 (by omega) 1).2.2]
    simp only [m_sI, m_sL, m_sR, m_zap, m_grid, m_up, m_cl, true_and, and_true, and_self, if_true, if_false, false_and, and_false]
    repeat (first | rw [if_pos (by omega)] | rw [if_neg (by omega)])
    rw [(sm8 11 (by omega) 1).2.2]
    simp only [m_sI, m_sL, m_sR, m_zap, m_grid, m_up, m_cl, true_and, and_true, and_self, if_true, if_false, false_and, and_false]
    repeat (first | rw [if_pos (by omega)] | rw [if_neg (by omega)])
    rw [(sm7 11 (by omega) 1).2.2]
    simp only [m_sI, m_sL, m_sR, m_zap, m_grid, m_up, m_cl, true_and, and_true, and_self, if_true, if_false, false_and, and_false]
    repeat (first | rw [if_pos (by omega)] | rw [if_neg (by omega)])
    rw [(sm6 11 (by omega) 1).2.2]
    simp only [m_sI, m_sL, m_sR, m_zap, m_grid, m_up, m_cl, true_and, and_true, and_self, if_true, if_false, false_and, and_false]
    repeat (first | rw [if_pos (by omega)] | rw [if_neg (by omega)])
    rw [(sm5 11 (by omega) 1).2.2]
    simp only [m_sI, m_sL, m_sR, m_zap, m_grid, m_up, m_cl, true_and, and_true, and_self, if_true, if_false, false_and, and_false]
    repeat (first | rw [if_pos (by omega)] | rw [if_neg (by omega)])
    rw [(sm4 11 (by omega) 1).2.2]
    simp only [m_sI, m_sL, m_sR, m_zap, m_grid, m_up, m_cl, true_and, and_true, and_self, if_true, if_false, false_and, and_false]
    repeat (first | rw [if_pos (by omega)] | rw [if_neg (by omega)])
    rw [(sm3 11 (by omega) 1).2.2]
    simp only [m_sI, m_sL, m_sR, m_zap, m_grid, m_up, m_cl, true_and, and_true, and_self, if_true, if_false, false_and, and_false]
    repeat (first | rw [if_pos (by omega)] | rw [if_neg (by omega)])
    exact ra_2 1 (by omega)
  · simp only [m_sI, m_sL, m_sR, m_zap, m_grid, m_up, m_cl, true_and, and_true, and_self, if_true, if_false, false_and, and_false]
    repeat (first | rw [if_pos (by omega)] | rw [if_neg (by omega)])
    rw [(sm10 11 (by omega) 2).2.2]
    simp only [m_sI, m_sL, m_sR, m_zap, m_grid, m_up, m_cl, true_and, and_true, and_self, if_true, if_false, false_and, and_false]
    repeat (first | rw [if_pos (by omega)] | rw [if_neg (by omega)])
    rw [(sm9 11 (by omega) 2).2.2]
    simp only [m_sI, m_sL, m_sR, m_zap, m_grid, m_up, m_cl, true_and, and_true, and_self, if_true, if_false, false_and, and_false]
    repeat (first | rw [if_pos (by omega)] | rw [if_neg (by omega)])
    rw [(sm8 11 (by omega) 2).2.2]
    simp only [m_sI, m_sL, m_sR, m_zap, m_grid, m_up, m_cl, true_and, and_true, and_self, if_true, if_false, false_and, and_false]
    repeat (first | rw [if_pos (by omega)] | rw [if_neg (by omega)])
    rw [(sm7 11 (by omega) 2).2.2]
    simp only [m_sI, m_sL, m_sR, m_zap, m_grid, m_up, m_cl, true_and, and_true, and_self, if_true, if_false, false_and, and_false]
    repeat (first | rw [if_pos (by omega)] | rw [if_neg (by omega)])
    rw [(sm6 11 (by omega) 2).2.2]
    simp only [m_sI, m_sL, m_sR, m_zap, m_grid, m_up, m_cl, true_and, and_true, and_self, if_true, if_false, false_and, and_false]
    repeat (first | rw [if_pos (by omega)] | rw [if_neg (by omega)])
    rw [(sm5 11 (by omega) 2).2.2]
    simp only [m_sI, m_sL, m_sR, m_zap, m_grid, m_up, m_cl, true_and, and_true, and_self, if_true, if_false, false_and, and_false]
    repeat (first | rw [if_pos (by omega)] | rw [if_neg (by omega)])
    rw [(sm4 11 (by omega) 2).2.2]
    simp only [m_sI, m_sL, m_sR, m_zap, m_grid, m_up, m_cl, true_and, and_true, and_self, if_true, if_false, false_and, and_false]
    repeat (first | rw [if_pos (by omega)] | rw [if_neg (by omega)])
    rw [(sm3 11 (by omega) 2).2.2]
    simp only [m_sI, m_sL, m_sR, m_zap, m_grid, m_up, m_cl, true_and, and_true, and_self, if_true, if_false, false_and, and_false]
    repeat (first | rw [if_pos (by omega)] | rw [if_neg (by omega)])
    exact ra_2 2 (by omega)
  · simp only [m_sI, m_sL, m_sR, m_zap, m_grid, m_up, m_cl, true_and, and_true, and_self, if_true, if_false, false_and, and_false]
    repeat (first | rw [if_pos (by omega)] | rw [if_neg (by omega)])
    rw [(sm10 11 (by omega) 3).2.2]
    simp only [m_sI, m_sL, m_sR, m_zap, m_grid, m_up, m_cl, true_and, and_true, and_self, if_true, if_false, false_and, and_false]
    repeat (first | rw [if_pos (by omega)] | rw [if_neg (by omega)])
    rw [(sm9 11 (by omega) 3).2.2]
    simp only [m_sI, m_sL, m_sR, m_zap, m_grid, m_up, m_cl, true_and, and_true, and_self, if_true, if_false, false_and, and_false]
    repeat (first | rw [if_pos (by omega)] | rw [if_neg (by omega)])
    rw [(sm8 11 (by omega) 3).2.2]
    simp only [m_sI, m_sL, m_sR, m_zap, m_grid, m_up, m_cl, true_and, and_true, and_self, if_true, if_false, false_and, and_false]
    repeat (first | rw [if_pos (by omega)] | rw [if_neg (by omega)])
    rw [(sm7 11 (by omega) 3).2.2]
    simp only [m_sI, m_sL, m_sR, m_zap, m_grid, m_up, m_cl, true_and, and_true, and_self, if_true, if_false, false_and, and_false]
    repeat (first | rw [if_pos (by omega)] | rw [if_neg (by omega)])
    rw [(sm6 11 (by omega) 3).2.2]
    simp only [m_sI, m_sL, m_sR, m_zap, m_grid, m_up, m_cl, true_and, and_true, and_self, if_true, if_false, false_and, and_false]
    repeat (first | rw [if_pos (by omega)] | rw [if_neg (by omega)])
    rw [(sm5 11 (by omega) 3).2.2]
    simp only [m_sI, m_sL, m_sR, m_zap, m_grid, m_up, m_cl, true_and, and_true, and_self, if_true, if_false, false_and, and_false]
    repeat (first | rw [if_pos (by omega)] | rw [if_neg (by omega)])
    rw [(sm4 11 (by omega) 3).2.2]
    simp only [m_sI, m_sL, m_sR, m_zap, m_grid, m_up, m_cl, true_and, and_true, and_self, if_true, if_false, false_and, and_false]
    repeat (first | rw [if_pos (by omega)] | rw [if_neg (by omega)])
    rw [(sm3 11 (by omega) 3).2.2]
    simp only [m_sI, m_sL, m_sR, m_zap, m_grid, m_up, m_cl, true_and, and_true, and_self, if_true, if_false, false_and, and_false]
    repeat (first | rw [if_pos (by omega)] | rw [if_neg (by omega)])
    exact ra_2 3 (by omega)
  · simp only [m_sI, m_sL, m_sR, m_zap, m_grid, m_up, m_cl, true_and, and_true, and_self, if_true, if_false, false_and, and_false]
    repeat (first | rw [if_pos (by omega)] | rw [if_neg (by omega)])
    rw [(sm10 19 (by omega) 0).2.2]
    simp only [m_sI, m_sL, m_sR, m_zap, m_grid, m_up, m_cl, true_and, and_true, and_self, if_true, if_false, false_and, and_false]
    repeat (first | rw [if_pos (by omega)] | rw [if_neg (by omega)])
    rw [(sm9 19 (by omega) 0).2.2]
    simp only [m_sI, m_sL, m_sR, m_zap, m_grid, m_up, m_cl, true_and, and_true, and_self, if_true, if_false, false_and, and_false]
    repeat (first | rw [if_pos (by omega)] | rw [if_neg (by omega)])
    rw [(sm8 19 (by omega) 0).2.2]
    simp only [m_sI, m_sL, m_sR, m_zap, m_grid, m_up, m_cl, true_and, and_true, and_self, if_true, if_false, false_and, and_false]
    repeat (first | rw [if_pos (by omega)] | rw [if_neg (by omega)])
    rw [(sm7 19 (by omega) 0).2.2]
    simp only [m_sI, m_sL, m_sR, m_zap, m_grid, m_up, m_cl, true_and, and_true, and_self, if_true, if_false, false_and, and_false]
    repeat (first | rw [if_pos (by omega)] | rw [if_neg (by omega)])
    rw [(sm6 19 (by omega) 0).2.2]
    simp only [m_sI, m_sL, m_sR, m_zap, m_grid, m_up, m_cl, true_and, and_true, and_self, if_true, if_false, false_and, and_false]
    repeat (first | rw [if_pos (by omega)] | rw [if_neg (by omega)])
    rw [(sm5 19 (by omega) 0).2.2]
    simp only [m_sI, m_sL, m_sR, m_zap, m_grid, m_up, m_cl, true_and, and_true, and_self, if_true, if_false, false_and, and_false]
    repeat (first | rw [if_pos (by omega)] | rw [if_neg (by omega)])
    exact r0_4
  · simp only [m_sI, m_sL, m_sR, m_zap, m_grid, m_up, m_cl, true_and, and_true, and_self, if_true, if_false, false_and, and_false]
    repeat (first | rw [if_pos (by omega)] | rw [if_neg (by omega)])
    rw [(sm10 19 (by omega) 1).2.2]
    simp only [m_sI, m_sL, m_sR, m_zap, m_grid, m_up, m_cl, true_and, and_true, and_self, if_true, if_false, false_and, and_false]
    repeat (first | rw [if_pos (by omega)] | rw [if_neg (by omega)])
    rw [(sm9 19 (by omega) 1).2.2]
    simp only [m_sI, m_sL, m_sR, m_zap, m_grid, m_up, m_cl, true_and, and_true, and_self, if_true, if_false, false_and, and_false]
    repeat (first | rw [if_pos (by omega)] | rw [if_neg (by omega)])
    rw [(sm8 19 (by omega) 1).2.2]
    simp only [m_sI, m_sL, m_sR, m_zap, m_grid, m_up, m_cl, true_and, and_true, and_self, if_true, if_false, false_and, and_false]
    repeat (first | rw [if_pos (by omega)] | rw [if_neg (by omega)])
    rw [(sm7 19 (by omega) 1).2.2]
    simp only [m_sI, m_sL, m_sR, m_zap, m_grid, m_up, m_cl, true_and, and_true, and_self, if_true, if_false, false_and, and_false]
    repeat (first | rw [if_pos (by omega)] | rw [if_neg (by omega)])
    rw [(sm6 19 (by omega) 1).2.2]
    simp only [m_sI, m_sL, m_sR, m_zap, m_grid, m_up, m_cl, true_and, and_true, and_self, if_true, if_false, false_and, and_false]
    repeat (first | rw [if_pos (by omega)] | rw [if_neg (by omega)])
    rw [(sm5 19 (by omega) 1).2.2]
    simp only [m_sI, m_sL, m_sR, m_zap, m_grid, m_up, m_cl, true_and, and_true, and_self, if_true, if_false, false_and, and_false]
    repeat (first | rw [if_pos (by omega)] | rw [if_neg (by omega)])
    exact r1_4
  · simp only [m_sI, m_sL, m_sR, m_zap, m_grid, m_up, m_cl, true_and, and_true, and_self, if_true, if_false, false_and, and_false]
    repeat (first | rw [if_pos (by omega)] | rw [if_neg (by omega)])
    rw [(sm10 19 (by omega) 2).2.2]
    simp only [m_sI, m_sL, m_sR, m_zap, m_grid, m_up, m_cl, true_and, and_true, and_self, if_true, if_false, false_and, and_false]
    repeat (first | rw [if_pos (by omega)] | rw [if_neg (by omega)])
    rw [(sm9 19 (by omega) 2).2.2]
    simp only [m_sI, m_sL, m_sR, m_zap, m_grid, m_up, m_cl, true_and, and_true, and_self, if_true, if_false, false_and, and_false]
    repeat (first | rw [if_pos (by omega)] | rw [if_neg (by omega)])
    rw [(sm8 19 (by omega) 2).2.2]
    simp only [m_sI, m_sL, m_sR, m_zap, m_grid, m_up, m_cl, true_and, and_true, and_self, if_true, if_false, false_and, and_false]
    repeat (first | rw [if_pos (by omega)] | rw [if_neg (by omega)])
    rw [(sm7 19 (by omega) 2).2.2]
    simp only [m_sI, m_sL, m_sR, m_zap, m_grid, m_up, m_cl, true_and, and_true, and_self, if_true, if_false, false_and, and_false]
    repeat (first | rw [if_pos (by omega)] | rw [if_neg (by omega)])
    rw [(sm6 19 (by omega) 2).2.2]
    simp only [m_sI, m_sL, m_sR, m_zap, m_grid, m_up, m_cl, true_and, and_true, and_self, if_true, if_false, false_and, and_false]
    repeat (first | rw [if_pos (by omega)] | rw [if_neg (by omega)])
    rw [(sm5 19 (by omega) 2).2.2]
    simp only [m_sI, m_sL, m_sR, m_zap, m_grid, m_up, m_cl, true_and, and_true, and_self, if_true, if_false, false_and, and_false]
    repeat (first | rw [if_pos (by omega)] | rw [if_neg (by omega)])
    exact r2_4
  · simp only [m_sI, m_sL, m_sR, m_zap, m_grid, m_up, m_cl, true_and, and_true, and_self, if_true, if_false, false_and, and_false]
    repeat (first | rw [if_pos (by omega)] | rw [if_neg (by omega)])
    rw [(sm10 19 (by omega) 3).2.2]
    simp only [m_sI, m_sL, m_sR, m_zap, m_grid, m_up, m_cl, true_and, and_true, and_self, if_true, if_false, false_and, and_false]
    repeat (first | rw [if_pos (by omega)] | rw [if_neg (by omega)])
    rw [(sm9 19 (by omega) 3).2.2]
    simp only [m_sI, m_sL, m_sR, m_zap, m_grid, m_up, m_cl, true_and, and_true, and_self, if_true, if_false, false_and, and_false]
    repeat (first | rw [if_pos (by omega)] | rw [if_neg (by omega)])
    rw [(sm8 19 (by omega) 3).2.2]
    simp only [m_sI, m_sL, m_sR, m_zap, m_grid, m_up, m_cl, true_and, and_true, and_self, if_true, if_false, false_and, and_false]
    repeat (first | rw [if_pos (by omega)] | rw [if_neg (by omega)])
    rw [(sm7 19 (by omega) 3).2.2]
    simp only [m_sI, m_sL, m_sR, m_zap, m_grid, m_up, m_cl, true_and, and_true, and_self, if_true, if_false, false_and, and_false]
    repeat (first | rw [if_pos (by omega)] | rw [if_neg (by omega)])
    rw [(sm6 19 (by omega) 3).2.2]
    simp only [m_sI, m_sL, m_sR, m_zap, m_grid, m_up, m_cl, true_and, and_true, and_self, if_true, if_false, false_and, and_false]
    repeat (first | rw [if_pos (by omega)] | rw [if_neg (by omega)])
    rw [(sm5 19 (by omega) 3).2.2]
    simp only [m_sI, m_sL, m_sR, m_zap, m_grid, m_up, m_cl, true_and, and_true, and_self, if_true, if_false, false_and, and_false]
    repeat (first | rw [if_pos (by omega)] | rw [if_neg (by omega)])
    exact r3_4
  · simp only [m_sI, m_sL, m_sR, m_zap, m_grid, m_up, m_cl, true_and, and_true, and_self, if_true, if_false, false_and, and_false]
    repeat (first | rw [if_pos (by omega)] | rw [if_neg (by omega)])
    rw [(sm10 19 (by omega) 4).2.2]
    simp only [m_sI, m_sL, m_sR, m_zap, m_grid, m_up, m_cl, true_and, and_true, and_self, if_true, if_false, false_and, and_false]
    repeat (first | rw [if_pos (by omega)] | rw [if_neg (by omega)])
    rw [(sm9 19 (by omega) 4).2.2]
    simp only [m_sI, m_sL, m_sR, m_zap, m_grid, m_up, m_cl, true_and, and_true, and_self, if_true, if_false, false_and, and_false]
    repeat (first | rw [if_pos (by omega)] | rw [if_neg (by omega)])
    rw [(sm8 19 (by omega) 4).2.2]
    simp only [m_sI, m_sL, m_sR, m_zap, m_grid, m_up, m_cl, true_and, and_true, and_self, if_true, if_false, false_and, and_false]
    repeat (first | rw [if_pos (by omega)] | rw [if_neg (by omega)])
    rw [(sm7 19 (by omega) 4).2.2]
    simp only [m_sI, m_sL, m_sR, m_zap, m_grid, m_up, m_cl, true_and, and_true, and_self, if_true, if_false, false_and, and_false]
    repeat (first | rw [if_pos (by omega)] | rw [if_neg (by omega)])
    rw [(sm6 19 (by omega) 4).2.2]
    simp only [m_sI, m_sL, m_sR, m_zap, m_grid, m_up, m_cl, true_and, and_true, and_self, if_true, if_false, false_and, and_false]
    repeat (first | rw [if_pos (by omega)] | rw [if_neg (by omega)])
    rw [(sm5 19 (by omega) 4).2.2]
    simp only [m_sI, m_sL, m_sR, m_zap, m_grid, m_up, m_cl, true_and, and_true, and_self, if_true, if_false, false_and, and_false]
    repeat (first | rw [if_pos (by omega)] | rw [if_neg (by omega)])
    exact r4_4
  · simp only [m_sI, m_sL, m_sR, m_zap, m_grid, m_up, m_cl, true_and, and_true, and_self, if_true, if_false, false_and, and_false]
    repeat (first | rw [if_pos (by omega)] | rw [if_neg (by omega)])
    rw [(sm10 19 (by omega) 5).2.2]
    simp only [m_sI, m_sL, m_sR, m_zap, m_grid, m_up, m_cl, true_and, and_true, and_self, if_true, if_false, false_and, and_false]
    repeat (first | rw [if_pos (by omega)] | rw [if_neg (by omega)])
    rw [(sm9 19 (by omega) 5).2.2]
    simp only [m_sI, m_sL, m_sR, m_zap, m_grid, m_up, m_cl, true_and, and_true, and_self, if_true, if_false, false_and, and_false]
    repeat (first | rw [if_pos (by omega)] | rw [if_neg (by omega)])
    rw [(sm8 19 (by omega) 5).2.2]
    simp only [m_sI, m_sL, m_sR, m_zap, m_grid, m_up, m_cl, true_and, and_true, and_self, if_true, if_false, false_and, and_false]
    repeat (first | rw [if_pos (by omega)] | rw [if_neg (by omega)])
    rw [(sm7 19 (by omega) 5).2.2]
    simp only [m_sI, m_sL, m_sR, m_zap, m_grid, m_up, m_cl, true_and, and_true, and_self, if_true, if_false, false_and, and_false]
    repeat (first | rw [if_pos (by omega)] | rw [if_neg (by omega)])
    rw [(sm6 19 (by omega) 5).2.2]
    simp only [m_sI, m_sL, m_sR, m_zap, m_grid, m_up, m_cl, true_and, and_true, and_self, if_true, if_false, false_and, and_false]
    repeat (first | rw [if_pos (by omega)] | rw [if_neg (by omega)])
    rw [(sm5 19 (by omega) 5).2.2]
    simp only [m_sI, m_sL, m_sR, m_zap, m_grid, m_up, m_cl, true_and, and_true, and_self, if_true, if_false, false_and, and_false]
    repeat (first | rw [if_pos (by omega)] | rw [if_neg (by omega)])
    exact r5_4
  · simp only [m_sI, m_sL, m_sR, m_zap, m_grid, m_up, m_cl, true_and, and_true, and_self, if_true, if_false, false_and, and_false]
    repeat (first | rw [if_pos (by omega)] | rw [if_neg (by omega)])
    rw [(sm10 20 (by omega) 0).2.2]
    simp only [m_sI, m_sL, m_sR, m_zap, m_grid, m_up, m_cl, true_and, and_true, and_self, if_true, if_false, false_and, and_false]
    repeat (first | rw [if_pos (by omega)] | rw [if_neg (by omega)])
    rw [(sm9 20 (by omega) 0).2.2]
    simp only [m_sI, m_sL, m_sR, m_zap, m_grid, m_up, m_cl, true_and, and_true, and_self, if_true, if_false, false_and, and_false]
    repeat (first | rw [if_pos (by omega)] | rw [if_neg (by omega)])
    rw [(sm8 20 (by omega) 0).2.2]
    simp only [m_sI, m_sL, m_sR, m_zap, m_grid, m_up, m_cl, true_and, and_true, and_self, if_true, if_false, false_and, and_false]
    repeat (first | rw [if_pos (by omega)] | rw [if_neg (by omega)])
    rw [(sm7 20 (by omega) 0).2.2]
    simp only [m_sI, m_sL, m_sR, m_zap, m_grid, m_up, m_cl, true_and, and_true, and_self, if_true, if_false, false_and, and_false]
    repeat (first | rw [if_pos (by omega)] | rw [if_neg (by omega)])
    rw [(sm6 20 (by omega) 0).2.2]
    simp only [m_sI, m_sL, m_sR, m_zap, m_grid, m_up, m_cl, true_and, and_true, and_self, if_true, if_false, false_and, and_false]
    repeat (first | rw [if_pos (by omega)] | rw [if_neg (by omega)])
    rw [(sm5 20 (by omega) 0).2.2]
    simp only [m_sI, m_sL, m_sR, m_zap, m_grid, m_up, m_cl, true_and, and_true, and_self, if_true, if_false, false_and, and_false]
    repeat (first | rw [if_pos (by omega)] | rw [if_neg (by omega)])
    exact q0_4
  · simp only [m_sI, m_sL, m_sR, m_zap, m_grid, m_up, m_cl, true_and, and_true, and_self, if_true, if_false, false_and, and_false]
    repeat (first | rw [if_pos (by omega)] | rw [if_neg (by omega)])
    rw [(sm10 20 (by omega) 1).2.2]
    simp only [m_sI, m_sL, m_sR, m_zap, m_grid, m_up, m_cl, true_and, and_true, and_self, if_true, if_false, false_and, and_false]
    repeat (first | rw [if_pos (by omega)] | rw [if_neg (by omega)])
    rw [(sm9 20 (by omega) 1).2.2]
    simp only [m_sI, m_sL, m_sR, m_zap, m_grid, m_up, m_cl, true_and, and_true, and_self, if_true, if_false, false_and, and_false]
    repeat (first | rw [if_pos (by omega)] | rw [if_neg (by omega)])
    rw [(sm8 20 (by omega) 1).2.2]
    simp only [m_sI, m_sL, m_sR, m_zap, m_grid, m_up, m_cl, true_and, and_true, and_self, if_true, if_false, false_and, and_false]
    repeat (first | rw [if_pos (by omega)] | rw [if_neg (by omega)])
    rw [(sm7 20 (by omega) 1).2.2]
    simp only [m_sI, m_sL, m_sR, m_zap, m_grid, m_up, m_cl, true_and, and_true, and_self, if_true, if_false, false_and, and_false]
    repeat (first | rw [if_pos (by omega)] | rw [if_neg (by omega)])
    rw [(sm6 20 (by omega) 1).2.2]
    simp only [m_sI, m_sL, m_sR, m_zap, m_grid, m_up, m_cl, true_and, and_true, and_self, if_true, if_false, false_and, and_false]
    repeat (first | rw [if_pos (by omega)] | rw [if_neg (by omega)])
    rw [(sm5 20 (by omega) 1).2.2]
    simp only [m_sI, m_sL, m_sR, m_zap, m_grid, m_up, m_cl, true_and, and_true, and_self, if_true, if_false, false_and, and_false]
    repeat (first | rw [if_pos (by omega)] | rw [if_neg (by omega)])
    exact q1_4
  · simp only [m_sI, m_sL, m_sR, m_zap, m_grid, m_up, m_cl, true_and, and_true, and_self, if_true, if_false, false_and, and_false]
    repeat (first | rw [if_pos (by omega)] | rw [if_neg (by omega)])
    rw [(sm10 20 (by omega) 2).2.2]
    simp only [m_sI, m_sL, m_sR, m_zap, m_grid, m_up, m_cl, true_and, and_true, and_self, if_true, if_false, false_and, and_false]
    repeat (first | rw [if_pos (by omega)] | rw [if_neg (by omega)])
    rw [(sm9 20 (by omega) 2).2.2]
    simp only [m_sI, m_sL, m_sR, m_zap, m_grid, m_up, m_cl, true_and, and_true, and_self, if_true, if_false, false_and, and_false]
    repeat (first | rw [if_pos (by omega)] | rw [if_neg (by omega)])
    rw [(sm8 20 (by omega) 2).2.2]
    simp only [m_sI, m_sL, m_sR, m_zap, m_grid, m_up, m_cl, true_and, and_true, and_self, if_true, if_false, false_and, and_false]
    repeat (first | rw [if_pos (by omega)] | rw [if_neg (by omega)])
    rw [(sm7 20 (by omega) 2).2.2]
    simp only [m_sI, m_sL, m_sR, m_zap, m_grid, m_up, m_cl, true_and, and_true, and_self, if_true, if_false, false_and, and_false]
    repeat (first | rw [if_pos (by omega)] | rw [if_neg (by omega)])
    rw [(sm6 20 (by omega) 2).2.2]
    simp only [m_sI, m_sL, m_sR, m_zap, m_grid, m_up, m_cl, true_and, and_true, and_self, if_true, if_false, false_and, and_false]
    repeat (first | rw [if_pos (by omega)] | rw [if_neg (by omega)])
    rw [(sm5 20 (by omega) 2).2.2]
    simp only [m_sI, m_sL, m_sR, m_zap, m_grid, m_up, m_cl, true_and, and_true, and_self, if_true, if_false, false_and, and_false]
    repeat (first | rw [if_pos (by omega)] | rw [if_neg (by omega)])
    exact q2_4
  · simp only [m_sI, m_sL, m_sR, m_zap, m_grid, m_up, m_cl, true_and, and_true, and_self, if_true, if_false, false_and, and_false]
    repeat (first | rw [if_pos (by omega)] | rw [if_neg (by omega)])
    rw [(sm10 32 (by omega) 5).2.2]
    simp only [m_sI, m_sL, m_sR, m_zap, m_grid, m_up, m_cl, true_and, and_true, and_self, if_true, if_false, false_and, and_false]
    repeat (first | rw [if_pos (by omega)] | rw [if_neg (by omega)])
    rw [(sm9 32 (by omega) 5).2.2]
    simp only [m_sI, m_sL, m_sR, m_zap, m_grid, m_up, m_cl, true_and, and_true, and_self, if_true, if_false, false_and, and_false]
    repeat (first | rw [if_pos (by omega)] | rw [if_neg (by omega)])
    rw [(sm8 32 (by omega) 5).2.2]
    simp only [m_sI, m_sL, m_sR, m_zap, m_grid, m_up, m_cl, true_and, and_true, and_self, if_true, if_false, false_and, and_false]
    repeat (first | rw [if_pos (by omega)] | rw [if_neg (by omega)])
    rw [(sm7 32 (by omega) 5).2.2]
    simp only [m_sI, m_sL, m_sR, m_zap, m_grid, m_up, m_cl, true_and, and_true, and_self, if_true, if_false, false_and, and_false]
    repeat (first | rw [if_pos (by omega)] | rw [if_neg (by omega)])
    rw [(sm6 32 (by omega) 5).2.2]
    simp only [m_sI, m_sL, m_sR, m_zap, m_grid, m_up, m_cl, true_and, and_true, and_self, if_true, if_false, false_and, and_false]
    repeat (first | rw [if_pos (by omega)] | rw [if_neg (by omega)])
    exact r5_5
  · simp only [m_sI, m_sL, m_sR, m_zap, m_grid, m_up, m_cl, true_and, and_true, and_self, if_true, if_false, false_and, and_false]
    repeat (first | rw [if_pos (by omega)] | rw [if_neg (by omega)])
    rw [(sm10 32 (by omega) 6).2.2]
    simp only [m_sI, m_sL, m_sR, m_zap, m_grid, m_up, m_cl, true_and, and_true, and_self, if_true, if_false, false_and, and_false]
    repeat (first | rw [if_pos (by omega)] | rw [if_neg (by omega)])
    rw [(sm9 32 (by omega) 6).2.2]
    simp only [m_sI, m_sL, m_sR, m_zap, m_grid, m_up, m_cl, true_and, and_true, and_self, if_true, if_false, false_and, and_false]
    repeat (first | rw [if_pos (by omega)] | rw [if_neg (by omega)])
    rw [(sm8 32 (by omega) 6).2.2]
    simp only [m_sI, m_sL, m_sR, m_zap, m_grid, m_up, m_cl, true_and, and_true, and_self, if_true, if_false, false_and, and_false]
    repeat (first | rw [if_pos (by omega)] | rw [if_neg (by omega)])
    rw [(sm7 32 (by omega) 6).2.2]
    simp only [m_sI, m_sL, m_sR, m_zap, m_grid, m_up, m_cl, true_and, and_true, and_self, if_true, if_false, false_and, and_false]
    repeat (first | rw [if_pos (by omega)] | rw [if_neg (by omega)])
    rw [(sm6 32 (by omega) 6).2.2]
    simp only [m_sI, m_sL, m_sR, m_zap, m_grid, m_up, m_cl, true_and, and_true, and_self, if_true, if_false, false_and, and_false]
    repeat (first | rw [if_pos (by omega)] | rw [if_neg (by omega)])
    exact r6_5
  · simp only [m_sI, m_sL, m_sR, m_zap, m_grid, m_up, m_cl, true_and, and_true, and_self, if_true, if_false, false_and, and_false]
    repeat (first | rw [if_pos (by omega)] | rw [if_neg (by omega)])
    rw [(sm10 32 (by omega) 7).2.2]
    simp only [m_sI, m_sL, m_sR, m_zap, m_grid, m_up, m_cl, true_and, and_true, and_self, if_true, if_false, false_and, and_false]
    repeat (first | rw [if_pos (by omega)] | rw [if_neg (by omega)])
    rw [(sm9 32 (by omega) 7).2.2]
    simp only [m_sI, m_sL, m_sR, m_zap, m_grid, m_up, m_cl, true_and, and_true, and_self, if_true, if_false, false_and, and_false]
    repeat (first | rw [if_pos (by omega)] | rw [if_neg (by omega)])
    rw [(sm8 32 (by omega) 7).2.2]
    simp only [m_sI, m_sL, m_sR, m_zap, m_grid, m_up, m_cl, true_and, and_true, and_self, if_true, if_false, false_and, and_false]
    repeat (first | rw [if_pos (by omega)] | rw [if_neg (by omega)])
    rw [(sm7 32 (by omega) 7).2.2]
    simp only [m_sI, m_sL, m_sR, m_zap, m_grid, m_up, m_cl, true_and, and_true, and_self, if_true, if_false, false_and, and_false]
    repeat (first | rw [if_pos (by omega)] | rw [if_neg (by omega)])
    rw [(sm6 32 (by omega) 7).2.2]
    simp only [m_sI, m_sL, m_sR, m_zap, m_grid, m_up, m_cl, true_and, and_true, and_self, if_true, if_false, false_and, and_false]
    repeat (first | rw [if_pos (by omega)] | rw [if_neg (by omega)])
    exact r7_5
  · simp only [m_sI, m_sL, m_sR, m_zap, m_grid, m_up, m_cl, true_and, and_true, and_self, if_true, if_false, false_and, and_false]
    repeat (first | rw [if_pos (by omega)] | rw [if_neg (by omega)])
    rw [(sm10 32 (by omega) 8).2.2]
    simp only [m_sI, m_sL, m_sR, m_zap, m_grid, m_up, m_cl, true_and, and_true, and_self, if_true, if_false, false_and, and_false]
    repeat (first | rw [if_pos (by omega)] | rw [if_neg (by omega)])
    rw [(sm9 32 (by omega) 8).2.2]
    simp only [m_sI, m_sL, m_sR, m_zap, m_grid, m_up, m_cl, true_and, and_true, and_self, if_true, if_false, false_and, and_false]
    repeat (first | rw [if_pos (by omega)] | rw [if_neg (by omega)])
    rw [(sm8 32 (by omega) 8).2.2]
    simp only [m_sI, m_sL, m_sR, m_zap, m_grid, m_up, m_cl, true_and, and_true, and_self, if_true, if_false, false_and, and_false]
    repeat (first | rw [if_pos (by omega)] | rw [if_neg (by omega)])
    rw [(sm7 32 (by omega) 8).2.2]
    simp only [m_sI, m_sL, m_sR, m_zap, m_grid, m_up, m_cl, true_and, and_true, and_self, if_true, if_false, false_and, and_false]
    repeat (first | rw [if_pos (by omega)] | rw [if_neg (by omega)])
    rw [(sm6 32 (by omega) 8).2.2]
    simp only [m_sI, m_sL, m_sR, m_zap, m_grid, m_up, m_cl, true_and, and_true, and_self, if_true, if_false, false_and, and_false]
    repeat (first | rw [if_pos (by omega)] | rw [if_neg (by omega)])
    exact r8_5
  · simp only [m_sI, m_sL, m_sR, m_zap, m_grid, m_up, m_cl, true_and, and_true, and_self, if_true, if_false, false_and, and_false]
    repeat (first | rw [if_pos (by omega)] | rw [if_neg (by omega)])
    rw [(sm10 37 (by omega) 5).2.2]
    simp only [m_sI, m_sL, m_sR, m_zap, m_grid, m_up, m_cl, true_and, and_true, and_self, if_true, if_false, false_and, and_false]
    repeat (first | rw [if_pos (by omega)] | rw [if_neg (by omega)])
    rw [(sm9 37 (by omega) 5).2.2]
    simp only [m_sI, m_sL, m_sR, m_zap, m_grid, m_up, m_cl, true_and, and_true, and_self, if_true, if_false, false_and, and_false]
    repeat (first | rw [if_pos (by omega)] | rw [if_neg (by omega)])
    rw [(sm8 37 (by omega) 5).2.2]
    simp only [m_sI, m_sL, m_sR, m_zap, m_grid, m_up, m_cl, true_and, and_true, and_self, if_true, if_false, false_and, and_false]
    repeat (first | rw [if_pos (by omega)] | rw [if_neg (by omega)])
    rw [(sm7 37 (by omega) 5).2.2]
    simp only [m_sI, m_sL, m_sR, m_zap, m_grid, m_up, m_cl, true_and, and_true, and_self, if_true, if_false, false_and, and_false]
    repeat (first | rw [if_pos (by omega)] | rw [if_neg (by omega)])
    exact r5_6
  · simp only [m_sI, m_sL, m_sR, m_zap, m_grid, m_up, m_cl, true_and, and_true, and_self, if_true, if_false, false_and, and_false]
    repeat (first | rw [if_pos (by omega)] | rw [if_neg (by omega)])
    rw [(sm10 37 (by omega) 6).2.2]
    simp only [m_sI, m_sL, m_sR, m_zap, m_grid, m_up, m_cl, true_and, and_true, and_self, if_true, if_false, false_and, and_false]
    repeat (first | rw [if_pos (by omega)] | rw [if_neg (by omega)])
    rw [(sm9 37 (by omega) 6).2.2]
    simp only [m_sI, m_sL, m_sR, m_zap, m_grid, m_up, m_cl, true_and, and_true, and_self, if_true, if_false, false_and, and_false]
    repeat (first | rw [if_pos (by omega)] | rw [if_neg (by omega)])
    rw [(sm8 37 (by omega) 6).2.2]
    simp only [m_sI, m_sL, m_sR, m_zap, m_grid, m_up, m_cl, true_and, and_true, and_self, if_true, if_false, false_and, and_false]
    repeat (first | rw [if_pos (by omega)] | rw [if_neg (by omega)])
    rw [(sm7 37 (by omega) 6).2.2]
    simp only [m_sI, m_sL, m_sR, m_zap, m_grid, m_up, m_cl, true_and, and_true, and_self, if_true, if_false, false_and, and_false]
    repeat (first | rw [if_pos (by omega)] | rw [if_neg (by omega)])
    exact r6_6
  · simp only [m_sI, m_sL, m_sR, m_zap, m_grid, m_up, m_cl, true_and, and_true, and_self, if_true, if_false, false_and, and_false]
    repeat (first | rw [if_pos (by omega)] | rw [if_neg (by omega)])
    rw [(sm10 37 (by omega) 7).2.2]
    simp only [m_sI, m_sL, m_sR, m_zap, m_grid, m_up, m_cl, true_and, and_true, and_self, if_true, if_false, false_and, and_false]
    repeat (first | rw [if_pos (by omega)] | rw [if_neg (by omega)])
    rw [(sm9 37 (by omega) 7).2.2]
    simp only [m_sI, m_sL, m_sR, m_zap, m_grid, m_up, m_cl, true_and, and_true, and_self, if_true, if_false, false_and, and_false]
    repeat (first | rw [if_pos (by omega)] | rw [if_neg (by omega)])
    rw [(sm8 37 (by omega) 7).2.2]
    simp only [m_sI, m_sL, m_sR, m_zap, m_grid, m_up, m_cl, true_and, and_true, and_self, if_true, if_false, false_and, and_false]
    repeat (first | rw [if_pos (by omega)] | rw [if_neg (by omega)])
    rw [(sm7 37 (by omega) 7).2.2]
    simp only [m_sI, m_sL, m_sR, m_zap, m_grid, m_up, m_cl, true_and, and_true, and_self, if_true, if_false, false_and, and_false]
    repeat (first | rw [if_pos (by omega)] | rw [if_neg (by omega)])
    exact r7_6
  · simp only [m_sI, m_sL, m_sR, m_zap, m_grid, m_up, m_cl, true_and, and_true, and_self, if_true, if_false, false_and, and_false]
    repeat (first | rw [if_pos (by omega)] | rw [if_neg (by omega)])
    rw [(sm10 37 (by omega) 8).2.2]
    simp only [m_sI, m_sL, m_sR, m_zap, m_grid, m_up, m_cl, true_and, and_true, and_self, if_true, if_false, false_and, and_false]
    repeat (first | rw [if_pos (by omega)] | rw [if_neg (by omega)])
    rw [(sm9 37 (by omega) 8).2.2]
    simp only [m_sI, m_sL, m_sR, m_zap, m_grid, m_up, m_cl, true_and, and_true, and_self, if_true, if_false, false_and, and_false]
    repeat (first | rw [if_pos (by omega)] | rw [if_neg (by omega)])
    rw [(sm8 37 (by omega) 8).2.2]
    simp only [m_sI, m_sL, m_sR, m_zap, m_grid, m_up, m_cl, true_and, and_true, and_self, if_true, if_false, false_and, and_false]
    repeat (first | rw [if_pos (by omega)] | rw [if_neg (by omega)])
    rw [(sm7 37 (by omega) 8).2.2]
    simp only [m_sI, m_sL, m_sR, m_zap, m_grid, m_up, m_cl, true_and, and_true, and_self, if_true, if_false, false_and, and_false]
    repeat (first | rw [if_pos (by omega)] | rw [if_neg (by omega)])
    exact r8_6
  · simp only [m_sI, m_sL, m_sR, m_zap, m_grid, m_up, m_cl, true_and, and_true, and_self, if_true, if_false, false_and, and_false]
    repeat (first | rw [if_pos (by omega)] | rw [if_neg (by omega)])
    rw [(sm10 42 (by omega) 5).2.2]
    simp only [m_sI, m_sL, m_sR, m_zap, m_grid, m_up, m_cl, true_and, and_true, and_self, if_true, if_false, false_and, and_false]
    repeat (first | rw [if_pos (by omega)] | rw [if_neg (by omega)])
    rw [(sm9 42 (by omega) 5).2.2]
    simp only [m_sI, m_sL, m_sR, m_zap, m_grid, m_up, m_cl, true_and, and_true, and_self, if_true, if_false, false_and, and_false]
    repeat (first | rw [if_pos (by omega)] | rw [if_neg (by omega)])
    rw [(sm8 42 (by omega) 5).2.2]
    simp only [m_sI, m_sL, m_sR, m_zap, m_grid, m_up, m_cl, true_and, and_true, and_self, if_true, if_false, false_and, and_false]
    repeat (first | rw [if_pos (by omega)] | rw [if_neg (by omega)])
    exact r5_7
  · simp only [m_sI, m_sL, m_sR, m_zap, m_grid, m_up, m_cl, true_and, and_true, and_self, if_true, if_false, false_and, and_false]
    repeat (first | rw [if_pos (by omega)] | rw [if_neg (by omega)])
    rw [(sm10 42 (by omega) 6).2.2]
    simp only [m_sI, m_sL, m_sR, m_zap, m_grid, m_up, m_cl, true_and, and_true, and_self, if_true, if_false, false_and, and_false]
    repeat (first | rw [if_pos (by omega)] | rw [if_neg (by omega)])
    rw [(sm9 42 (by omega) 6).2.2]
    simp only [m_sI, m_sL, m_sR, m_zap, m_grid, m_up, m_cl, true_and, and_true, and_self, if_true, if_false, false_and, and_false]
    repeat (first | rw [if_pos (by omega)] | rw [if_neg (by omega)])
    rw [(sm8 42 (by omega) 6).2.2]
    simp only [m_sI, m_sL, m_sR, m_zap, m_grid, m_up, m_cl, true_and, and_true, and_self, if_true, if_false, false_and, and_false]
    repeat (first | rw [if_pos (by omega)] | rw [if_neg (by omega)])
    exact r6_7
  · simp only [m_sI, m_sL, m_sR, m_zap, m_grid, m_up, m_cl, true_and, and_true, and_self, if_true, if_false, false_and, and_false]
    repeat (first | rw [if_pos (by omega)] | rw [if_neg (by omega)])
    rw [(sm10 42 (by omega) 7).2.2]
    simp only [m_sI, m_sL, m_sR, m_zap, m_grid, m_up, m_cl, true_and, and_true, and_self, if_true, if_false, false_and, and_false]
    repeat (first | rw [if_pos (by omega)] | rw [if_neg (by omega)])
    rw [(sm9 42 (by omega) 7).2.2]
    simp only [m_sI, m_sL, m_sR, m_zap, m_grid, m_up, m_cl, true_and, and_true, and_self, if_true, if_false, false_and, and_false]
    repeat (first | rw [if_pos (by omega)] | rw [if_neg (by omega)])
    rw [(sm8 42 (by omega) 7).2.2]
    simp only [m_sI, m_sL, m_sR, m_zap, m_grid, m_up, m_cl, true_and, and_true, and_self, if_true, if_false, false_and, and_false]
    repeat (first | rw [if_pos (by omega)] | rw [if_neg (by omega)])
    exact r7_7
  · simp only [m_sI, m_sL, m_sR, m_zap, m_grid, m_up, m_cl, true_and, and_true, and_self, if_true, if_false, false_and, and_false]
    repeat (first | rw [if_pos (by omega)] | rw [if_neg (by omega)])
    rw [(sm10 42 (by omega) 8).2.2]
    simp only [m_sI, m_sL, m_sR, m_zap, m_grid, m_up, m_cl, true_and, and_true, and_self, if_true, if_false, false_and, and_false]
    repeat (first | rw [if_pos (by omega)] | rw [if_neg (by omega)])
    rw [(sm9 42 (by omega) 8).2.2]
    simp only [m_sI, m_sL, m_sR, m_zap, m_grid, m_up, m_cl, true_and, and_true, and_self, if_true, if_false, false_and, and_false]
    repeat (first | rw [if_pos (by omega)] | rw [if_neg (by omega)])
    rw [(sm8 42 (by omega) 8).2.2]
    simp only [m_sI, m_sL, m_sR, m_zap, m_grid, m_up, m_cl, true_and, and_true, and_self, if_true, if_false, false_and, and_false]
    repeat (first | rw [if_pos (by omega)] | rw [if_neg (by omega)])
    exact r8_7
  · simp only [m_sI, m_sL, m_sR, m_zap, m_grid, m_up, m_cl, true_and, and_true, and_self, if_true, if_false, false_and, and_false]
    repeat (first | rw [if_pos (by omega)] | rw [if_neg (by omega)])
    rw [(sm10 42 (by omega) 9).2.2]
    simp only [m_sI, m_sL, m_sR, m_zap, m_grid, m_up, m_cl, true_and, and_true, and_self, if_true, if_false, false_and, and_false]
    repeat (first | rw [if_pos (by omega)] | rw [if_neg (by omega)])
    rw [(sm9 42 (by omega) 9).2.2]
    simp only [m_sI, m_sL, m_sR, m_zap, m_grid, m_up, m_cl, true_and, and_true, and_self, if_true, if_false, false_and, and_false]
    repeat (first | rw [if_pos (by omega)] | rw [if_neg (by omega)])
    rw [(sm8 42 (by omega) 9).2.2]
    simp only [m_sI, m_sL, m_sR, m_zap, m_grid, m_up, m_cl, true_and, and_true, and_self, if_true, if_false, false_and, and_false]
    repeat (first | rw [if_pos (by omega)] | rw [if_neg (by omega)])
    exact r9_7
  · simp only [m_sI, m_sL, m_sR, m_zap, m_grid, m_up, m_cl, true_and, and_true, and_self, if_true, if_false, false_and, and_false]
    repeat (first | rw [if_pos (by omega)] | rw [if_neg (by omega)])
    rw [(sm10 42 (by omega) 10).2.2]
    simp only [m_sI, m_sL, m_sR, m_zap, m_grid, m_up, m_cl, true_and, and_true, and_self, if_true, if_false, false_and, and_false]
    repeat (first | rw [if_pos (by omega)] | rw [if_neg (by omega)])
    rw [(sm9 42 (by omega) 10).2.2]
    simp only [m_sI, m_sL, m_sR, m_zap, m_grid, m_up, m_cl, true_and, and_true, and_self, if_true, if_false, false_and, and_false]
    repeat (first | rw [if_pos (by omega)] | rw [if_neg (by omega)])
    rw [(sm8 42 (by omega) 10).2.2]
    simp only [m_sI, m_sL, m_sR, m_zap, m_grid, m_up, m_cl, true_and, and_true, and_self, if_true, if_false, false_and, and_false]
    repeat (first | rw [if_pos (by omega)] | rw [if_neg (by omega)])
    exact r10_7
  · simp only [m_sI, m_sL, m_sR, m_zap, m_grid, m_up, m_cl, true_and, and_true, and_self, if_true, if_false, false_and, and_false]
    repeat (first | rw [if_pos (by omega)] | rw [if_neg (by omega)])
    rw [(sm10 42 (by omega) 11).2.2]
    simp only [m_sI, m_sL, m_sR, m_zap, m_grid, m_up, m_cl, true_and, and_true, and_self, if_true, if_false, false_and, and_false]
    repeat (first | rw [if_pos (by omega)] | rw [if_neg (by omega)])
    rw [(sm9 42 (by omega) 11).2.2]
    simp only [m_sI, m_sL, m_sR, m_zap, m_grid, m_up, m_cl, true_and, and_true, and_self, if_true, if_false, false_and, and_false]
    repeat (first | rw [if_pos (by omega)] | rw [if_neg (by omega)])
    rw [(sm8 42 (by omega) 11).2.2]
    simp only [m_sI, m_sL, m_sR, m_zap, m_grid, m_up, m_cl, true_and, and_true, and_self, if_true, if_false, false_and, and_false]
    repeat (first | rw [if_pos (by omega)] | rw [if_neg (by omega)])
    exact r11_7
  · simp only [m_sI, m_sL, m_sR, m_zap, m_grid, m_up, m_cl, true_and, and_true, and_self, if_true, if_false, false_and, and_false]
    repeat (first | rw [if_pos (by omega)] | rw [if_neg (by omega)])
    rw [(sm10 50 (by omega) 5).2.2]
    simp only [m_sI, m_sL, m_sR, m_zap, m_grid, m_up, m_cl, true_and, and_true, and_self, if_true, if_false, false_and, and_false]
    repeat (first | rw [if_pos (by omega)] | rw [if_neg (by omega)])
    rw [(sm9 50 (by omega) 5).2.2]
    simp only [m_sI, m_sL, m_sR, m_zap, m_grid, m_up, m_cl, true_and, and_true, and_self, if_true, if_false, false_and, and_false]
    repeat (first | rw [if_pos (by omega)] | rw [if_neg (by omega)])
    exact r5_8
  · simp only [m_sI, m_sL, m_sR, m_zap, m_grid, m_up, m_cl, true_and, and_true, and_self, if_true, if_false, false_and, and_false]
    repeat (first | rw [if_pos (by omega)] | rw [if_neg (by omega)])
    rw [(sm10 50 (by omega) 6).2.2]
    simp only [m_sI, m_sL, m_sR, m_zap, m_grid, m_up, m_cl, true_and, and_true, and_self, if_true, if_false, false_and, and_false]
    repeat (first | rw [if_pos (by omega)] | rw [if_neg (by omega)])
    rw [(sm9 50 (by omega) 6).2.2]
    simp only [m_sI, m_sL, m_sR, m_zap, m_grid, m_up, m_cl, true_and, and_true, and_self, if_true, if_false, false_and, and_false]
    repeat (first | rw [if_pos (by omega)] | rw [if_neg (by omega)])
    exact r6_8
  · simp only [m_sI, m_sL, m_sR, m_zap, m_grid, m_up, m_cl, true_and, and_true, and_self, if_true, if_false, false_and, and_false]
    repeat (first | rw [if_pos (by omega)] | rw [if_neg (by omega)])
    rw [(sm10 50 (by omega) 7).2.2]
    simp only [m_sI, m_sL, m_sR, m_zap, m_grid, m_up, m_cl, true_and, and_true, and_self, if_true, if_false, false_and, and_false]
    repeat (first | rw [if_pos (by omega)] | rw [if_neg (by omega)])
    rw [(sm9 50 (by omega) 7).2.2]
    simp only [m_sI, m_sL, m_sR, m_zap, m_grid, m_up, m_cl, true_and, and_true, and_self, if_true, if_false, false_and, and_false]
    repeat (first | rw [if_pos (by omega)] | rw [if_neg (by omega)])
    exact r7_8
  · simp only [m_sI, m_sL, m_sR, m_zap, m_grid, m_up, m_cl, true_and, and_true, and_self, if_true, if_false, false_and, and_false]
    repeat (first | rw [if_pos (by omega)] | rw [if_neg (by omega)])
    rw [(sm10 50 (by omega) 8).2.2]
    simp only [m_sI, m_sL, m_sR, m_zap, m_grid, m_up, m_cl, true_and, and_true, and_self, if_true, if_false, false_and, and_false]
    repeat (first | rw [if_pos (by omega)] | rw [if_neg (by omega)])
    rw [(sm9 50 (by omega) 8).2.2]
    simp only [m_sI, m_sL, m_sR, m_zap, m_grid, m_up, m_cl, true_and, and_true, and_self, if_true, if_false, false_and, and_false]
    repeat (first | rw [if_pos (by omega)] | rw [if_neg (by omega)])
    exact r8_8
  · simp only [m_sI, m_sL, m_sR, m_zap, m_grid, m_up, m_cl, true_and, and_true, and_self, if_true, if_false, false_and, and_false]
    repeat (first | rw [if_pos (by omega)] | rw [if_neg (by omega)])
    rw [(sm10 50 (by omega) 9).2.2]
    simp only [m_sI, m_sL, m_sR, m_zap, m_grid, m_up, m_cl, true_and, and_true, and_self, if_true, if_false, false_and, and_false]
    repeat (first | rw [if_pos (by omega)] | rw [if_neg (by omega)])
    rw [(sm9 50 (by omega) 9).2.2]
    simp only [m_sI, m_sL, m_sR, m_zap, m_grid, m_up, m_cl, true_and, and_true, and_self, if_true, if_false, false_and, and_false]
    repeat (first | rw [if_pos (by omega)] | rw [if_neg (by omega)])
    exact r9_8
  · simp only [m_sI, m_sL, m_sR, m_zap, m_grid, m_up, m_cl, true_and, and_true, and_self, if_true, if_false, false_and, and_false]
    repeat (first | rw [if_pos (by omega)] | rw [if_neg (by omega)])
    rw [(sm10 50 (by omega) 10).2.2]
    simp only [m_sI, m_sL, m_sR, m_zap, m_grid, m_up, m_cl, true_and, and_true, and_self, if_true, if_false, false_and, and_false]
    repeat (first | rw [if_pos (by omega)] | rw [if_neg (by omega)])
    rw [(sm9 50 (by omega) 10).2.2]
    simp only [m_sI, m_sL, m_sR, m_zap, m_grid, m_up, m_cl, true_and, and_true, and_self, if_true, if_false, false_and, and_false]
    repeat (first | rw [if_pos (by omega)] | rw [if_neg (by omega)])
    exact r10_8
  · simp only [m_sI, m_sL, m_sR, m_zap, m_grid, m_up, m_cl, true_and, and_true, and_self, if_true, if_false, false_and, and_false]
    repeat (first | rw [if_pos (by omega)] | rw [if_neg (by omega)])
    rw [(sm10 50 (by omega) 11).2.2]
    simp only [m_sI, m_sL, m_sR, m_zap, m_grid, m_up, m_cl, true_and, and_true, and_self, if_true, if_false, false_and, and_false]
    repeat (first | rw [if_pos (by omega)] | rw [if_neg (by omega)])
    rw [(sm9 50 (by omega) 11).2.2]
    simp only [m_sI, m_sL, m_sR, m_zap, m_grid, m_up, m_cl, true_and, and_true, and_self, if_true, if_false, false_and, and_false]
    repeat (first | rw [if_pos (by omega)] | rw [if_neg (by omega)])
    exact r11_8
  · simp only [m_sI, m_sL, m_sR, m_zap, m_grid, m_up, m_cl, true_and, and_true, and_self, if_true, if_false, false_and, and_false]
    repeat (first | rw [if_pos (by omega)] | rw [if_neg (by omega)])
    rw [(sm10 58 (by omega) 1).2.2]
    simp only [m_sI, m_sL, m_sR, m_zap, m_grid, m_up, m_cl, true_and, and_true, and_self, if_true, if_false, false_and, and_false]
    repeat (first | rw [if_pos (by omega)] | rw [if_neg (by omega)])
    exact r1_9
  · simp only [m_sI, m_sL, m_sR, m_zap, m_grid, m_up, m_cl, true_and, and_true, and_self, if_true, if_false, false_and, and_false]
    repeat (first | rw [if_pos (by omega)] | rw [if_neg (by omega)])
    rw [(sm10 58 (by omega) 2).2.2]
    simp only [m_sI, m_sL, m_sR, m_zap, m_grid, m_up, m_cl, true_and, and_true, and_self, if_true, if_false, false_and, and_false]
    repeat (first | rw [if_pos (by omega)] | rw [if_neg (by omega)])
    exact r2_9
  · simp only [m_sI, m_sL, m_sR, m_zap, m_grid, m_up, m_cl, true_and, and_true, and_self, if_true, if_false, false_and, and_false]
    repeat (first | rw [if_pos (by omega)] | rw [if_neg (by omega)])
    rw [(sm10 58 (by omega) 3).2.2]
    simp only [m_sI, m_sL, m_sR, m_zap, m_grid, m_up, m_cl, true_and, and_true, and_self, if_true, if_false, false_and, and_false]
    repeat (first | rw [if_pos (by omega)] | rw [if_neg (by omega)])
    exact r3_9
  · simp only [m_sI, m_sL, m_sR, m_zap, m_grid, m_up, m_cl, true_and, and_true, and_self, if_true, if_false, false_and, and_false]
    repeat (first | rw [if_pos (by omega)] | rw [if_neg (by omega)])
    rw [(sm10 58 (by omega) 4).2.2]
    simp only [m_sI, m_sL, m_sR, m_zap, m_grid, m_up, m_cl, true_and, and_true, and_self, if_true, if_false, false_and, and_false]
    repeat (first | rw [if_pos (by omega)] | rw [if_neg (by omega)])
    exact r4_9
  · simp only [m_sI, m_sL, m_sR, m_zap, m_grid, m_up, m_cl, true_and, and_true, and_self, if_true, if_false, false_and, and_false]
    repeat (first | rw [if_pos (by omega)] | rw [if_neg (by omega)])
    exact r1_10
  · simp only [m_sI, m_sL, m_sR, m_zap, m_grid, m_up, m_cl, true_and, and_true, and_self, if_true, if_false, false_and, and_false]
    repeat (first | rw [if_pos (by omega)] | rw [if_neg (by omega)])
    exact r2_10
  · simp only [m_sI, m_sL, m_sR, m_zap, m_grid, m_up, m_cl, true_and, and_true, and_self, if_true, if_false, false_and, and_false]
    repeat (first | rw [if_pos (by omega)] | rw [if_neg (by omega)])
    exact r3_10
  · simp only [m_sI, m_sL, m_sR, m_zap, m_grid, m_up, m_cl, true_and, and_true, and_self, if_true, if_false, false_and, and_false]
    repeat (first | rw [if_pos (by omega)] | rw [if_neg (by omega)])
    exact r4_10
  · simp only [m_sI, m_sL, m_sR, m_zap, m_grid, m_up, m_cl, true_and, and_true, and_self, if_true, if_false, false_and, and_false]
    repeat (first | rw [if_pos (by omega)] | rw [if_neg (by omega)])
    rw [(sm10 0 (by omega) 8).2.2]
    simp only [m_sI, m_sL, m_sR, m_zap, m_grid, m_up, m_cl, true_and, and_true, and_self, if_true, if_false, false_and, and_false]
    repeat (first | rw [if_pos (by omega)] | rw [if_neg (by omega)])
    rw [(sm9 0 (by omega) 8).2.2]
    simp only [m_sI, m_sL, m_sR, m_zap, m_grid, m_up, m_cl, true_and, and_true, and_self, if_true, if_false, false_and, and_false]
    repeat (first | rw [if_pos (by omega)] | rw [if_neg (by omega)])
    rw [(sm8 0 (by omega) 8).2.2]
    simp only [m_sI, m_sL, m_sR, m_zap, m_grid, m_up, m_cl, true_and, and_true, and_self, if_true, if_false, false_and, and_false]
    repeat (first | rw [if_pos (by omega)] | rw [if_neg (by omega)])
    rw [(sm7 0 (by omega) 8).2.2]
    simp only [m_sI, m_sL, m_sR, m_zap, m_grid, m_up, m_cl, true_and, and_true, and_self, if_true, if_false, false_and, and_false]
    repeat (first | rw [if_pos (by omega)] | rw [if_neg (by omega)])
    rw [(sm6 0 (by omega) 8).2.2]
    simp only [m_sI, m_sL, m_sR, m_zap, m_grid, m_up, m_cl, true_and, and_true, and_self, if_true, if_false, false_and, and_false]
    repeat (first | rw [if_pos (by omega)] | rw [if_neg (by omega)])
  · simp only [m_sI, m_sL, m_sR, m_zap, m_grid, m_up, m_cl, true_and, and_true, and_self, if_true, if_false, false_and, and_false]
    repeat (first | rw [if_pos (by omega)] | rw [if_neg (by omega)])
    rw [(sm10 0 (by omega) 9).2.2]
    simp only [m_sI, m_sL, m_sR, m_zap, m_grid, m_up, m_cl, true_and, and_true, and_self, if_true, if_false, false_and, and_false]
    repeat (first | rw [if_pos (by omega)] | rw [if_neg (by omega)])
    rw [(sm9 0 (by omega) 9).2.2]
    simp only [m_sI, m_sL, m_sR, m_zap, m_grid, m_up, m_cl, true_and, and_true, and_self, if_true, if_false, false_and, and_false]
    repeat (first | rw [if_pos (by omega)] | rw [if_neg (by omega)])
    rw [(sm8 0 (by omega) 9).2.2]
    simp only [m_sI, m_sL, m_sR, m_zap, m_grid, m_up, m_cl, true_and, and_true, and_self, if_true, if_false, false_and, and_false]
    repeat (first | rw [if_pos (by omega)] | rw [if_neg (by omega)])
    rw [(sm7 0 (by omega) 9).2.2]
    simp only [m_sI, m_sL, m_sR, m_zap, m_grid, m_up, m_cl, true_and, and_true, and_self, if_true, if_false, false_and, and_false]
    repeat (first | rw [if_pos (by omega)] | rw [if_neg (by omega)])
  · simp only [m_sI, m_sL, m_sR, m_zap, m_grid, m_up, m_cl, true_and, and_true, and_self, if_true, if_false, false_and, and_false]
    repeat (first | rw [if_pos (by omega)] | rw [if_neg (by omega)])
    rw [(sm10 19 (by omega) 6).2.2]
    simp only [m_sI, m_sL, m_sR, m_zap, m_grid, m_up, m_cl, true_and, and_true, and_self, if_true, if_false, false_and, and_false]
    repeat (first | rw [if_pos (by omega)] | rw [if_neg (by omega)])
    rw [(sm9 19 (by omega) 6).2.2]
    simp only [m_sI, m_sL, m_sR, m_zap, m_grid, m_up, m_cl, true_and, and_true, and_self, if_true, if_false, false_and, and_false]
    repeat (first | rw [if_pos (by omega)] | rw [if_neg (by omega)])
    rw [(sm8 19 (by omega) 6).2.2]
    simp only [m_sI, m_sL, m_sR, m_zap, m_grid, m_up, m_cl, true_and, and_true, and_self, if_true, if_false, false_and, and_false]
    repeat (first | rw [if_pos (by omega)] | rw [if_neg (by omega)])
    rw [(sm7 19 (by omega) 6).2.2]
    simp only [m_sI, m_sL, m_sR, m_zap, m_grid, m_up, m_cl, true_and, and_true, and_self, if_true, if_false, false_and, and_false]
    repeat (first | rw [if_pos (by omega)] | rw [if_neg (by omega)])
    rw [(sm6 19 (by omega) 6).2.2]
    simp only [m_sI, m_sL, m_sR, m_zap, m_grid, m_up, m_cl, true_and, and_true, and_self, if_true, if_false, false_and, and_false]
    repeat (first | rw [if_pos (by omega)] | rw [if_neg (by omega)])
    rw [(sm5 19 (by omega) 6).2.2]
    simp only [m_sI, m_sL, m_sR, m_zap, m_grid, m_up, m_cl, true_and, and_true, and_self, if_true, if_false, false_and, and_false]
    repeat (first | rw [if_pos (by omega)] | rw [if_neg (by omega)])
    exact r6_4
  · simp only [m_sI, m_sL, m_sR, m_zap, m_grid, m_up, m_cl, true_and, and_true, and_self, if_true, if_false, false_and, and_false]
    repeat (first | rw [if_pos (by omega)] | rw [if_neg (by omega)])
    rw [(sm10 19 (by omega) 7).2.2]
    simp only [m_sI, m_sL, m_sR, m_zap, m_grid, m_up, m_cl, true_and, and_true, and_self, if_true, if_false, false_and, and_false]
    repeat (first | rw [if_pos (by omega)] | rw [if_neg (by omega)])
    rw [(sm9 19 (by omega) 7).2.2]
    simp only [m_sI, m_sL, m_sR, m_zap, m_grid, m_up, m_cl, true_and, and_true, and_self, if_true, if_false, false_and, and_false]
    repeat (first | rw [if_pos (by omega)] | rw [if_neg (by omega)])
    rw [(sm8 19 (by omega) 7).2.2]
    simp only [m_sI, m_sL, m_sR, m_zap, m_grid, m_up, m_cl, true_and, and_true, and_self, if_true, if_false, false_and, and_false]
    repeat (first | rw [if_pos (by omega)] | rw [if_neg (by omega)])
    rw [(sm7 19 (by omega) 7).2.2]
    simp only [m_sI, m_sL, m_sR, m_zap, m_grid, m_up, m_cl, true_and, and_true, and_self, if_true, if_false, false_and, and_false]
    repeat (first | rw [if_pos (by omega)] | rw [if_neg (by omega)])
    rw [(sm6 19 (by omega) 7).2.2]
    simp only [m_sI, m_sL, m_sR, m_zap, m_grid, m_up, m_cl, true_and, and_true, and_self, if_true, if_false, false_and, and_false]
    repeat (first | rw [if_pos (by omega)] | rw [if_neg (by omega)])
    rw [(sm5 19 (by omega) 7).2.2]
    simp only [m_sI, m_sL, m_sR, m_zap, m_grid, m_up, m_cl, true_and, and_true, and_self, if_true, if_false, false_and, and_false]
    repeat (first | rw [if_pos (by omega)] | rw [if_neg (by omega)])
    exact r7_4
  · simp only [m_sI, m_sL, m_sR, m_zap, m_grid, m_up, m_cl, true_and, and_true, and_self, if_true, if_false, false_and, and_false]
    repeat (first | rw [if_pos (by omega)] | rw [if_neg (by omega)])
    rw [(sm10 19 (by omega) 8).2.2]
    simp only [m_sI, m_sL, m_sR, m_zap, m_grid, m_up, m_cl, true_and, and_true, and_self, if_true, if_false, false_and, and_false]
    repeat (first | rw [if_pos (by omega)] | rw [if_neg (by omega)])
    rw [(sm9 19 (by omega) 8).2.2]
    simp only [m_sI, m_sL, m_sR, m_zap, m_grid, m_up, m_cl, true_and, and_true, and_self, if_true, if_false, false_and, and_false]
    repeat (first | rw [if_pos (by omega)] | rw [if_neg (by omega)])
    rw [(sm8 19 (by omega) 8).2.2]
    simp only [m_sI, m_sL, m_sR, m_zap, m_grid, m_up, m_cl, true_and, and_true, and_self, if_true, if_false, false_and, and_false]
    repeat (first | rw [if_pos (by omega)] | rw [if_neg (by omega)])
    rw [(sm7 19 (by omega) 8).2.2]
    simp only [m_sI, m_sL, m_sR, m_zap, m_grid, m_up, m_cl, true_and, and_true, and_self, if_true, if_false, false_and, and_false]
    repeat (first | rw [if_pos (by omega)] | rw [if_neg (by omega)])
    rw [(sm6 19 (by omega) 8).2.2]
    simp only [m_sI, m_sL, m_sR, m_zap, m_grid, m_up, m_cl, true_and, and_true, and_self, if_true, if_false, false_and, and_false]
    repeat (first | rw [if_pos (by omega)] | rw [if_neg (by omega)])
    rw [(sm5 19 (by omega) 8).2.2]
    simp only [m_sI, m_sL, m_sR, m_zap, m_grid, m_up, m_cl, true_and, and_true, and_self, if_true, if_false, false_and, and_false]
    repeat (first | rw [if_pos (by omega)] | rw [if_neg (by omega)])
    exact r8_4
  · simp only [m_sI, m_sL, m_sR, m_zap, m_grid, m_up, m_cl, true_and, and_true, and_self, if_true, if_false, false_and, and_false]
    repeat (first | rw [if_pos (by omega)] | rw [if_neg (by omega)])
    rw [(sm10 19 (by omega) 12).1]
    simp only [m_sI, m_sL, m_sR, m_zap, m_grid, m_up, m_cl, true_and, and_true, and_self, if_true, if_false, false_and, and_false]
    repeat (first | rw [if_pos (by omega)] | rw [if_neg (by omega)])
    rw [(sm9 19 (by omega) 12).1]
    simp only [m_sI, m_sL, m_sR, m_zap, m_grid, m_up, m_cl, true_and, and_true, and_self, if_true, if_false, false_and, and_false]
    repeat (first | rw [if_pos (by omega)] | rw [if_neg (by omega)])
    rw [(sm8 19 (by omega) 12).1]
    simp only [m_sI, m_sL, m_sR, m_zap, m_grid, m_up, m_cl, true_and, and_true, and_self, if_true, if_false, false_and, and_false]
    repeat (first | rw [if_pos (by omega)] | rw [if_neg (by omega)])
    rw [(sm7 19 (by omega) 12).1]
    simp only [m_sI, m_sL, m_sR, m_zap, m_grid, m_up, m_cl, true_and, and_true, and_self, if_true, if_false, false_and, and_false]
    repeat (first | rw [if_pos (by omega)] | rw [if_neg (by omega)])
    rw [(sm6 19 (by omega) 12).1]
    simp only [m_sI, m_sL, m_sR, m_zap, m_grid, m_up, m_cl, true_and, and_true, and_self, if_true, if_false, false_and, and_false]
    repeat (first | rw [if_pos (by omega)] | rw [if_neg (by omega)])
    rw [(sm5 19 (by omega) 12).1]
    simp only [m_sI, m_sL, m_sR, m_zap, m_grid, m_up, m_cl, true_and, and_true, and_self, if_true, if_false, false_and, and_false]
    repeat (first | rw [if_pos (by omega)] | rw [if_neg (by omega)])
    rw [sI_4]
    simp only [m_sI, m_sL, m_sR, m_zap, m_grid, m_up, m_cl, true_and, and_true, and_self, if_true, if_false, false_and, and_false]
    repeat (first | rw [if_pos (by omega)] | rw [if_neg (by omega)])
  · simp only [m_sI, m_sL, m_sR, m_zap, m_grid, m_up, m_cl, true_and, and_true, and_self, if_true, if_false, false_and, and_false]
    repeat (first | rw [if_pos (by omega)] | rw [if_neg (by omega)])
    rw [(sm10 19 (by omega) 15).1]
    simp only [m_sI, m_sL, m_sR, m_zap, m_grid, m_up, m_cl, true_and, and_true, and_self, if_true, if_false, false_and, and_false]
    repeat (first | rw [if_pos (by omega)] | rw [if_neg (by omega)])
    rw [(sm9 19 (by omega) 15).1]
    simp only [m_sI, m_sL, m_sR, m_zap, m_grid, m_up, m_cl, true_and, and_true, and_self, if_true, if_false, false_and, and_false]
    repeat (first | rw [if_pos (by omega)] | rw [if_neg (by omega)])
    rw [(sm8 19 (by omega) 15).1]
    simp only [m_sI, m_sL, m_sR, m_zap, m_grid, m_up, m_cl, true_and, and_true, and_self, if_true, if_false, false_and, and_false]
    repeat (first | rw [if_pos (by omega)] | rw [if_neg (by omega)])
    rw [(sm7 19 (by omega) 15).1]
    simp only [m_sI, m_sL, m_sR, m_zap, m_grid, m_up, m_cl, true_and, and_true, and_self, if_true, if_false, false_and, and_false]
    repeat (first | rw [if_pos (by omega)] | rw [if_neg (by omega)])
    rw [(sm6 19 (by omega) 15).1]
    simp only [m_sI, m_sL, m_sR, m_zap, m_grid, m_up, m_cl, true_and, and_true, and_self, if_true, if_false, false_and, and_false]
    repeat (first | rw [if_pos (by omega)] | rw [if_neg (by omega)])
    rw [(sm5 19 (by omega) 15).1]
    simp only [m_sI, m_sL, m_sR, m_zap, m_grid, m_up, m_cl, true_and, and_true, and_self, if_true, if_false, false_and, and_false]
    repeat (first | rw [if_pos (by omega)] | rw [if_neg (by omega)])
    rw [sI_4]
    simp only [m_sI, m_sL, m_sR, m_zap, m_grid, m_up, m_cl, true_and, and_true, and_self, if_true, if_false, false_and, and_false]
    repeat (first | rw [if_pos (by omega)] | rw [if_neg (by omega)])
  · simp only [m_sI, m_sL, m_sR, m_zap, m_grid, m_up, m_cl, true_and, and_true, and_self, if_true, if_false, false_and, and_false]
    repeat (first | rw [if_pos (by omega)] | rw [if_neg (by omega)])
    rw [(sm10 32 (by omega) 0).1]
    simp only [m_sI, m_sL, m_sR, m_zap, m_grid, m_up, m_cl, true_and, and_true, and_self, if_true, if_false, false_and, and_false]
    repeat (first | rw [if_pos (by omega)] | rw [if_neg (by omega)])
    rw [(sm9 32 (by omega) 0).1]
    simp only [m_sI, m_sL, m_sR, m_zap, m_grid, m_up, m_cl, true_and, and_true, and_self, if_true, if_false, false_and, and_false]
    repeat (first | rw [if_pos (by omega)] | rw [if_neg (by omega)])
    rw [(sm8 32 (by omega) 0).1]
    simp only [m_sI, m_sL, m_sR, m_zap, m_grid, m_up, m_cl, true_and, and_true, and_self, if_true, if_false, false_and, and_false]
    repeat (first | rw [if_pos (by omega)] | rw [if_neg (by omega)])
    rw [(sm7 32 (by omega) 0).1]
    simp only [m_sI, m_sL, m_sR, m_zap, m_grid, m_up, m_cl, true_and, and_true, and_self, if_true, if_false, false_and, and_false]
    repeat (first | rw [if_pos (by omega)] | rw [if_neg (by omega)])
    rw [(sm6 32 (by omega) 0).1]
    simp only [m_sI, m_sL, m_sR, m_zap, m_grid, m_up, m_cl, true_and, and_true, and_self, if_true, if_false, false_and, and_false]
    repeat (first | rw [if_pos (by omega)] | rw [if_neg (by omega)])
    exact i0_5
  · simp only [m_sI, m_sL, m_sR, m_zap, m_grid, m_up, m_cl, true_and, and_true, and_self, if_true, if_false, false_and, and_false]
    repeat (first | rw [if_pos (by omega)] | rw [if_neg (by omega)])
    rw [(sm10 32 (by omega) 1).1]
    simp only [m_sI, m_sL, m_sR, m_zap, m_grid, m_up, m_cl, true_and, and_true, and_self, if_true, if_false, false_and, and_false]
    repeat (first | rw [if_pos (by omega)] | rw [if_neg (by omega)])
    rw [(sm9 32 (by omega) 1).1]
    simp only [m_sI, m_sL, m_sR, m_zap, m_grid, m_up, m_cl, true_and, and_true, and_self, if_true, if_false, false_and, and_false]
    repeat (first | rw [if_pos (by omega)] | rw [if_neg (by omega)])
    rw [(sm8 32 (by omega) 1).1]
    simp only [m_sI, m_sL, m_sR, m_zap, m_grid, m_up, m_cl, true_and, and_true, and_self, if_true, if_false, false_and, and_false]
    repeat (first | rw [if_pos (by omega)] | rw [if_neg (by omega)])
    rw [(sm7 32 (by omega) 1).1]
    simp only [m_sI, m_sL, m_sR, m_zap, m_grid, m_up, m_cl, true_and, and_true, and_self, if_true, if_false, false_and, and_false]
    repeat (first | rw [if_pos (by omega)] | rw [if_neg (by omega)])
    rw [(sm6 32 (by omega) 1).1]
    simp only [m_sI, m_sL, m_sR, m_zap, m_grid, m_up, m_cl, true_and, and_true, and_self, if_true, if_false, false_and, and_false]
    repeat (first | rw [if_pos (by omega)] | rw [if_neg (by omega)])
    exact i1_5
  · simp only [m_sI, m_sL, m_sR, m_zap, m_grid, m_up, m_cl, true_and, and_true, and_self, if_true, if_false, false_and, and_false]
    repeat (first | rw [if_pos (by omega)] | rw [if_neg (by omega)])
    rw [(sm10 32 (by omega) 2).1]
    simp only [m_sI, m_sL, m_sR, m_zap, m_grid, m_up, m_cl, true_and, and_true, and_self, if_true, if_false, false_and, and_false]
    repeat (first | rw [if_pos (by omega)] | rw [if_neg (by omega)])
    rw [(sm9 32 (by omega) 2).1]
    simp only [m_sI, m_sL, m_sR, m_zap, m_grid, m_up, m_cl, true_and, and_true, and_self, if_true, if_false, false_and, and_false]
    repeat (first | rw [if_pos (by omega)] | rw [if_neg (by omega)])
    rw [(sm8 32 (by omega) 2).1]
    simp only [m_sI, m_sL, m_sR, m_zap, m_grid, m_up, m_cl, true_and, and_true, and_self, if_true, if_false, false_and, and_false]
    repeat (first | rw [if_pos (by omega)] | rw [if_neg (by omega)])
    rw [(sm7 32 (by omega) 2).1]
    simp only [m_sI, m_sL, m_sR, m_zap, m_grid, m_up, m_cl, true_and, and_true, and_self, if_true, if_false, false_and, and_false]
    repeat (first | rw [if_pos (by omega)] | rw [if_neg (by omega)])
    rw [(sm6 32 (by omega) 2).1]
    simp only [m_sI, m_sL, m_sR, m_zap, m_grid, m_up, m_cl, true_and, and_true, and_self, if_true, if_false, false_and, and_false]
    repeat (first | rw [if_pos (by omega)] | rw [if_neg (by omega)])
    exact i2_5
  · simp only [m_sI, m_sL, m_sR, m_zap, m_grid, m_up, m_cl, true_and, and_true, and_self, if_true, if_false, false_and, and_false]
    repeat (first | rw [if_pos (by omega)] | rw [if_neg (by omega)])
    rw [(sm10 32 (by omega) 3).1]
    simp only [m_sI, m_sL, m_sR, m_zap, m_grid, m_up, m_cl, true_and, and_true, and_self, if_true, if_false, false_and, and_false]
    repeat (first | rw [if_pos (by omega)] | rw [if_neg (by omega)])
    rw [(sm9 32 (by omega) 3).1]
    simp only [m_sI, m_sL, m_sR, m_zap, m_grid, m_up, m_cl, true_and, and_true, and_self, if_true, if_false, false_and, and_false]
    repeat (first | rw [if_pos (by omega)] | rw [if_neg (by omega)])
    rw [(sm8 32 (by omega) 3).1]
    simp only [m_sI, m_sL, m_sR, m_zap, m_grid, m_up, m_cl, true_and, and_true, and_self, if_true, if_false, false_and, and_false]
    repeat (first | rw [if_pos (by omega)] | rw [if_neg (by omega)])
    rw [(sm7 32 (by omega) 3).1]
    simp only [m_sI, m_sL, m_sR, m_zap, m_grid, m_up, m_cl, true_and, and_true, and_self, if_true, if_false, false_and, and_false]
    repeat (first | rw [if_pos (by omega)] | rw [if_neg (by omega)])
    rw [(sm6 32 (by omega) 3).1]
    simp only [m_sI, m_sL, m_sR, m_zap, m_grid, m_up, m_cl, true_and, and_true, and_self, if_true, if_false, false_and, and_false]
    repeat (first | rw [if_pos (by omega)] | rw [if_neg (by omega)])
    exact i3_5
  · simp only [m_sI, m_sL, m_sR, m_zap, m_grid, m_up, m_cl, true_and, and_true, and_self, if_true, if_false, false_and, and_false]
    repeat (first | rw [if_pos (by omega)] | rw [if_neg (by omega)])
    rw [(sm10 32 (by omega) 4).1]
    simp only [m_sI, m_sL, m_sR, m_zap, m_grid, m_up, m_cl, true_and, and_true, and_self, if_true, if_false, false_and, and_false]
    repeat (first | rw [if_pos (by omega)] | rw [if_neg (by omega)])
    rw [(sm9 32 (by omega) 4).1]
    simp only [m_sI, m_sL, m_sR, m_zap, m_grid, m_up, m_cl, true_and, and_true, and_self, if_true, if_false, false_and, and_false]
    repeat (first | rw [if_pos (by omega)] | rw [if_neg (by omega)])
    rw [(sm8 32 (by omega) 4).1]
    simp only [m_sI, m_sL, m_sR, m_zap, m_grid, m_up, m_cl, true_and, and_true, and_self, if_true, if_false, false_and, and_false]
    repeat (first | rw [if_pos (by omega)] | rw [if_neg (by omega)])
    rw [(sm7 32 (by omega) 4).1]
    simp only [m_sI, m_sL, m_sR, m_zap, m_grid, m_up, m_cl, true_and, and_true, and_self, if_true, if_false, false_and, and_false]
    repeat (first | rw [if_pos (by omega)] | rw [if_neg (by omega)])
    rw [(sm6 32 (by omega) 4).1]
    simp only [m_sI, m_sL, m_sR, m_zap, m_grid, m_up, m_cl, true_and, and_true, and_self, if_true, if_false, false_and, and_false]
    repeat (first | rw [if_pos (by omega)] | rw [if_neg (by omega)])
    exact i4_5
  · simp only [m_sI, m_sL, m_sR, m_zap, m_grid, m_up, m_cl, true_and, and_true, and_self, if_true, if_false, false_and, and_false]
    repeat (first | rw [if_pos (by omega)] | rw [if_neg (by omega)])
    rw [(sm10 58 (by omega) 0).1]
    simp only [m_sI, m_sL, m_sR, m_zap, m_grid, m_up, m_cl, true_and, and_true, and_self, if_true, if_false, false_and, and_false]
    repeat (first | rw [if_pos (by omega)] | rw [if_neg (by omega)])
    rw [sI_9]
    simp only [m_sI, m_sL, m_sR, m_zap, m_grid, m_up, m_cl, true_and, and_true, and_self, if_true, if_false, false_and, and_false]
    repeat (first | rw [if_pos (by omega)] | rw [if_neg (by omega)])
  · simp only [m_sI, m_sL, m_sR, m_zap, m_grid, m_up, m_cl, true_and, and_true, and_self, if_true, if_false, false_and, and_false]
    repeat (first | rw [if_pos (by omega)] | rw [if_neg (by omega)])
    rw [(sm10 9 (by omega) _).1]
    simp only [m_sI, m_sL, m_sR, m_zap, m_grid, m_up, m_cl, true_and, and_true, and_self, if_true, if_false, false_and, and_false]
    repeat (first | rw [if_pos (by omega)] | rw [if_neg (by omega)])
    rw [(sm9 9 (by omega) _).1]
    simp only [m_sI, m_sL, m_sR, m_zap, m_grid, m_up, m_cl, true_and, and_true, and_self, if_true, if_false, false_and, and_false]
    repeat (first | rw [if_pos (by omega)] | rw [if_neg (by omega)])
    rw [(sm8 9 (by omega) _).1]
    simp only [m_sI, m_sL, m_sR, m_zap, m_grid, m_up, m_cl, true_and, and_true, and_self, if_true, if_false, false_and, and_false]
    repeat (first | rw [if_pos (by omega)] | rw [if_neg (by omega)])
    rw [(sm7 9 (by omega) _).1]
    simp only [m_sI, m_sL, m_sR, m_zap, m_grid, m_up, m_cl, true_and, and_true, and_self, if_true, if_false, false_and, and_false]
    repeat (first | rw [if_pos (by omega)] | rw [if_neg (by omega)])
    rw [(sm6 9 (by omega) _).1]
    simp only [m_sI, m_sL, m_sR, m_zap, m_grid, m_up, m_cl, true_and, and_true, and_self, if_true, if_false, false_and, and_false]
    repeat (first | rw [if_pos (by omega)] | rw [if_neg (by omega)])
    rw [(sm5 9 (by omega) _).1]
    simp only [m_sI, m_sL, m_sR, m_zap, m_grid, m_up, m_cl, true_and, and_true, and_self, if_true, if_false, false_and, and_false]
    repeat (first | rw [if_pos (by omega)] | rw [if_neg (by omega)])
    rw [(sm4 9 (by omega) _).1]
    simp only [m_sI, m_sL, m_sR, m_zap, m_grid, m_up, m_cl, true_and, and_true, and_self, if_true, if_false, false_and, and_false]
    repeat (first | rw [if_pos (by omega)] | rw [if_neg (by omega)])
    rw [(sm3 9 (by omega) _).1]
    simp only [m_sI, m_sL, m_sR, m_zap, m_grid, m_up, m_cl, true_and, and_true, and_self, if_true, if_false, false_and, and_false]
    repeat (first | rw [if_pos (by omega)] | rw [if_neg (by omega)])
    rw [(sm2 9 (by omega) _).1]
    simp only [m_sI, m_sL, m_sR, m_zap, m_grid, m_up, m_cl, true_and, and_true, and_self, if_true, if_false, false_and, and_false]
    repeat (first | rw [if_pos (by omega)] | rw [if_neg (by omega)])
    exact rs_1 r hr
  · simp only [m_sI, m_sL, m_sR, m_zap, m_grid, m_up, m_cl, true_and, and_true, and_self, if_true, if_false, false_and, and_false]
    repeat (first | rw [if_pos (by omega)] | rw [if_neg (by omega)])
    rw [(sm10 (3 + r) (by omega) i).1]
    simp only [m_sI, m_sL, m_sR, m_zap, m_grid, m_up, m_cl, true_and, and_true, and_self, if_true, if_false, false_and, and_false]
    repeat (first | rw [if_pos (by omega)] | rw [if_neg (by omega)])
    rw [(sm9 (3 + r) (by omega) i).1]
    simp only [m_sI, m_sL, m_sR, m_zap, m_grid, m_up, m_cl, true_and, and_true, and_self, if_true, if_false, false_and, and_false]
    repeat (first | rw [if_pos (by omega)] | rw [if_neg (by omega)])
    rw [(sm8 (3 + r) (by omega) i).1]
    simp only [m_sI, m_sL, m_sR, m_zap, m_grid, m_up, m_cl, true_and, and_true, and_self, if_true, if_false, false_and, and_false]
    repeat (first | rw [if_pos (by omega)] | rw [if_neg (by omega)])
    rw [(sm7 (3 + r) (by omega) i).1]
    simp only [m_sI, m_sL, m_sR, m_zap, m_grid, m_up, m_cl, true_and, and_true, and_self, if_true, if_false, false_and, and_false]
    repeat (first | rw [if_pos (by omega)] | rw [if_neg (by omega)])
    rw [(sm6 (3 + r) (by omega) i).1]
    simp only [m_sI, m_sL, m_sR, m_zap, m_grid, m_up, m_cl, true_and, and_true, and_self, if_true, if_false, false_and, and_false]
    repeat (first | rw [if_pos (by omega)] | rw [if_neg (by omega)])
    rw [(sm5 (3 + r) (by omega) i).1]
    simp only [m_sI, m_sL, m_sR, m_zap, m_grid, m_up, m_cl, true_and, and_true, and_self, if_true, if_false, false_and, and_false]
    repeat (first | rw [if_pos (by omega)] | rw [if_neg (by omega)])
    rw [(sm4 (3 + r) (by omega) i).1]
    simp only [m_sI, m_sL, m_sR, m_zap, m_grid, m_up, m_cl, true_and, and_true, and_self, if_true, if_false, false_and, and_false]
    repeat (first | rw [if_pos (by omega)] | rw [if_neg (by omega)])
    rw [(sm3 (3 + r) (by omega) i).1]
    simp only [m_sI, m_sL, m_sR, m_zap, m_grid, m_up, m_cl, true_and, and_true, and_self, if_true, if_false, false_and, and_false]
    repeat (first | rw [if_pos (by omega)] | rw [if_neg (by omega)])
    rw [(sm2 (3 + r) (by omega) i).1]
    simp only [m_sI, m_sL, m_sR, m_zap, m_grid, m_up, m_cl, true_and, and_true, and_self, if_true, if_false, false_and, and_false]
    repeat (first | rw [if_pos (by omega)] | rw [if_neg (by omega)])
    exact rz_1 r hr i
  · simp only [m_sI, m_sL, m_sR, m_zap, m_grid, m_up, m_cl, true_and, and_true, and_self, if_true, if_false, false_and, and_false]
    repeat (first | rw [if_pos (by omega)] | rw [if_neg (by omega)])
    rw [(sm10 16 (by omega) _).1]
    simp only [m_sI, m_sL, m_sR, m_zap, m_grid, m_up, m_cl, true_and, and_true, and_self, if_true, if_false, false_and, and_false]
    repeat (first | rw [if_pos (by omega)] | rw [if_neg (by omega)])
    rw [(sm9 16 (by omega) _).1]
    simp only [m_sI, m_sL, m_sR, m_zap, m_grid, m_up, m_cl, true_and, and_true, and_self, if_true, if_false, false_and, and_false]
    repeat (first | rw [if_pos (by omega)] | rw [if_neg (by omega)])
    rw [(sm8 16 (by omega) _).1]
    simp only [m_sI, m_sL, m_sR, m_zap, m_grid, m_up, m_cl, true_and, and_true, and_self, if_true, if_false, false_and, and_false]
    repeat (first | rw [if_pos (by omega)] | rw [if_neg (by omega)])
    rw [(sm7 16 (by omega) _).1]
    simp only [m_sI, m_sL, m_sR, m_zap, m_grid, m_up, m_cl, true_and, and_true, and_self, if_true, if_false, false_and, and_false]
    repeat (first | rw [if_pos (by omega)] | rw [if_neg (by omega)])
    rw [(sm6 16 (by omega) _).1]
    simp only [m_sI, m_sL, m_sR, m_zap, m_grid, m_up, m_cl, true_and, and_true, and_self, if_true, if_false, false_and, and_false]
    repeat (first | rw [if_pos (by omega)] | rw [if_neg (by omega)])
    rw [(sm5 16 (by omega) _).1]
    simp only [m_sI, m_sL, m_sR, m_zap, m_grid, m_up, m_cl, true_and, and_true, and_self, if_true, if_false, false_and, and_false]
    repeat (first | rw [if_pos (by omega)] | rw [if_neg (by omega)])
    rw [(sm4 16 (by omega) _).1]
    simp only [m_sI, m_sL, m_sR, m_zap, m_grid, m_up, m_cl, true_and, and_true, and_self, if_true, if_false, false_and, and_false]
    repeat (first | rw [if_pos (by omega)] | rw [if_neg (by omega)])
    rw [(sm3 16 (by omega) _).1]
    simp only [m_sI, m_sL, m_sR, m_zap, m_grid, m_up, m_cl, true_and, and_true, and_self, if_true, if_false, false_and, and_false]
    repeat (first | rw [if_pos (by omega)] | rw [if_neg (by omega)])
    exact rs_2 t ht
  · simp only [m_sI, m_sL, m_sR, m_zap, m_grid, m_up, m_cl, true_and, and_true, and_self, if_true, if_false, false_and, and_false]
    repeat (first | rw [if_pos (by omega)] | rw [if_neg (by omega)])
    rw [(sm10 (12 + t) (by omega) i).1]
    simp only [m_sI, m_sL, m_sR, m_zap, m_grid, m_up, m_cl, true_and, and_true, and_self, if_true, if_false, false_and, and_false]
    repeat (first | rw [if_pos (by omega)] | rw [if_neg (by omega)])
    rw [(sm9 (12 + t) (by omega) i).1]
    simp only [m_sI, m_sL, m_sR, m_zap, m_grid, m_up, m_cl, true_and, and_true, and_self, if_true, if_false, false_and, and_false]
    repeat (first | rw [if_pos (by omega)] | rw [if_neg (by omega)])
    rw [(sm8 (12 + t) (by omega) i).1]
    simp only [m_sI, m_sL, m_sR, m_zap, m_grid, m_up, m_cl, true_and, and_true, and_self, if_true, if_false, false_and, and_false]
    repeat (first | rw [if_pos (by omega)] | rw [if_neg (by omega)])
    rw [(sm7 (12 + t) (by omega) i).1]
    simp only [m_sI, m_sL, m_sR, m_zap, m_grid, m_up, m_cl, true_and, and_true, and_self, if_true, if_false, false_and, and_false]
    repeat (first | rw [if_pos (by omega)] | rw [if_neg (by omega)])
    rw [(sm6 (12 + t) (by omega) i).1]
    simp only [m_sI, m_sL, m_sR, m_zap, m_grid, m_up, m_cl, true_and, and_true, and_self, if_true, if_false, false_and, and_false]
    repeat (first | rw [if_pos (by omega)] | rw [if_neg (by omega)])
    rw [(sm5 (12 + t) (by omega) i).1]
    simp only [m_sI, m_sL, m_sR, m_zap, m_grid, m_up, m_cl, true_and, and_true, and_self, if_true, if_false, false_and, and_false]
    repeat (first | rw [if_pos (by omega)] | rw [if_neg (by omega)])
    rw [(sm4 (12 + t) (by omega) i).1]
    simp only [m_sI, m_sL, m_sR, m_zap, m_grid, m_up, m_cl, true_and, and_true, and_self, if_true, if_false, false_and, and_false]
    repeat (first | rw [if_pos (by omega)] | rw [if_neg (by omega)])
    rw [(sm3 (12 + t) (by omega) i).1]
    simp only [m_sI, m_sL, m_sR, m_zap, m_grid, m_up, m_cl, true_and, and_true, and_self, if_true, if_false, false_and, and_false]
    repeat (first | rw [if_pos (by omega)] | rw [if_neg (by omega)])
    exact rz_2 t ht i
  · simp only [m_sI, m_sL, m_sR, m_zap, m_grid, m_up, m_cl, true_and, and_true, and_self, if_true, if_false, false_and, and_false]
    repeat (first | rw [if_pos (by omega)] | rw [if_neg (by omega)])
    rw [(sm10 0 (by omega) 10).1]
    simp only [m_sI, m_sL, m_sR, m_zap, m_grid, m_up, m_cl, true_and, and_true, and_self, if_true, if_false, false_and, and_false]
    repeat (first | rw [if_pos (by omega)] | rw [if_neg (by omega)])
    rw [(sm9 0 (by omega) 10).1]
    simp only [m_sI, m_sL, m_sR, m_zap, m_grid, m_up, m_cl, true_and, and_true, and_self, if_true, if_false, false_and, and_false]
    repeat (first | rw [if_pos (by omega)] | rw [if_neg (by omega)])
    rw [(sm8 0 (by omega) 10).1]
    simp only [m_sI, m_sL, m_sR, m_zap, m_grid, m_up, m_cl, true_and, and_true, and_self, if_true, if_false, false_and, and_false]
    repeat (first | rw [if_pos (by omega)] | rw [if_neg (by omega)])
    rw [(sm7 0 (by omega) 10).1]
    simp only [m_sI, m_sL, m_sR, m_zap, m_grid, m_up, m_cl, true_and, and_true, and_self, if_true, if_false, false_and, and_false]
    repeat (first | rw [if_pos (by omega)] | rw [if_neg (by omega)])
    rw [(sm6 0 (by omega) 10).1]
    simp only [m_sI, m_sL, m_sR, m_zap, m_grid, m_up, m_cl, true_and, and_true, and_self, if_true, if_false, false_and, and_false]
    repeat (first | rw [if_pos (by omega)] | rw [if_neg (by omega)])
    rw [(sm5 0 (by omega) 10).1]
    simp only [m_sI, m_sL, m_sR, m_zap, m_grid, m_up, m_cl, true_and, and_true, and_self, if_true, if_false, false_and, and_false]
    repeat (first | rw [if_pos (by omega)] | rw [if_neg (by omega)])
    rw [(sm4 0 (by omega) 10).1]
    simp only [m_sI, m_sL, m_sR, m_zap, m_grid, m_up, m_cl, true_and, and_true, and_self, if_true, if_false, false_and, and_false]
    repeat (first | rw [if_pos (by omega)] | rw [if_neg (by omega)])
    rw [(sm3 0 (by omega) 10).1]
    simp only [m_sI, m_sL, m_sR, m_zap, m_grid, m_up, m_cl, true_and, and_true, and_self, if_true, if_false, false_and, and_false]
    repeat (first | rw [if_pos (by omega)] | rw [if_neg (by omega)])
    rw [(sm2 0 (by omega) 10).1]
    simp only [m_sI, m_sL, m_sR, m_zap, m_grid, m_up, m_cl, true_and, and_true, and_self, if_true, if_false, false_and, and_false]
    repeat (first | rw [if_pos (by omega)] | rw [if_neg (by omega)])
    rw [(sm1 0 (by omega) 10).1]
    simp only [m_sI, m_sL, m_sR, m_zap, m_grid, m_up, m_cl, true_and, and_true, and_self, if_true, if_false, false_and, and_false]
    repeat (first | rw [if_pos (by omega)] | rw [if_neg (by omega)])
    exact hI 10
  · simp only [m_sI, m_sL, m_sR, m_zap, m_grid, m_up, m_cl, true_and, and_true, and_self, if_true, if_false, false_and, and_false]
    repeat (first | rw [if_pos (by omega)] | rw [if_neg (by omega)])
    rw [(sm10 0 (by omega) 11).1]
    simp only [m_sI, m_sL, m_sR, m_zap, m_grid, m_up, m_cl, true_and, and_true, and_self, if_true, if_false, false_and, and_false]
    repeat (first | rw [if_pos (by omega)] | rw [if_neg (by omega)])
    rw [(sm9 0 (by omega) 11).1]
    simp only [m_sI, m_sL, m_sR, m_zap, m_grid, m_up, m_cl, true_and, and_true, and_self, if_true, if_false, false_and, and_false]
    repeat (first | rw [if_pos (by omega)] | rw [if_neg (by omega)])
    rw [(sm8 0 (by omega) 11).1]
    simp only [m_sI, m_sL, m_sR, m_zap, m_grid, m_up, m_cl, true_and, and_true, and_self, if_true, if_false, false_and, and_false]
    repeat (first | rw [if_pos (by omega)] | rw [if_neg (by omega)])
    rw [(sm7 0 (by omega) 11).1]
    simp only [m_sI, m_sL, m_sR, m_zap, m_grid, m_up, m_cl, true_and, and_true, and_self, if_true, if_false, false_and, and_false]
    repeat (first | rw [if_pos (by omega)] | rw [if_neg (by omega)])
    rw [(sm6 0 (by omega) 11).1]
    simp only [m_sI, m_sL, m_sR, m_zap, m_grid, m_up, m_cl, true_and, and_true, and_self, if_true, if_false, false_and, and_false]
    repeat (first | rw [if_pos (by omega)] | rw [if_neg (by omega)])
    rw [(sm5 0 (by omega) 11).1]
    simp only [m_sI, m_sL, m_sR, m_zap, m_grid, m_up, m_cl, true_and, and_true, and_self, if_true, if_false, false_and, and_false]
    repeat (first | rw [if_pos (by omega)] | rw [if_neg (by omega)])
    rw [(sm4 0 (by omega) 11).1]
    simp only [m_sI, m_sL, m_sR, m_zap, m_grid, m_up, m_cl, true_and, and_true, and_self, if_true, if_false, false_and, and_false]
    repeat (first | rw [if_pos (by omega)] | rw [if_neg (by omega)])
    rw [(sm3 0 (by omega) 11).1]
    simp only [m_sI, m_sL, m_sR, m_zap, m_grid, m_up, m_cl, true_and, and_true, and_self, if_true, if_false, false_and, and_false]
    repeat (first | rw [if_pos (by omega)] | rw [if_neg (by omega)])
    rw [(sm2 0 (by omega) 11).1]
    simp only [m_sI, m_sL, m_sR, m_zap, m_grid, m_up, m_cl, true_and, and_true, and_self, if_true, if_false, false_and, and_false]
    repeat (first | rw [if_pos (by omega)] | rw [if_neg (by omega)])
    rw [(sm1 0 (by omega) 11).1]
    simp only [m_sI, m_sL, m_sR, m_zap, m_grid, m_up, m_cl, true_and, and_true, and_self, if_true, if_false, false_and, and_false]
    repeat (first | rw [if_pos (by omega)] | rw [if_neg (by omega)])
    exact hI 11
  · simp only [m_sI, m_sL, m_sR, m_zap, m_grid, m_up, m_cl, true_and, and_true, and_self, if_true, if_false, false_and, and_false]
    repeat (first | rw [if_pos (by omega)] | rw [if_neg (by omega)])
    rw [(sm10 0 (by omega) 13).1]
    simp only [m_sI, m_sL, m_sR, m_zap, m_grid, m_up, m_cl, true_and, and_true, and_self, if_true, if_false, false_and, and_false]
    repeat (first | rw [if_pos (by omega)] | rw [if_neg (by omega)])
    rw [(sm9 0 (by omega) 13).1]
    simp only [m_sI, m_sL, m_sR, m_zap, m_grid, m_up, m_cl, true_and, and_true, and_self, if_true, if_false, false_and, and_false]
    repeat (first | rw [if_pos (by omega)] | rw [if_neg (by omega)])
    rw [(sm8 0 (by omega) 13).1]
    simp only [m_sI, m_sL, m_sR, m_zap, m_grid, m_up, m_cl, true_and, and_true, and_self, if_true, if_false, false_and, and_false]
    repeat (first | rw [if_pos (by omega)] | rw [if_neg (by omega)])
    rw [(sm7 0 (by omega) 13).1]
    simp only [m_sI, m_sL, m_sR, m_zap, m_grid, m_up, m_cl, true_and, and_true, and_self, if_true, if_false, false_and, and_false]
    repeat (first | rw [if_pos (by omega)] | rw [if_neg (by omega)])
    rw [(sm6 0 (by omega) 13).1]
    simp only [m_sI, m_sL, m_sR, m_zap, m_grid, m_up, m_cl, true_and, and_true, and_self, if_true, if_false, false_and, and_false]
    repeat (first | rw [if_pos (by omega)] | rw [if_neg (by omega)])
    rw [(sm5 0 (by omega) 13).1]
    simp only [m_sI, m_sL, m_sR, m_zap, m_grid, m_up, m_cl, true_and, and_true, and_self, if_true, if_false, false_and, and_false]
    repeat (first | rw [if_pos (by omega)] | rw [if_neg (by omega)])
    rw [(sm4 0 (by omega) 13).1]
    simp only [m_sI, m_sL, m_sR, m_zap, m_grid, m_up, m_cl, true_and, and_true, and_self, if_true, if_false, false_and, and_false]
    repeat (first | rw [if_pos (by omega)] | rw [if_neg (by omega)])
    rw [(sm3 0 (by omega) 13).1]
    simp only [m_sI, m_sL, m_sR, m_zap, m_grid, m_up, m_cl, true_and, and_true, and_self, if_true, if_false, false_and, and_false]
    repeat (first | rw [if_pos (by omega)] | rw [if_neg (by omega)])
    rw [(sm2 0 (by omega) 13).1]
    simp only [m_sI, m_sL, m_sR, m_zap, m_grid, m_up, m_cl, true_and, and_true, and_self, if_true, if_false, false_and, and_false]
    repeat (first | rw [if_pos (by omega)] | rw [if_neg (by omega)])
    rw [(sm1 0 (by omega) 13).1]
    simp only [m_sI, m_sL, m_sR, m_zap, m_grid, m_up, m_cl, true_and, and_true, and_self, if_true, if_false, false_and, and_false]
    repeat (first | rw [if_pos (by omega)] | rw [if_neg (by omega)])
    exact hI 13
  · simp only [m_sI, m_sL, m_sR, m_zap, m_grid, m_up, m_cl, true_and, and_true, and_self, if_true, if_false, false_and, and_false]
    repeat (first | rw [if_pos (by omega)] | rw [if_neg (by omega)])
    rw [(sm10 0 (by omega) 14).1]
    simp only [m_sI, m_sL, m_sR, m_zap, m_grid, m_up, m_cl, true_and, and_true, and_self, if_true, if_false, false_and, and_false]
    repeat (first | rw [if_pos (by omega)] | rw [if_neg (by omega)])
    rw [(sm9 0 (by omega) 14).1]
    simp only [m_sI, m_sL, m_sR, m_zap, m_grid, m_up, m_cl, true_and, and_true, and_self, if_true, if_false, false_and, and_false]
    repeat (first | rw [if_pos (by omega)] | rw [if_neg (by omega)])
    rw [(sm8 0 (by omega) 14).1]
    simp only [m_sI, m_sL, m_sR, m_zap, m_grid, m_up, m_cl, true_and, and_true, and_self, if_true, if_false, false_and, and_false]
    repeat (first | rw [if_pos (by omega)] | rw [if_neg (by omega)])
    rw [(sm7 0 (by omega) 14).1]
    simp only [m_sI, m_sL, m_sR, m_zap, m_grid, m_up, m_cl, true_and, and_true, and_self, if_true, if_false, false_and, and_false]
    repeat (first | rw [if_pos (by omega)] | rw [if_neg (by omega)])
    rw [(sm6 0 (by omega) 14).1]
    simp only [m_sI, m_sL, m_sR, m_zap, m_grid, m_up, m_cl, true_and, and_true, and_self, if_true, if_false, false_and, and_false]
    repeat (first | rw [if_pos (by omega)] | rw [if_neg (by omega)])
    rw [(sm5 0 (by omega) 14).1]
    simp only [m_sI, m_sL, m_sR, m_zap, m_grid, m_up, m_cl, true_and, and_true, and_self, if_true, if_false, false_and, and_false]
    repeat (first | rw [if_pos (by omega)] | rw [if_neg (by omega)])
    rw [(sm4 0 (by omega) 14).1]
    simp only [m_sI, m_sL, m_sR, m_zap, m_grid, m_up, m_cl, true_and, and_true, and_self, if_true, if_false, false_and, and_false]
    repeat (first | rw [if_pos (by omega)] | rw [if_neg (by omega)])
    rw [(sm3 0 (by omega) 14).1]
    simp only [m_sI, m_sL, m_sR, m_zap, m_grid, m_up, m_cl, true_and, and_true, and_self, if_true, if_false, false_and, and_false]
    repeat (first | rw [if_pos (by omega)] | rw [if_neg (by omega)])
    rw [(sm2 0 (by omega) 14).1]
    simp only [m_sI, m_sL, m_sR, m_zap, m_grid, m_up, m_cl, true_and, and_true, and_self, if_true, if_false, false_and, and_false]
    repeat (first | rw [if_pos (by omega)] | rw [if_neg (by omega)])
    rw [(sm1 0 (by omega) 14).1]
    simp only [m_sI, m_sL, m_sR, m_zap, m_grid, m_up, m_cl, true_and, and_true, and_self, if_true, if_false, false_and, and_false]
    repeat (first | rw [if_pos (by omega)] | rw [if_neg (by omega)])
    exact hI 14
  · simp only [m_sI, m_sL, m_sR, m_zap, m_grid, m_up, m_cl, true_and, and_true, and_self, if_true, if_false, false_and, and_false]
    repeat (first | rw [if_pos (by omega)] | rw [if_neg (by omega)])
  · simp only [m_sI, m_sL, m_sR, m_zap, m_grid, m_up, m_cl, true_and, and_true, and_self, if_true, if_false, false_and, and_false]
    repeat (first | rw [if_pos (by omega)] | rw [if_neg (by omega)])
    rw [(sm10 0 (by omega) 16).2.1]
    simp only [m_sI, m_sL, m_sR, m_zap, m_grid, m_up, m_cl, true_and, and_true, and_self, if_true, if_false, false_and, and_false]
    repeat (first | rw [if_pos (by omega)] | rw [if_neg (by omega)])
    rw [(sm9 0 (by omega) 16).2.1]
    simp only [m_sI, m_sL, m_sR, m_zap, m_grid, m_up, m_cl, true_and, and_true, and_self, if_true, if_false, false_and, and_false]
    repeat (first | rw [if_pos (by omega)] | rw [if_neg (by omega)])
    rw [(sm8 0 (by omega) 16).2.1]
    simp only [m_sI, m_sL, m_sR, m_zap, m_grid, m_up, m_cl, true_and, and_true, and_self, if_true, if_false, false_and, and_false]
    repeat (first | rw [if_pos (by omega)] | rw [if_neg (by omega)])
    rw [(sm7 0 (by omega) 16).2.1]
    simp only [m_sI, m_sL, m_sR, m_zap, m_grid, m_up, m_cl, true_and, and_true, and_self, if_true, if_false, false_and, and_false]
    repeat (first | rw [if_pos (by omega)] | rw [if_neg (by omega)])
    rw [(sm6 0 (by omega) 16).2.1]
    simp only [m_sI, m_sL, m_sR, m_zap, m_grid, m_up, m_cl, true_and, and_true, and_self, if_true, if_false, false_and, and_false]
    repeat (first | rw [if_pos (by omega)] | rw [if_neg (by omega)])
    rw [(sm5 0 (by omega) 16).2.1]
    simp only [m_sI, m_sL, m_sR, m_zap, m_grid, m_up, m_cl, true_and, and_true, and_self, if_true, if_false, false_and, and_false]
    repeat (first | rw [if_pos (by omega)] | rw [if_neg (by omega)])
    rw [(sm4 0 (by omega) 16).2.1]
    simp only [m_sI, m_sL, m_sR, m_zap, m_grid, m_up, m_cl, true_and, and_true, and_self, if_true, if_false, false_and, and_false]
    repeat (first | rw [if_pos (by omega)] | rw [if_neg (by omega)])
    rw [(sm3 0 (by omega) 16).2.1]
    simp only [m_sI, m_sL, m_sR, m_zap, m_grid, m_up, m_cl, true_and, and_true, and_self, if_true, if_false, false_and, and_false]
    repeat (first | rw [if_pos (by omega)] | rw [if_neg (by omega)])
    rw [(sm2 0 (by omega) 16).2.1]
    simp only [m_sI, m_sL, m_sR, m_zap, m_grid, m_up, m_cl, true_and, and_true, and_self, if_true, if_false, false_and, and_false]
    repeat (first | rw [if_pos (by omega)] | rw [if_neg (by omega)])
    rw [(sm1 0 (by omega) 16).2.1]
    simp only [m_sI, m_sL, m_sR, m_zap, m_grid, m_up, m_cl, true_and, and_true, and_self, if_true, if_false, false_and, and_false]
    repeat (first | rw [if_pos (by omega)] | rw [if_neg (by omega)])
    exact hL 16
  · simp only [m_sI, m_sL, m_sR, m_zap, m_grid, m_up, m_cl, true_and, and_true, and_self, if_true, if_false, false_and, and_false]
    repeat (first | rw [if_pos (by omega)] | rw [if_neg (by omega)])
    rw [(sm10 0 (by omega) 17).2.1]
    simp only [m_sI, m_sL, m_sR, m_zap, m_grid, m_up, m_cl, true_and, and_true, and_self, if_true, if_false, false_and, and_false]
    repeat (first | rw [if_pos (by omega)] | rw [if_neg (by omega)])
    rw [(sm9 0 (by omega) 17).2.1]
    simp only [m_sI, m_sL, m_sR, m_zap, m_grid, m_up, m_cl, true_and, and_true, and_self, if_true, if_false, false_and, and_false]
    repeat (first | rw [if_pos (by omega)] | rw [if_neg (by omega)])
    rw [(sm8 0 (by omega) 17).2.1]
    simp only [m_sI, m_sL, m_sR, m_zap, m_grid, m_up, m_cl, true_and, and_true, and_self, if_true, if_false, false_and, and_false]
    repeat (first | rw [if_pos (by omega)] | rw [if_neg (by omega)])
    rw [(sm7 0 (by omega) 17).2.1]
    simp only [m_sI, m_sL, m_sR, m_zap, m_grid, m_up, m_cl, true_and, and_true, and_self, if_true, if_false, false_and, and_false]
    repeat (first | rw [if_pos (by omega)] | rw [if_neg (by omega)])
    rw [(sm6 0 (by omega) 17).2.1]
    simp only [m_sI, m_sL, m_sR, m_zap, m_grid, m_up, m_cl, true_and, and_true, and_self, if_true, if_false, false_and, and_false]
    repeat (first | rw [if_pos (by omega)] | rw [if_neg (by omega)])
    rw [(sm5 0 (by omega) 17).2.1]
    simp only [m_sI, m_sL, m_sR, m_zap, m_grid, m_up, m_cl, true_and, and_true, and_self, if_true, if_false, false_and, and_false]
    repeat (first | rw [if_pos (by omega)] | rw [if_neg (by omega)])
    rw [(sm4 0 (by omega) 17).2.1]
    simp only [m_sI, m_sL, m_sR, m_zap, m_grid, m_up, m_cl, true_and, and_true, and_self, if_true, if_false, false_and, and_false]
    repeat (first | rw [if_pos (by omega)] | rw [if_neg (by omega)])
    rw [(sm3 0 (by omega) 17).2.1]
    simp only [m_sI, m_sL, m_sR, m_zap, m_grid, m_up, m_cl, true_and, and_true, and_self, if_true, if_false, false_and, and_false]
    repeat (first | rw [if_pos (by omega)] | rw [if_neg (by omega)])
    rw [(sm2 0 (by omega) 17).2.1]
    simp only [m_sI, m_sL, m_sR, m_zap, m_grid, m_up, m_cl, true_and, and_true, and_self, if_true, if_false, false_and, and_false]
    repeat (first | rw [if_pos (by omega)] | rw [if_neg (by omega)])
    rw [(sm1 0 (by omega) 17).2.1]
    simp only [m_sI, m_sL, m_sR, m_zap, m_grid, m_up, m_cl, true_and, and_true, and_self, if_true, if_false, false_and, and_false]
    repeat (first | rw [if_pos (by omega)] | rw [if_neg (by omega)])
    exact hL 17
  · simp only [m_sI, m_sL, m_sR, m_zap, m_grid, m_up, m_cl, true_and, and_true, and_self, if_true, if_false, false_and, and_false]
    repeat (first | rw [if_pos (by omega)] | rw [if_neg (by omega)])
/-- what the reference holds at first -/
def M0I (I L : MI) (R : MR) : Prop := (∀ k : Nat, k < 59 → m_isR (tyX8 k) = true → R 0 (k : Int) = rM 0 (k : Int)) ∧ (I 0 0 = 0 ∧ I 0 2 = 0 ∧ I 0 11 = 1 ∧ I 0 12 = 0 ∧ I 0 13 = 0 ∧ I 0 14 = 12 ∧ I 0 25 = 0) ∧ (∀ f, I 1 f = 0) ∧ (∀ r, 0 ≤ r → r ≤ 5 → I 2 r = -1) ∧ (∀ k, I 3 k = 0) ∧ (∀ t, 0 ≤ t → t ≤ 3 → I 5 t = -1) ∧ (∀ k, I 6 k = 0) ∧ L 0 3 = 0 ∧ L 0 4 = 0 ∧ L 0 5 = 1
set_option maxHeartbeats 8000000 in
theorem c_X8_init (hI : ∀ j, M.1 0 j = 0) (hL : ∀ j, M.2.1 0 j = 0) : m_Spec G mtX8_init true [mr 0] [.inl 8] M (fun v s m => v = none ∧ s = shM ∧ M0I m.1 m.2.1 m.2.2) := by
  refine m_Spec.of pnX8_init (Nat.le_of_ble_eq_true rfl) ?_
  show m_Run G mtX8_init true _ 0 0 0 [(0, mr 0)] [] [.inl 8] M
  refine r_aload_n dX8_init_0 0 rfl rfl ?_
  refine r_objInit dX8_init_1 lvX8_1 wmObj.1 wmObj.2 rfl ?_
  refine r_aload_n dX8_init_4 0 rfl rfl ?_
  refine r_bipush dX8_init_5 (by decide) ?_
  refine r_newa (kd := 0) (N := 6) (a := 1) dX8_init_7 (Or.inl ⟨rfl, rfl⟩) waInt ⟨rfl, by decide⟩ ⟨Nat.le_of_ble_eq_true rfl, Nat.le_of_ble_eq_true rfl⟩ rfl ?_
  refine r_putR dX8_init_9 flX8_7 rfl rfl rfl ?_
  refine r_aload_n dX8_init_12 0 rfl rfl ?_
  refine r_bipush dX8_init_13 (by decide) ?_
  refine r_newa (kd := 0) (N := 6) (a := 2) dX8_init_15 (Or.inl ⟨rfl, rfl⟩) waInt ⟨rfl, by decide⟩ ⟨Nat.le_of_ble_eq_true rfl, Nat.le_of_ble_eq_true rfl⟩ rfl ?_
  refine r_putR dX8_init_17 flX8_13 rfl rfl rfl ?_
  refine r_aload_n dX8_init_20 0 rfl rfl ?_
  refine r_sipush dX8_init_21 (by decide) ?_
  refine r_newa (kd := 0) (N := 240) (a := 3) dX8_init_24 (Or.inl ⟨rfl, rfl⟩) waInt ⟨rfl, by decide⟩ ⟨Nat.le_of_ble_eq_true rfl, Nat.le_of_ble_eq_true rfl⟩ rfl ?_
  refine r_putR dX8_init_26 flX8_16 rfl rfl rfl ?_
  refine r_aload_n dX8_init_29 0 rfl rfl ?_
  refine r_bipush dX8_init_30 (by decide) ?_
  refine r_newa (kd := 0) (N := 40) (a := 4) dX8_init_32 (Or.inl ⟨rfl, rfl⟩) waInt ⟨rfl, by decide⟩ ⟨Nat.le_of_ble_eq_true rfl, Nat.le_of_ble_eq_true rfl⟩ rfl ?_
  refine r_putR dX8_init_34 flX8_19 rfl rfl rfl ?_
  refine r_aload_n dX8_init_37 0 rfl rfl ?_
  refine r_iconst dX8_init_38 ?_
  refine r_newa (kd := 0) (N := 4) (a := 5) dX8_init_39 (Or.inl ⟨rfl, rfl⟩) waInt ⟨rfl, by decide⟩ ⟨Nat.le_of_ble_eq_true rfl, Nat.le_of_ble_eq_true rfl⟩ rfl ?_
  refine r_putR dX8_init_41 flX8_22 rfl rfl rfl ?_
  refine r_aload_n dX8_init_44 0 rfl rfl ?_
  refine r_sipush dX8_init_45 (by decide) ?_
  refine r_newa (kd := 2) (N := 320) (a := 6) dX8_init_48 (Or.inr (Or.inr ⟨rfl, rfl⟩)) waByte ⟨rfl, by decide⟩ ⟨Nat.le_of_ble_eq_true rfl, Nat.le_of_ble_eq_true rfl⟩ rfl ?_
  refine r_putR dX8_init_50 flX8_25 rfl rfl rfl ?_
  refine r_aload_n dX8_init_53 0 rfl rfl ?_
  refine r_bipush dX8_init_54 (by decide) ?_
  refine r_newa (kd := 0) (N := 24) (a := 7) dX8_init_56 (Or.inl ⟨rfl, rfl⟩) waInt ⟨rfl, by decide⟩ ⟨Nat.le_of_ble_eq_true rfl, Nat.le_of_ble_eq_true rfl⟩ rfl ?_
  refine r_putR dX8_init_58 flX8_29 rfl rfl rfl ?_
  refine r_aload_n dX8_init_61 0 rfl rfl ?_
  refine r_bipush dX8_init_62 (by decide) ?_
  refine r_newa (kd := 0) (N := 6) (a := 8) dX8_init_64 (Or.inl ⟨rfl, rfl⟩) waInt ⟨rfl, by decide⟩ ⟨Nat.le_of_ble_eq_true rfl, Nat.le_of_ble_eq_true rfl⟩ rfl ?_
  refine r_putR dX8_init_66 flX8_32 rfl rfl rfl ?_
  refine r_aload_n dX8_init_69 0 rfl rfl ?_
  refine r_bipush dX8_init_70 (by decide) ?_
  refine r_newa (kd := 0) (N := 24) (a := 9) dX8_init_72 (Or.inl ⟨rfl, rfl⟩) waInt ⟨rfl, by decide⟩ ⟨Nat.le_of_ble_eq_true rfl, Nat.le_of_ble_eq_true rfl⟩ rfl ?_
  refine r_putR dX8_init_74 flX8_35 rfl rfl rfl ?_
  refine r_aload_n dX8_init_77 0 rfl rfl ?_
  refine r_bipush dX8_init_78 (by decide) ?_
  refine r_newa (kd := 0) (N := 6) (a := 10) dX8_init_80 (Or.inl ⟨rfl, rfl⟩) waInt ⟨rfl, by decide⟩ ⟨Nat.le_of_ble_eq_true rfl, Nat.le_of_ble_eq_true rfl⟩ rfl ?_
  refine r_putR dX8_init_82 flX8_38 rfl rfl rfl ?_
  refine r_aload_n dX8_init_85 0 rfl rfl ?_
  refine r_bipush dX8_init_86 (by decide) ?_
  refine r_newa (kd := 0) (N := 96) (a := 11) dX8_init_88 (Or.inl ⟨rfl, rfl⟩) waInt ⟨rfl, by decide⟩ ⟨Nat.le_of_ble_eq_true rfl, Nat.le_of_ble_eq_true rfl⟩ rfl ?_
  refine r_putR dX8_init_90 flX8_41 rfl rfl rfl ?_
  refine r_aload_n dX8_init_93 0 rfl rfl ?_
  refine r_sipush dX8_init_94 (by decide) ?_
  refine r_newa (kd := 0) (N := 320) (a := 12) dX8_init_97 (Or.inl ⟨rfl, rfl⟩) waInt ⟨rfl, by decide⟩ ⟨Nat.le_of_ble_eq_true rfl, Nat.le_of_ble_eq_true rfl⟩ rfl ?_
  refine r_putR dX8_init_99 flX8_44 rfl rfl rfl ?_
  refine r_aload_n dX8_init_102 0 rfl rfl ?_
  refine r_bipush dX8_init_103 (by decide) ?_
  refine r_newa (kd := 0) (N := 31) (a := 13) dX8_init_105 (Or.inl ⟨rfl, rfl⟩) waInt ⟨rfl, by decide⟩ ⟨Nat.le_of_ble_eq_true rfl, Nat.le_of_ble_eq_true rfl⟩ rfl ?_
  refine r_putR dX8_init_107 flX8_47 rfl rfl rfl ?_
  refine r_aload_n dX8_init_110 0 rfl rfl ?_
  refine r_bipush dX8_init_111 (by decide) ?_
  refine r_newa (kd := 0) (N := 31) (a := 14) dX8_init_113 (Or.inl ⟨rfl, rfl⟩) waInt ⟨rfl, by decide⟩ ⟨Nat.le_of_ble_eq_true rfl, Nat.le_of_ble_eq_true rfl⟩ rfl ?_
  refine r_putR dX8_init_115 flX8_50 rfl rfl rfl ?_
  refine r_aload_n dX8_init_118 0 rfl rfl ?_
  refine r_bipush dX8_init_119 (by decide) ?_
  refine r_newa (kd := 0) (N := 31) (a := 15) dX8_init_121 (Or.inl ⟨rfl, rfl⟩) waInt ⟨rfl, by decide⟩ ⟨Nat.le_of_ble_eq_true rfl, Nat.le_of_ble_eq_true rfl⟩ rfl ?_
  refine r_putR dX8_init_123 flX8_53 rfl rfl rfl ?_
  refine r_aload_n dX8_init_126 0 rfl rfl ?_
  refine r_bipush dX8_init_127 (by decide) ?_
  refine r_newa (kd := 0) (N := 31) (a := 16) dX8_init_129 (Or.inl ⟨rfl, rfl⟩) waInt ⟨rfl, by decide⟩ ⟨Nat.le_of_ble_eq_true rfl, Nat.le_of_ble_eq_true rfl⟩ rfl ?_
  refine r_putR dX8_init_131 flX8_56 rfl rfl rfl ?_
  refine r_aload_n dX8_init_134 0 rfl rfl ?_
  refine r_bipush dX8_init_135 (by decide) ?_
  refine r_newa (kd := 0) (N := 93) (a := 17) dX8_init_137 (Or.inl ⟨rfl, rfl⟩) waInt ⟨rfl, by decide⟩ ⟨Nat.le_of_ble_eq_true rfl, Nat.le_of_ble_eq_true rfl⟩ rfl ?_
  refine r_putR dX8_init_139 flX8_59 rfl rfl rfl ?_
  refine r_aload_n dX8_init_142 0 rfl rfl ?_
  refine r_iconst dX8_init_143 ?_
  refine r_newa (kd := 0) (N := 3) (a := 18) dX8_init_144 (Or.inl ⟨rfl, rfl⟩) waInt ⟨rfl, by decide⟩ ⟨Nat.le_of_ble_eq_true rfl, Nat.le_of_ble_eq_true rfl⟩ rfl ?_
  refine r_putR dX8_init_146 flX8_62 rfl rfl rfl ?_
  refine r_aload_n dX8_init_149 0 rfl rfl ?_
  refine r_bipush dX8_init_150 (by decide) ?_
  refine r_newa (kd := 0) (N := 27) (a := 19) dX8_init_152 (Or.inl ⟨rfl, rfl⟩) waInt ⟨rfl, by decide⟩ ⟨Nat.le_of_ble_eq_true rfl, Nat.le_of_ble_eq_true rfl⟩ rfl ?_
  refine r_putR dX8_init_154 flX8_65 rfl rfl rfl ?_
  refine r_aload_n dX8_init_157 0 rfl rfl ?_
  refine r_bipush dX8_init_158 (by decide) ?_
  refine r_newa (kd := 0) (N := 27) (a := 20) dX8_init_160 (Or.inl ⟨rfl, rfl⟩) waInt ⟨rfl, by decide⟩ ⟨Nat.le_of_ble_eq_true rfl, Nat.le_of_ble_eq_true rfl⟩ rfl ?_
  refine r_putR dX8_init_162 flX8_68 rfl rfl rfl ?_
  refine r_aload_n dX8_init_165 0 rfl rfl ?_
  refine r_iconst dX8_init_166 ?_
  refine r_newa (kd := 0) (N := 3) (a := 21) dX8_init_167 (Or.inl ⟨rfl, rfl⟩) waInt ⟨rfl, by decide⟩ ⟨Nat.le_of_ble_eq_true rfl, Nat.le_of_ble_eq_true rfl⟩ rfl ?_
  refine r_putR dX8_init_169 flX8_71 rfl rfl rfl ?_
  refine r_aload_n dX8_init_172 0 rfl rfl ?_
  refine r_ldc (53568) dX8_init_173 lkX8_74 ?_
  refine r_newa (kd := 1) (N := 53568) (a := 22) dX8_init_175 (Or.inr (Or.inl ⟨rfl, rfl⟩)) waLong ⟨rfl, by decide⟩ ⟨Nat.le_of_ble_eq_true rfl, Nat.le_of_ble_eq_true rfl⟩ rfl ?_
  refine r_putR dX8_init_177 flX8_75 rfl rfl rfl ?_
  refine r_aload_n dX8_init_180 0 rfl rfl ?_
  refine r_ldc (53568) dX8_init_181 lkX8_74 ?_
  refine r_newa (kd := 1) (N := 53568) (a := 23) dX8_init_183 (Or.inr (Or.inl ⟨rfl, rfl⟩)) waLong ⟨rfl, by decide⟩ ⟨Nat.le_of_ble_eq_true rfl, Nat.le_of_ble_eq_true rfl⟩ rfl ?_
  refine r_putR dX8_init_185 flX8_79 rfl rfl rfl ?_
  refine r_aload_n dX8_init_188 0 rfl rfl ?_
  refine r_sipush dX8_init_189 (by decide) ?_
  refine r_newa (kd := 0) (N := 1728) (a := 24) dX8_init_192 (Or.inl ⟨rfl, rfl⟩) waInt ⟨rfl, by decide⟩ ⟨Nat.le_of_ble_eq_true rfl, Nat.le_of_ble_eq_true rfl⟩ rfl ?_
  refine r_putR dX8_init_194 flX8_82 rfl rfl rfl ?_
  refine r_aload_n dX8_init_197 0 rfl rfl ?_
  refine r_sipush dX8_init_198 (by decide) ?_
  refine r_newa (kd := 0) (N := 1728) (a := 25) dX8_init_201 (Or.inl ⟨rfl, rfl⟩) waInt ⟨rfl, by decide⟩ ⟨Nat.le_of_ble_eq_true rfl, Nat.le_of_ble_eq_true rfl⟩ rfl ?_
  refine r_putR dX8_init_203 flX8_85 rfl rfl rfl ?_
  refine r_aload_n dX8_init_206 0 rfl rfl ?_
  refine r_bipush dX8_init_207 (by decide) ?_
  refine r_newa (kd := 1) (N := 6) (a := 26) dX8_init_209 (Or.inr (Or.inl ⟨rfl, rfl⟩)) waLong ⟨rfl, by decide⟩ ⟨Nat.le_of_ble_eq_true rfl, Nat.le_of_ble_eq_true rfl⟩ rfl ?_
  refine r_putR dX8_init_211 flX8_88 rfl rfl rfl ?_
  refine r_aload_n dX8_init_214 0 rfl rfl ?_
  refine r_lconst 1 dX8_init_215 rfl ?_
  refine r_putL dX8_init_216 flX8_91 rfl rfl rfl ?_
  refine r_aload_n dX8_init_219 0 rfl rfl ?_
  refine r_iconst dX8_init_220 ?_
  refine r_putI dX8_init_221 flX8_95 rfl rfl rfl ?_
  refine r_aload_n dX8_init_224 0 rfl rfl ?_
  refine r_bipush dX8_init_225 (by decide) ?_
  refine r_putI dX8_init_227 flX8_99 rfl rfl rfl ?_
  refine r_iconst dX8_init_230 ?_
  refine r_istore_n (lv' := [(0, _), (1, _)]) dX8_init_231 rfl rfl rfl ?_
  refine r_iload_n dX8_init_232 1 rfl rfl ?_
  refine r_bipush dX8_init_233 (by decide) ?_
  refine r_ic_ge (tgt := 251) dX8_init_235 (by decide) (by omega) (fun q => absurd (show ¬ (6 : Int) ≤ 0 by omega) (fun z => z q)) (fun _ => ?_)
  refine r_aload_n dX8_init_238 0 rfl rfl ?_
  refine r_getR (r := 2) dX8_init_239 flX8_13 rfl rfl (by simp [m_up, m_zap, m_cl]) ?_
  refine r_iload_n dX8_init_242 1 rfl rfl ?_
  refine r_iconst dX8_init_243 ?_
  refine r_iast (n := 6) dX8_init_244 rfl (by omega) ?_
  refine r_iinc (lv' := [(0, _), (1, mi 1)]) dX8_init_245 1 rfl rfl rfl ?_
  refine r_goto (tgt := 232) dX8_init_248 (by decide) ?_
  refine r_iload_n dX8_init_232 1 rfl rfl ?_
  refine r_bipush dX8_init_233 (by decide) ?_
  refine r_ic_ge (tgt := 251) dX8_init_235 (by decide) (by omega) (fun q => absurd (show ¬ (6 : Int) ≤ 1 by omega) (fun z => z q)) (fun _ => ?_)
  refine r_aload_n dX8_init_238 0 rfl rfl ?_
  refine r_getR (r := 2) dX8_init_239 flX8_13 rfl rfl (by simp [m_up, m_zap, m_cl]) ?_
  refine r_iload_n dX8_init_242 1 rfl rfl ?_
  refine r_iconst dX8_init_243 ?_
  refine r_iast (n := 6) dX8_init_244 rfl (by omega) ?_
  refine r_iinc (lv' := [(0, _), (1, mi 2)]) dX8_init_245 1 rfl rfl rfl ?_
  refine r_goto (tgt := 232) dX8_init_248 (by decide) ?_
  refine r_iload_n dX8_init_232 1 rfl rfl ?_
  refine r_bipush dX8_init_233 (by decide) ?_
  refine r_ic_ge (tgt := 251) dX8_init_235 (by decide) (by omega) (fun q => absurd (show ¬ (6 : Int) ≤ 2 by omega) (fun z => z q)) (fun _ => ?_)
  refine r_aload_n dX8_init_238 0 rfl rfl ?_
  refine r_getR (r := 2) dX8_init_239 flX8_13 rfl rfl (by simp [m_up, m_zap, m_cl]) ?_
  refine r_iload_n dX8_init_242 1 rfl rfl ?_
  refine r_iconst dX8_init_243 ?_
  refine r_iast (n := 6) dX8_init_244 rfl (by omega) ?_
  refine r_iinc (lv' := [(0, _), (1, mi 3)]) dX8_init_245 1 rfl rfl rfl ?_
  refine r_goto (tgt := 232) dX8_init_248 (by decide) ?_
  refine r_iload_n dX8_init_232 1 rfl rfl ?_
  refine r_bipush dX8_init_233 (by decide) ?_
  refine r_ic_ge (tgt := 251) dX8_init_235 (by decide) (by omega) (fun q => absurd (show ¬ (6 : Int) ≤ 3 by omega) (fun z => z q)) (fun _ => ?_)
  refine r_aload_n dX8_init_238 0 rfl rfl ?_
  refine r_getR (r := 2) dX8_init_239 flX8_13 rfl rfl (by simp [m_up, m_zap, m_cl]) ?_
  refine r_iload_n dX8_init_242 1 rfl rfl ?_
  refine r_iconst dX8_init_243 ?_
  refine r_iast (n := 6) dX8_init_244 rfl (by omega) ?_
  refine r_iinc (lv' := [(0, _), (1, mi 4)]) dX8_init_245 1 rfl rfl rfl ?_
  refine r_goto (tgt := 232) dX8_init_248 (by decide) ?_
  refine r_iload_n dX8_init_232 1 rfl rfl ?_
  refine r_bipush dX8_init_233 (by decide) ?_
  refine r_ic_ge (tgt := 251) dX8_init_235 (by decide) (by omega) (fun q => absurd (show ¬ (6 : Int) ≤ 4 by omega) (fun z => z q)) (fun _ => ?_)
  refine r_aload_n dX8_init_238 0 rfl rfl ?_
  refine r_getR (r := 2) dX8_init_239 flX8_13 rfl rfl (by simp [m_up, m_zap, m_cl]) ?_
  refine r_iload_n dX8_init_242 1 rfl rfl ?_
  refine r_iconst dX8_init_243 ?_
  refine r_iast (n := 6) dX8_init_244 rfl (by omega) ?_
  refine r_iinc (lv' := [(0, _), (1, mi 5)]) dX8_init_245 1 rfl rfl rfl ?_
  refine r_goto (tgt := 232) dX8_init_248 (by decide) ?_
  refine r_iload_n dX8_init_232 1 rfl rfl ?_
  refine r_bipush dX8_init_233 (by decide) ?_
  refine r_ic_ge (tgt := 251) dX8_init_235 (by decide) (by omega) (fun q => absurd (show ¬ (6 : Int) ≤ 5 by omega) (fun z => z q)) (fun _ => ?_)
  refine r_aload_n dX8_init_238 0 rfl rfl ?_
  refine r_getR (r := 2) dX8_init_239 flX8_13 rfl rfl (by simp [m_up, m_zap, m_cl]) ?_
  refine r_iload_n dX8_init_242 1 rfl rfl ?_
  refine r_iconst dX8_init_243 ?_
  refine r_iast (n := 6) dX8_init_244 rfl (by omega) ?_
  refine r_iinc (lv' := [(0, _), (1, mi 6)]) dX8_init_245 1 rfl rfl rfl ?_
  refine r_goto (tgt := 232) dX8_init_248 (by decide) ?_
  refine r_iload_n dX8_init_232 1 rfl rfl ?_
  refine r_bipush dX8_init_233 (by decide) ?_
  refine r_ic_ge (tgt := 251) dX8_init_235 (by decide) (by omega) (fun _ => ?_) (fun q => absurd (show (6 : Int) ≤ 6 by omega) q)
  refine r_iconst dX8_init_251 ?_
  refine r_istore_n (lv' := [(0, _), (1, _)]) dX8_init_252 rfl rfl rfl ?_
  refine r_iload_n dX8_init_253 1 rfl rfl ?_
  refine r_iconst dX8_init_254 ?_
  refine r_ic_ge (tgt := 271) dX8_init_255 (by decide) (by omega) (fun q => absurd (show ¬ (4 : Int) ≤ 0 by omega) (fun z => z q)) (fun _ => ?_)
  refine r_aload_n dX8_init_258 0 rfl rfl ?_
  refine r_getR (r := 5) dX8_init_259 flX8_22 rfl rfl (by simp [m_up, m_zap, m_cl]) ?_
  refine r_iload_n dX8_init_262 1 rfl rfl ?_
  refine r_iconst dX8_init_263 ?_
  refine r_iast (n := 4) dX8_init_264 rfl (by omega) ?_
  refine r_iinc (lv' := [(0, _), (1, mi 1)]) dX8_init_265 1 rfl rfl rfl ?_
  refine r_goto (tgt := 253) dX8_init_268 (by decide) ?_
  refine r_iload_n dX8_init_253 1 rfl rfl ?_
  refine r_iconst dX8_init_254 ?_
  refine r_ic_ge (tgt := 271) dX8_init_255 (by decide) (by omega) (fun q => absurd (show ¬ (4 : Int) ≤ 1 by omega) (fun z => z q)) (fun _ => ?_)
  refine r_aload_n dX8_init_258 0 rfl rfl ?_
  refine r_getR (r := 5) dX8_init_259 flX8_22 rfl rfl (by simp [m_up, m_zap, m_cl]) ?_
  refine r_iload_n dX8_init_262 1 rfl rfl ?_
  refine r_iconst dX8_init_263 ?_
  refine r_iast (n := 4) dX8_init_264 rfl (by omega) ?_
  refine r_iinc (lv' := [(0, _), (1, mi 2)]) dX8_init_265 1 rfl rfl rfl ?_
  refine r_goto (tgt := 253) dX8_init_268 (by decide) ?_
  refine r_iload_n dX8_init_253 1 rfl rfl ?_
  refine r_iconst dX8_init_254 ?_
  refine r_ic_ge (tgt := 271) dX8_init_255 (by decide) (by omega) (fun q => absurd (show ¬ (4 : Int) ≤ 2 by omega) (fun z => z q)) (fun _ => ?_)
  refine r_aload_n dX8_init_258 0 rfl rfl ?_
  refine r_getR (r := 5) dX8_init_259 flX8_22 rfl rfl (by simp [m_up, m_zap, m_cl]) ?_
  refine r_iload_n dX8_init_262 1 rfl rfl ?_
  refine r_iconst dX8_init_263 ?_
  refine r_iast (n := 4) dX8_init_264 rfl (by omega) ?_
  refine r_iinc (lv' := [(0, _), (1, mi 3)]) dX8_init_265 1 rfl rfl rfl ?_
  refine r_goto (tgt := 253) dX8_init_268 (by decide) ?_
  refine r_iload_n dX8_init_253 1 rfl rfl ?_
  refine r_iconst dX8_init_254 ?_
  refine r_ic_ge (tgt := 271) dX8_init_255 (by decide) (by omega) (fun q => absurd (show ¬ (4 : Int) ≤ 3 by omega) (fun z => z q)) (fun _ => ?_)
  refine r_aload_n dX8_init_258 0 rfl rfl ?_
  refine r_getR (r := 5) dX8_init_259 flX8_22 rfl rfl (by simp [m_up, m_zap, m_cl]) ?_
  refine r_iload_n dX8_init_262 1 rfl rfl ?_
  refine r_iconst dX8_init_263 ?_
  refine r_iast (n := 4) dX8_init_264 rfl (by omega) ?_
  refine r_iinc (lv' := [(0, _), (1, mi 4)]) dX8_init_265 1 rfl rfl rfl ?_
  refine r_goto (tgt := 253) dX8_init_268 (by decide) ?_
  refine r_iload_n dX8_init_253 1 rfl rfl ?_
  refine r_iconst dX8_init_254 ?_
  refine r_ic_ge (tgt := 271) dX8_init_255 (by decide) (by omega) (fun _ => ?_) (fun q => absurd (show (4 : Int) ≤ 4 by omega) q)
  refine r_vret dX8_init_271 rfl ⟨Nat.le_of_ble_eq_true rfl, Nat.le_of_ble_eq_true rfl⟩ ?_
  refine ⟨rfl, rfl, fun k hk hr => ?_, ⟨?_, ?_, ?_, ?_, ?_, ?_, ?_⟩, fun f => ?_, fun r h1 h2 => ?_, fun k => ?_, fun t h1 h2 => ?_, fun k => ?_, ?_, ?_, ?_⟩
  · match k, hk, hr with
    | 0, _, hr => exact absurd hr (by decide)
    | 1, _, _ =>
      show _ = some 1
      simp only [m_sI, m_sL, m_sR, m_zap, m_grid, m_up, m_cl, true_and, and_true, and_self, if_true, if_false, false_and, and_false]
      repeat (first | rw [if_pos (by omega)] | rw [if_neg (by omega)])
    | 2, _, hr => exact absurd hr (by decide)
    | 3, _, hr => exact absurd hr (by decide)
    | 4, _, hr => exact absurd hr (by decide)
    | 5, _, hr => exact absurd hr (by decide)
    | 6, _, _ =>
      show _ = some 2
      simp only [m_sI, m_sL, m_sR, m_zap, m_grid, m_up, m_cl, true_and, and_true, and_self, if_true, if_false, false_and, and_false]
      repeat (first | rw [if_pos (by omega)] | rw [if_neg (by omega)])
    | 7, _, _ =>
      show _ = some 3
      simp only [m_sI, m_sL, m_sR, m_zap, m_grid, m_up, m_cl, true_and, and_true, and_self, if_true, if_false, false_and, and_false]
      repeat (first | rw [if_pos (by omega)] | rw [if_neg (by omega)])
    | 8, _, _ =>
      show _ = some 4
      simp only [m_sI, m_sL, m_sR, m_zap, m_grid, m_up, m_cl, true_and, and_true, and_self, if_true, if_false, false_and, and_false]
      repeat (first | rw [if_pos (by omega)] | rw [if_neg (by omega)])
    | 9, _, _ =>
      show _ = some 5
      simp only [m_sI, m_sL, m_sR, m_zap, m_grid, m_up, m_cl, true_and, and_true, and_self, if_true, if_false, false_and, and_false]
      repeat (first | rw [if_pos (by omega)] | rw [if_neg (by omega)])
    | 10, _, _ =>
      show _ = some 6
      simp only [m_sI, m_sL, m_sR, m_zap, m_grid, m_up, m_cl, true_and, and_true, and_self, if_true, if_false, false_and, and_false]
      repeat (first | rw [if_pos (by omega)] | rw [if_neg (by omega)])
    | 11, _, hr => exact absurd hr (by decide)
    | 12, _, hr => exact absurd hr (by decide)
    | 13, _, hr => exact absurd hr (by decide)
    | 14, _, hr => exact absurd hr (by decide)
    | 15, _, _ =>
      show _ = some 7
      simp only [m_sI, m_sL, m_sR, m_zap, m_grid, m_up, m_cl, true_and, and_true, and_self, if_true, if_false, false_and, and_false]
      repeat (first | rw [if_pos (by omega)] | rw [if_neg (by omega)])
    | 16, _, _ =>
      show _ = some 8
      simp only [m_sI, m_sL, m_sR, m_zap, m_grid, m_up, m_cl, true_and, and_true, and_self, if_true, if_false, false_and, and_false]
      repeat (first | rw [if_pos (by omega)] | rw [if_neg (by omega)])
    | 17, _, hr => exact absurd hr (by decide)
    | 18, _, hr => exact absurd hr (by decide)
    | 19, _, hr => exact absurd hr (by decide)
    | 20, _, hr => exact absurd hr (by decide)
    | 21, _, hr => exact absurd hr (by decide)
    | 22, _, hr => exact absurd hr (by decide)
    | 23, _, _ =>
      show _ = some 9
      simp only [m_sI, m_sL, m_sR, m_zap, m_grid, m_up, m_cl, true_and, and_true, and_self, if_true, if_false, false_and, and_false]
      repeat (first | rw [if_pos (by omega)] | rw [if_neg (by omega)])
    | 24, _, _ =>
      show _ = some 10
      simp only [m_sI, m_sL, m_sR, m_zap, m_grid, m_up, m_cl, true_and, and_true, and_self, if_true, if_false, false_and, and_false]
      repeat (first | rw [if_pos (by omega)] | rw [if_neg (by omega)])
    | 25, _, hr => exact absurd hr (by decide)
    | 26, _, _ =>
      show _ = some 11
      simp only [m_sI, m_sL, m_sR, m_zap, m_grid, m_up, m_cl, true_and, and_true, and_self, if_true, if_false, false_and, and_false]
      repeat (first | rw [if_pos (by omega)] | rw [if_neg (by omega)])
    | 27, _, hr => exact absurd hr (by decide)
    | 28, _, _ =>
      show _ = some 12
      simp only [m_sI, m_sL, m_sR, m_zap, m_grid, m_up, m_cl, true_and, and_true, and_self, if_true, if_false, false_and, and_false]
      repeat (first | rw [if_pos (by omega)] | rw [if_neg (by omega)])
    | 29, _, _ =>
      show _ = some 13
      simp only [m_sI, m_sL, m_sR, m_zap, m_grid, m_up, m_cl, true_and, and_true, and_self, if_true, if_false, false_and, and_false]
      repeat (first | rw [if_pos (by omega)] | rw [if_neg (by omega)])
    | 30, _, _ =>
      show _ = some 14
      simp only [m_sI, m_sL, m_sR, m_zap, m_grid, m_up, m_cl, true_and, and_true, and_self, if_true, if_false, false_and, and_false]
      repeat (first | rw [if_pos (by omega)] | rw [if_neg (by omega)])
    | 31, _, _ =>
      show _ = some 15
      simp only [m_sI, m_sL, m_sR, m_zap, m_grid, m_up, m_cl, true_and, and_true, and_self, if_true, if_false, false_and, and_false]
      repeat (first | rw [if_pos (by omega)] | rw [if_neg (by omega)])
    | 32, _, _ =>
      show _ = some 16
      simp only [m_sI, m_sL, m_sR, m_zap, m_grid, m_up, m_cl, true_and, and_true, and_self, if_true, if_false, false_and, and_false]
      repeat (first | rw [if_pos (by omega)] | rw [if_neg (by omega)])
    | 33, _, _ =>
      show _ = some 17
      simp only [m_sI, m_sL, m_sR, m_zap, m_grid, m_up, m_cl, true_and, and_true, and_self, if_true, if_false, false_and, and_false]
      repeat (first | rw [if_pos (by omega)] | rw [if_neg (by omega)])
    | 34, _, hr => exact absurd hr (by decide)
    | 35, _, hr => exact absurd hr (by decide)
    | 36, _, hr => exact absurd hr (by decide)
    | 37, _, hr => exact absurd hr (by decide)
    | 38, _, _ =>
      show _ = some 18
      simp only [m_sI, m_sL, m_sR, m_zap, m_grid, m_up, m_cl, true_and, and_true, and_self, if_true, if_false, false_and, and_false]
      repeat (first | rw [if_pos (by omega)] | rw [if_neg (by omega)])
    | 39, _, _ =>
      show _ = some 19
      simp only [m_sI, m_sL, m_sR, m_zap, m_grid, m_up, m_cl, true_and, and_true, and_self, if_true, if_false, false_and, and_false]
      repeat (first | rw [if_pos (by omega)] | rw [if_neg (by omega)])
    | 40, _, _ =>
      show _ = some 20
      simp only [m_sI, m_sL, m_sR, m_zap, m_grid, m_up, m_cl, true_and, and_true, and_self, if_true, if_false, false_and, and_false]
      repeat (first | rw [if_pos (by omega)] | rw [if_neg (by omega)])
    | 41, _, hr => exact absurd hr (by decide)
    | 42, _, hr => exact absurd hr (by decide)
    | 43, _, hr => exact absurd hr (by decide)
    | 44, _, _ =>
      show _ = some 21
      simp only [m_sI, m_sL, m_sR, m_zap, m_grid, m_up, m_cl, true_and, and_true, and_self, if_true, if_false, false_and, and_false]
      repeat (first | rw [if_pos (by omega)] | rw [if_neg (by omega)])
    | 45, _, _ =>
      show _ = some 22
      simp only [m_sI, m_sL, m_sR, m_zap, m_grid, m_up, m_cl, true_and, and_true, and_self, if_true, if_false, false_and, and_false]
      repeat (first | rw [if_pos (by omega)] | rw [if_neg (by omega)])
    | 46, _, _ =>
      show _ = some 23
      simp only [m_sI, m_sL, m_sR, m_zap, m_grid, m_up, m_cl, true_and, and_true, and_self, if_true, if_false, false_and, and_false]
      repeat (first | rw [if_pos (by omega)] | rw [if_neg (by omega)])
    | 47, _, hr => exact absurd hr (by decide)
    | 48, _, hr => exact absurd hr (by decide)
    | 49, _, _ =>
      show _ = some 24
      simp only [m_sI, m_sL, m_sR, m_zap, m_grid, m_up, m_cl, true_and, and_true, and_self, if_true, if_false, false_and, and_false]
      repeat (first | rw [if_pos (by omega)] | rw [if_neg (by omega)])
    | 50, _, _ =>
      show _ = some 25
      simp only [m_sI, m_sL, m_sR, m_zap, m_grid, m_up, m_cl, true_and, and_true, and_self, if_true, if_false, false_and, and_false]
      repeat (first | rw [if_pos (by omega)] | rw [if_neg (by omega)])
    | 51, _, hr => exact absurd hr (by decide)
    | 52, _, hr => exact absurd hr (by decide)
    | 53, _, hr => exact absurd hr (by decide)
    | 54, _, hr => exact absurd hr (by decide)
    | 55, _, hr => exact absurd hr (by decide)
    | 56, _, hr => exact absurd hr (by decide)
    | 57, _, _ =>
      show _ = some 26
      simp only [m_sI, m_sL, m_sR, m_zap, m_grid, m_up, m_cl, true_and, and_true, and_self, if_true, if_false, false_and, and_false]
      repeat (first | rw [if_pos (by omega)] | rw [if_neg (by omega)])
    | 58, _, hr => exact absurd hr (by decide)
  · simp only [m_sI, m_sL, m_sR, m_zap, m_grid, m_up, m_cl, true_and, and_true, and_self, if_true, if_false, false_and, and_false]
    repeat (first | rw [if_pos (by omega)] | rw [if_neg (by omega)])
    exact hI 0
  · simp only [m_sI, m_sL, m_sR, m_zap, m_grid, m_up, m_cl, true_and, and_true, and_self, if_true, if_false, false_and, and_false]
    repeat (first | rw [if_pos (by omega)] | rw [if_neg (by omega)])
    exact hI 2
  · simp only [m_sI, m_sL, m_sR, m_zap, m_grid, m_up, m_cl, true_and, and_true, and_self, if_true, if_false, false_and, and_false]
    repeat (first | rw [if_pos (by omega)] | rw [if_neg (by omega)])
  · simp only [m_sI, m_sL, m_sR, m_zap, m_grid, m_up, m_cl, true_and, and_true, and_self, if_true, if_false, false_and, and_false]
    repeat (first | rw [if_pos (by omega)] | rw [if_neg (by omega)])
    exact hI 12
  · simp only [m_sI, m_sL, m_sR, m_zap, m_grid, m_up, m_cl, true_and, and_true, and_self, if_true, if_false, false_and, and_false]
    repeat (first | rw [if_pos (by omega)] | rw [if_neg (by omega)])
    exact hI 13
  · simp only [m_sI, m_sL, m_sR, m_zap, m_grid, m_up, m_cl, true_and, and_true, and_self, if_true, if_false, false_and, and_false]
    repeat (first | rw [if_pos (by omega)] | rw [if_neg (by omega)])
  · simp only [m_sI, m_sL, m_sR, m_zap, m_grid, m_up, m_cl, true_and, and_true, and_self, if_true, if_false, false_and, and_false]
    repeat (first | rw [if_pos (by omega)] | rw [if_neg (by omega)])
    exact hI 25
  · simp only [m_sI, m_sL, m_sR, m_zap, m_grid, m_up, m_cl, true_and, and_true, and_self, if_true, if_false, false_and, and_false]
    repeat (first | rw [if_pos (by omega)] | rw [if_neg (by omega)])
  · have hr : r = 0 ∨ r = 1 ∨ r = 2 ∨ r = 3 ∨ r = 4 ∨ r = 5 := by omega
    rcases hr with rfl | rfl | rfl | rfl | rfl | rfl
    all_goals
      simp only [m_sI, m_sL, m_sR, m_zap, m_grid, m_up, m_cl, true_and, and_true, and_self, if_true, if_false, false_and, and_false]
      repeat (first | rw [if_pos (by omega)] | rw [if_neg (by omega)])
  · simp only [m_sI, m_sL, m_sR, m_zap, m_grid, m_up, m_cl, true_and, and_true, and_self, if_true, if_false, false_and, and_false]
    repeat (first | rw [if_pos (by omega)] | rw [if_neg (by omega)])
  · have hr : t = 0 ∨ t = 1 ∨ t = 2 ∨ t = 3 := by omega
    rcases hr with rfl | rfl | rfl | rfl
    all_goals
      simp only [m_sI, m_sL, m_sR, m_zap, m_grid, m_up, m_cl, true_and, and_true, and_self, if_true, if_false, false_and, and_false]
      repeat (first | rw [if_pos (by omega)] | rw [if_neg (by omega)])
  · simp only [m_sI, m_sL, m_sR, m_zap, m_grid, m_up, m_cl, true_and, and_true, and_self, if_true, if_false, false_and, and_false]
    repeat (first | rw [if_pos (by omega)] | rw [if_neg (by omega)])
  · simp only [m_sI, m_sL, m_sR, m_zap, m_grid, m_up, m_cl, true_and, and_true, and_self, if_true, if_false, false_and, and_false]
    repeat (first | rw [if_pos (by omega)] | rw [if_neg (by omega)])
    exact hL 3
  · simp only [m_sI, m_sL, m_sR, m_zap, m_grid, m_up, m_cl, true_and, and_true, and_self, if_true, if_false, false_and, and_false]
    repeat (first | rw [if_pos (by omega)] | rw [if_neg (by omega)])
    exact hL 4
  · simp only [m_sI, m_sL, m_sR, m_zap, m_grid, m_up, m_cl, true_and, and_true, and_self, if_true, if_false, false_and, and_false]
    repeat (first | rw [if_pos (by omega)] | rw [if_neg (by omega)])
end

/-! THE CLASS'S FACE: judge, way. -/
section
variable {G : GT} {I L M N : MI} {R : MR} {h h' : Nat}

set_option maxHeartbeats 1000000 in
theorem s_X7_judge {w r : Int} (co0 : CO I L R M N h h') (cc0 : CC I L R M h) (hw : rI w) (hr : rI r) : Sp G mtX7_judge [mr 0, mi w, mi r] shX I L R (qi (fun z I' L' R' => z = (s_judge w r M).1 ∧ CO I' L' R' (s_judge w r M).2 N h h' ∧ CC I' L' R' (s_judge w r M).2 h)) := by
  refine Sp.of pnX7_judge rfl ?_
  show Rn G mtX7_judge _ 0 [(0, mr 0), (1, mi w), (2, mi r)] [] shX I L R
  generalize hQ : (qi (fun z I' L' R' => z = (s_judge w r M).1 ∧ CO I' L' R' (s_judge w r M).2 N h h' ∧ CC I' L' R' (s_judge w r M).2 h)) = Q
  have hR := co0.1
  have r8 := co0.2.1.1
  have r9 := co0.2.1.2.1
  have h32 := co0.h32
  have hh := hR.h h32
  obtain ⟨iH, iE, iL, iR, iT⟩ := co0.2.2.2.2.1
  have hrl := co0.2.2.2.2.2.1.1
  have q0 := hrl.1
  have q1 := hrl.2.1
  have q2 := hrl.2.2.1
  have q3 := hrl.2.2.2.1
  have b0 := iH.1
  have b1 := iH.2.1
  have b2 := iH.2.2.1
  have b3 := iH.2.2.2.1
  have szr : ∀ rn : Nat, rn < 6 → I 9 (rn : Int) = M 2 (rn : Int) ∧ -1 ≤ M 2 (rn : Int) ∧ M 2 (rn : Int) ≤ 40 := fun rn hrn => ⟨(co0.2.2.2.2.2.2.2.1 rn hrn).1, iR.1 _ (by omega) (by omega)⟩
  have szt : ∀ rn : Nat, rn < 4 → I 16 (rn : Int) = M 5 (rn : Int) ∧ -1 ≤ M 5 (rn : Int) ∧ M 5 (rn : Int) ≤ 80 := fun rn hrn => ⟨(co0.2.2.2.2.2.2.2.2.1 rn hrn).1, iT.1 _ (by omega) (by omega)⟩
  have at24 : ∀ rn : Nat, r = (rn : Int) → rn < 6 → (0 ≤ w ∧ w < M 0 13) → Rn G mtX7_judge Q 24 [(0, mr 0), (1, mi w), (2, mi r)] [] shX I L R := by
    intro rn e hrn gw
    subst e
    obtain ⟨sz, sz2⟩ := szr rn hrn
    obtain ⟨wn, rfl⟩ : ∃ wn : Nat, w = (wn : Int) := ⟨w.toNat, by omega⟩
    have fin : ∀ i : Nat, (i : Int) < M 2 (rn : Int) → I (1 + 2 + rn) (i : Int) = M 3 (40 * (rn : Int) + (i : Int)) ∧ rI (M 3 (40 * (rn : Int) + (i : Int))) := fun i z => by
      have y := (co0.2.2.2.2.2.2.2.1 rn hrn).2.2 (i : Int) (by omega) (by omega)
      rw [show 1 + 2 + rn = 3 + rn by omega]
      exact ⟨y, iR.2 _ (by omega) (by omega)⟩
    obtain ⟨tl, htl⟩ : ∃ tl : Nat, M 0 14 = (tl : Int) := ⟨(M 0 14).toNat, by omega⟩
    obtain ⟨row, hrow⟩ : ∃ row : Nat → Bool, row = fun t : Nat => decide (0 ≤ M 3 (40 * (rn : Int) + (t : Int)) ∧ M 3 (40 * (rn : Int) + (t : Int)) ≤ M 0 11 - 1) := ⟨_, rfl⟩
    have sj : ¬ M 2 (rn : Int) < 0 → ¬ M 2 (rn : Int) ≠ M 0 14 + 1 → s_judge (wn : Int) (rn : Int) M = if al row (tl + 1) = false then (-3, a_mt M 3) else if okA M = false then (-3, a_mt M 4) else (judR (kM M) wn (fun t => M 3 (40 * (rn : Int) + (t : Int))) (tl + 1) 0, M) := fun z1 z2 => by
      unfold s_judge
      rw [if_neg (by omega), if_neg z1, if_neg z2, show (M 0 14 + 1).toNat = tl + 1 by omega, hrow]
      rfl
    have body : ∀ J K S, CO J K S M N h h' → CC J K S M h → J 0 10 = 1 → J 0 11 = 1 → okA M = true → al row (tl + 1) = true → M 2 (rn : Int) = M 0 14 + 1 → Rn G mtX7_judge Q 127 [(0, mr 0), (1, mi (wn : Int)), (2, mi (rn : Int)), (3, mi ((tl + 1 : Nat) : Int))] [] shX J K S := by
      intro J K S co cc h10 h11 hok har hsz
      have hR := co.1
      have r8 := co.2.1.1
      have r9 := co.2.1.2.1
      have hh := hR.h h32
      obtain ⟨na, nb, nk, tw⟩ := co.2.2.1
      obtain ⟨m12, m15⟩ := co.2.2.2.1
      obtain ⟨c1, c2, n, c3, c4, -, c6⟩ := cc.2 h10
      obtain ⟨fit, st, nt⟩ := c6 h11
      have hp := hR.p (Or.inl rfl)
      have hn3 : J 42 3 = (n : Int) := c3.1.1.2.2.2.2.1
      have hn2 := (PQ_n c3.1.1).2
      have hus := PK_us c3.1
      have h34 := c3.1.2.2.2.1
      have hl : ((lst (kM M) : Nat) : Int) = M 0 14 := KA_lst iH
      have hu : ((us (kM M) : Nat) : Int) = M 0 13 := KA_us iH
      have k11 : kM M 0 11 = M 0 11 := kap_per (by unfold per; omega)
      have j0 : J h 0 = M 0 11 := co.2.2.2.2.2.1.1.1
      have j1 : J h 1 = M 0 12 := co.2.2.2.2.2.1.1.2.1
      have j3 : J h 3 = M 0 14 := co.2.2.2.2.2.1.1.2.2.2.1
      have fw := s_X6_firstWrong (G := G) (L := K) (row := fun t => M 3 (40 * (rn : Int) + (t : Int))) hR tw hp c1 hh c3 m12 st (w := wn) (c := 1 + 2 + rn) (by omega) (shSi hR.s1 hrn) (by omega) (fun t ht => by
        have z := (co.2.2.2.2.2.2.2.1 rn hrn).2.2 (t : Int) (by omega) (by omega)
        have y := al_iff.mp har t (by omega)
        rw [hrow, decide_eq_true_eq] at y
        rw [show 1 + 2 + rn = 3 + rn by omega]
        exact ⟨z, by omega, by omega⟩)
      refine x_aload_n dX7_judge_127 0 rfl rfl ?_
      refine x_getR dX7_judge_128 flX7_31 rfl rfl (hR 0 3 19 rfl) ?_
      refine x_aload_n dX7_judge_131 0 rfl rfl ?_
      refine x_getR dX7_judge_132 flX7_50 rfl rfl (hR 0 4 42 rfl) ?_
      refine x_iload_n dX7_judge_135 1 rfl rfl ?_
      refine x_aload_n dX7_judge_136 0 rfl rfl ?_
      refine x_getR dX7_judge_137 flX7_14 rfl rfl (hR 0 0 1 rfl) ?_
      refine x_getR dX7_judge_140 flX7_101 rfl rfl (hR 1 0 2 rfl) ?_
      refine x_iload_n dX7_judge_143 2 rfl rfl ?_
      refine x_aald dX7_judge_144 rfl (by omega) (hR.s1.2.2.2 rn hrn) ?_
      refine x_callVi (as := [_, _, _]) dX7_judge_145 lvX7_262 rfl rfl rfl rfl rfl rfl rfl ⟨rfl, rfl⟩ (fw) (fun z145 I145 L145 R145 hq145 => ?_)
      obtain ⟨rfl, wp⟩ := hq145
      refine x_iret dX7_judge_148 rfl ?_
      rw [← hQ]
      rw [sj (by omega) (by omega), if_neg (by rw [har]; exact fun z => Bool.noConfusion z), if_neg (by rw [hok]; exact fun z => Bool.noConfusion z)]
      refine ⟨_, rfl, ?_, co.wp wp, cc.wp h32 wp⟩
      rw [show lst (kM M) = tl by omega]
    have at70 : M 2 (rn : Int) = M 0 14 + 1 → ∀ t : Nat, t ≤ tl + 1 → al row t = true → Rn G mtX7_judge Q 70 [(0, mr 0), (1, mi (wn : Int)), (2, mi (rn : Int)), (3, mi (t : Int))] [] shX I L R := by
      intro hsz
      refine lpn (tl + 1) (fun t ht ih => ?_) ?_
      · intro har
        obtain ⟨f1, f2⟩ := fin t (by omega)
        have rt : row t = true ↔ 0 ≤ M 3 (40 * (rn : Int) + (t : Int)) ∧ M 3 (40 * (rn : Int) + (t : Int)) ≤ M 0 11 - 1 := by rw [hrow]; exact decide_eq_true_iff
        refine x_iload_n dX7_judge_70 3 rfl rfl ?_
        refine x_aload_n dX7_judge_71 0 rfl rfl ?_
        refine x_getR dX7_judge_72 flX7_38 rfl rfl r8 ?_
        refine x_getI dX7_judge_75 flX7_208 (shH0 hh) rfl ?_
        rw [q3, htl]
        refine x_ic_gt (tgt := 114) dX7_judge_78 (by decide) (by omega) (fun h78 => ?_) (fun h78 => ?_)
        · exfalso; omega
        · refine x_aload_n dX7_judge_81 0 rfl rfl ?_
          refine x_getR dX7_judge_82 flX7_38 rfl rfl r8 ?_
          refine x_aload_n dX7_judge_85 0 rfl rfl ?_
          refine x_getR dX7_judge_86 flX7_14 rfl rfl (hR 0 0 1 rfl) ?_
          refine x_getR dX7_judge_89 flX7_101 rfl rfl (hR 1 0 2 rfl) ?_
          refine x_iload_n dX7_judge_92 2 rfl rfl ?_
          refine x_aald dX7_judge_93 rfl (by omega) (hR.s1.2.2.2 rn hrn) ?_
          refine x_iload_n dX7_judge_94 3 rfl rfl ?_
          refine x_iald dX7_judge_95 (shSi hR.s1 hrn) (by omega) ?_
          rw [f1]
          refine x_callVi (as := [_]) dX7_judge_96 lvX7_224 rfl (shH0 hh) rfl rfl rfl rfl rfl ⟨rfl, rfl⟩ (s_X0_hasRoom hh (by omega) (by omega)) (fun z96 I96 L96 R96 hq96 => ?_)
          obtain ⟨rfl, rfl, rfl, rfl⟩ := hq96
          refine y_ifb_ne (tgt := 108) dX7_judge_99 (by decide) (fun h99 => ?_) (fun h99 => ?_)
          · refine x_iinc (lv' := [(0, _), (1, _), (2, _), (3, _)]) dX7_judge_108 3 rfl rfl rfl ?_
            refine x_goto (tgt := 70) dX7_judge_111 (by decide) ?_
            refine ih ?_
            show (al row t && row t) = true
            rw [har, rt.mpr (by omega)]
            rfl
          · refine x_aload_n dX7_judge_102 0 rfl rfl ?_
            refine x_iconst dX7_judge_103 ?_
            refine x_callVi (as := [_]) dX7_judge_104 lvX7_79 rfl rfl rfl rfl rfl rfl rfl ⟨rfl, rfl⟩ (s_X7_found co0.1 (by omega)) (fun z104 I104 L104 R104 hq104 => ?_)
            obtain ⟨rfl, rfl, rfl, rfl⟩ := hq104
            refine x_iret dX7_judge_107 rfl ?_
            rw [← hQ]
            have hf : al row (tl + 1) = false := al_mono (k := t + 1) (by omega) (by
              show (al row t && row t) = false
              rw [har, Bool.true_and]
              exact bf (fun y => by have := rt.mp y; omega))
            rw [sj (by omega) (by omega), if_pos hf]
            have z := mt_ok co0 cc0 (f := 3) (by omega)
            exact ⟨_, rfl, rfl, z.1, z.2⟩
      · intro har
        refine x_iload_n dX7_judge_70 3 rfl rfl ?_
        refine x_aload_n dX7_judge_71 0 rfl rfl ?_
        refine x_getR dX7_judge_72 flX7_38 rfl rfl r8 ?_
        refine x_getI dX7_judge_75 flX7_208 (shH0 hh) rfl ?_
        rw [q3, htl]
        refine x_ic_gt (tgt := 114) dX7_judge_78 (by decide) (by omega) (fun h78 => ?_) (fun h78 => ?_)
        · refine x_aload_n dX7_judge_114 0 rfl rfl ?_
          refine x_callVi (as := []) dX7_judge_115 lvX7_205 rfl rfl rfl rfl rfl rfl rfl ⟨rfl, rfl⟩ (s_X7_knowsWays co0 cc0) (fun z115 I115 L115 R115 hq115 => ?_)
          obtain ⟨rfl, co1, cc1, kw, hK⟩ := hq115
          refine y_ifb_ne (tgt := 127) dX7_judge_118 (by decide) (fun h118 => ?_) (fun h118 => ?_)
          · exact body _ _ _ co1 cc1 (kw (by assumption)).1 (kw (by assumption)).2 (by assumption) har hsz
          · refine x_aload_n dX7_judge_121 0 rfl rfl ?_
            refine x_iconst dX7_judge_122 ?_
            refine x_callVi (as := [_]) dX7_judge_123 lvX7_79 rfl rfl rfl rfl rfl rfl rfl ⟨rfl, rfl⟩ (s_X7_found co1.1 (by omega)) (fun z123 I123 L123 R123 hq123 => ?_)
            obtain ⟨rfl, rfl, rfl, rfl⟩ := hq123
            refine x_iret dX7_judge_126 rfl ?_
            rw [← hQ]
            rw [sj (by omega) (by omega), if_neg (by rw [har]; exact fun z => Bool.noConfusion z), if_pos (bf (by assumption))]
            have z := mt_ok co1 cc1 (f := 4) (by omega)
            exact ⟨_, rfl, rfl, z.1, z.2⟩
        · exfalso; omega
    refine x_aload_n dX7_judge_24 0 rfl rfl ?_
    refine x_getR dX7_judge_25 flX7_14 rfl rfl (hR 0 0 1 rfl) ?_
    refine x_iload_n dX7_judge_28 2 rfl rfl ?_
    refine x_callVi (as := [_]) dX7_judge_29 lvX7_87 rfl rfl rfl rfl rfl rfl rfl ⟨rfl, rfl⟩ (s_X5_lacks hR.s1 hrn (by omega)) (fun z29 I29 L29 R29 hq29 => ?_)
    obtain ⟨rfl, rfl, rfl, rfl⟩ := hq29
    refine y_ifb_eq (tgt := 41) dX7_judge_32 (by decide) (fun h32 => ?_) (fun h32 => ?_)
    · refine x_aload_n dX7_judge_41 0 rfl rfl ?_
      refine x_getR dX7_judge_42 flX7_14 rfl rfl (hR 0 0 1 rfl) ?_
      refine x_getR dX7_judge_45 flX7_105 rfl rfl (hR 1 1 9 rfl) ?_
      refine x_iload_n dX7_judge_48 2 rfl rfl ?_
      refine x_iald dX7_judge_49 rfl (by omega) ?_
      refine x_aload_n dX7_judge_50 0 rfl rfl ?_
      refine x_getR dX7_judge_51 flX7_38 rfl rfl r8 ?_
      refine x_getI dX7_judge_54 flX7_208 (shH0 hh) rfl ?_
      refine x_iconst dX7_judge_57 ?_
      refine x_iadd dX7_judge_58 ?_
      refine x_ic_eq (tgt := 68) dX7_judge_59 (by decide) (by omega) (fun h59 => ?_) (fun h59 => ?_)
      · refine x_iconst dX7_judge_68 ?_
        refine x_istore_n (lv' := [(0, _), (1, _), (2, _), (3, _)]) dX7_judge_69 rfl rfl rfl ?_
        exact at70 (by omega) 0 (by omega) rfl
      · refine x_aload_n dX7_judge_62 0 rfl rfl ?_
        refine x_iconst dX7_judge_63 ?_
        refine x_callVi (as := [_]) dX7_judge_64 lvX7_79 rfl rfl rfl rfl rfl rfl rfl ⟨rfl, rfl⟩ (s_X7_found co0.1 (by omega)) (fun z64 I64 L64 R64 hq64 => ?_)
        obtain ⟨rfl, rfl, rfl, rfl⟩ := hq64
        refine x_iret dX7_judge_67 rfl ?_
        rw [← hQ]
        first
        | (have x : s_judge (wn : Int) (rn : Int) M = (-3, a_mt M 1) := by
             unfold s_judge
             rw [if_neg (by omega), if_pos (by omega)]
           rw [x]
           have z := mt_ok co0 cc0 (f := 1) (by omega)
           exact ⟨_, rfl, rfl, z.1, z.2⟩)
        | (have x : s_judge (wn : Int) (rn : Int) M = (-3, a_mt M 5) := by
             unfold s_judge
             rw [if_neg (by omega), if_neg (by omega), if_pos (by omega)]
           rw [x]
           have z := mt_ok co0 cc0 (f := 5) (by omega)
           exact ⟨_, rfl, rfl, z.1, z.2⟩)
    · refine x_aload_n dX7_judge_35 0 rfl rfl ?_
      refine x_iconst dX7_judge_36 ?_
      refine x_callVi (as := [_]) dX7_judge_37 lvX7_79 rfl rfl rfl rfl rfl rfl rfl ⟨rfl, rfl⟩ (s_X7_found co0.1 (by omega)) (fun z37 I37 L37 R37 hq37 => ?_)
      obtain ⟨rfl, rfl, rfl, rfl⟩ := hq37
      refine x_iret dX7_judge_40 rfl ?_
      rw [← hQ]
      first
      | (have x : s_judge (wn : Int) (rn : Int) M = (-3, a_mt M 1) := by
           unfold s_judge
           rw [if_neg (by omega), if_pos (by omega)]
         rw [x]
         have z := mt_ok co0 cc0 (f := 1) (by omega)
         exact ⟨_, rfl, rfl, z.1, z.2⟩)
      | (have x : s_judge (wn : Int) (rn : Int) M = (-3, a_mt M 5) := by
           unfold s_judge
           rw [if_neg (by omega), if_neg (by omega), if_pos (by omega)]
         rw [x]
         have z := mt_ok co0 cc0 (f := 5) (by omega)
         exact ⟨_, rfl, rfl, z.1, z.2⟩)
  refine x_aload_n dX7_judge_0 0 rfl rfl ?_
  refine x_getR dX7_judge_1 flX7_38 rfl rfl r8 ?_
  refine x_iload_n dX7_judge_4 1 rfl rfl ?_
  refine x_callVi (as := [_]) dX7_judge_5 lvX7_170 rfl (shH0 hh) rfl rfl rfl rfl rfl ⟨rfl, rfl⟩ (s_X0_hasWalker hh (by omega) (by omega)) (fun z5 I5 L5 R5 hq5 => ?_)
  obtain ⟨rfl, rfl, rfl, rfl⟩ := hq5
  refine y_ifb_eq (tgt := 22) dX7_judge_8 (by decide) (fun h8 => ?_) (fun h8 => ?_)
  · refine x_iconst dX7_judge_22 ?_
    refine x_iret dX7_judge_23 rfl ?_
    rw [← hQ]
    first
    | (have x : s_judge w r M = (-1, M) := by
         unfold s_judge
         exact if_pos (by omega)
       rw [x]
       exact ⟨_, rfl, rfl, co0, cc0⟩)
  · refine x_aload_n dX7_judge_11 0 rfl rfl ?_
    refine x_getR dX7_judge_12 flX7_14 rfl rfl (hR 0 0 1 rfl) ?_
    refine x_iload_n dX7_judge_15 2 rfl rfl ?_
    refine x_callVi (as := [_]) dX7_judge_16 lvX7_75 rfl rfl rfl rfl rfl rfl rfl ⟨rfl, rfl⟩ (s_X5_names hR.s1 (by omega)) (fun z16 I16 L16 R16 hq16 => ?_)
    obtain ⟨rfl, rfl, rfl, rfl⟩ := hq16
    refine y_ifb_ne (tgt := 24) dX7_judge_19 (by decide) (fun h19 => ?_) (fun h19 => ?_)
    · exact at24 r.toNat (by omega) (by omega) (by omega)
    · refine x_iconst dX7_judge_22 ?_
      refine x_iret dX7_judge_23 rfl ?_
      rw [← hQ]
      first
      | (have x : s_judge w r M = (-1, M) := by
           unfold s_judge
           exact if_pos (by omega)
         rw [x]
         exact ⟨_, rfl, rfl, co0, cc0⟩)
theorem s_X7_way {w r : Int} (co0 : CO I L R M N h h') (cc0 : CC I L R M h) (hw : rI w) (hr : rI r) : Sp G mtX7_way [mr 0, mi w, mi r] shX I L R (qi (fun z I' L' R' => z = (s_way w r M).1 ∧ CO I' L' R' (s_way w r M).2 N h h' ∧ CC I' L' R' (s_way w r M).2 h)) := by
  refine Sp.of pnX7_way rfl ?_
  show Rn G mtX7_way _ 0 [(0, mr 0), (1, mi w), (2, mi r)] [] shX I L R
  generalize hQ : (qi (fun z I' L' R' => z = (s_way w r M).1 ∧ CO I' L' R' (s_way w r M).2 N h h' ∧ CC I' L' R' (s_way w r M).2 h)) = Q
  have hR := co0.1
  have r8 := co0.2.1.1
  have r9 := co0.2.1.2.1
  have h32 := co0.h32
  have hh := hR.h h32
  obtain ⟨iH, iE, iL, iR, iT⟩ := co0.2.2.2.2.1
  have hrl := co0.2.2.2.2.2.1.1
  have q0 := hrl.1
  have q1 := hrl.2.1
  have q2 := hrl.2.2.1
  have q3 := hrl.2.2.2.1
  have b0 := iH.1
  have b1 := iH.2.1
  have b2 := iH.2.2.1
  have b3 := iH.2.2.2.1
  have body : ∀ J K S, CO J K S M N h h' → CC J K S M h → J 0 10 = 1 → J 0 11 = 1 → okA M = true → (0 ≤ w ∧ w < M 0 13) → (0 ≤ r ∧ r < 6) → Rn G mtX7_way Q 37 [(0, mr 0), (1, mi w), (2, mi r)] [] shX J K S := by
    intro J K S co cc h10 h11 hok g0 g1
    have hR := co.1
    have r8 := co.2.1.1
    have r9 := co.2.1.2.1
    have hh := hR.h h32
    obtain ⟨na, nb, nk, tw⟩ := co.2.2.1
    obtain ⟨m12, m15⟩ := co.2.2.2.1
    obtain ⟨c1, c2, n, c3, c4, -, c6⟩ := cc.2 h10
    obtain ⟨fit, st, nt⟩ := c6 h11
    have hp := hR.p (Or.inl rfl)
    have hn3 : J 42 3 = (n : Int) := c3.1.1.2.2.2.2.1
    have hn2 := (PQ_n c3.1.1).2
    have hus := PK_us c3.1
    have h34 := c3.1.2.2.2.1
    have hl : ((lst (kM M) : Nat) : Int) = M 0 14 := KA_lst iH
    have hu : ((us (kM M) : Nat) : Int) = M 0 13 := KA_us iH
    have k11 : kM M 0 11 = M 0 11 := kap_per (by unfold per; omega)
    have j0 : J h 0 = M 0 11 := co.2.2.2.2.2.1.1.1
    have j1 : J h 1 = M 0 12 := co.2.2.2.2.2.1.1.2.1
    have j3 : J h 3 = M 0 14 := co.2.2.2.2.2.1.1.2.2.2.1
    obtain ⟨wn, rfl⟩ : ∃ wn : Nat, w = (wn : Int) := ⟨w.toNat, by omega⟩
    obtain ⟨rn, rfl⟩ : ∃ rn : Nat, r = (rn : Int) := ⟨r.toNat, by omega⟩
    have hrn : rn < 6 := by omega
    have x : s_way (wn : Int) (rn : Int) M = (M 0 14 + 1, wyM (kM M) wn (rn : Int) (M 0 14 + 1) (M 0 14 + 1) M) := by
      unfold s_way
      rw [if_neg (by omega), if_neg (by rw [hok]; exact fun z => Bool.noConfusion z)]
      rfl
    have at55 : ∀ J1, J1 = m_fil (m_up J 9 (rn : Int) (M 0 14 + 1)) (1 + 2 + rn) 0 (M 0 14 + 1) 0 → Rn G mtX7_way Q 55 [(0, mr 0), (1, mi (wn : Int)), (2, mi (rn : Int))] [] shX J1 K S := by
      intro J1 hJ1
      have e1 : ∀ c i, 10 ≤ c → J1 c i = J c i := fun c i q => by rw [hJ1, m_fil_ne (by omega), m_up_ne (by omega)]
      have c3' : PKR J1 42 h n (kM M) := PKR_f (fun c i q => e1 c i (by omega)) c3
      have st' : SETS (kM M) J1 K 42 h n := fun t ht j hj => by
        rw [sgX_f (fun c i q => e1 c i (by omega))]
        exact st t ht j hj
      have m12 : rI (J1 19 12) := by rw [e1 19 12 (by decide)]; exact m12
      obtain ⟨f, hf⟩ : ∃ f : Nat → Int, f = fun t => leF (wyV (kM M) wn t) wn (nst (kM M)) := ⟨_, rfl⟩
      have fr : ∀ t, 0 ≤ f t ∧ f t ≤ 6 := fun t => by
        rw [hf]
        exact leF_r _ _ _ (nst_le c3.1.2.1 c3.1.2.2.1).2
      have fw := s_X6_firstWalk (G := G) (L := K) hR tw hp c1 hh c3' m12 st' (w := wn) (c := 1 + 2 + rn) (f := f) (by omega) (shSi hR.s1 hrn) (by omega) fit hf
      have q10 := co.2.2.2.2.2.2.2.1
      have wk : ∀ c i, c ≠ 1 + 2 + rn → wkM J1 (1 + 2 + rn) f (lst (kM M) + 1) c i = J1 c i := fun c i q => by
        unfold wkM
        rw [if_neg (fun z => q z.1)]
      have ok2 := rw_ok (I' := wkM J1 (1 + 2 + rn) f (lst (kM M) + 1)) (M' := wyM (kM M) wn (rn : Int) (M 0 14 + 1) (M 0 14 + 1) M) co cc (fun c i q => by
          rw [wk c i (by omega), hJ1, m_fil_ne (by omega), m_up_ne (by omega)]) (fun c j q1 q2 => by
          unfold wyM
          rw [if_neg (fun z => q1 z.1), if_neg (fun z => q2 z.1)]) ⟨fun g h1 h2 => by
            unfold wyM
            split
            · omega
            · rw [if_neg (fun z => absurd z.1 (by decide))]
              exact iR.1 g h1 h2, fun k h1 h2 => by
            unfold wyM
            rw [if_neg (fun z => absurd z.1 (by decide))]
            split
            · split
              · have := fr (k - 40 * (rn : Int)).toNat
                rw [hf] at this
                have t2 : 0 ≤ leF (wyV (kM M) wn (k - 40 * (rn : Int)).toNat) wn (nst (kM M)) ∧ leF (wyV (kM M) wn (k - 40 * (rn : Int)).toNat) wn (nst (kM M)) ≤ 6 := this
                omega
              · omega
            · exact iR.2 k h1 h2⟩ (fun g hg => by
          have hM : -1 ≤ M 2 (g : Int) ∧ M 2 (g : Int) ≤ 40 := iR.1 _ (by omega) (by omega)
          have m2 : wyM (kM M) wn (rn : Int) (M 0 14 + 1) (M 0 14 + 1) M 2 (g : Int) = if g = rn then M 0 14 + 1 else M 2 (g : Int) := by
            unfold wyM
            by_cases e : g = rn
            · rw [if_pos ⟨rfl, by omega⟩, if_pos e]
            · rw [if_neg (show ¬ ((2 : Nat) = 2 ∧ (g : Int) = (rn : Int)) by omega), if_neg (fun z => absurd z.1 (by decide)), if_neg e]
          refine ⟨?_, fun i h1 h2 => ?_, fun i h1 h2 => ?_⟩
          · rw [m2, wk _ _ (by omega), hJ1, m_fil_ne (by omega)]
            by_cases e : g = rn
            · rw [if_pos e, e, m_up_eq]
            · rw [if_neg e, m_up_nj (by omega)]
              exact (q10 g hg).1
          · by_cases e : g = rn
            · subst e
              unfold wkM
              split
              · have := fr i.toNat
                omega
              · rw [hJ1]
                unfold m_fil
                split
                · omega
                · rw [m_up_ne (by omega)]
                  exact (q10 g hg).2.1 i h1 h2
            · rw [wk _ _ (by omega), hJ1, m_fil_ne (by omega), m_up_ne (by omega)]
              exact (q10 g hg).2.1 i h1 h2
          · rw [m2] at h2
            by_cases e : g = rn
            · subst e
              rw [if_pos rfl] at h2
              have e1 : wkM J1 (1 + 2 + g) f (lst (kM M) + 1) (3 + g) i = f i.toNat := by
                unfold wkM
                rw [if_pos (by omega)]
              rw [e1]
              unfold wyM
              rw [if_neg (fun z => absurd z.1 (by decide)), if_pos (by omega), if_pos (by omega), show 40 * (g : Int) + i - 40 * (g : Int) = i by omega, hf]
            · rw [if_neg e] at h2
              rw [wk _ _ (by omega), hJ1, m_fil_ne (by omega), m_up_ne (by omega)]
              have e1 : wyM (kM M) wn (rn : Int) (M 0 14 + 1) (M 0 14 + 1) M 3 (40 * (g : Int) + i) = M 3 (40 * (g : Int) + i) := by
                unfold wyM
                rw [if_neg (fun z => absurd z.1 (by decide)), if_neg (by omega)]
              rw [e1]
              exact (q10 g hg).2.2 i h1 h2)
      refine x_aload_n dX7_way_55 0 rfl rfl ?_
      refine x_getR dX7_way_56 flX7_31 rfl rfl (hR 0 3 19 rfl) ?_
      refine x_aload_n dX7_way_59 0 rfl rfl ?_
      refine x_getR dX7_way_60 flX7_50 rfl rfl (hR 0 4 42 rfl) ?_
      refine x_iload_n dX7_way_63 1 rfl rfl ?_
      refine x_aload_n dX7_way_64 0 rfl rfl ?_
      refine x_getR dX7_way_65 flX7_14 rfl rfl (hR 0 0 1 rfl) ?_
      refine x_getR dX7_way_68 flX7_101 rfl rfl (hR 1 0 2 rfl) ?_
      refine x_iload_n dX7_way_71 2 rfl rfl ?_
      refine x_aald dX7_way_72 rfl (by omega) (hR.s1.2.2.2 rn hrn) ?_
      refine x_callVv (as := [_, _, _]) dX7_way_73 lvX7_266 rfl rfl rfl rfl rfl rfl rfl ⟨rfl, rfl⟩ (fw) (fun I73 L73 R73 hq73 => ?_)
      have co9 := ok2.1.wp hq73
      have cc9 := ok2.2.wp h32 hq73
      have hR := co9.1
      have r8 := co9.2.1.1
      have hh := hR.h h32
      have j9 := co9.2.2.2.2.2.1.1.2.2.2.1
      have mo : wyM (kM M) wn (rn : Int) (M 0 14 + 1) (M 0 14 + 1) M 0 14 = M 0 14 := rfl
      refine x_aload_n dX7_way_76 0 rfl rfl ?_
      refine x_getR dX7_way_77 flX7_38 rfl rfl r8 ?_
      refine x_getI dX7_way_80 flX7_208 (shH0 hh) rfl ?_
      rw [j9, mo]
      refine x_iconst dX7_way_83 ?_
      refine x_iadd dX7_way_84 ?_
      refine x_iret dX7_way_85 rfl ?_
      rw [← hQ, x]
      exact ⟨_, rfl, rfl, co9, cc9⟩
    refine x_aload_n dX7_way_37 0 rfl rfl ?_
    refine x_getR dX7_way_38 flX7_14 rfl rfl (hR 0 0 1 rfl) ?_
    refine x_iload_n dX7_way_41 2 rfl rfl ?_
    refine x_aload_n dX7_way_42 0 rfl rfl ?_
    refine x_getR dX7_way_43 flX7_38 rfl rfl r8 ?_
    refine x_getI dX7_way_46 flX7_208 (shH0 hh) rfl ?_
    rw [j3]
    refine x_iconst dX7_way_49 ?_
    refine x_iadd dX7_way_50 ?_
    refine x_iconst dX7_way_51 ?_
    refine x_callVv (as := [_, _, _]) dX7_way_52 lvX7_83 rfl rfl rfl rfl rfl rfl rfl ⟨rfl, rfl⟩ (s_X5_make hR.s1 hrn (by omega)) (fun I52 L52 R52 hq52 => ?_)
    obtain ⟨w52, rfl, rfl⟩ := hq52
    exact at55 _ w52
  refine x_aload_n dX7_way_0 0 rfl rfl ?_
  refine x_getR dX7_way_1 flX7_38 rfl rfl r8 ?_
  refine x_iload_n dX7_way_4 1 rfl rfl ?_
  refine x_callVi (as := [_]) dX7_way_5 lvX7_170 rfl (shH0 hh) rfl rfl rfl rfl rfl ⟨rfl, rfl⟩ (s_X0_hasWalker hh (by omega) (by omega)) (fun z5 I5 L5 R5 hq5 => ?_)
  obtain ⟨rfl, rfl, rfl, rfl⟩ := hq5
  refine y_ifb_eq (tgt := 22) dX7_way_8 (by decide) (fun h8 => ?_) (fun h8 => ?_)
  · refine x_iconst dX7_way_22 ?_
    refine x_iret dX7_way_23 rfl ?_
    rw [← hQ]
    first
    | (have e : s_way w r M = (-1, M) := by
         unfold s_way
         exact if_pos (by omega)
       rw [e]
       exact ⟨_, rfl, rfl, co0, cc0⟩)
    | (have e : s_way w r M = (-3, a_mt M 4) := by
         unfold s_way
         rw [if_neg (by omega), if_pos (bf (by assumption))]
       rw [e]
       have z := mt_ok co1 cc1 (f := 4) (by omega)
       exact ⟨_, rfl, rfl, z.1, z.2⟩)
  · refine x_aload_n dX7_way_11 0 rfl rfl ?_
    refine x_getR dX7_way_12 flX7_14 rfl rfl (hR 0 0 1 rfl) ?_
    refine x_iload_n dX7_way_15 2 rfl rfl ?_
    refine x_callVi (as := [_]) dX7_way_16 lvX7_75 rfl rfl rfl rfl rfl rfl rfl ⟨rfl, rfl⟩ (s_X5_names hR.s1 (by omega)) (fun z16 I16 L16 R16 hq16 => ?_)
    obtain ⟨rfl, rfl, rfl, rfl⟩ := hq16
    refine y_ifb_ne (tgt := 24) dX7_way_19 (by decide) (fun h19 => ?_) (fun h19 => ?_)
    · refine x_aload_n dX7_way_24 0 rfl rfl ?_
      refine x_callVi (as := []) dX7_way_25 lvX7_205 rfl rfl rfl rfl rfl rfl rfl ⟨rfl, rfl⟩ (s_X7_knowsWays co0 cc0) (fun z25 I25 L25 R25 hq25 => ?_)
      obtain ⟨rfl, co1, cc1, kw, hK⟩ := hq25
      refine y_ifb_ne (tgt := 37) dX7_way_28 (by decide) (fun h28 => ?_) (fun h28 => ?_)
      · exact body _ _ _ co1 cc1 (kw (by assumption)).1 (kw (by assumption)).2 (by assumption) (by omega) (by omega)
      · refine x_aload_n dX7_way_31 0 rfl rfl ?_
        refine x_iconst dX7_way_32 ?_
        refine x_callVi (as := [_]) dX7_way_33 lvX7_79 rfl rfl rfl rfl rfl rfl rfl ⟨rfl, rfl⟩ (s_X7_found co1.1 (by omega)) (fun z33 I33 L33 R33 hq33 => ?_)
        obtain ⟨rfl, rfl, rfl, rfl⟩ := hq33
        refine x_iret dX7_way_36 rfl ?_
        rw [← hQ]
        first
        | (have e : s_way w r M = (-1, M) := by
             unfold s_way
             exact if_pos (by omega)
           rw [e]
           exact ⟨_, rfl, rfl, co0, cc0⟩)
        | (have e : s_way w r M = (-3, a_mt M 4) := by
             unfold s_way
             rw [if_neg (by omega), if_pos (bf (by assumption))]
           rw [e]
           have z := mt_ok co1 cc1 (f := 4) (by omega)
           exact ⟨_, rfl, rfl, z.1, z.2⟩)
    · refine x_iconst dX7_way_22 ?_
      refine x_iret dX7_way_23 rfl ?_
      rw [← hQ]
      first
      | (have e : s_way w r M = (-1, M) := by
           unfold s_way
           exact if_pos (by omega)
         rw [e]
         exact ⟨_, rfl, rfl, co0, cc0⟩)
      | (have e : s_way w r M = (-3, a_mt M 4) := by
           unfold s_way
           rw [if_neg (by omega), if_pos (bf (by assumption))]
         rw [e]
         have z := mt_ok co1 cc1 (f := 4) (by omega)
         exact ⟨_, rfl, rfl, z.1, z.2⟩)
end

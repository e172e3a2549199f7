section
variable {G : GT} {I L M N : MI} {R : MR} {h h' : Nat}
theorem s_X7_mark {e k : Int} (co0 : CO I L R M N h h') (cc0 : CC I L R M h) (he : rI e) (hk : rI k) : Sp G mtX7_mark [mr 0, mi e, mi k] shX I L R (qi (fun z I' L' R' => z = (s_mark e k M).1 ∧ CO I' L' R' (s_mark e k M).2 N h h' ∧ CC I' L' R' (s_mark e k M).2 h)) := by
  refine Sp.of pnX7_mark rfl ?_
  show Rn G mtX7_mark _ 0 [(0, mr 0), (1, mi e), (2, mi k)] [] shX I L R
  generalize hQ : (qi (fun z I' L' R' => z = (s_mark e k M).1 ∧ CO I' L' R' (s_mark e k M).2 N h h' ∧ CC I' L' R' (s_mark e k M).2 h)) = Q
  have hR := co0.1
  have r8 := co0.2.1.1
  have r9 := co0.2.1.2.1
  have h32 := co0.h32
  have hh := hR.h h32
  obtain ⟨iH, iE, iL, iR, iT⟩ := co0.2.2.2.2.1
  have hrl := co0.2.2.2.2.2.1.1
  have q0 := hrl.1
  have q1 := hrl.2.1
  have q2 := hrl.2.2.1
  have q3 := hrl.2.2.2.1
  have b0 := iH.1
  have b1 := iH.2.1
  have b2 := iH.2.2.1
  have b3 := iH.2.2.2.1
  have hn := hR.n (h := 58) (Or.inl rfl)
  have hrn := co0.2.2.2.2.2.2.1
  have n25 : I 58 0 = M 0 25 := hrn.1
  have e25 := iE.1
  have evf : 0 ≤ e → e < M 0 25 → I (58 + 1) e = M 11 (4 * e + 0) ∧ rI (I (58 + 1) e) := fun z1 z2 => by
    obtain ⟨en, rfl⟩ : ∃ en : Nat, e = (en : Int) := ⟨e.toNat, by omega⟩
    have z := (hrn.2 en z2).1
    have v := (iE.2 en z2).1
    exact ⟨z, by omega⟩
  have evg : 0 ≤ e → e < M 0 25 → (I (58 + 2) e = M 11 (4 * e + 1) ∧ I (58 + 3) e = M 11 (4 * e + 2) ∧ I (58 + 4) e = M 11 (4 * e + 3)) ∧ (0 ≤ M 11 (4 * e + 2) ∧ M 11 (4 * e + 2) ≤ 30) ∧ (0 ≤ M 11 (4 * e + 3) ∧ M 11 (4 * e + 3) ≤ 30) ∧ 0 ≤ M 11 (4 * e + 1) ∧ M 11 (4 * e + 1) ≤ 7 := fun z1 z2 => by
    obtain ⟨en, rfl⟩ : ∃ en : Nat, e = (en : Int) := ⟨e.toNat, by omega⟩
    obtain ⟨z3, z4, z5, z6⟩ := hrn.2 en z2
    obtain ⟨v1, v2, v3, v4, v5, v6⟩ := iE.2 en z2
    exact ⟨⟨z4, z5, z6⟩, v4, v3, v2⟩
  refine x_aload_n dX7_mark_0 0 rfl rfl ?_
  refine x_getR dX7_mark_1 flX7_60 rfl rfl (hR 0 6 58 rfl) ?_
  refine x_iload_n dX7_mark_4 1 rfl rfl ?_
  refine x_callVi (as := [_]) dX7_mark_5 lvX7_147 rfl rfl rfl rfl rfl rfl rfl ⟨rfl, rfl⟩ (s_X2_names hn (by omega) (by omega)) (fun z5 I5 L5 R5 hq5 => ?_)
  obtain ⟨rfl, rfl, rfl, rfl⟩ := hq5
  refine y_ifb_eq (tgt := 21) dX7_mark_8 (by decide) (fun h8 => ?_) (fun h8 => ?_)
  · refine x_iconst dX7_mark_21 ?_
    refine x_iret dX7_mark_22 rfl ?_
    rw [← hQ]
    first
    | (have x : s_mark e k M = (-1, M) := by
         unfold s_mark
         exact if_pos (by omega)
       rw [x]
       exact ⟨_, rfl, rfl, co0, cc0⟩)
    | (have v := (evf (by omega) (by omega)).1
       obtain ⟨⟨g1, g2, g3⟩, -⟩ := evg (by omega) (by omega)
       first
       | (have x : s_mark e k M = (-3, a_mt M 3) := by
            unfold s_mark
            rw [if_neg (by omega), if_pos (by omega)]
          rw [x]
          have z := mt_ok co0 cc0 (f := 3) (by omega)
          exact ⟨_, rfl, rfl, z.1, z.2⟩)
       | (have x : s_mark e k M = (M 11 (4 * e + 2), M) := by
            unfold s_mark
            rw [if_neg (by omega), if_neg (by omega), if_pos (by omega)]
          rw [x]
          exact ⟨_, rfl, g2, co0, cc0⟩)
       | (have x : s_mark e k M = (M 11 (4 * e + 2) - M 11 (4 * e + 3) + 1, M) := by
            unfold s_mark
            rw [if_neg (by omega), if_neg (by omega), if_neg (by omega), if_pos (by omega)]
          rw [x, ← g2, ← g3]
          exact ⟨_, rfl, rfl, co0, cc0⟩)
       | (have x : s_mark e k M = (M 11 (4 * e + 1), M) := by
            unfold s_mark
            rw [if_neg (by omega), if_neg (by omega), if_neg (by omega), if_neg (by omega)]
          rw [x]
          exact ⟨_, rfl, g1, co0, cc0⟩))
  · refine x_iload_n dX7_mark_11 2 rfl rfl ?_
    refine x_iconst dX7_mark_12 ?_
    refine x_ic_lt (tgt := 21) dX7_mark_13 (by decide) (by omega) (fun h13 => ?_) (fun h13 => ?_)
    · refine x_iconst dX7_mark_21 ?_
      refine x_iret dX7_mark_22 rfl ?_
      rw [← hQ]
      first
      | (have x : s_mark e k M = (-1, M) := by
           unfold s_mark
           exact if_pos (by omega)
         rw [x]
         exact ⟨_, rfl, rfl, co0, cc0⟩)
      | (have v := (evf (by omega) (by omega)).1
         obtain ⟨⟨g1, g2, g3⟩, -⟩ := evg (by omega) (by omega)
         first
         | (have x : s_mark e k M = (-3, a_mt M 3) := by
              unfold s_mark
              rw [if_neg (by omega), if_pos (by omega)]
            rw [x]
            have z := mt_ok co0 cc0 (f := 3) (by omega)
            exact ⟨_, rfl, rfl, z.1, z.2⟩)
         | (have x : s_mark e k M = (M 11 (4 * e + 2), M) := by
              unfold s_mark
              rw [if_neg (by omega), if_neg (by omega), if_pos (by omega)]
            rw [x]
            exact ⟨_, rfl, g2, co0, cc0⟩)
         | (have x : s_mark e k M = (M 11 (4 * e + 2) - M 11 (4 * e + 3) + 1, M) := by
              unfold s_mark
              rw [if_neg (by omega), if_neg (by omega), if_neg (by omega), if_pos (by omega)]
            rw [x, ← g2, ← g3]
            exact ⟨_, rfl, rfl, co0, cc0⟩)
         | (have x : s_mark e k M = (M 11 (4 * e + 1), M) := by
              unfold s_mark
              rw [if_neg (by omega), if_neg (by omega), if_neg (by omega), if_neg (by omega)]
            rw [x]
            exact ⟨_, rfl, g1, co0, cc0⟩))
    · refine x_iload_n dX7_mark_16 2 rfl rfl ?_
      refine x_iconst dX7_mark_17 ?_
      refine x_ic_le (tgt := 23) dX7_mark_18 (by decide) (by omega) (fun h18 => ?_) (fun h18 => ?_)
      · refine x_aload_n dX7_mark_23 0 rfl rfl ?_
        refine x_getR dX7_mark_24 flX7_60 rfl rfl (hR 0 6 58 rfl) ?_
        refine x_iload_n dX7_mark_27 1 rfl rfl ?_
        refine x_iload_n dX7_mark_28 2 rfl rfl ?_
        refine x_callVi (as := [_, _]) dX7_mark_29 lvX7_152 rfl rfl rfl rfl rfl rfl rfl ⟨rfl, rfl⟩ (s_X2_isOf hn (by omega) (evf (by omega) (by omega)).2 (by omega)) (fun z29 I29 L29 R29 hq29 => ?_)
        obtain ⟨rfl, rfl, rfl, rfl⟩ := hq29
        refine y_ifb_ne (tgt := 41) dX7_mark_32 (by decide) (fun h32 => ?_) (fun h32 => ?_)
        · refine x_iload_n dX7_mark_41 2 rfl rfl ?_
          refine x_iconst dX7_mark_42 ?_
          refine x_ic_ne (tgt := 56) dX7_mark_43 (by decide) (by omega) (fun h43 => ?_) (fun h43 => ?_)
          · refine x_iload_n dX7_mark_56 2 rfl rfl ?_
            refine x_iconst dX7_mark_57 ?_
            refine x_ic_ne (tgt := 83) dX7_mark_58 (by decide) (by omega) (fun h58 => ?_) (fun h58 => ?_)
            · refine x_aload_n dX7_mark_83 0 rfl rfl ?_
              refine x_getR dX7_mark_84 flX7_60 rfl rfl (hR 0 6 58 rfl) ?_
              refine x_getR dX7_mark_87 flX7_161 rfl rfl (hR 58 2 60 rfl) ?_
              refine x_iload_n dX7_mark_90 1 rfl rfl ?_
              refine x_iald dX7_mark_91 rfl (by omega) ?_
              refine x_iret dX7_mark_92 rfl ?_
              rw [← hQ]
              first
              | (have x : s_mark e k M = (-1, M) := by
                   unfold s_mark
                   exact if_pos (by omega)
                 rw [x]
                 exact ⟨_, rfl, rfl, co0, cc0⟩)
              | (have v := (evf (by omega) (by omega)).1
                 obtain ⟨⟨g1, g2, g3⟩, -⟩ := evg (by omega) (by omega)
                 first
                 | (have x : s_mark e k M = (-3, a_mt M 3) := by
                      unfold s_mark
                      rw [if_neg (by omega), if_pos (by omega)]
                    rw [x]
                    have z := mt_ok co0 cc0 (f := 3) (by omega)
                    exact ⟨_, rfl, rfl, z.1, z.2⟩)
                 | (have x : s_mark e k M = (M 11 (4 * e + 2), M) := by
                      unfold s_mark
                      rw [if_neg (by omega), if_neg (by omega), if_pos (by omega)]
                    rw [x]
                    exact ⟨_, rfl, g2, co0, cc0⟩)
                 | (have x : s_mark e k M = (M 11 (4 * e + 2) - M 11 (4 * e + 3) + 1, M) := by
                      unfold s_mark
                      rw [if_neg (by omega), if_neg (by omega), if_neg (by omega), if_pos (by omega)]
                    rw [x, ← g2, ← g3]
                    exact ⟨_, rfl, rfl, co0, cc0⟩)
                 | (have x : s_mark e k M = (M 11 (4 * e + 1), M) := by
                      unfold s_mark
                      rw [if_neg (by omega), if_neg (by omega), if_neg (by omega), if_neg (by omega)]
                    rw [x]
                    exact ⟨_, rfl, g1, co0, cc0⟩))
            · refine x_aload_n dX7_mark_61 0 rfl rfl ?_
              refine x_getR dX7_mark_62 flX7_60 rfl rfl (hR 0 6 58 rfl) ?_
              refine x_getR dX7_mark_65 flX7_155 rfl rfl (hR 58 3 61 rfl) ?_
              refine x_iload_n dX7_mark_68 1 rfl rfl ?_
              refine x_iald dX7_mark_69 rfl (by omega) ?_
              refine x_aload_n dX7_mark_70 0 rfl rfl ?_
              refine x_getR dX7_mark_71 flX7_60 rfl rfl (hR 0 6 58 rfl) ?_
              refine x_getR dX7_mark_74 flX7_158 rfl rfl (hR 58 4 62 rfl) ?_
              refine x_iload_n dX7_mark_77 1 rfl rfl ?_
              refine x_iald dX7_mark_78 rfl (by omega) ?_
              obtain ⟨⟨eg1, eg2, eg3⟩, eg4, eg5, -⟩ := evg (by omega) (by omega)
              refine x_isub dX7_mark_79 ?_
              refine x_iconst dX7_mark_80 ?_
              refine x_iadd dX7_mark_81 ?_
              refine x_iret dX7_mark_82 rfl ?_
              rw [← hQ]
              first
              | (have x : s_mark e k M = (-1, M) := by
                   unfold s_mark
                   exact if_pos (by omega)
                 rw [x]
                 exact ⟨_, rfl, rfl, co0, cc0⟩)
              | (have v := (evf (by omega) (by omega)).1
                 obtain ⟨⟨g1, g2, g3⟩, -⟩ := evg (by omega) (by omega)
                 first
                 | (have x : s_mark e k M = (-3, a_mt M 3) := by
                      unfold s_mark
                      rw [if_neg (by omega), if_pos (by omega)]
                    rw [x]
                    have z := mt_ok co0 cc0 (f := 3) (by omega)
                    exact ⟨_, rfl, rfl, z.1, z.2⟩)
                 | (have x : s_mark e k M = (M 11 (4 * e + 2), M) := by
                      unfold s_mark
                      rw [if_neg (by omega), if_neg (by omega), if_pos (by omega)]
                    rw [x]
                    exact ⟨_, rfl, g2, co0, cc0⟩)
                 | (have x : s_mark e k M = (M 11 (4 * e + 2) - M 11 (4 * e + 3) + 1, M) := by
                      unfold s_mark
                      rw [if_neg (by omega), if_neg (by omega), if_neg (by omega), if_pos (by omega)]
                    rw [x, ← g2, ← g3]
                    exact ⟨_, rfl, rfl, co0, cc0⟩)
                 | (have x : s_mark e k M = (M 11 (4 * e + 1), M) := by
                      unfold s_mark
                      rw [if_neg (by omega), if_neg (by omega), if_neg (by omega), if_neg (by omega)]
                    rw [x]
                    exact ⟨_, rfl, g1, co0, cc0⟩))
          · refine x_aload_n dX7_mark_46 0 rfl rfl ?_
            refine x_getR dX7_mark_47 flX7_60 rfl rfl (hR 0 6 58 rfl) ?_
            refine x_getR dX7_mark_50 flX7_155 rfl rfl (hR 58 3 61 rfl) ?_
            refine x_iload_n dX7_mark_53 1 rfl rfl ?_
            refine x_iald dX7_mark_54 rfl (by omega) ?_
            refine x_iret dX7_mark_55 rfl ?_
            rw [← hQ]
            first
            | (have x : s_mark e k M = (-1, M) := by
                 unfold s_mark
                 exact if_pos (by omega)
               rw [x]
               exact ⟨_, rfl, rfl, co0, cc0⟩)
            | (have v := (evf (by omega) (by omega)).1
               obtain ⟨⟨g1, g2, g3⟩, -⟩ := evg (by omega) (by omega)
               first
               | (have x : s_mark e k M = (-3, a_mt M 3) := by
                    unfold s_mark
                    rw [if_neg (by omega), if_pos (by omega)]
                  rw [x]
                  have z := mt_ok co0 cc0 (f := 3) (by omega)
                  exact ⟨_, rfl, rfl, z.1, z.2⟩)
               | (have x : s_mark e k M = (M 11 (4 * e + 2), M) := by
                    unfold s_mark
                    rw [if_neg (by omega), if_neg (by omega), if_pos (by omega)]
                  rw [x]
                  exact ⟨_, rfl, g2, co0, cc0⟩)
               | (have x : s_mark e k M = (M 11 (4 * e + 2) - M 11 (4 * e + 3) + 1, M) := by
                    unfold s_mark
                    rw [if_neg (by omega), if_neg (by omega), if_neg (by omega), if_pos (by omega)]
                  rw [x, ← g2, ← g3]
                  exact ⟨_, rfl, rfl, co0, cc0⟩)
               | (have x : s_mark e k M = (M 11 (4 * e + 1), M) := by
                    unfold s_mark
                    rw [if_neg (by omega), if_neg (by omega), if_neg (by omega), if_neg (by omega)]
                  rw [x]
                  exact ⟨_, rfl, g1, co0, cc0⟩))
        · refine x_aload_n dX7_mark_35 0 rfl rfl ?_
          refine x_iconst dX7_mark_36 ?_
          refine x_callVi (as := [_]) dX7_mark_37 lvX7_79 rfl rfl rfl rfl rfl rfl rfl ⟨rfl, rfl⟩ (s_X7_found co0.1 (by omega)) (fun z37 I37 L37 R37 hq37 => ?_)
          obtain ⟨rfl, rfl, rfl, rfl⟩ := hq37
          refine x_iret dX7_mark_40 rfl ?_
          rw [← hQ]
          first
          | (have x : s_mark e k M = (-1, M) := by
               unfold s_mark
               exact if_pos (by omega)
             rw [x]
             exact ⟨_, rfl, rfl, co0, cc0⟩)
          | (have v := (evf (by omega) (by omega)).1
             obtain ⟨⟨g1, g2, g3⟩, -⟩ := evg (by omega) (by omega)
             first
             | (have x : s_mark e k M = (-3, a_mt M 3) := by
                  unfold s_mark
                  rw [if_neg (by omega), if_pos (by omega)]
                rw [x]
                have z := mt_ok co0 cc0 (f := 3) (by omega)
                exact ⟨_, rfl, rfl, z.1, z.2⟩)
             | (have x : s_mark e k M = (M 11 (4 * e + 2), M) := by
                  unfold s_mark
                  rw [if_neg (by omega), if_neg (by omega), if_pos (by omega)]
                rw [x]
                exact ⟨_, rfl, g2, co0, cc0⟩)
             | (have x : s_mark e k M = (M 11 (4 * e + 2) - M 11 (4 * e + 3) + 1, M) := by
                  unfold s_mark
                  rw [if_neg (by omega), if_neg (by omega), if_neg (by omega), if_pos (by omega)]
                rw [x, ← g2, ← g3]
                exact ⟨_, rfl, rfl, co0, cc0⟩)
             | (have x : s_mark e k M = (M 11 (4 * e + 1), M) := by
                  unfold s_mark
                  rw [if_neg (by omega), if_neg (by omega), if_neg (by omega), if_neg (by omega)]
                rw [x]
                exact ⟨_, rfl, g1, co0, cc0⟩))
      · refine x_iconst dX7_mark_21 ?_
        refine x_iret dX7_mark_22 rfl ?_
        rw [← hQ]
        first
        | (have x : s_mark e k M = (-1, M) := by
             unfold s_mark
             exact if_pos (by omega)
           rw [x]
           exact ⟨_, rfl, rfl, co0, cc0⟩)
        | (have v := (evf (by omega) (by omega)).1
           obtain ⟨⟨g1, g2, g3⟩, -⟩ := evg (by omega) (by omega)
           first
           | (have x : s_mark e k M = (-3, a_mt M 3) := by
                unfold s_mark
                rw [if_neg (by omega), if_pos (by omega)]
              rw [x]
              have z := mt_ok co0 cc0 (f := 3) (by omega)
              exact ⟨_, rfl, rfl, z.1, z.2⟩)
           | (have x : s_mark e k M = (M 11 (4 * e + 2), M) := by
                unfold s_mark
                rw [if_neg (by omega), if_neg (by omega), if_pos (by omega)]
              rw [x]
              exact ⟨_, rfl, g2, co0, cc0⟩)
           | (have x : s_mark e k M = (M 11 (4 * e + 2) - M 11 (4 * e + 3) + 1, M) := by
                unfold s_mark
                rw [if_neg (by omega), if_neg (by omega), if_neg (by omega), if_pos (by omega)]
              rw [x, ← g2, ← g3]
              exact ⟨_, rfl, rfl, co0, cc0⟩)
           | (have x : s_mark e k M = (M 11 (4 * e + 1), M) := by
                unfold s_mark
                rw [if_neg (by omega), if_neg (by omega), if_neg (by omega), if_neg (by omega)]
              rw [x]
              exact ⟨_, rfl, g1, co0, cc0⟩))
theorem s_X7_event {k a b t : Int} (co0 : CO I L R M N h h') (cc0 : CC I L R M h) (hk : rI k) (ha : rI a) (hb : rI b) (ht : rI t) : Sp G mtX7_event [mr 0, mi k, mi a, mi b, mi t] shX I L R (qi (fun z I' L' R' => z = (s_event k a b t M).1 ∧ CO I' L' R' (s_event k a b t M).2 N h h' ∧ CC I' L' R' (s_event k a b t M).2 h)) := by
  refine Sp.of pnX7_event rfl ?_
  show Rn G mtX7_event _ 0 [(0, mr 0), (1, mi k), (2, mi a), (3, mi b), (4, mi t)] [] shX I L R
  generalize hQ : (qi (fun z I' L' R' => z = (s_event k a b t M).1 ∧ CO I' L' R' (s_event k a b t M).2 N h h' ∧ CC I' L' R' (s_event k a b t M).2 h)) = Q
  have hR := co0.1
  have r8 := co0.2.1.1
  have r9 := co0.2.1.2.1
  have h32 := co0.h32
  have hh := hR.h h32
  obtain ⟨iH, iE, iL, iR, iT⟩ := co0.2.2.2.2.1
  have hrl := co0.2.2.2.2.2.1.1
  have q0 := hrl.1
  have q1 := hrl.2.1
  have q2 := hrl.2.2.1
  have q3 := hrl.2.2.2.1
  have b0 := iH.1
  have b1 := iH.2.1
  have b2 := iH.2.2.1
  have b3 := iH.2.2.2.1
  have n25 : I 58 0 = M 0 25 := co0.2.2.2.2.2.2.1.1
  have e25 := iE.1
  have hn := hR.n (h := 58) (Or.inl rfl)
  have ae := al_et co0 k a b t
  have ad : ∀ b', adN I 58 k a b' t 58 0 = I 58 0 + 1 := fun b' => by unfold adN; exact m_up_eq
  refine x_aload_n dX7_event_0 0 rfl rfl ?_
  refine x_getR dX7_event_1 flX7_38 rfl rfl r8 ?_
  refine x_iload_n dX7_event_4 1 rfl rfl ?_
  refine x_iload_n dX7_event_5 2 rfl rfl ?_
  refine x_iload_n dX7_event_6 3 rfl rfl ?_
  refine x_iload dX7_event_7 4 rfl ?_
  refine x_callVi (as := [_, _, _, _]) dX7_event_9 lvX7_139 rfl (shH0 hh) rfl rfl rfl rfl rfl ⟨rfl, rfl⟩ (s_X0_allows hh (by omega) (by omega) (by omega) (by omega) (by omega) (by omega) (by omega) (by omega)) (fun z9 I9 L9 R9 hq9 => ?_)
  obtain ⟨rfl, rfl, rfl, rfl⟩ := hq9
  refine y_ifb_ne (tgt := 17) dX7_event_12 (by decide) (fun h12 => ?_) (fun h12 => ?_)
  · refine x_aload_n dX7_event_17 0 rfl rfl ?_
    refine x_getR dX7_event_18 flX7_60 rfl rfl (hR 0 6 58 rfl) ?_
    refine x_getI dX7_event_21 flX7_124 rfl rfl ?_
    refine x_bipush dX7_event_24 (by decide) ?_
    refine x_ic_lt (tgt := 32) dX7_event_26 (by decide) (by omega) (fun h26 => ?_) (fun h26 => ?_)
    · refine x_aload_n dX7_event_32 0 rfl rfl ?_
      refine x_getR dX7_event_33 flX7_60 rfl rfl (hR 0 6 58 rfl) ?_
      refine x_iload_n dX7_event_36 1 rfl rfl ?_
      refine x_iload_n dX7_event_37 2 rfl rfl ?_
      refine x_iload_n dX7_event_38 1 rfl rfl ?_
      refine x_iconst dX7_event_39 ?_
      refine x_ic_eq (tgt := 48) dX7_event_40 (by decide) (by omega) (fun h40 => ?_) (fun h40 => ?_)
      · refine x_iload_n dX7_event_48 3 rfl rfl ?_
        refine x_goto (tgt := 53) dX7_event_49 (by decide) ?_
        refine x_iload dX7_event_53 4 rfl ?_
        refine x_callVv (as := [_, _, _, _]) dX7_event_55 lvX7_143 rfl rfl rfl rfl rfl rfl rfl ⟨rfl, rfl⟩ (s_X2_add hn (by omega)) (fun I55 L55 R55 hq55 => ?_)
        obtain ⟨rfl, rfl, rfl⟩ := hq55
        refine x_aload_n dX7_event_58 0 rfl rfl ?_
        refine x_iconst dX7_event_59 ?_
        refine x_putZ dX7_event_60 flX7_128 rfl rfl rfl (by omega) ?_
        refine x_aload_n dX7_event_63 0 rfl rfl ?_
        refine x_getR dX7_event_64 flX7_60 rfl rfl (hR 0 6 58 rfl) ?_
        refine y_getI dX7_event_67 flX7_124 rfl rfl (m_up_ne (by decide) _) ?_
        refine x_iconst dX7_event_70 ?_
        refine x_isub dX7_event_71 ?_
        refine x_iret dX7_event_72 rfl ?_
        rw [← hQ]
        first
        | (have x : s_event k a b t M = (-1, M) := by
             unfold s_event
             exact if_pos (bf (by rw [← ae]; assumption))
           rw [x]
           exact ⟨_, rfl, rfl, co0, cc0⟩)
        | (have x : s_event k a b t M = (-2, M) := by
             unfold s_event
             rw [if_neg (fun z => by rw [← ae] at z; exact absurd (show alX I h k a b t = true by assumption) (by rw [z]; exact fun y => Bool.noConfusion y)), if_pos (by omega)]
           rw [x]
           exact ⟨_, rfl, rfl, co0, cc0⟩)
        | (have hal : alX I h k a b t = true := by assumption
           have x : s_event k a b t M = (M 0 25, cmE M k a (if k = 3 ∨ k = 5 then b else 0) t) := by
             unfold s_event
             rw [if_neg (fun z => by rw [← ae, hal] at z; exact Bool.noConfusion z), if_neg (by omega)]
           have z := event_ok co0 cc0 (k := k) (a := a) (b := b) (t := t) (by omega) (ae.symm.trans hal)
           rw [x]
           first
           | (rw [if_pos (show k = 3 ∨ k = 5 by omega)] at z ⊢
              exact ⟨_, rfl, by first | (rw [ad, n25]; omega) | omega, z.1, z.2⟩)
           | (rw [if_neg (show ¬ (k = 3 ∨ k = 5) by omega)] at z ⊢
              exact ⟨_, rfl, by first | (rw [ad, n25]; omega) | omega, z.1, z.2⟩))
      · refine x_iload_n dX7_event_43 1 rfl rfl ?_
        refine x_iconst dX7_event_44 ?_
        refine x_ic_ne (tgt := 52) dX7_event_45 (by decide) (by omega) (fun h45 => ?_) (fun h45 => ?_)
        · refine x_iconst dX7_event_52 ?_
          refine x_iload dX7_event_53 4 rfl ?_
          refine x_callVv (as := [_, _, _, _]) dX7_event_55 lvX7_143 rfl rfl rfl rfl rfl rfl rfl ⟨rfl, rfl⟩ (s_X2_add hn (by omega)) (fun I55 L55 R55 hq55 => ?_)
          obtain ⟨rfl, rfl, rfl⟩ := hq55
          refine x_aload_n dX7_event_58 0 rfl rfl ?_
          refine x_iconst dX7_event_59 ?_
          refine x_putZ dX7_event_60 flX7_128 rfl rfl rfl (by omega) ?_
          refine x_aload_n dX7_event_63 0 rfl rfl ?_
          refine x_getR dX7_event_64 flX7_60 rfl rfl (hR 0 6 58 rfl) ?_
          refine y_getI dX7_event_67 flX7_124 rfl rfl (m_up_ne (by decide) _) ?_
          refine x_iconst dX7_event_70 ?_
          refine x_isub dX7_event_71 ?_
          refine x_iret dX7_event_72 rfl ?_
          rw [← hQ]
          first
          | (have x : s_event k a b t M = (-1, M) := by
               unfold s_event
               exact if_pos (bf (by rw [← ae]; assumption))
             rw [x]
             exact ⟨_, rfl, rfl, co0, cc0⟩)
          | (have x : s_event k a b t M = (-2, M) := by
               unfold s_event
               rw [if_neg (fun z => by rw [← ae] at z; exact absurd (show alX I h k a b t = true by assumption) (by rw [z]; exact fun y => Bool.noConfusion y)), if_pos (by omega)]
             rw [x]
             exact ⟨_, rfl, rfl, co0, cc0⟩)
          | (have hal : alX I h k a b t = true := by assumption
             have x : s_event k a b t M = (M 0 25, cmE M k a (if k = 3 ∨ k = 5 then b else 0) t) := by
               unfold s_event
               rw [if_neg (fun z => by rw [← ae, hal] at z; exact Bool.noConfusion z), if_neg (by omega)]
             have z := event_ok co0 cc0 (k := k) (a := a) (b := b) (t := t) (by omega) (ae.symm.trans hal)
             rw [x]
             first
             | (rw [if_pos (show k = 3 ∨ k = 5 by omega)] at z ⊢
                exact ⟨_, rfl, by first | (rw [ad, n25]; omega) | omega, z.1, z.2⟩)
             | (rw [if_neg (show ¬ (k = 3 ∨ k = 5) by omega)] at z ⊢
                exact ⟨_, rfl, by first | (rw [ad, n25]; omega) | omega, z.1, z.2⟩))
        · refine x_iload_n dX7_event_48 3 rfl rfl ?_
          refine x_goto (tgt := 53) dX7_event_49 (by decide) ?_
          refine x_iload dX7_event_53 4 rfl ?_
          refine x_callVv (as := [_, _, _, _]) dX7_event_55 lvX7_143 rfl rfl rfl rfl rfl rfl rfl ⟨rfl, rfl⟩ (s_X2_add hn (by omega)) (fun I55 L55 R55 hq55 => ?_)
          obtain ⟨rfl, rfl, rfl⟩ := hq55
          refine x_aload_n dX7_event_58 0 rfl rfl ?_
          refine x_iconst dX7_event_59 ?_
          refine x_putZ dX7_event_60 flX7_128 rfl rfl rfl (by omega) ?_
          refine x_aload_n dX7_event_63 0 rfl rfl ?_
          refine x_getR dX7_event_64 flX7_60 rfl rfl (hR 0 6 58 rfl) ?_
          refine y_getI dX7_event_67 flX7_124 rfl rfl (m_up_ne (by decide) _) ?_
          refine x_iconst dX7_event_70 ?_
          refine x_isub dX7_event_71 ?_
          refine x_iret dX7_event_72 rfl ?_
          rw [← hQ]
          first
          | (have x : s_event k a b t M = (-1, M) := by
               unfold s_event
               exact if_pos (bf (by rw [← ae]; assumption))
             rw [x]
             exact ⟨_, rfl, rfl, co0, cc0⟩)
          | (have x : s_event k a b t M = (-2, M) := by
               unfold s_event
               rw [if_neg (fun z => by rw [← ae] at z; exact absurd (show alX I h k a b t = true by assumption) (by rw [z]; exact fun y => Bool.noConfusion y)), if_pos (by omega)]
             rw [x]
             exact ⟨_, rfl, rfl, co0, cc0⟩)
          | (have hal : alX I h k a b t = true := by assumption
             have x : s_event k a b t M = (M 0 25, cmE M k a (if k = 3 ∨ k = 5 then b else 0) t) := by
               unfold s_event
               rw [if_neg (fun z => by rw [← ae, hal] at z; exact Bool.noConfusion z), if_neg (by omega)]
             have z := event_ok co0 cc0 (k := k) (a := a) (b := b) (t := t) (by omega) (ae.symm.trans hal)
             rw [x]
             first
             | (rw [if_pos (show k = 3 ∨ k = 5 by omega)] at z ⊢
                exact ⟨_, rfl, by first | (rw [ad, n25]; omega) | omega, z.1, z.2⟩)
             | (rw [if_neg (show ¬ (k = 3 ∨ k = 5) by omega)] at z ⊢
                exact ⟨_, rfl, by first | (rw [ad, n25]; omega) | omega, z.1, z.2⟩))
    · refine x_bipush dX7_event_29 (by decide) ?_
      refine x_iret dX7_event_31 rfl ?_
      rw [← hQ]
      first
      | (have x : s_event k a b t M = (-1, M) := by
           unfold s_event
           exact if_pos (bf (by rw [← ae]; assumption))
         rw [x]
         exact ⟨_, rfl, rfl, co0, cc0⟩)
      | (have x : s_event k a b t M = (-2, M) := by
           unfold s_event
           rw [if_neg (fun z => by rw [← ae] at z; exact absurd (show alX I h k a b t = true by assumption) (by rw [z]; exact fun y => Bool.noConfusion y)), if_pos (by omega)]
         rw [x]
         exact ⟨_, rfl, rfl, co0, cc0⟩)
      | (have hal : alX I h k a b t = true := by assumption
         have x : s_event k a b t M = (M 0 25, cmE M k a (if k = 3 ∨ k = 5 then b else 0) t) := by
           unfold s_event
           rw [if_neg (fun z => by rw [← ae, hal] at z; exact Bool.noConfusion z), if_neg (by omega)]
         have z := event_ok co0 cc0 (k := k) (a := a) (b := b) (t := t) (by omega) (ae.symm.trans hal)
         rw [x]
         first
         | (rw [if_pos (show k = 3 ∨ k = 5 by omega)] at z ⊢
            exact ⟨_, rfl, by first | (rw [ad, n25]; omega) | omega, z.1, z.2⟩)
         | (rw [if_neg (show ¬ (k = 3 ∨ k = 5) by omega)] at z ⊢
            exact ⟨_, rfl, by first | (rw [ad, n25]; omega) | omega, z.1, z.2⟩))
  · refine x_iconst dX7_event_15 ?_
    refine x_iret dX7_event_16 rfl ?_
    rw [← hQ]
    first
    | (have x : s_event k a b t M = (-1, M) := by
         unfold s_event
         exact if_pos (bf (by rw [← ae]; assumption))
       rw [x]
       exact ⟨_, rfl, rfl, co0, cc0⟩)
    | (have x : s_event k a b t M = (-2, M) := by
         unfold s_event
         rw [if_neg (fun z => by rw [← ae] at z; exact absurd (show alX I h k a b t = true by assumption) (by rw [z]; exact fun y => Bool.noConfusion y)), if_pos (by omega)]
       rw [x]
       exact ⟨_, rfl, rfl, co0, cc0⟩)
    | (have hal : alX I h k a b t = true := by assumption
       have x : s_event k a b t M = (M 0 25, cmE M k a (if k = 3 ∨ k = 5 then b else 0) t) := by
         unfold s_event
         rw [if_neg (fun z => by rw [← ae, hal] at z; exact Bool.noConfusion z), if_neg (by omega)]
       have z := event_ok co0 cc0 (k := k) (a := a) (b := b) (t := t) (by omega) (ae.symm.trans hal)
       rw [x]
       first
       | (rw [if_pos (show k = 3 ∨ k = 5 by omega)] at z ⊢
          exact ⟨_, rfl, by first | (rw [ad, n25]; omega) | omega, z.1, z.2⟩)
       | (rw [if_neg (show ¬ (k = 3 ∨ k = 5) by omega)] at z ⊢
          exact ⟨_, rfl, by first | (rw [ad, n25]; omega) | omega, z.1, z.2⟩))
theorem s_X7_asked  (co0 : CO I L R M N h h') (cc0 : CC I L R M h) : Sp G mtX7_asked [mr 0] shX I L R (qi (fun z I' L' R' => z = M 0 2 ∧ I' = I ∧ L' = L ∧ R' = R)) := by
  refine Sp.of pnX7_asked rfl ?_
  show Rn G mtX7_asked _ 0 [(0, mr 0)] [] shX I L R
  generalize hQ : (qi (fun z I' L' R' => z = M 0 2 ∧ I' = I ∧ L' = L ∧ R' = R)) = Q
  have hx := co0.2.2.2.2.2.2.2.2.2
  refine x_aload_n dX7_asked_0 0 rfl rfl ?_
  refine x_getI dX7_asked_1 flX7_186 rfl rfl ?_
  refine x_iret dX7_asked_4 rfl ?_
  rw [← hQ]
  exact ⟨_, rfl, by first | exact hx.1.1 | exact hx.1.2.1 | exact hx.2.1 | exact hx.2.2.1 | exact hx.2.2.2, rfl, rfl, rfl⟩
theorem s_X7_many  (co0 : CO I L R M N h h') (cc0 : CC I L R M h) : Sp G mtX7_many [mr 0] shX I L R (ql (fun z I' L' R' => z = N 0 3 ∧ I' = I ∧ L' = L ∧ R' = R)) := by
  refine Sp.of pnX7_many rfl ?_
  show Rn G mtX7_many _ 0 [(0, mr 0)] [] shX I L R
  generalize hQ : (ql (fun z I' L' R' => z = N 0 3 ∧ I' = I ∧ L' = L ∧ R' = R)) = Q
  have hx := co0.2.2.2.2.2.2.2.2.2
  refine x_aload_n dX7_many_0 0 rfl rfl ?_
  refine x_getL dX7_many_1 flX7_221 rfl rfl ?_
  refine x_lret dX7_many_4 rfl ?_
  rw [← hQ]
  exact ⟨_, rfl, by first | exact hx.1.1 | exact hx.1.2.1 | exact hx.2.1 | exact hx.2.2.1 | exact hx.2.2.2, rfl, rfl, rfl⟩
theorem s_X7_upper  (co0 : CO I L R M N h h') (cc0 : CC I L R M h) : Sp G mtX7_upper [mr 0] shX I L R (ql (fun z I' L' R' => z = N 0 4 ∧ I' = I ∧ L' = L ∧ R' = R)) := by
  refine Sp.of pnX7_upper rfl ?_
  show Rn G mtX7_upper _ 0 [(0, mr 0)] [] shX I L R
  generalize hQ : (ql (fun z I' L' R' => z = N 0 4 ∧ I' = I ∧ L' = L ∧ R' = R)) = Q
  have hx := co0.2.2.2.2.2.2.2.2.2
  refine x_aload_n dX7_upper_0 0 rfl rfl ?_
  refine x_getL dX7_upper_1 flX7_324 rfl rfl ?_
  refine x_lret dX7_upper_4 rfl ?_
  rw [← hQ]
  exact ⟨_, rfl, by first | exact hx.1.1 | exact hx.1.2.1 | exact hx.2.1 | exact hx.2.2.1 | exact hx.2.2.2, rfl, rfl, rfl⟩
theorem s_X7_lower  (co0 : CO I L R M N h h') (cc0 : CC I L R M h) : Sp G mtX7_lower [mr 0] shX I L R (ql (fun z I' L' R' => z = N 0 5 ∧ I' = I ∧ L' = L ∧ R' = R)) := by
  refine Sp.of pnX7_lower rfl ?_
  show Rn G mtX7_lower _ 0 [(0, mr 0)] [] shX I L R
  generalize hQ : (ql (fun z I' L' R' => z = N 0 5 ∧ I' = I ∧ L' = L ∧ R' = R)) = Q
  have hx := co0.2.2.2.2.2.2.2.2.2
  refine x_aload_n dX7_lower_0 0 rfl rfl ?_
  refine x_getL dX7_lower_1 flX7_71 rfl rfl ?_
  refine x_lret dX7_lower_4 rfl ?_
  rw [← hQ]
  exact ⟨_, rfl, by first | exact hx.1.1 | exact hx.1.2.1 | exact hx.2.1 | exact hx.2.2.1 | exact hx.2.2.2, rfl, rfl, rfl⟩
end

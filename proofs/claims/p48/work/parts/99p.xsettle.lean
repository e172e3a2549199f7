section
variable {G : GT} {I L M N : MI} {R : MR} {h h' : Nat}

theorem s_X7_settle {m f q : Int} (co0 : CO I L R M N h h') (cc0 : CC I L R M h) (hm : rI m) (hf : rI f) (hq : rI q) : Sp G mtX7_settle [mr 0, mi m, mi f, mi q] shX I L R (qi (fun z I' L' R' => z = (s_settle m f q M).1 ∧ CO I' L' R' (s_settle m f q M).2 N h h' ∧ CC I' L' R' (s_settle m f q M).2 h)) := by
  refine Sp.of pnX7_settle rfl ?_
  show Rn G mtX7_settle _ 0 [(0, mr 0), (1, mi m), (2, mi f), (3, mi q)] [] shX I L R
  generalize hQ : (qi (fun z I' L' R' => z = (s_settle m f q M).1 ∧ CO I' L' R' (s_settle m f q M).2 N h h' ∧ CC I' L' R' (s_settle m f q M).2 h)) = Q
  have hR := co0.1
  have r8 := co0.2.1.1
  have r9 := co0.2.1.2.1
  have h32 := co0.h32
  have hh := hR.h h32
  obtain ⟨iH, iE, iL, iR, iT⟩ := co0.2.2.2.2.1
  have hrl := co0.2.2.2.2.2.1.1
  have q0 := hrl.1
  have q1 := hrl.2.1
  have q2 := hrl.2.2.1
  have q3 := hrl.2.2.2.1
  have b0 := iH.1
  have b1 := iH.2.1
  have b2 := iH.2.2.1
  have b3 := iH.2.2.2.1
  obtain ⟨W, hW⟩ : ∃ W : Nat, M 0 13 = (W : Int) := ⟨(M 0 13).toNat, by omega⟩
  have lp : (0 ≤ m ∧ m ≤ 99) → (0 ≤ f ∧ f ≤ 99) → (0 ≤ q ∧ q ≤ 99) → ∀ k : Nat, k ≤ W + 1 → ∀ J K S, CO J K S M N h h' → CC J K S M h → Rn G mtX7_settle Q 33 [(0, mr 0), (1, mi m), (2, mi f), (3, mi q), (4, mi (seF M m f q k).1), (5, mi (seF M m f q k).2), (6, mi (k : Int))] [] shX J K S := by
    intro hm hf hq0
    refine lpn (W + 1) (fun k hk ih => ?_) ?_
    · intro J K S co cc
      have hR := co.1
      have r8 := co.2.1.1
      have hh := hR.h h32
      have j2 : J h 2 = M 0 13 := co.2.2.2.2.2.1.1.2.2.1
      have sr := seF_r iH iE hm hf hq0 k (by omega)
      have b := chB_r (k := (k : Int)) iH iE (by omega) hm hf
      have hp : 0 ≤ (k : Int) * q ∧ (k : Int) * q ≤ 3 * 99 := ⟨Int.mul_nonneg (by omega) hq0.1, Int.mul_le_mul (by omega) hq0.2 hq0.1 (by omega)⟩
      have es := seF_s (I := M) (m := m) (f := f) (h := q) k
      rw [Int.mul_comm q (k : Int)] at es
      have at53 : ∀ J K S, CO J K S M N h h' → CC J K S M h → Rn G mtX7_settle Q 53 [(0, mr 0), (1, mi m), (2, mi f), (3, mi q), (4, mi (seF M m f q k).1), (5, mi (seF M m f q k).2), (6, mi (k : Int))] [ml (cvL (chB M (k : Int) m f))] shX J K S := by
        intro J K S co cc
        have nx := ih J K S co cc
        rcases b with b | b
        · have cv : cvL (chB M (k : Int) m f) = -1 := by rw [b, cv_n]
          have c0 : (-1 : Int).tdiv 1024 = 0 := by decide
          rw [if_neg (fun z => z.1 b)] at es
          rw [es] at nx
          rw [cv]
          refine x_lstore (lv' := [(0, _), (1, _), (2, _), (3, _), (4, _), (5, _), (6, _), (7, _)]) dX7_settle_53 rfl rfl ?_
          refine x_lload dX7_settle_55 7 rfl ?_
          refine x_ldc2 (1024) dX7_settle_57 lkX7_314 ?_
          refine x_ldiv dX7_settle_60 (by omega) (by omega) ?_
          refine x_l2i dX7_settle_61 ?_
          refine x_iload dX7_settle_62 6 rfl ?_
          refine x_iload_n dX7_settle_64 3 rfl rfl ?_
          refine x_imul dX7_settle_65 ?_
          refine x_iadd dX7_settle_66 ?_
          refine x_istore (lv' := [(0, _), (1, _), (2, _), (3, _), (4, _), (5, _), (6, _), (7, _), (9, _)]) dX7_settle_67 rfl rfl ?_
          refine x_lload dX7_settle_69 7 rfl ?_
          refine x_lconst 0 dX7_settle_71 rfl ?_
          refine x_lc_lt (tgt := 98) dX7_settle_72 dX7_settle_73 (by decide) (by omega) (fun h72 => ?_) (fun h72 => ?_)
          · refine x_iinc (lv' := [(0, _), (1, _), (2, _), (3, _), (4, _), (5, _), (6, _), (7, _), (9, _)]) dX7_settle_98 6 rfl rfl rfl ?_
            refine x_goto (tgt := 33) dX7_settle_101 (by decide) ?_
            refine x_top (lv' := [(0, _), (1, _), (2, _), (3, _), (4, _), (5, _), (6, _)]) 7 rfl ?_
            exact nx
          · exfalso; omega
        · obtain ⟨cv1, cv2, cv3⟩ := cv_p b
          generalize chB M (k : Int) m f = B at *
          generalize cvL B = V at *
          refine x_lstore (lv' := [(0, _), (1, _), (2, _), (3, _), (4, _), (5, _), (6, _), (7, _)]) dX7_settle_53 rfl rfl ?_
          refine x_lload dX7_settle_55 7 rfl ?_
          refine x_ldc2 (1024) dX7_settle_57 lkX7_314 ?_
          skip
          refine x_ldiv dX7_settle_60 (by omega) (by omega) ?_
          refine x_l2i dX7_settle_61 ?_
          refine x_iload dX7_settle_62 6 rfl ?_
          refine x_iload_n dX7_settle_64 3 rfl rfl ?_
          refine x_imul dX7_settle_65 ?_
          refine x_iadd dX7_settle_66 ?_
          refine x_istore (lv' := [(0, _), (1, _), (2, _), (3, _), (4, _), (5, _), (6, _), (7, _), (9, _)]) dX7_settle_67 rfl rfl ?_
          refine x_lload dX7_settle_69 7 rfl ?_
          refine x_lconst 0 dX7_settle_71 rfl ?_
          refine x_lc_lt (tgt := 98) dX7_settle_72 dX7_settle_73 (by decide) (by omega) (fun h72 => ?_) (fun h72 => ?_)
          · refine x_iinc (lv' := [(0, _), (1, _), (2, _), (3, _), (4, _), (5, _), (6, _), (7, _), (9, _)]) dX7_settle_98 6 rfl rfl rfl ?_
            refine x_goto (tgt := 33) dX7_settle_101 (by decide) ?_
            refine x_top (lv' := [(0, _), (1, _), (2, _), (3, _), (4, _), (5, _), (6, _)]) 7 rfl ?_
            first
            | (exfalso; omega)
            | (rw [if_pos ⟨by omega, Or.inl (by assumption)⟩] at es
               rw [es] at nx
               rw [cv3]
               exact nx)
            | (rw [cv3] at *
               rw [if_pos ⟨by omega, Or.inr (by omega)⟩] at es
               rw [es] at nx
               exact nx)
            | (rw [cv3] at *
               rw [if_neg (fun z => z.2.elim (fun y => absurd y (by assumption)) (fun y => absurd y (by omega)))] at es
               rw [es] at nx
               exact nx)
          · refine x_iload dX7_settle_76 4 rfl ?_
            refine x_bipush dX7_settle_78 (by decide) ?_
            refine x_ic_eq (tgt := 90) dX7_settle_80 (by decide) (by omega) (fun h80 => ?_) (fun h80 => ?_)
            · refine x_iload dX7_settle_90 6 rfl ?_
              refine x_istore (lv' := [(0, _), (1, _), (2, _), (3, _), (4, _), (5, _), (6, _), (7, _), (9, _)]) dX7_settle_92 rfl rfl ?_
              refine x_iload dX7_settle_94 8 rfl ?_
              refine x_istore (lv' := [(0, _), (1, _), (2, _), (3, _), (4, _), (5, _), (6, _), (7, _), (9, _)]) dX7_settle_96 rfl rfl ?_
              refine x_iinc (lv' := [(0, _), (1, _), (2, _), (3, _), (4, _), (5, _), (6, _), (7, _), (9, _)]) dX7_settle_98 6 rfl rfl rfl ?_
              refine x_goto (tgt := 33) dX7_settle_101 (by decide) ?_
              refine x_top (lv' := [(0, _), (1, _), (2, _), (3, _), (4, _), (5, _), (6, _)]) 7 rfl ?_
              first
              | (exfalso; omega)
              | (rw [if_pos ⟨by omega, Or.inl (by assumption)⟩] at es
                 rw [es] at nx
                 rw [cv3]
                 exact nx)
              | (rw [cv3] at *
                 rw [if_pos ⟨by omega, Or.inr (by omega)⟩] at es
                 rw [es] at nx
                 exact nx)
              | (rw [cv3] at *
                 rw [if_neg (fun z => z.2.elim (fun y => absurd y (by assumption)) (fun y => absurd y (by omega)))] at es
                 rw [es] at nx
                 exact nx)
            · refine x_iload dX7_settle_83 8 rfl ?_
              refine x_iload dX7_settle_85 5 rfl ?_
              refine x_ic_ge (tgt := 98) dX7_settle_87 (by decide) (by omega) (fun h87 => ?_) (fun h87 => ?_)
              · refine x_iinc (lv' := [(0, _), (1, _), (2, _), (3, _), (4, _), (5, _), (6, _), (7, _), (9, _)]) dX7_settle_98 6 rfl rfl rfl ?_
                refine x_goto (tgt := 33) dX7_settle_101 (by decide) ?_
                refine x_top (lv' := [(0, _), (1, _), (2, _), (3, _), (4, _), (5, _), (6, _)]) 7 rfl ?_
                first
                | (exfalso; omega)
                | (rw [if_pos ⟨by omega, Or.inl (by assumption)⟩] at es
                   rw [es] at nx
                   rw [cv3]
                   exact nx)
                | (rw [cv3] at *
                   rw [if_pos ⟨by omega, Or.inr (by omega)⟩] at es
                   rw [es] at nx
                   exact nx)
                | (rw [cv3] at *
                   rw [if_neg (fun z => z.2.elim (fun y => absurd y (by assumption)) (fun y => absurd y (by omega)))] at es
                   rw [es] at nx
                   exact nx)
              · refine x_iload dX7_settle_90 6 rfl ?_
                refine x_istore (lv' := [(0, _), (1, _), (2, _), (3, _), (4, _), (5, _), (6, _), (7, _), (9, _)]) dX7_settle_92 rfl rfl ?_
                refine x_iload dX7_settle_94 8 rfl ?_
                refine x_istore (lv' := [(0, _), (1, _), (2, _), (3, _), (4, _), (5, _), (6, _), (7, _), (9, _)]) dX7_settle_96 rfl rfl ?_
                refine x_iinc (lv' := [(0, _), (1, _), (2, _), (3, _), (4, _), (5, _), (6, _), (7, _), (9, _)]) dX7_settle_98 6 rfl rfl rfl ?_
                refine x_goto (tgt := 33) dX7_settle_101 (by decide) ?_
                refine x_top (lv' := [(0, _), (1, _), (2, _), (3, _), (4, _), (5, _), (6, _)]) 7 rfl ?_
                first
                | (exfalso; omega)
                | (rw [if_pos ⟨by omega, Or.inl (by assumption)⟩] at es
                   rw [es] at nx
                   rw [cv3]
                   exact nx)
                | (rw [cv3] at *
                   rw [if_pos ⟨by omega, Or.inr (by omega)⟩] at es
                   rw [es] at nx
                   exact nx)
                | (rw [cv3] at *
                   rw [if_neg (fun z => z.2.elim (fun y => absurd y (by assumption)) (fun y => absurd y (by omega)))] at es
                   rw [es] at nx
                   exact nx)
      refine x_iload dX7_settle_33 6 rfl ?_
      refine x_aload_n dX7_settle_35 0 rfl rfl ?_
      refine x_getR dX7_settle_36 flX7_38 rfl rfl r8 ?_
      refine x_getI dX7_settle_39 flX7_189 (shH0 hh) rfl ?_
      rw [j2, hW]
      refine x_ic_gt (tgt := 104) dX7_settle_42 (by decide) (by omega) (fun h42 => ?_) (fun h42 => ?_)
      · exfalso; omega
      · refine x_aload_n dX7_settle_45 0 rfl rfl ?_
        refine x_iload dX7_settle_46 6 rfl ?_
        refine x_iload_n dX7_settle_48 1 rfl rfl ?_
        refine x_iload_n dX7_settle_49 2 rfl rfl ?_
        refine x_callVl (as := [_, _, _]) dX7_settle_50 lvX7_310 rfl rfl rfl rfl rfl rfl rfl ⟨rfl, rfl⟩ (s_X7_leastBy co cc (by omega) hm hf) (fun z50 I50 L50 R50 hq50 => ?_)
        obtain ⟨z50e, co1, cc1⟩ := hq50
        rw [z50e]
        exact at53 _ _ _ co1 cc1
    · intro J K S co cc
      have hR := co.1
      have r8 := co.2.1.1
      have hh := hR.h h32
      have j2 : J h 2 = M 0 13 := co.2.2.2.2.2.1.1.2.2.1
      have sr := seF_r iH iE hm hf hq0 (W + 1) (by omega)
      have ew : (M 0 13 + 1).toNat = W + 1 := by omega
      refine x_iload dX7_settle_33 6 rfl ?_
      refine x_aload_n dX7_settle_35 0 rfl rfl ?_
      refine x_getR dX7_settle_36 flX7_38 rfl rfl r8 ?_
      refine x_getI dX7_settle_39 flX7_189 (shH0 hh) rfl ?_
      rw [j2, hW]
      refine x_ic_gt (tgt := 104) dX7_settle_42 (by decide) (by omega) (fun h42 => ?_) (fun h42 => ?_)
      · refine x_iload dX7_settle_104 4 rfl ?_
        refine x_bipush dX7_settle_106 (by decide) ?_
        refine x_ic_eq (tgt := 117) dX7_settle_108 (by decide) (by omega) (fun h108 => ?_) (fun h108 => ?_)
        · refine x_iload dX7_settle_117 4 rfl ?_
          refine x_iret dX7_settle_119 rfl ?_
          rw [← hQ]
          first
          | (have x : s_settle m f q M = (-9, M) := by
               unfold s_settle
               rw [if_neg (by omega), ew]
               exact if_pos (by assumption)
             rw [x]
             exact ⟨_, rfl, by assumption, co, cc⟩)
          | (have x : s_settle m f q M = ((seF M m f q (W + 1)).1, a_tl M (seF M m f q (W + 1)).2) := by
               unfold s_settle
               rw [if_neg (by omega), ew]
               exact if_neg (by assumption)
             rw [x]
             have z := tl_ok co cc (seF M m f q (W + 1)).2
             exact ⟨_, rfl, rfl, z.1, z.2⟩)
        · refine x_aload_n dX7_settle_111 0 rfl rfl ?_
          refine x_iload dX7_settle_112 5 rfl ?_
          refine x_putI dX7_settle_114 flX7_186 rfl rfl rfl ?_
          refine x_iload dX7_settle_117 4 rfl ?_
          refine x_iret dX7_settle_119 rfl ?_
          rw [← hQ]
          first
          | (have x : s_settle m f q M = (-9, M) := by
               unfold s_settle
               rw [if_neg (by omega), ew]
               exact if_pos (by assumption)
             rw [x]
             exact ⟨_, rfl, by assumption, co, cc⟩)
          | (have x : s_settle m f q M = ((seF M m f q (W + 1)).1, a_tl M (seF M m f q (W + 1)).2) := by
               unfold s_settle
               rw [if_neg (by omega), ew]
               exact if_neg (by assumption)
             rw [x]
             have z := tl_ok co cc (seF M m f q (W + 1)).2
             exact ⟨_, rfl, rfl, z.1, z.2⟩)
      · exfalso; omega
  refine x_iload_n dX7_settle_0 1 rfl rfl ?_
  refine x_callSi (as := [_]) dX7_settle_1 lvX7_307 rfl rfl rfl rfl ⟨rfl, rfl⟩ (s_X7_isPrice (by omega)) (fun z1 I1 L1 R1 hq1 => ?_)
  obtain ⟨rfl, rfl, rfl, rfl⟩ := hq1
  refine y_ifb_eq (tgt := 21) dX7_settle_4 (by decide) (fun h4 => ?_) (fun h4 => ?_)
  · refine x_iconst dX7_settle_21 ?_
    refine x_iret dX7_settle_22 rfl ?_
    rw [← hQ]
    first
    | (have x : s_settle m f q M = (-1, M) := by
         unfold s_settle
         exact if_pos (by omega)
       rw [x]
       exact ⟨_, rfl, rfl, co0, cc0⟩)
  · refine x_iload_n dX7_settle_7 2 rfl rfl ?_
    refine x_callSi (as := [_]) dX7_settle_8 lvX7_307 rfl rfl rfl rfl ⟨rfl, rfl⟩ (s_X7_isPrice (by omega)) (fun z8 I8 L8 R8 hq8 => ?_)
    obtain ⟨rfl, rfl, rfl, rfl⟩ := hq8
    refine y_ifb_eq (tgt := 21) dX7_settle_11 (by decide) (fun h11 => ?_) (fun h11 => ?_)
    · refine x_iconst dX7_settle_21 ?_
      refine x_iret dX7_settle_22 rfl ?_
      rw [← hQ]
      first
      | (have x : s_settle m f q M = (-1, M) := by
           unfold s_settle
           exact if_pos (by omega)
         rw [x]
         exact ⟨_, rfl, rfl, co0, cc0⟩)
    · refine x_iload_n dX7_settle_14 3 rfl rfl ?_
      refine x_callSi (as := [_]) dX7_settle_15 lvX7_307 rfl rfl rfl rfl ⟨rfl, rfl⟩ (s_X7_isPrice (by omega)) (fun z15 I15 L15 R15 hq15 => ?_)
      obtain ⟨rfl, rfl, rfl, rfl⟩ := hq15
      refine y_ifb_ne (tgt := 23) dX7_settle_18 (by decide) (fun h18 => ?_) (fun h18 => ?_)
      · refine x_bipush dX7_settle_23 (by decide) ?_
        refine x_istore (lv' := [(0, _), (1, _), (2, _), (3, _), (4, _)]) dX7_settle_25 rfl rfl ?_
        refine x_iconst dX7_settle_27 ?_
        refine x_istore (lv' := [(0, _), (1, _), (2, _), (3, _), (4, _), (5, _)]) dX7_settle_28 rfl rfl ?_
        refine x_iconst dX7_settle_30 ?_
        refine x_istore (lv' := [(0, _), (1, _), (2, _), (3, _), (4, _), (5, _), (6, _)]) dX7_settle_31 rfl rfl ?_
        exact lp (by omega) (by omega) (by omega) 0 (by omega) _ _ _ co0 cc0
      · refine x_iconst dX7_settle_21 ?_
        refine x_iret dX7_settle_22 rfl ?_
        rw [← hQ]
        first
        | (have x : s_settle m f q M = (-1, M) := by
             unfold s_settle
             exact if_pos (by omega)
           rw [x]
           exact ⟨_, rfl, rfl, co0, cc0⟩)
end

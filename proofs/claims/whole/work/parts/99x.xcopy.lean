/-! THE CLASS'S FACE: copy. -/
theorem cpy_ok {I L M N : MI} {R : MR} {h h' : Nat} (co : CO I L R M N h h') (cc : CC I L R M h) {r t : Nat} (hr : r < 6) (ht : t < 6) {i j n : Int} (hi : 0 ≤ i ∧ i + n ≤ M 2 (r : Int)) (hj : 0 ≤ j ∧ j + n ≤ M 2 (t : Int)) (hn : 0 ≤ n) : CO (m_cpy I (1 + 2 + r) (1 + 2 + t) i j n) L R (fun c k => if c = 3 ∧ 40 * (t : Int) + j ≤ k ∧ k < 40 * (t : Int) + j + n then M 3 (40 * (r : Int) + i + (k - (40 * (t : Int) + j))) else M c k) N h h' ∧ CC (m_cpy I (1 + 2 + r) (1 + 2 + t) i j n) L R (fun c k => if c = 3 ∧ 40 * (t : Int) + j ≤ k ∧ k < 40 * (t : Int) + j + n then M 3 (40 * (r : Int) + i + (k - (40 * (t : Int) + j))) else M c k) h := by
  have iR := co.2.2.2.2.1.2.2.2.1
  have q10 := co.2.2.2.2.2.2.2.1
  have hMr : -1 ≤ M 2 (r : Int) ∧ M 2 (r : Int) ≤ 40 := iR.1 _ (by omega) (by omega)
  have hMt : -1 ≤ M 2 (t : Int) ∧ M 2 (t : Int) ≤ 40 := iR.1 _ (by omega) (by omega)
  refine rw_ok co cc (fun c x q => ?_) (fun c x q1 q2 => ?_) ⟨fun g h1 h2 => ?_, fun k h1 h2 => ?_⟩ (fun g hg => ⟨?_, fun x h1 h2 => ?_, fun x h1 h2 => ?_⟩)
  · unfold m_cpy
    rw [if_neg (by omega)]
  · show (if c = 3 ∧ _ then _ else M c x) = M c x
    rw [if_neg (fun z => q2 z.1)]
  · show -1 ≤ (if (2 : Nat) = 3 ∧ _ then _ else M 2 g) ∧ (if (2 : Nat) = 3 ∧ _ then _ else M 2 g) ≤ 40
    rw [if_neg (fun z => absurd z.1 (by decide))]
    exact iR.1 g h1 h2
  · show rI (if (3 : Nat) = 3 ∧ _ then M 3 _ else M 3 k)
    split
    · exact iR.2 _ (by omega) (by omega)
    · exact iR.2 k h1 h2
  · show m_cpy I (1 + 2 + r) (1 + 2 + t) i j n 9 (g : Int) = (if (2 : Nat) = 3 ∧ _ then _ else M 2 (g : Int))
    rw [if_neg (fun z => absurd z.1 (by decide))]
    unfold m_cpy
    rw [if_neg (by omega)]
    exact (q10 g hg).1
  · unfold m_cpy
    split
    · have := (q10 r hr).2.1 (i + (x - j)) (by omega) (by omega)
      rw [show 1 + 2 + r = 3 + r by omega]
      exact this
    · exact (q10 g hg).2.1 x h1 h2
  · have h2' : x < M 2 (g : Int) := by
      have : x < (if (2 : Nat) = 3 ∧ 40 * (t : Int) + j ≤ (g : Int) ∧ (g : Int) < 40 * (t : Int) + j + n then M 3 (40 * (r : Int) + i + ((g : Int) - (40 * (t : Int) + j))) else M 2 (g : Int)) := h2
      rw [if_neg (fun z => absurd z.1 (by decide))] at this
      exact this
    have hMg : -1 ≤ M 2 (g : Int) ∧ M 2 (g : Int) ≤ 40 := iR.1 _ (by omega) (by omega)
    show m_cpy I (1 + 2 + r) (1 + 2 + t) i j n (3 + g) x = (if (3 : Nat) = 3 ∧ 40 * (t : Int) + j ≤ 40 * (g : Int) + x ∧ 40 * (g : Int) + x < 40 * (t : Int) + j + n then M 3 (40 * (r : Int) + i + (40 * (g : Int) + x - (40 * (t : Int) + j))) else M 3 (40 * (g : Int) + x))
    unfold m_cpy
    by_cases e : g = t ∧ j ≤ x ∧ x < j + n
    · rw [if_pos (by omega), if_pos ⟨rfl, by omega, by omega⟩]
      have y := (q10 r hr).2.2 (i + (x - j)) (by omega) (by omega)
      rw [show 1 + 2 + r = 3 + r by omega, y]
      congr 1
      obtain ⟨rfl, -⟩ := e
      omega
    · rw [if_neg (by omega), if_neg (fun z => e (by omega))]
      exact (q10 g hg).2.2 x h1 h2'
section
variable {G : GT} {I L M N : MI} {R : MR} {h h' : Nat}

theorem s_X7_copy {r i o j n : Int} (co0 : CO I L R M N h h') (cc0 : CC I L R M h) (hr : rI r) (hi : rI i) (ho : rI o) (hj : rI j) (hn : rI n) : Sp G mtX7_copy [mr 0, mi r, mi i, mi o, mi j, mi n] shX I L R (qi (fun z I' L' R' => z = (s_copy r i o j n M).1 ∧ CO I' L' R' (s_copy r i o j n M).2 N h h' ∧ CC I' L' R' (s_copy r i o j n M).2 h)) := by
  refine Sp.of pnX7_copy rfl ?_
  show Rn G mtX7_copy _ 0 [(0, mr 0), (1, mi r), (2, mi i), (3, mi o), (4, mi j), (5, mi n)] [] shX I L R
  generalize hQ : (qi (fun z I' L' R' => z = (s_copy r i o j n M).1 ∧ CO I' L' R' (s_copy r i o j n M).2 N h h' ∧ CC I' L' R' (s_copy r i o j n M).2 h)) = Q
  have hR := co0.1
  have r8 := co0.2.1.1
  have r9 := co0.2.1.2.1
  have h32 := co0.h32
  have hh := hR.h h32
  obtain ⟨iH, iE, iL, iR, iT⟩ := co0.2.2.2.2.1
  have hrl := co0.2.2.2.2.2.1.1
  have q0 := hrl.1
  have q1 := hrl.2.1
  have q2 := hrl.2.2.1
  have q3 := hrl.2.2.2.1
  have b0 := iH.1
  have b1 := iH.2.1
  have b2 := iH.2.2.1
  have b3 := iH.2.2.2.1
  have szr : ∀ rn : Nat, rn < 6 → I 9 (rn : Int) = M 2 (rn : Int) ∧ -1 ≤ M 2 (rn : Int) ∧ M 2 (rn : Int) ≤ 40 := fun rn hrn => ⟨(co0.2.2.2.2.2.2.2.1 rn hrn).1, iR.1 _ (by omega) (by omega)⟩
  have szt : ∀ rn : Nat, rn < 4 → I 16 (rn : Int) = M 5 (rn : Int) ∧ -1 ≤ M 5 (rn : Int) ∧ M 5 (rn : Int) ≤ 80 := fun rn hrn => ⟨(co0.2.2.2.2.2.2.2.2.1 rn hrn).1, iT.1 _ (by omega) (by omega)⟩
  have at35 : ∀ rn tn : Nat, r = (rn : Int) → rn < 6 → o = (tn : Int) → tn < 6 → 0 ≤ n → Rn G mtX7_copy Q 35 [(0, mr 0), (1, mi r), (2, mi i), (3, mi o), (4, mi j), (5, mi n)] [] shX I L R := by
    intro rn tn e1 hrn e2 htn hn0
    subst e1 e2
    obtain ⟨sz, sz2⟩ := szr rn hrn
    obtain ⟨tz, tz2⟩ := szr tn htn
    refine x_aload_n dX7_copy_35 0 rfl rfl ?_
    refine x_getR dX7_copy_36 flX7_14 rfl rfl (hR 0 0 1 rfl) ?_
    refine x_iload_n dX7_copy_39 1 rfl rfl ?_
    refine x_callVi (as := [_]) dX7_copy_40 lvX7_87 rfl rfl rfl rfl rfl rfl rfl ⟨rfl, rfl⟩ (s_X5_lacks hR.s1 hrn (by omega)) (fun z40 I40 L40 R40 hq40 => ?_)
    obtain ⟨rfl, rfl, rfl, rfl⟩ := hq40
    refine y_ifb_ne (tgt := 57) dX7_copy_43 (by decide) (fun h43 => ?_) (fun h43 => ?_)
    · refine x_aload_n dX7_copy_57 0 rfl rfl ?_
      refine x_iconst dX7_copy_58 ?_
      refine x_callVi (as := [_]) dX7_copy_59 lvX7_79 rfl rfl rfl rfl rfl rfl rfl ⟨rfl, rfl⟩ (s_X7_found co0.1 (by omega)) (fun z59 I59 L59 R59 hq59 => ?_)
      obtain ⟨rfl, rfl, rfl, rfl⟩ := hq59
      refine x_iret dX7_copy_62 rfl ?_
      rw [← hQ]
      first
      | (have x : s_copy (rn : Int) i (tn : Int) j n M = (-3, a_mt M 1) := by
           unfold s_copy
           rw [if_neg (by omega), if_neg (by omega), if_pos (by omega)]
         rw [x]
         have z := mt_ok co0 cc0 (f := 1) (by omega)
         exact ⟨_, rfl, rfl, z.1, z.2⟩)
      | (have x : s_copy (rn : Int) i (tn : Int) j n M = (-3, a_mt M 2) := by
           unfold s_copy
           rw [if_neg (by omega), if_neg (by omega), if_neg (by omega), if_pos (by omega)]
         rw [x]
         have z := mt_ok co0 cc0 (f := 2) (by omega)
         exact ⟨_, rfl, rfl, z.1, z.2⟩)
    · refine x_aload_n dX7_copy_46 0 rfl rfl ?_
      refine x_getR dX7_copy_47 flX7_14 rfl rfl (hR 0 0 1 rfl) ?_
      refine x_iload_n dX7_copy_50 3 rfl rfl ?_
      refine x_callVi (as := [_]) dX7_copy_51 lvX7_87 rfl rfl rfl rfl rfl rfl rfl ⟨rfl, rfl⟩ (s_X5_lacks hR.s1 htn (by omega)) (fun z51 I51 L51 R51 hq51 => ?_)
      obtain ⟨rfl, rfl, rfl, rfl⟩ := hq51
      refine y_ifb_eq (tgt := 63) dX7_copy_54 (by decide) (fun h54 => ?_) (fun h54 => ?_)
      · refine x_aload_n dX7_copy_63 0 rfl rfl ?_
        refine x_getR dX7_copy_64 flX7_14 rfl rfl (hR 0 0 1 rfl) ?_
        refine x_iload_n dX7_copy_67 1 rfl rfl ?_
        refine x_iload_n dX7_copy_68 2 rfl rfl ?_
        refine x_iload dX7_copy_69 5 rfl ?_
        refine x_callVi (as := [_, _, _]) dX7_copy_71 lvX7_108 rfl rfl rfl rfl rfl rfl rfl ⟨rfl, rfl⟩ (s_X5_spans hR.s1 hrn (by omega) (by omega) (by omega)) (fun z71 I71 L71 R71 hq71 => ?_)
        obtain ⟨rfl, rfl, rfl, rfl⟩ := hq71
        refine y_ifb_eq (tgt := 92) dX7_copy_74 (by decide) (fun h74 => ?_) (fun h74 => ?_)
        · refine x_aload_n dX7_copy_92 0 rfl rfl ?_
          refine x_iconst dX7_copy_93 ?_
          refine x_callVi (as := [_]) dX7_copy_94 lvX7_79 rfl rfl rfl rfl rfl rfl rfl ⟨rfl, rfl⟩ (s_X7_found co0.1 (by omega)) (fun z94 I94 L94 R94 hq94 => ?_)
          obtain ⟨rfl, rfl, rfl, rfl⟩ := hq94
          refine x_iret dX7_copy_97 rfl ?_
          rw [← hQ]
          first
          | (have x : s_copy (rn : Int) i (tn : Int) j n M = (-3, a_mt M 1) := by
               unfold s_copy
               rw [if_neg (by omega), if_neg (by omega), if_pos (by omega)]
             rw [x]
             have z := mt_ok co0 cc0 (f := 1) (by omega)
             exact ⟨_, rfl, rfl, z.1, z.2⟩)
          | (have x : s_copy (rn : Int) i (tn : Int) j n M = (-3, a_mt M 2) := by
               unfold s_copy
               rw [if_neg (by omega), if_neg (by omega), if_neg (by omega), if_pos (by omega)]
             rw [x]
             have z := mt_ok co0 cc0 (f := 2) (by omega)
             exact ⟨_, rfl, rfl, z.1, z.2⟩)
        · refine x_aload_n dX7_copy_77 0 rfl rfl ?_
          refine x_getR dX7_copy_78 flX7_14 rfl rfl (hR 0 0 1 rfl) ?_
          refine x_iload_n dX7_copy_81 3 rfl rfl ?_
          refine x_iload dX7_copy_82 4 rfl ?_
          refine x_iload dX7_copy_84 5 rfl ?_
          refine x_callVi (as := [_, _, _]) dX7_copy_86 lvX7_108 rfl rfl rfl rfl rfl rfl rfl ⟨rfl, rfl⟩ (s_X5_spans hR.s1 htn (by omega) (by omega) (by omega)) (fun z86 I86 L86 R86 hq86 => ?_)
          obtain ⟨rfl, rfl, rfl, rfl⟩ := hq86
          refine y_ifb_ne (tgt := 98) dX7_copy_89 (by decide) (fun h89 => ?_) (fun h89 => ?_)
          · refine x_aload_n dX7_copy_98 0 rfl rfl ?_
            refine x_getR dX7_copy_99 flX7_14 rfl rfl (hR 0 0 1 rfl) ?_
            refine x_getR dX7_copy_102 flX7_101 rfl rfl (hR 1 0 2 rfl) ?_
            refine x_iload_n dX7_copy_105 1 rfl rfl ?_
            refine x_aald dX7_copy_106 rfl (by omega) (hR.s1.2.2.2 rn hrn) ?_
            refine x_iload_n dX7_copy_107 2 rfl rfl ?_
            refine x_aload_n dX7_copy_108 0 rfl rfl ?_
            refine x_getR dX7_copy_109 flX7_14 rfl rfl (hR 0 0 1 rfl) ?_
            refine x_getR dX7_copy_112 flX7_101 rfl rfl (hR 1 0 2 rfl) ?_
            refine x_iload_n dX7_copy_115 3 rfl rfl ?_
            refine x_aald dX7_copy_116 rfl (by omega) (hR.s1.2.2.2 tn htn) ?_
            refine x_iload dX7_copy_117 4 rfl ?_
            refine x_iload dX7_copy_119 5 rfl ?_
            refine x_acopy dX7_copy_121 lvX7_112 rfl (shSi hR.s1 hrn) (shSi hR.s1 htn) (by omega) (by omega) (by omega) (by omega) (by omega) ?_
            refine x_iconst dX7_copy_124 ?_
            refine x_iret dX7_copy_125 rfl ?_
            rw [← hQ]
            have z := cpy_ok co0 cc0 hrn htn (i := i) (j := j) (n := n) (by omega) (by omega) hn0
            have x : s_copy (rn : Int) i (tn : Int) j n M = (1, fun c k => if c = 3 ∧ 40 * (tn : Int) + j ≤ k ∧ k < 40 * (tn : Int) + j + n then M 3 (40 * (rn : Int) + i + (k - (40 * (tn : Int) + j))) else M c k) := by
              unfold s_copy
              rw [if_neg (by omega), if_neg (by omega), if_neg (by omega), if_neg (by omega)]
            rw [x]
            exact ⟨_, rfl, rfl, z.1, z.2⟩
          · refine x_aload_n dX7_copy_92 0 rfl rfl ?_
            refine x_iconst dX7_copy_93 ?_
            refine x_callVi (as := [_]) dX7_copy_94 lvX7_79 rfl rfl rfl rfl rfl rfl rfl ⟨rfl, rfl⟩ (s_X7_found co0.1 (by omega)) (fun z94 I94 L94 R94 hq94 => ?_)
            obtain ⟨rfl, rfl, rfl, rfl⟩ := hq94
            refine x_iret dX7_copy_97 rfl ?_
            rw [← hQ]
            first
            | (have x : s_copy (rn : Int) i (tn : Int) j n M = (-3, a_mt M 1) := by
                 unfold s_copy
                 rw [if_neg (by omega), if_neg (by omega), if_pos (by omega)]
               rw [x]
               have z := mt_ok co0 cc0 (f := 1) (by omega)
               exact ⟨_, rfl, rfl, z.1, z.2⟩)
            | (have x : s_copy (rn : Int) i (tn : Int) j n M = (-3, a_mt M 2) := by
                 unfold s_copy
                 rw [if_neg (by omega), if_neg (by omega), if_neg (by omega), if_pos (by omega)]
               rw [x]
               have z := mt_ok co0 cc0 (f := 2) (by omega)
               exact ⟨_, rfl, rfl, z.1, z.2⟩)
      · refine x_aload_n dX7_copy_57 0 rfl rfl ?_
        refine x_iconst dX7_copy_58 ?_
        refine x_callVi (as := [_]) dX7_copy_59 lvX7_79 rfl rfl rfl rfl rfl rfl rfl ⟨rfl, rfl⟩ (s_X7_found co0.1 (by omega)) (fun z59 I59 L59 R59 hq59 => ?_)
        obtain ⟨rfl, rfl, rfl, rfl⟩ := hq59
        refine x_iret dX7_copy_62 rfl ?_
        rw [← hQ]
        first
        | (have x : s_copy (rn : Int) i (tn : Int) j n M = (-3, a_mt M 1) := by
             unfold s_copy
             rw [if_neg (by omega), if_neg (by omega), if_pos (by omega)]
           rw [x]
           have z := mt_ok co0 cc0 (f := 1) (by omega)
           exact ⟨_, rfl, rfl, z.1, z.2⟩)
        | (have x : s_copy (rn : Int) i (tn : Int) j n M = (-3, a_mt M 2) := by
             unfold s_copy
             rw [if_neg (by omega), if_neg (by omega), if_neg (by omega), if_pos (by omega)]
           rw [x]
           have z := mt_ok co0 cc0 (f := 2) (by omega)
           exact ⟨_, rfl, rfl, z.1, z.2⟩)
  refine x_aload_n dX7_copy_0 0 rfl rfl ?_
  refine x_getR dX7_copy_1 flX7_14 rfl rfl (hR 0 0 1 rfl) ?_
  refine x_iload_n dX7_copy_4 1 rfl rfl ?_
  refine x_callVi (as := [_]) dX7_copy_5 lvX7_75 rfl rfl rfl rfl rfl rfl rfl ⟨rfl, rfl⟩ (s_X5_names hR.s1 (by omega)) (fun z5 I5 L5 R5 hq5 => ?_)
  obtain ⟨rfl, rfl, rfl, rfl⟩ := hq5
  refine y_ifb_eq (tgt := 22) dX7_copy_8 (by decide) (fun h8 => ?_) (fun h8 => ?_)
  · refine x_iconst dX7_copy_22 ?_
    refine x_iret dX7_copy_23 rfl ?_
    rw [← hQ]
    first
    | (have x : s_copy r i o j n M = (-1, M) := by
         unfold s_copy
         exact if_pos (by omega)
       rw [x]
       exact ⟨_, rfl, rfl, co0, cc0⟩)
    | (have x : s_copy r i o j n M = (-3, a_mt M 5) := by
         unfold s_copy
         rw [if_neg (by omega), if_pos (by omega)]
       rw [x]
       have z := mt_ok co0 cc0 (f := 5) (by omega)
       exact ⟨_, rfl, rfl, z.1, z.2⟩)
  · refine x_aload_n dX7_copy_11 0 rfl rfl ?_
    refine x_getR dX7_copy_12 flX7_14 rfl rfl (hR 0 0 1 rfl) ?_
    refine x_iload_n dX7_copy_15 3 rfl rfl ?_
    refine x_callVi (as := [_]) dX7_copy_16 lvX7_75 rfl rfl rfl rfl rfl rfl rfl ⟨rfl, rfl⟩ (s_X5_names hR.s1 (by omega)) (fun z16 I16 L16 R16 hq16 => ?_)
    obtain ⟨rfl, rfl, rfl, rfl⟩ := hq16
    refine y_ifb_ne (tgt := 24) dX7_copy_19 (by decide) (fun h19 => ?_) (fun h19 => ?_)
    · refine x_iload dX7_copy_24 5 rfl ?_
      refine x_if_ge (tgt := 35) dX7_copy_26 (by decide) (by omega) (fun h26 => ?_) (fun h26 => ?_)
      · exact at35 r.toNat o.toNat (by omega) (by omega) (by omega) (by omega) (by omega)
      · refine x_aload_n dX7_copy_29 0 rfl rfl ?_
        refine x_iconst dX7_copy_30 ?_
        refine x_callVi (as := [_]) dX7_copy_31 lvX7_79 rfl rfl rfl rfl rfl rfl rfl ⟨rfl, rfl⟩ (s_X7_found co0.1 (by omega)) (fun z31 I31 L31 R31 hq31 => ?_)
        obtain ⟨rfl, rfl, rfl, rfl⟩ := hq31
        refine x_iret dX7_copy_34 rfl ?_
        rw [← hQ]
        first
        | (have x : s_copy r i o j n M = (-1, M) := by
             unfold s_copy
             exact if_pos (by omega)
           rw [x]
           exact ⟨_, rfl, rfl, co0, cc0⟩)
        | (have x : s_copy r i o j n M = (-3, a_mt M 5) := by
             unfold s_copy
             rw [if_neg (by omega), if_pos (by omega)]
           rw [x]
           have z := mt_ok co0 cc0 (f := 5) (by omega)
           exact ⟨_, rfl, rfl, z.1, z.2⟩)
    · refine x_iconst dX7_copy_22 ?_
      refine x_iret dX7_copy_23 rfl ?_
      rw [← hQ]
      first
      | (have x : s_copy r i o j n M = (-1, M) := by
           unfold s_copy
           exact if_pos (by omega)
         rw [x]
         exact ⟨_, rfl, rfl, co0, cc0⟩)
      | (have x : s_copy r i o j n M = (-3, a_mt M 5) := by
           unfold s_copy
           rw [if_neg (by omega), if_pos (by omega)]
         rw [x]
         have z := mt_ok co0 cc0 (f := 5) (by omega)
         exact ⟨_, rfl, rfl, z.1, z.2⟩)
end

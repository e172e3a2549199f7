section
variable {G : GT} {I L M N : MI} {R : MR} {h h' : Nat}

theorem s_X7_fault {r nb : Int} (co0 : CO I L R M N h h') (cc0 : CC I L R M h) (hr : rI r) (hnb : rI nb) : Sp G mtX7_fault [mr 0, mi r, mi nb] shX I L R (qi (fun z I' L' R' => z = (s_fault r nb M).1 ∧ CO I' L' R' (s_fault r nb M).2 N h h' ∧ CC I' L' R' (s_fault r nb M).2 h)) := by
  refine Sp.of pnX7_fault rfl ?_
  show Rn G mtX7_fault _ 0 [(0, mr 0), (1, mi r), (2, mi nb)] [] shX I L R
  generalize hQ : (qi (fun z I' L' R' => z = (s_fault r nb M).1 ∧ CO I' L' R' (s_fault r nb M).2 N h h' ∧ CC I' L' R' (s_fault r nb M).2 h)) = Q
  have hR := co0.1
  have r8 := co0.2.1.1
  have r9 := co0.2.1.2.1
  have h32 := co0.h32
  have hh := hR.h h32
  obtain ⟨iH, iE, iL, iR, iT⟩ := co0.2.2.2.2.1
  have hrl := co0.2.2.2.2.2.1.1
  have q0 := hrl.1
  have q1 := hrl.2.1
  have q2 := hrl.2.2.1
  have q3 := hrl.2.2.2.1
  have b0 := iH.1
  have b1 := iH.2.1
  have b2 := iH.2.2.1
  have b3 := iH.2.2.2.1
  have szr : ∀ rn : Nat, rn < 6 → I 9 (rn : Int) = M 2 (rn : Int) ∧ -1 ≤ M 2 (rn : Int) ∧ M 2 (rn : Int) ≤ 40 := fun rn hrn => ⟨(co0.2.2.2.2.2.2.2.1 rn hrn).1, iR.1 _ (by omega) (by omega)⟩
  have szt : ∀ rn : Nat, rn < 4 → I 16 (rn : Int) = M 5 (rn : Int) ∧ -1 ≤ M 5 (rn : Int) ∧ M 5 (rn : Int) ≤ 80 := fun rn hrn => ⟨(co0.2.2.2.2.2.2.2.2.1 rn hrn).1, iT.1 _ (by omega) (by omega)⟩
  have at13 : ∀ rn : Nat, r = (rn : Int) → rn < 4 → Rn G mtX7_fault Q 13 [(0, mr 0), (1, mi r), (2, mi nb)] [] shX I L R := by
    intro rn e hrn
    subst e
    obtain ⟨sz, sz2⟩ := szt rn hrn
    refine x_aload_n dX7_fault_13 0 rfl rfl ?_
    refine x_getR dX7_fault_14 flX7_18 rfl rfl (hR 0 1 10 rfl) ?_
    refine x_iload_n dX7_fault_17 1 rfl rfl ?_
    refine x_callVi (as := [_]) dX7_fault_18 lvX7_87 rfl rfl rfl rfl rfl rfl rfl ⟨rfl, rfl⟩ (s_X5_lacks hR.s10 hrn (by omega)) (fun z18 I18 L18 R18 hq18 => ?_)
    obtain ⟨rfl, rfl, rfl, rfl⟩ := hq18
    refine y_ifb_eq (tgt := 30) dX7_fault_21 (by decide) (fun h21 => ?_) (fun h21 => ?_)
    · refine x_iload_n dX7_fault_30 2 rfl rfl ?_
      refine x_if_eq (tgt := 42) dX7_fault_31 (by decide) (by omega) (fun h31 => ?_) (fun h31 => ?_)
      · refine x_aload_n dX7_fault_42 0 rfl rfl ?_
        refine x_iload_n dX7_fault_43 1 rfl rfl ?_
        refine x_callVi (as := [_]) dX7_fault_44 lvX7_121 rfl rfl rfl rfl rfl rfl rfl ⟨rfl, rfl⟩ (s_X7_faultOfHouse co0 cc0 hrn (by omega)) (fun z44 I44 L44 R44 hq44 => ?_)
        obtain ⟨z44e, co1, cc1, -⟩ := hq44
        refine x_iret dX7_fault_47 rfl ?_
        rw [← hQ]
        first
        | (have x : s_fault (rn : Int) nb M = (-3, a_mt M 1) := by
             unfold s_fault
             rw [if_neg (by omega), if_pos (by omega)]
           rw [x]
           have z := mt_ok co0 cc0 (f := 1) (by omega)
           exact ⟨_, rfl, rfl, z.1, z.2⟩)
        | (have hnz : nb ≠ 0 := by assumption
           have x : s_fault (rn : Int) nb M = ((nigF (BY M (rn : Int)) M (M 5 (rn : Int)).toNat).1, M) := by
             unfold s_fault
             rw [if_neg (by omega), if_neg (by omega), if_pos hnz]
           rw [x]
           exact ⟨_, rfl, z36e, co1, cc1⟩)
        | (have hnz : nb = 0 := by assumption
           have x : s_fault (rn : Int) nb M = ((houF (BY M (rn : Int)) (M 5 (rn : Int)).toNat).1, M) := by
             unfold s_fault
             rw [if_neg (by omega), if_neg (by omega), if_neg (fun z => z hnz)]
           rw [x]
           exact ⟨_, rfl, z44e, co1, cc1⟩)
      · refine x_aload_n dX7_fault_34 0 rfl rfl ?_
        refine x_iload_n dX7_fault_35 1 rfl rfl ?_
        refine x_callVi (as := [_]) dX7_fault_36 lvX7_118 rfl rfl rfl rfl rfl rfl rfl ⟨rfl, rfl⟩ (s_X7_faultOfNight co0 cc0 hrn (by omega)) (fun z36 I36 L36 R36 hq36 => ?_)
        obtain ⟨z36e, co1, cc1, -⟩ := hq36
        refine x_goto (tgt := 47) dX7_fault_39 (by decide) ?_
        refine x_iret dX7_fault_47 rfl ?_
        rw [← hQ]
        first
        | (have x : s_fault (rn : Int) nb M = (-3, a_mt M 1) := by
             unfold s_fault
             rw [if_neg (by omega), if_pos (by omega)]
           rw [x]
           have z := mt_ok co0 cc0 (f := 1) (by omega)
           exact ⟨_, rfl, rfl, z.1, z.2⟩)
        | (have hnz : nb ≠ 0 := by assumption
           have x : s_fault (rn : Int) nb M = ((nigF (BY M (rn : Int)) M (M 5 (rn : Int)).toNat).1, M) := by
             unfold s_fault
             rw [if_neg (by omega), if_neg (by omega), if_pos hnz]
           rw [x]
           exact ⟨_, rfl, z36e, co1, cc1⟩)
        | (have hnz : nb = 0 := by assumption
           have x : s_fault (rn : Int) nb M = ((houF (BY M (rn : Int)) (M 5 (rn : Int)).toNat).1, M) := by
             unfold s_fault
             rw [if_neg (by omega), if_neg (by omega), if_neg (fun z => z hnz)]
           rw [x]
           exact ⟨_, rfl, z44e, co1, cc1⟩)
    · refine x_aload_n dX7_fault_24 0 rfl rfl ?_
      refine x_iconst dX7_fault_25 ?_
      refine x_callVi (as := [_]) dX7_fault_26 lvX7_79 rfl rfl rfl rfl rfl rfl rfl ⟨rfl, rfl⟩ (s_X7_found co0.1 (by omega)) (fun z26 I26 L26 R26 hq26 => ?_)
      obtain ⟨rfl, rfl, rfl, rfl⟩ := hq26
      refine x_iret dX7_fault_29 rfl ?_
      rw [← hQ]
      first
      | (have x : s_fault (rn : Int) nb M = (-3, a_mt M 1) := by
           unfold s_fault
           rw [if_neg (by omega), if_pos (by omega)]
         rw [x]
         have z := mt_ok co0 cc0 (f := 1) (by omega)
         exact ⟨_, rfl, rfl, z.1, z.2⟩)
      | (have hnz : nb ≠ 0 := by assumption
         have x : s_fault (rn : Int) nb M = ((nigF (BY M (rn : Int)) M (M 5 (rn : Int)).toNat).1, M) := by
           unfold s_fault
           rw [if_neg (by omega), if_neg (by omega), if_pos hnz]
         rw [x]
         exact ⟨_, rfl, z36e, co1, cc1⟩)
      | (have hnz : nb = 0 := by assumption
         have x : s_fault (rn : Int) nb M = ((houF (BY M (rn : Int)) (M 5 (rn : Int)).toNat).1, M) := by
           unfold s_fault
           rw [if_neg (by omega), if_neg (by omega), if_neg (fun z => z hnz)]
         rw [x]
         exact ⟨_, rfl, z44e, co1, cc1⟩)
  refine x_aload_n dX7_fault_0 0 rfl rfl ?_
  refine x_getR dX7_fault_1 flX7_18 rfl rfl (hR 0 1 10 rfl) ?_
  refine x_iload_n dX7_fault_4 1 rfl rfl ?_
  refine x_callVi (as := [_]) dX7_fault_5 lvX7_75 rfl rfl rfl rfl rfl rfl rfl ⟨rfl, rfl⟩ (s_X5_names hR.s10 (by omega)) (fun z5 I5 L5 R5 hq5 => ?_)
  obtain ⟨rfl, rfl, rfl, rfl⟩ := hq5
  refine y_ifb_ne (tgt := 13) dX7_fault_8 (by decide) (fun h8 => ?_) (fun h8 => ?_)
  · exact at13 r.toNat (by omega) (by omega)
  · refine x_iconst dX7_fault_11 ?_
    refine x_iret dX7_fault_12 rfl ?_
    rw [← hQ]
    first
    | (have x : s_fault r nb M = (-1, M) := by
         unfold s_fault
         exact if_pos (by omega)
       rw [x]
       exact ⟨_, rfl, rfl, co0, cc0⟩)
end

section
variable {I L M N I' M' : MI} {R : MR} {h h' : Nat}
theorem tx_ok (co : CO I L R M N h h') (cc : CC I L R M h) (ei : ∀ c i, ¬ (12 ≤ c ∧ c ≤ 16) → I' c i = I c i) (em : ∀ c j, c ≠ 5 → c ≠ 6 → M' c j = M c j) (ir : iTexts M') (rel : ∀ t : Nat, t < 4 → I' 16 (t : Int) = M' 5 (t : Int) ∧ (∀ i : Int, 0 ≤ i → i < 80 → -128 ≤ I' (12 + t) i ∧ I' (12 + t) i ≤ 127) ∧ ∀ i : Int, 0 ≤ i → i < M' 5 (t : Int) → I' (12 + t) i = M' 6 (80 * (t : Int) + i)) : CO I' L R M' N h h' ∧ CC I' L R M' h := by
  have h32 := co.h32
  have hn : HN M M' := ⟨fun c j q => em c j (by omega) (by omega), fun j q => em 0 j (by decide) (by decide)⟩
  refine ⟨?_, (cc.fr (fun c i q => ei c i (by omega)) (fun i q => ei 0 i (by decide)) rfl (fun _ => rfl)).hn hn⟩
  obtain ⟨q1, q2, q5, q6, ⟨j1, j2, j3, j4, j5⟩, q8, q9, q10, q11, ⟨q12, q13, q14⟩, q15⟩ := co
  have k8 : HRL I' M h := by
    unfold HRL
    simp only [ei h _ (by omega), ei (h + 1) _ (by omega), ei (h + 2) _ (by omega), ei (h + 3) _ (by omega), ei (h + 4) _ (by omega)]
    exact q8
  have k9 : NRL I' M 58 := by
    unfold NRL
    simp only [ei 58 _ (by decide), ei (58 + 1) _ (by decide), ei (58 + 2) _ (by decide), ei (58 + 3) _ (by decide), ei (58 + 4) _ (by decide)]
    exact q9
  refine ⟨q1, q2, q5, ?_, ⟨hn.h j1, hn.e j2, hn.l j3, ?_, ir⟩, hn.hr k8, hn.nr k9, fun r hr => ?_, rel, ⟨?_, ?_, fun g hg => ?_⟩, q15⟩
  · rw [ei 19 12 (by decide), ei 19 15 (by decide)]; exact q6
  · unfold iRows; simp only [em 2 _ (by decide) (by decide), em 3 _ (by decide) (by decide)]; exact j4
  · simp only [em 2 _ (by decide) (by decide), em 3 _ (by decide) (by decide), ei 9 _ (by decide), ei (3 + r) _ (by omega)]
    exact q10 r hr
  · rw [ei 0 13 (by decide), em 0 2 (by decide) (by decide)]; exact q12
  · rw [ei 0 14 (by decide), em 0 0 (by decide) (by decide)]; exact q13
  · rw [ei 68 _ (by decide), em 1 _ (by decide) (by decide)]; exact q14 g hg
/-- a text made -/
theorem mkt_ok (co : CO I L R M N h h') (cc : CC I L R M h) {r : Nat} (hr : r < 4) {n : Int} (hn : 0 ≤ n ∧ n ≤ 80) : CO (m_fil (m_up I 16 (r : Int) n) (10 + 2 + r) 0 n 32) L R (m_fil (m_up M 5 (r : Int) n) 6 (80 * (r : Int)) (80 * (r : Int) + 80) 32) N h h' ∧ CC (m_fil (m_up I 16 (r : Int) n) (10 + 2 + r) 0 n 32) L R (m_fil (m_up M 5 (r : Int) n) 6 (80 * (r : Int)) (80 * (r : Int) + 80) 32) h := by
  have iT := co.2.2.2.2.1.2.2.2.2
  have q10 := co.2.2.2.2.2.2.2.2.1
  refine tx_ok co cc (fun c i q => ?_) (fun c j q1 q2 => ?_) ⟨fun g h1 h2 => ?_, fun k h1 h2 => ?_⟩ (fun g hg => ⟨?_, fun i h1 h2 => ?_, fun i h1 h2 => ?_⟩)
  · rw [m_fil_ne (by omega), m_up_ne (by omega)]
  · rw [m_fil_ne (by omega), m_up_ne (by omega)]
  · rw [m_fil_ne (by decide)]
    by_cases e : g = (r : Int)
    · rw [e, m_up_eq]; omega
    · rw [m_up_nj e]; exact iT.1 g h1 h2
  · unfold m_fil
    split
    · omega
    · rw [m_up_ne (by decide)]; exact iT.2 k h1 h2
  · rw [m_fil_ne (by omega), m_fil_ne (by decide)]
    by_cases e : g = r
    · rw [e, m_up_eq, m_up_eq]
    · rw [m_up_nj (by omega), m_up_nj (by omega)]; exact (q10 g hg).1
  · unfold m_fil
    split
    · omega
    · rw [m_up_ne (by omega)]; exact (q10 g hg).2.1 i h1 h2
  · have hM : -1 ≤ M 5 (g : Int) ∧ M 5 (g : Int) ≤ 80 := iT.1 _ (by omega) (by omega)
    rw [m_fil_ne (by decide)] at h2
    unfold m_fil
    by_cases e : g = r
    · subst e
      rw [m_up_eq] at h2
      rw [if_pos (by omega), if_pos (by omega)]
    · rw [m_up_nj (by omega)] at h2
      rw [if_neg (by omega), if_neg (by omega), m_up_ne (by omega), m_up_ne (by decide)]
      exact (q10 g hg).2.2 i h1 h2
theorem put_ok (co : CO I L R M N h h') (cc : CC I L R M h) {r : Nat} (hr : r < 4) {i v : Int} (hi : 0 ≤ i ∧ i < 80) (hv : -128 ≤ v ∧ v ≤ 127) : CO (m_up I (10 + 2 + r) i v) L R (m_up M 6 (80 * (r : Int) + i) v) N h h' ∧ CC (m_up I (10 + 2 + r) i v) L R (m_up M 6 (80 * (r : Int) + i) v) h := by
  have iR := co.2.2.2.2.1.2.2.2.2
  have q10 := co.2.2.2.2.2.2.2.2.1
  refine tx_ok co cc (fun c i q => ?_) (fun c j q1 q2 => ?_) ⟨fun g h1 h2 => ?_, fun k h1 h2 => ?_⟩ (fun g hg => ⟨?_, fun j h1 h2 => ?_, fun j h1 h2 => ?_⟩)
  · rw [m_up_ne (by omega)]
  · rw [m_up_ne (by omega)]
  · rw [m_up_ne (by decide)]; exact iR.1 g h1 h2
  · unfold m_up
    split
    · exact hv
    · exact iR.2 k h1 h2
  · rw [m_up_ne (by omega), m_up_ne (by decide)]; exact (q10 g hg).1
  · unfold m_up
    split
    · exact hv
    · exact (q10 g hg).2.1 j h1 h2
  · have hM : -1 ≤ M 5 (g : Int) ∧ M 5 (g : Int) ≤ 80 := iR.1 _ (by omega) (by omega)
    rw [m_up_ne (by decide)] at h2
    unfold m_up
    by_cases e : g = r ∧ j = i
    · rw [if_pos (by omega), if_pos (by omega)]
    · rw [if_neg (by omega), if_neg (by omega)]
      exact (q10 g hg).2.2 j h1 h2
end
section
variable {G : GT} {I L M N : MI} {R : MR} {h h' : Nat}
theorem s_X7_text {r n : Int} (co0 : CO I L R M N h h') (cc0 : CC I L R M h) (hr : rI r) (hn : rI n) : Sp G mtX7_text [mr 0, mi r, mi n] shX I L R (qi (fun z I' L' R' => z = (s_text r n M).1 ∧ CO I' L' R' (s_text r n M).2 N h h' ∧ CC I' L' R' (s_text r n M).2 h)) := by
  refine Sp.of pnX7_text rfl ?_
  show Rn G mtX7_text _ 0 [(0, mr 0), (1, mi r), (2, mi n)] [] shX I L R
  generalize hQ : (qi (fun z I' L' R' => z = (s_text r n M).1 ∧ CO I' L' R' (s_text r n M).2 N h h' ∧ CC I' L' R' (s_text r n M).2 h)) = Q
  have hR := co0.1
  have r8 := co0.2.1.1
  have r9 := co0.2.1.2.1
  have h32 := co0.h32
  have hh := hR.h h32
  obtain ⟨iH, iE, iL, iR, iT⟩ := co0.2.2.2.2.1
  have hrl := co0.2.2.2.2.2.1.1
  have q0 := hrl.1
  have q1 := hrl.2.1
  have q2 := hrl.2.2.1
  have q3 := hrl.2.2.2.1
  have b0 := iH.1
  have b1 := iH.2.1
  have b2 := iH.2.2.1
  have b3 := iH.2.2.2.1
  have szr : ∀ rn : Nat, rn < 6 → I 9 (rn : Int) = M 2 (rn : Int) ∧ -1 ≤ M 2 (rn : Int) ∧ M 2 (rn : Int) ≤ 40 := fun rn hrn => ⟨(co0.2.2.2.2.2.2.2.1 rn hrn).1, iR.1 _ (by omega) (by omega)⟩
  have szt : ∀ rn : Nat, rn < 4 → I 16 (rn : Int) = M 5 (rn : Int) ∧ -1 ≤ M 5 (rn : Int) ∧ M 5 (rn : Int) ≤ 80 := fun rn hrn => ⟨(co0.2.2.2.2.2.2.2.2.1 rn hrn).1, iT.1 _ (by omega) (by omega)⟩
  have at29 : ∀ rn : Nat, r = (rn : Int) → rn < 4 → (0 ≤ n ∧ n ≤ 80) → Rn G mtX7_text Q 29 [(0, mr 0), (1, mi r), (2, mi n)] [] shX I L R := by
    intro rn e hrn hn4
    subst e
    have mk := mkt_ok co0 cc0 hrn hn4
    have x : s_text (rn : Int) n M = (n, m_fil (m_up M 5 (rn : Int) n) 6 (80 * (rn : Int)) (80 * (rn : Int) + 80) 32) := by
      unfold s_text
      rw [if_neg (by omega), if_neg (by omega)]
    refine x_aload_n dX7_text_29 0 rfl rfl ?_
    refine x_getR dX7_text_30 flX7_18 rfl rfl (hR 0 1 10 rfl) ?_
    refine x_iload_n dX7_text_33 1 rfl rfl ?_
    refine x_iload_n dX7_text_34 2 rfl rfl ?_
    refine x_bipush dX7_text_35 (by decide) ?_
    refine x_callVv (as := [_, _, _]) dX7_text_37 lvX7_83 rfl rfl rfl rfl rfl rfl rfl ⟨rfl, rfl⟩ (s_X5_make hR.s10 hrn (by omega)) (fun I37 L37 R37 hq37 => ?_)
    obtain ⟨rfl, rfl, rfl⟩ := hq37
    refine x_iload_n dX7_text_40 2 rfl rfl ?_
    refine x_iret dX7_text_41 rfl ?_
    rw [← hQ, x]
    exact ⟨_, rfl, rfl, mk.1, mk.2⟩
  refine x_aload_n dX7_text_0 0 rfl rfl ?_
  refine x_getR dX7_text_1 flX7_18 rfl rfl (hR 0 1 10 rfl) ?_
  refine x_iload_n dX7_text_4 1 rfl rfl ?_
  refine x_callVi (as := [_]) dX7_text_5 lvX7_75 rfl rfl rfl rfl rfl rfl rfl ⟨rfl, rfl⟩ (s_X5_names hR.s10 (by omega)) (fun z5 I5 L5 R5 hq5 => ?_)
  obtain ⟨rfl, rfl, rfl, rfl⟩ := hq5
  refine y_ifb_eq (tgt := 17) dX7_text_8 (by decide) (fun h8 => ?_) (fun h8 => ?_)
  · refine x_iconst dX7_text_17 ?_
    refine x_iret dX7_text_18 rfl ?_
    rw [← hQ]
    first
    | (have x : s_text r n M = (-1, M) := by
         unfold s_text
         exact if_pos (by omega)
       rw [x]
       exact ⟨_, rfl, rfl, co0, cc0⟩)
    | (have x : s_text r n M = (-3, a_mt M 5) := by
         unfold s_text
         rw [if_neg (by omega), if_pos (by omega)]
       rw [x]
       have z := mt_ok co0 cc0 (f := 5) (by omega)
       exact ⟨_, rfl, rfl, z.1, z.2⟩)
  · refine x_iload_n dX7_text_11 2 rfl rfl ?_
    refine x_bipush dX7_text_12 (by decide) ?_
    refine x_ic_le (tgt := 19) dX7_text_14 (by decide) (by omega) (fun h14 => ?_) (fun h14 => ?_)
    · refine x_iload_n dX7_text_19 2 rfl rfl ?_
      refine x_if_ge (tgt := 29) dX7_text_20 (by decide) (by omega) (fun h20 => ?_) (fun h20 => ?_)
      · exact at29 r.toNat (by omega) (by omega) (by omega)
      · refine x_aload_n dX7_text_23 0 rfl rfl ?_
        refine x_iconst dX7_text_24 ?_
        refine x_callVi (as := [_]) dX7_text_25 lvX7_79 rfl rfl rfl rfl rfl rfl rfl ⟨rfl, rfl⟩ (s_X7_found co0.1 (by omega)) (fun z25 I25 L25 R25 hq25 => ?_)
        obtain ⟨rfl, rfl, rfl, rfl⟩ := hq25
        refine x_iret dX7_text_28 rfl ?_
        rw [← hQ]
        first
        | (have x : s_text r n M = (-1, M) := by
             unfold s_text
             exact if_pos (by omega)
           rw [x]
           exact ⟨_, rfl, rfl, co0, cc0⟩)
        | (have x : s_text r n M = (-3, a_mt M 5) := by
             unfold s_text
             rw [if_neg (by omega), if_pos (by omega)]
           rw [x]
           have z := mt_ok co0 cc0 (f := 5) (by omega)
           exact ⟨_, rfl, rfl, z.1, z.2⟩)
    · refine x_iconst dX7_text_17 ?_
      refine x_iret dX7_text_18 rfl ?_
      rw [← hQ]
      first
      | (have x : s_text r n M = (-1, M) := by
           unfold s_text
           exact if_pos (by omega)
         rw [x]
         exact ⟨_, rfl, rfl, co0, cc0⟩)
      | (have x : s_text r n M = (-3, a_mt M 5) := by
           unfold s_text
           rw [if_neg (by omega), if_pos (by omega)]
         rw [x]
         have z := mt_ok co0 cc0 (f := 5) (by omega)
         exact ⟨_, rfl, rfl, z.1, z.2⟩)
theorem s_X7_put {r i v : Int} (co0 : CO I L R M N h h') (cc0 : CC I L R M h) (hr : rI r) (hi : rI i) (hv : rI v) : Sp G mtX7_put [mr 0, mi r, mi i, mi v] shX I L R (qi (fun z I' L' R' => z = (s_put r i v M).1 ∧ CO I' L' R' (s_put r i v M).2 N h h' ∧ CC I' L' R' (s_put r i v M).2 h)) := by
  refine Sp.of pnX7_put rfl ?_
  show Rn G mtX7_put _ 0 [(0, mr 0), (1, mi r), (2, mi i), (3, mi v)] [] shX I L R
  generalize hQ : (qi (fun z I' L' R' => z = (s_put r i v M).1 ∧ CO I' L' R' (s_put r i v M).2 N h h' ∧ CC I' L' R' (s_put r i v M).2 h)) = Q
  have hR := co0.1
  have r8 := co0.2.1.1
  have r9 := co0.2.1.2.1
  have h32 := co0.h32
  have hh := hR.h h32
  obtain ⟨iH, iE, iL, iR, iT⟩ := co0.2.2.2.2.1
  have hrl := co0.2.2.2.2.2.1.1
  have q0 := hrl.1
  have q1 := hrl.2.1
  have q2 := hrl.2.2.1
  have q3 := hrl.2.2.2.1
  have b0 := iH.1
  have b1 := iH.2.1
  have b2 := iH.2.2.1
  have b3 := iH.2.2.2.1
  have szr : ∀ rn : Nat, rn < 6 → I 9 (rn : Int) = M 2 (rn : Int) ∧ -1 ≤ M 2 (rn : Int) ∧ M 2 (rn : Int) ≤ 40 := fun rn hrn => ⟨(co0.2.2.2.2.2.2.2.1 rn hrn).1, iR.1 _ (by omega) (by omega)⟩
  have szt : ∀ rn : Nat, rn < 4 → I 16 (rn : Int) = M 5 (rn : Int) ∧ -1 ≤ M 5 (rn : Int) ∧ M 5 (rn : Int) ≤ 80 := fun rn hrn => ⟨(co0.2.2.2.2.2.2.2.2.1 rn hrn).1, iT.1 _ (by omega) (by omega)⟩
  have at13 : ∀ rn : Nat, r = (rn : Int) → rn < 4 → Rn G mtX7_put Q 13 [(0, mr 0), (1, mi r), (2, mi i), (3, mi v)] [] shX I L R := by
    intro rn e hrn
    subst e
    obtain ⟨sz, sz2⟩ := szt rn hrn
    have fin : 0 ≤ i ∧ i < I 16 (rn : Int) → I (10 + 2 + rn) i = M 6 (80 * (rn : Int) + i) := fun z => by
      have y := (co0.2.2.2.2.2.2.2.2.1 rn hrn).2.2 i (by omega) (by omega)
      rw [show 10 + 2 + rn = 12 + rn by omega]
      exact y
    have rg6 : 0 ≤ i ∧ i < I 16 (rn : Int) → -128 ≤ M 6 (80 * (rn : Int) + i) ∧ M 6 (80 * (rn : Int) + i) ≤ 127 := fun z => iT.2 _ (by omega) (by omega)
    refine x_aload_n dX7_put_13 0 rfl rfl ?_
    refine x_getR dX7_put_14 flX7_18 rfl rfl (hR 0 1 10 rfl) ?_
    refine x_iload_n dX7_put_17 1 rfl rfl ?_
    refine x_callVi (as := [_]) dX7_put_18 lvX7_87 rfl rfl rfl rfl rfl rfl rfl ⟨rfl, rfl⟩ (s_X5_lacks hR.s10 hrn (by omega)) (fun z18 I18 L18 R18 hq18 => ?_)
    obtain ⟨rfl, rfl, rfl, rfl⟩ := hq18
    refine y_ifb_eq (tgt := 30) dX7_put_21 (by decide) (fun h21 => ?_) (fun h21 => ?_)
    · refine x_aload_n dX7_put_30 0 rfl rfl ?_
      refine x_getR dX7_put_31 flX7_18 rfl rfl (hR 0 1 10 rfl) ?_
      refine x_iload_n dX7_put_34 1 rfl rfl ?_
      refine x_iload_n dX7_put_35 2 rfl rfl ?_
      refine x_callVi (as := [_, _]) dX7_put_36 lvX7_90 rfl rfl rfl rfl rfl rfl rfl ⟨rfl, rfl⟩ (s_X5_holds hR.s10 hrn (by omega) (by omega)) (fun z36 I36 L36 R36 hq36 => ?_)
      obtain ⟨rfl, rfl, rfl, rfl⟩ := hq36
      refine y_ifb_ne (tgt := 48) dX7_put_39 (by decide) (fun h39 => ?_) (fun h39 => ?_)
      · refine x_aload_n dX7_put_48 0 rfl rfl ?_
        refine x_getR dX7_put_49 flX7_18 rfl rfl (hR 0 1 10 rfl) ?_
        refine x_iload_n dX7_put_52 1 rfl rfl ?_
        refine x_iload_n dX7_put_53 2 rfl rfl ?_
        refine x_iload_n dX7_put_54 3 rfl rfl ?_
        refine x_i2b dX7_put_55 ?_
        refine x_callVi (as := [_, _, _]) dX7_put_56 lvX7_94 rfl rfl rfl rfl rfl rfl rfl ⟨rfl, rfl⟩ (s_X5_exchange hR.s10 hrn (by omega)) (fun z56 I56 L56 R56 hq56 => ?_)
        obtain ⟨rfl, rfl, rfl, rfl⟩ := hq56
        rw [fin (by omega)]
        have rg7 := rg6 (by omega)
        refine x_sipush dX7_put_59 (by decide) ?_
        refine x_iadd dX7_put_62 ?_
        refine x_iret dX7_put_63 rfl ?_
        rw [← hQ]
        first
        | (have x : s_put (rn : Int) i v M = (-3, a_mt M 1) := by
             unfold s_put
             rw [if_neg (by omega), if_pos (by omega)]
           rw [x]
           have z := mt_ok co0 cc0 (f := 1) (by omega)
           exact ⟨_, rfl, rfl, z.1, z.2⟩)
        | (have x : s_put (rn : Int) i v M = (-3, a_mt M 2) := by
             unfold s_put
             rw [if_neg (by omega), if_neg (by omega), if_pos (by omega)]
           rw [x]
           have z := mt_ok co0 cc0 (f := 2) (by omega)
           exact ⟨_, rfl, rfl, z.1, z.2⟩)
        | (have x : s_put (rn : Int) i v M = (1000 + M 6 (80 * (rn : Int) + i), m_up M 6 (80 * (rn : Int) + i) (z_b v)) := by
             unfold s_put
             rw [if_neg (by omega), if_neg (by omega), if_neg (by omega)]
           rw [x]
           have z := put_ok co0 cc0 hrn (i := i) (v := z_b v) (by omega) (z_b_r v)
           exact ⟨_, rfl, by rw [Int.add_comm], z.1, z.2⟩)
      · refine x_aload_n dX7_put_42 0 rfl rfl ?_
        refine x_iconst dX7_put_43 ?_
        refine x_callVi (as := [_]) dX7_put_44 lvX7_79 rfl rfl rfl rfl rfl rfl rfl ⟨rfl, rfl⟩ (s_X7_found co0.1 (by omega)) (fun z44 I44 L44 R44 hq44 => ?_)
        obtain ⟨rfl, rfl, rfl, rfl⟩ := hq44
        refine x_iret dX7_put_47 rfl ?_
        rw [← hQ]
        first
        | (have x : s_put (rn : Int) i v M = (-3, a_mt M 1) := by
             unfold s_put
             rw [if_neg (by omega), if_pos (by omega)]
           rw [x]
           have z := mt_ok co0 cc0 (f := 1) (by omega)
           exact ⟨_, rfl, rfl, z.1, z.2⟩)
        | (have x : s_put (rn : Int) i v M = (-3, a_mt M 2) := by
             unfold s_put
             rw [if_neg (by omega), if_neg (by omega), if_pos (by omega)]
           rw [x]
           have z := mt_ok co0 cc0 (f := 2) (by omega)
           exact ⟨_, rfl, rfl, z.1, z.2⟩)
        | (have x : s_put (rn : Int) i v M = (1000 + M 6 (80 * (rn : Int) + i), m_up M 6 (80 * (rn : Int) + i) (z_b v)) := by
             unfold s_put
             rw [if_neg (by omega), if_neg (by omega), if_neg (by omega)]
           rw [x]
           have z := put_ok co0 cc0 hrn (i := i) (v := z_b v) (by omega) (z_b_r v)
           exact ⟨_, rfl, by rw [Int.add_comm], z.1, z.2⟩)
    · refine x_aload_n dX7_put_24 0 rfl rfl ?_
      refine x_iconst dX7_put_25 ?_
      refine x_callVi (as := [_]) dX7_put_26 lvX7_79 rfl rfl rfl rfl rfl rfl rfl ⟨rfl, rfl⟩ (s_X7_found co0.1 (by omega)) (fun z26 I26 L26 R26 hq26 => ?_)
      obtain ⟨rfl, rfl, rfl, rfl⟩ := hq26
      refine x_iret dX7_put_29 rfl ?_
      rw [← hQ]
      first
      | (have x : s_put (rn : Int) i v M = (-3, a_mt M 1) := by
           unfold s_put
           rw [if_neg (by omega), if_pos (by omega)]
         rw [x]
         have z := mt_ok co0 cc0 (f := 1) (by omega)
         exact ⟨_, rfl, rfl, z.1, z.2⟩)
      | (have x : s_put (rn : Int) i v M = (-3, a_mt M 2) := by
           unfold s_put
           rw [if_neg (by omega), if_neg (by omega), if_pos (by omega)]
         rw [x]
         have z := mt_ok co0 cc0 (f := 2) (by omega)
         exact ⟨_, rfl, rfl, z.1, z.2⟩)
      | (have x : s_put (rn : Int) i v M = (1000 + M 6 (80 * (rn : Int) + i), m_up M 6 (80 * (rn : Int) + i) (z_b v)) := by
           unfold s_put
           rw [if_neg (by omega), if_neg (by omega), if_neg (by omega)]
         rw [x]
         have z := put_ok co0 cc0 hrn (i := i) (v := z_b v) (by omega) (z_b_r v)
         exact ⟨_, rfl, by rw [Int.add_comm], z.1, z.2⟩)
  refine x_aload_n dX7_put_0 0 rfl rfl ?_
  refine x_getR dX7_put_1 flX7_18 rfl rfl (hR 0 1 10 rfl) ?_
  refine x_iload_n dX7_put_4 1 rfl rfl ?_
  refine x_callVi (as := [_]) dX7_put_5 lvX7_75 rfl rfl rfl rfl rfl rfl rfl ⟨rfl, rfl⟩ (s_X5_names hR.s10 (by omega)) (fun z5 I5 L5 R5 hq5 => ?_)
  obtain ⟨rfl, rfl, rfl, rfl⟩ := hq5
  refine y_ifb_ne (tgt := 13) dX7_put_8 (by decide) (fun h8 => ?_) (fun h8 => ?_)
  · exact at13 r.toNat (by omega) (by omega)
  · refine x_iconst dX7_put_11 ?_
    refine x_iret dX7_put_12 rfl ?_
    rw [← hQ]
    first
    | (have x : s_put r i v M = (-1, M) := by
         unfold s_put
         exact if_pos (by omega)
       rw [x]
       exact ⟨_, rfl, rfl, co0, cc0⟩)
end

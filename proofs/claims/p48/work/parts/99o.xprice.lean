/-! THE CLASS'S FACE: cheapest, settle. -/
theorem kap_35v {M : MI} {wo k : Int} : kap M wo k 0 35 = orf (bdF M) (M 0 12).toNat := by
  have p12 : pm M 0 12 = M 0 12 := pm_at (by unfold per; omega)
  have hb : bdF (pm M) = bdF M := by
    funext d
    unfold bdF
    rw [pm_at (by unfold per; omega)]
  unfold kap
  rw [scn_0]
  unfold sc0
  rw [if_pos rfl, if_neg (by decide), if_pos rfl, p12, hb]
theorem cv_p {b : Int} (h : 0 ≤ b ∧ b ≤ 47520240) : (0 ≤ cvL b ∧ cvL b ≤ 100000000) ∧ (cvL b).tmod 1024 = b % 1000 ∧ (cvL b).tdiv 1024 = b / 1000 := by
  have e : cvL b = 1024 * (b / 1000) + b % 1000 := by
    unfold cvL
    rw [if_neg (by omega)]
  rw [e, Int.tmod_eq_emod_of_nonneg (by omega), Int.tdiv_eq_ediv_of_nonneg (by omega)]
  omega
theorem cv_n : cvL (-9) = -1 := by unfold cvL; rw [if_pos rfl]
section
variable {G : GT} {I L M N : MI} {R : MR} {h h' : Nat}

theorem s_X7_leastBy {k m f : Int} (co0 : CO I L R M N h h') (cc0 : CC I L R M h) (hk : 0 ≤ k ∧ k ≤ M 0 13) (hm : 0 ≤ m ∧ m ≤ 99) (hf : 0 ≤ f ∧ f ≤ 99) : Sp G mtX7_leastBy [mr 0, mi k, mi m, mi f] shX I L R (ql (fun z I' L' R' => z = cvL (chB M k m f) ∧ CO I' L' R' M N h h' ∧ CC I' L' R' M h)) := by
  refine Sp.of pnX7_leastBy rfl ?_
  show Rn G mtX7_leastBy _ 0 [(0, mr 0), (1, mi k), (2, mi m), (3, mi f)] [] shX I L R
  generalize hQ : (ql (fun z I' L' R' => z = cvL (chB M k m f) ∧ CO I' L' R' M N h h' ∧ CC I' L' R' M h)) = Q
  have hR := co0.1
  have r8 := co0.2.1.1
  have r9 := co0.2.1.2.1
  have h32 := co0.h32
  have hh := hR.h h32
  obtain ⟨iH, iE, iL, iR, iT⟩ := co0.2.2.2.2.1
  have hrl := co0.2.2.2.2.2.1.1
  have q0 := hrl.1
  have q1 := hrl.2.1
  have q2 := hrl.2.2.1
  have q3 := hrl.2.2.2.1
  have b0 := iH.1
  have b1 := iH.2.1
  have b2 := iH.2.2.1
  have b3 := iH.2.2.2.1
  obtain ⟨op0, o30, -, -, -⟩ := co0.2.2.2.2.2.1.ok iH
  have body : ∀ J K S, CO J K S M N h h' → CC J K S M h → ∀ J1, MK 50 h k 0 J J1 → Rn G mtX7_leastBy Q 13 [(0, mr 0), (1, mi k), (2, mi m), (3, mi f)] [] shX J1 K (m_up S 50 0 (some h)) := by
    intro J K S co cc
    have hR := co.1
    have r8 := co.2.1.1
    have r9 := co.2.1.2.1
    have hh := hR.h h32
    have j2 : J h 2 = M 0 13 := co.2.2.2.2.2.1.1.2.2.1
    have j4 : J h 4 = orf (bdF M) (M 0 12).toNat := co.2.2.2.2.2.1.1.2.2.2.2
    have j25 : J 58 0 = M 0 25 := co.2.2.2.2.2.2.1.1
    obtain ⟨op, o3, o2, -, -⟩ := co.2.2.2.2.2.1.ok iH
    have at13 : ∀ J1, MK 50 h k 0 J J1 → Rn G mtX7_leastBy Q 13 [(0, mr 0), (1, mi k), (2, mi m), (3, mi f)] [] shX J1 K (m_up S 50 0 (some h)) := by
      intro J1 mk
      generalize hS1 : m_up S 50 0 (some h) = S1
      obtain ⟨hR, ⟨r8, r9⟩, ev, u1, ph3⟩ := trial_pre co hk mk hS1.symm
      have hh := hR.h h32
      have hp := hR.p (h := 50) (Or.inr rfl)
      have hn := hR.n (h := 58) (Or.inl rfl)
      have at25 : ∀ T, T = tkF J1 50 58 0 (J1 58 0).toNat → Rn G mtX7_leastBy Q 25 [(0, mr 0), (1, mi k), (2, mi m), (3, mi f)] [] shX T K S1 := by
        intro T hT
        obtain ⟨co3, cc3, -, t4, ⟨n, pk3⟩, p4, p2, d13⟩ := trial_ok co cc hk mk hT hS1.symm
        obtain ⟨na, nb, nk, tw⟩ := co3.2.2.1
        obtain ⟨m12, m15⟩ := co3.2.2.2.1
        have g01 : T 50 4 = 0 ∨ T 50 4 = 1 := by rw [p4]; have := b01_r (gd M 0 k = true); omega
        have le := s_X6_least (G := G) (L := K) hR tw hp ph3 hh pk3 m12 m15 (kap_M iH iE 0 k) p2 (t4.trans kap_35v.symm) hm hf g01
        have lv : (if T 50 4 = 0 then -1 else cvL (cbB (cbV (kap M 0 k) m f (lst (kap M 0 k))) (nst (kap M 0 k)))) = cvL (chB M k m f) := by
          unfold chB
          by_cases q : gd M 0 k = true
          · rw [if_neg (show ¬ T 50 4 = 0 by rw [p4, ← b01_t q]; decide), if_pos q]
          · rw [if_pos (show T 50 4 = 0 by rw [p4, ← b01_f q]), if_neg q, cv_n]
        refine x_aload_n dX7_leastBy_25 0 rfl rfl ?_
        refine x_getR dX7_leastBy_26 flX7_31 rfl rfl (hR 0 3 19 rfl) ?_
        refine x_aload_n dX7_leastBy_29 0 rfl rfl ?_
        refine x_getR dX7_leastBy_30 flX7_54 rfl rfl (hR 0 5 50 rfl) ?_
        refine x_iload_n dX7_leastBy_33 2 rfl rfl ?_
        refine x_iload_n dX7_leastBy_34 3 rfl rfl ?_
        refine x_callVl (as := [_, _, _]) dX7_leastBy_35 lvX7_373 rfl rfl rfl rfl rfl rfl rfl ⟨rfl, rfl⟩ (le) (fun z35 I35 L35 R35 hq35 => ?_)
        obtain ⟨z35e, wp⟩ := hq35
        refine x_lret dX7_leastBy_38 rfl ?_
        rw [← hQ]
        exact ⟨_, rfl, z35e.trans lv, co3.wp wp, cc3.wp h32 wp⟩
      refine x_aload_n dX7_leastBy_13 0 rfl rfl ?_
      refine x_getR dX7_leastBy_14 flX7_54 rfl rfl (hR 0 5 50 rfl) ?_
      refine x_aload_n dX7_leastBy_17 0 rfl rfl ?_
      refine x_getR dX7_leastBy_18 flX7_60 rfl rfl (hR 0 6 58 rfl) ?_
      refine x_iconst dX7_leastBy_21 ?_
      refine x_callVv (as := [_, _]) dX7_leastBy_22 lvX7_198 rfl rfl rfl rfl rfl rfl rfl ⟨rfl, rfl⟩ (s_X3_take hp hn ev.1 ev.2 u1) (fun I22 L22 R22 hq22 => ?_)
      obtain ⟨w22, rfl, rfl⟩ := hq22
      exact at25 _ w22
    exact at13
  refine x_aload_n dX7_leastBy_0 0 rfl rfl ?_
  refine x_getR dX7_leastBy_1 flX7_54 rfl rfl (hR 0 5 50 rfl) ?_
  refine x_aload_n dX7_leastBy_4 0 rfl rfl ?_
  refine x_getR dX7_leastBy_5 flX7_38 rfl rfl r8 ?_
  refine x_iload_n dX7_leastBy_8 1 rfl rfl ?_
  refine x_iconst dX7_leastBy_9 ?_
  refine x_callVv (as := [_, _, _]) dX7_leastBy_10 lvX7_195 rfl rfl rfl rfl rfl rfl rfl ⟨rfl, rfl⟩ (s_X3_make (hR.p (h := 50) (Or.inr rfl)) hh op0 o30 (by omega)) (fun I10 L10 R10 hq10 => ?_)
  obtain ⟨rfl, rfl, mk10⟩ := hq10
  exact body _ _ _ co0 cc0 _ mk10
theorem s_X7_cheapest {m f : Int} (co0 : CO I L R M N h h') (cc0 : CC I L R M h) (hm : rI m) (hf : rI f) : Sp G mtX7_cheapest [mr 0, mi m, mi f] shX I L R (qi (fun z I' L' R' => z = (s_cheapest m f M).1 ∧ CO I' L' R' (s_cheapest m f M).2 N h h' ∧ CC I' L' R' (s_cheapest m f M).2 h)) := by
  refine Sp.of pnX7_cheapest rfl ?_
  show Rn G mtX7_cheapest _ 0 [(0, mr 0), (1, mi m), (2, mi f)] [] shX I L R
  generalize hQ : (qi (fun z I' L' R' => z = (s_cheapest m f M).1 ∧ CO I' L' R' (s_cheapest m f M).2 N h h' ∧ CC I' L' R' (s_cheapest m f M).2 h)) = Q
  have hR := co0.1
  have r8 := co0.2.1.1
  have r9 := co0.2.1.2.1
  have h32 := co0.h32
  have hh := hR.h h32
  obtain ⟨iH, iE, iL, iR, iT⟩ := co0.2.2.2.2.1
  have hrl := co0.2.2.2.2.2.1.1
  have q0 := hrl.1
  have q1 := hrl.2.1
  have q2 := hrl.2.2.1
  have q3 := hrl.2.2.2.1
  have b0 := iH.1
  have b1 := iH.2.1
  have b2 := iH.2.2.1
  have b3 := iH.2.2.2.1
  have b := chB_r (k := M 0 13) (m := m) (f := f) iH iE (by omega)
  have at29 : (0 ≤ m ∧ m ≤ 99) → (0 ≤ f ∧ f ≤ 99) → ∀ J K S, CO J K S M N h h' → CC J K S M h → Rn G mtX7_cheapest Q 30 [(0, mr 0), (1, mi m), (2, mi f), (3, ml (cvL (chB M (M 0 13) m f)))] [] shX J K S := by
    intro hm hf J K S co cc
    have hR := co.1
    rcases b hm hf with b | b
    · have x : s_cheapest m f M = (-9, M) := by
        unfold s_cheapest
        rw [if_neg (by omega)]
        exact if_pos b
      have cv : cvL (chB M (M 0 13) m f) = -1 := by rw [b, cv_n]
      refine x_lload_n dX7_cheapest_30 3 rfl rfl ?_
      refine x_lconst 0 dX7_cheapest_31 rfl ?_
      refine x_lc_ge (tgt := 39) dX7_cheapest_32 dX7_cheapest_33 (by decide) (by omega) (fun h32 => ?_) (fun h32 => ?_)
      · exfalso; omega
      · refine x_bipush dX7_cheapest_36 (by decide) ?_
        refine x_iret dX7_cheapest_38 rfl ?_
        rw [← hQ, x]
        exact ⟨_, rfl, rfl, co, cc⟩
    · have x : s_cheapest m f M = (chB M (M 0 13) m f / 1000, a_tl M (chB M (M 0 13) m f % 1000)) := by
        unfold s_cheapest
        rw [if_neg (by omega)]
        exact if_neg (by omega)
      obtain ⟨cv1, cv2, cv3⟩ := cv_p b
      have tl := tl_ok co cc (chB M (M 0 13) m f % 1000)
      refine x_lload_n dX7_cheapest_30 3 rfl rfl ?_
      refine x_lconst 0 dX7_cheapest_31 rfl ?_
      refine x_lc_ge (tgt := 39) dX7_cheapest_32 dX7_cheapest_33 (by decide) (by omega) (fun h32 => ?_) (fun h32 => ?_)
      · refine x_aload_n dX7_cheapest_39 0 rfl rfl ?_
        refine x_lload_n dX7_cheapest_40 3 rfl rfl ?_
        refine x_ldc2 (1024) dX7_cheapest_41 lkX7_314 ?_
        refine x_lrem dX7_cheapest_44 (by omega) (by omega) ?_
        refine x_l2i dX7_cheapest_45 ?_
        refine x_putI dX7_cheapest_46 flX7_186 rfl rfl rfl ?_
        refine x_lload_n dX7_cheapest_49 3 rfl rfl ?_
        refine x_ldc2 (1024) dX7_cheapest_50 lkX7_314 ?_
        refine x_ldiv dX7_cheapest_53 (by omega) (by omega) ?_
        refine x_l2i dX7_cheapest_54 ?_
        refine x_iret dX7_cheapest_55 rfl ?_
        rw [← hQ, x, cv2, cv3]
        exact ⟨_, rfl, rfl, tl.1, tl.2⟩
      · exfalso; omega
  refine x_iload_n dX7_cheapest_0 1 rfl rfl ?_
  refine x_callSi (as := [_]) dX7_cheapest_1 lvX7_307 rfl rfl rfl rfl ⟨rfl, rfl⟩ (s_X7_isPrice (by omega)) (fun z1 I1 L1 R1 hq1 => ?_)
  obtain ⟨rfl, rfl, rfl, rfl⟩ := hq1
  refine y_ifb_eq (tgt := 14) dX7_cheapest_4 (by decide) (fun h4 => ?_) (fun h4 => ?_)
  · refine x_iconst dX7_cheapest_14 ?_
    refine x_iret dX7_cheapest_15 rfl ?_
    rw [← hQ]
    first
    | (have x : s_cheapest m f M = (-1, M) := by
         unfold s_cheapest
         exact if_pos (by omega)
       rw [x]
       exact ⟨_, rfl, rfl, co0, cc0⟩)
  · refine x_iload_n dX7_cheapest_7 2 rfl rfl ?_
    refine x_callSi (as := [_]) dX7_cheapest_8 lvX7_307 rfl rfl rfl rfl ⟨rfl, rfl⟩ (s_X7_isPrice (by omega)) (fun z8 I8 L8 R8 hq8 => ?_)
    obtain ⟨rfl, rfl, rfl, rfl⟩ := hq8
    refine y_ifb_ne (tgt := 16) dX7_cheapest_11 (by decide) (fun h11 => ?_) (fun h11 => ?_)
    · refine x_aload_n dX7_cheapest_16 0 rfl rfl ?_
      refine x_aload_n dX7_cheapest_17 0 rfl rfl ?_
      refine x_getR dX7_cheapest_18 flX7_38 rfl rfl r8 ?_
      refine x_getI dX7_cheapest_21 flX7_189 (shH0 hh) rfl ?_
      rw [q2]
      refine x_iload_n dX7_cheapest_24 1 rfl rfl ?_
      refine x_iload_n dX7_cheapest_25 2 rfl rfl ?_
      refine x_callVl (as := [_, _, _]) dX7_cheapest_26 lvX7_310 rfl rfl rfl rfl rfl rfl rfl ⟨rfl, rfl⟩ (s_X7_leastBy co0 cc0 (by omega) (by omega) (by omega)) (fun z26 I26 L26 R26 hq26 => ?_)
      obtain ⟨z26e, co1, cc1⟩ := hq26
      refine x_lstore_n (lv' := [(0, _), (1, _), (2, _), (3, _)]) dX7_cheapest_29 rfl rfl rfl ?_
      rw [z26e]
      exact at29 (by omega) (by omega) _ _ _ co1 cc1
    · refine x_iconst dX7_cheapest_14 ?_
      refine x_iret dX7_cheapest_15 rfl ?_
      rw [← hQ]
      first
      | (have x : s_cheapest m f M = (-1, M) := by
           unfold s_cheapest
           exact if_pos (by omega)
         rw [x]
         exact ⟨_, rfl, rfl, co0, cc0⟩)
end

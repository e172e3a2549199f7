/-! THE CLASS'S FACE: whose, same, passes, third, met. -/
theorem CO.wp {J K M N J' K' : MI} {S S' : MR} {h h' : Nat} (co : CO J K S M N h h') (w : WP J K S J' K' S') : CO J' K' S' M N h h' := co.fr (KO.fw w.1) (fun i _ => w.2.2.1 0 i (by decide)) (w.2.2.2.1.ok co.1) (w.2.2.2.1 0 8 (by decide)) (w.2.2.2.1 0 9 (by decide)) w.2.2.2.2 w.2.1
theorem CC.wp {J K M J' K' : MI} {S S' : MR} {h : Nat} (cc : CC J K S M h) (h32 : h = 32 ∨ h = 37) (w : WP J K S J' K' S') : CC J' K' S' M h := cc.fr (fun c i q => w.1 c i (by omega)) (fun i _ => w.1 0 i (by decide)) (w.2.2.2.1 42 0 (by decide)) (fun i => w.2.2.1 24 i (by decide))
theorem tb_bd {M : MI} {d : Nat} (h : 0 ≤ M 0 12 ∧ M 0 12 ≤ 8) (hd : d < 32) : tb (orf (bdF M) (M 0 12).toNat) d = true ↔ (d : Int) < M 0 12 ∧ M 7 (3 * (d : Int) + 2) = 1 := by
  rw [tb_orf]
  constructor
  · rintro ⟨w, hw, q⟩
    unfold bdF at q
    split at q
    · rename_i z
      rw [tb_sh1 (by omega) hd, decide_eq_true_eq] at q
      have : w = d := by omega
      subst this
      exact ⟨by omega, z⟩
    · rw [tb_0] at q
      exact Bool.noConfusion q
  · rintro ⟨h1, h2⟩
    refine ⟨d, by omega, ?_⟩
    unfold bdF
    rw [if_pos h2, tb_sh1 (by omega) hd, decide_eq_true_eq]
    omega
section
variable {G : GT} {I L M N : MI} {R : MR} {h h' : Nat}

theorem s_X7_whose {e : Int} (co0 : CO I L R M N h h') (cc0 : CC I L R M h) (he : rI e) : Sp G mtX7_whose [mr 0, mi e] shX I L R (qi (fun z I' L' R' => z = (s_whose e M).1 ∧ CO I' L' R' (s_whose e M).2 N h h' ∧ CC I' L' R' (s_whose e M).2 h)) := by
  refine Sp.of pnX7_whose rfl ?_
  show Rn G mtX7_whose _ 0 [(0, mr 0), (1, mi e)] [] shX I L R
  generalize hQ : (qi (fun z I' L' R' => z = (s_whose e M).1 ∧ CO I' L' R' (s_whose e M).2 N h h' ∧ CC I' L' R' (s_whose e M).2 h)) = Q
  have hR := co0.1
  have r8 := co0.2.1.1
  have r9 := co0.2.1.2.1
  have h32 := co0.h32
  have hh := hR.h h32
  obtain ⟨iH, iE, iL, iR, iT⟩ := co0.2.2.2.2.1
  have hrl := co0.2.2.2.2.2.1.1
  have q0 := hrl.1
  have q1 := hrl.2.1
  have q2 := hrl.2.2.1
  have q3 := hrl.2.2.2.1
  have b0 := iH.1
  have b1 := iH.2.1
  have b2 := iH.2.2.1
  have b3 := iH.2.2.2.1
  have hn := hR.n (h := 58) (Or.inl rfl)
  have hrn := co0.2.2.2.2.2.2.1
  have n25 : I 58 0 = M 0 25 := hrn.1
  have e25 := iE.1
  have evf : 0 ≤ e → e < M 0 25 → I (58 + 1) e = M 11 (4 * e + 0) ∧ rI (I (58 + 1) e) := fun z1 z2 => by
    obtain ⟨en, rfl⟩ : ∃ en : Nat, e = (en : Int) := ⟨e.toNat, by omega⟩
    have z := (hrn.2 en z2).1
    have v := (iE.2 en z2).1
    exact ⟨z, by omega⟩
  have body : ∀ J K S, CO J K S M N h h' → CC J K S M h → J 0 10 = 1 → J 0 11 = 1 → okA M = true → (0 ≤ e ∧ e < M 0 25) → (M 11 (4 * e + 0) = 1) → Rn G mtX7_whose Q 44 [(0, mr 0), (1, mi e)] [] shX J K S := by
    intro J K S co cc h10 h11 hok g0 g1
    have hR := co.1
    have r8 := co.2.1.1
    have r9 := co.2.1.2.1
    have hh := hR.h h32
    obtain ⟨na, nb, nk, tw⟩ := co.2.2.1
    obtain ⟨m12, m15⟩ := co.2.2.2.1
    obtain ⟨c1, c2, n, c3, c4, -, c6⟩ := cc.2 h10
    obtain ⟨fit, st, nt⟩ := c6 h11
    have hp := hR.p (Or.inl rfl)
    have hn3 : J 42 3 = (n : Int) := c3.1.1.2.2.2.2.1
    have hn2 := (PQ_n c3.1.1).2
    have hus := PK_us c3.1
    have h34 := c3.1.2.2.2.1
    have hl : ((lst (kM M) : Nat) : Int) = M 0 14 := KA_lst iH
    have hu : ((us (kM M) : Nat) : Int) = M 0 13 := KA_us iH
    have k11 : kM M 0 11 = M 0 11 := kap_per (by unfold per; omega)
    have j0 : J h 0 = M 0 11 := co.2.2.2.2.2.1.1.1
    have j1 : J h 1 = M 0 12 := co.2.2.2.2.2.1.1.2.1
    have j3 : J h 3 = M 0 14 := co.2.2.2.2.2.1.1.2.2.2.1
    obtain ⟨en, rfl⟩ : ∃ en : Nat, e = (en : Int) := ⟨e.toNat, by omega⟩
    obtain ⟨v1, v2, v3, v4, v5, v6⟩ := iE.2 en (by omega)
    obtain ⟨l1, l2, l3, l4, l5⟩ := iL (en : Int) (by omega) (by omega)
    obtain ⟨z1, z2, z3, z4⟩ := co.2.2.2.2.2.2.1.2 en (by omega)
    obtain ⟨dn, hd⟩ : ∃ dn : Nat, M 11 (4 * (en : Int) + 1) = (dn : Int) := ⟨(M 11 (4 * (en : Int) + 1)).toNat, by omega⟩
    obtain ⟨tn, htn⟩ : ∃ tn : Nat, M 11 (4 * (en : Int) + 3) = (tn : Int) := ⟨(M 11 (4 * (en : Int) + 3)).toNat, by omega⟩
    have f2 : J 60 (en : Int) = (dn : Int) := z2.trans hd
    have f4 : J 62 (en : Int) = (tn : Int) := z4.trans htn
    have w := pm_eq (I := J) (t := tn) (d := dn) c3.1.2.1 c3.1.2.2.1 (by omega) fit (nt tn (by omega)) (by omega)
    have x : s_whose (en : Int) M = (pMay (kM M) (dn : Int) tn (nst (kM M)), a_tl M (pMus (kM M) (dn : Int) tn (nst (kM M)))) := by
      unfold s_whose
      rw [if_neg (by omega), if_neg (by omega), if_neg (by rw [hok]; exact fun z => Bool.noConfusion z), hd, htn, Int.toNat_natCast]
      rfl
    have tl := tl_ok co cc (pMus (kM M) (dn : Int) tn (nst (kM M)))
    refine x_aload_n dX7_whose_44 0 rfl rfl ?_
    refine x_getR dX7_whose_45 flX7_60 rfl rfl (hR 0 6 58 rfl) ?_
    refine x_getR dX7_whose_48 flX7_161 rfl rfl (hR 58 2 60 rfl) ?_
    refine x_iload_n dX7_whose_51 1 rfl rfl ?_
    refine x_iald dX7_whose_52 rfl (by omega) ?_
    rw [f2]
    refine x_istore_n (lv' := [(0, _), (1, _), (2, _)]) dX7_whose_53 rfl rfl rfl ?_
    refine x_aload_n dX7_whose_54 0 rfl rfl ?_
    refine x_getR dX7_whose_55 flX7_60 rfl rfl (hR 0 6 58 rfl) ?_
    refine x_getR dX7_whose_58 flX7_158 rfl rfl (hR 58 4 62 rfl) ?_
    refine x_iload_n dX7_whose_61 1 rfl rfl ?_
    refine x_iald dX7_whose_62 rfl (by omega) ?_
    rw [f4]
    refine x_istore_n (lv' := [(0, _), (1, _), (2, _), (3, _)]) dX7_whose_63 rfl rfl rfl ?_
    refine x_aload_n dX7_whose_64 0 rfl rfl ?_
    refine x_aload_n dX7_whose_65 0 rfl rfl ?_
    refine x_getR dX7_whose_66 flX7_31 rfl rfl (hR 0 3 19 rfl) ?_
    refine x_aload_n dX7_whose_69 0 rfl rfl ?_
    refine x_getR dX7_whose_70 flX7_31 rfl rfl (hR 0 3 19 rfl) ?_
    refine x_getR dX7_whose_73 flX7_270 rfl rfl (hR 19 3 26 rfl) ?_
    refine x_iload_n dX7_whose_76 2 rfl rfl ?_
    refine x_iload_n dX7_whose_77 3 rfl rfl ?_
    refine x_callVi (as := [_, _, _]) dX7_whose_78 lvX7_273 rfl rfl rfl rfl rfl rfl rfl ⟨rfl, rfl⟩ (s_X6_walkersThrough (c := 26) (Or.inr rfl) (by omega) (by omega)) (fun z78 I78 L78 R78 hq78 => ?_)
    obtain ⟨rfl, rfl, rfl, rfl⟩ := hq78
    refine x_putI dX7_whose_81 flX7_186 rfl rfl rfl ?_
    refine x_aload_n dX7_whose_84 0 rfl rfl ?_
    refine x_getR dX7_whose_85 flX7_31 rfl rfl (hR 0 3 19 rfl) ?_
    refine x_aload_n dX7_whose_88 0 rfl rfl ?_
    refine x_getR dX7_whose_89 flX7_31 rfl rfl (hR 0 3 19 rfl) ?_
    refine x_getR dX7_whose_92 flX7_277 rfl rfl (hR 19 2 25 rfl) ?_
    refine x_iload_n dX7_whose_95 2 rfl rfl ?_
    refine x_iload_n dX7_whose_96 3 rfl rfl ?_
    refine x_callVi (as := [_, _, _]) dX7_whose_97 lvX7_273 rfl rfl rfl rfl rfl rfl rfl ⟨rfl, rfl⟩ (s_X6_walkersThrough (c := 25) (Or.inl rfl) (by omega) (by omega)) (fun z97 I97 L97 R97 hq97 => ?_)
    obtain ⟨rfl, rfl, rfl, rfl⟩ := hq97
    refine x_iret dX7_whose_100 rfl ?_
    rw [← hQ, x]
    refine ⟨_, rfl, ?_, ?_⟩
    · simp only [m_up_ne (show (25 : Nat) ≠ 0 by decide)]
      exact w.1
    · rw [w.2]
      exact tl
  refine x_aload_n dX7_whose_0 0 rfl rfl ?_
  refine x_getR dX7_whose_1 flX7_60 rfl rfl (hR 0 6 58 rfl) ?_
  refine x_iload_n dX7_whose_4 1 rfl rfl ?_
  refine x_callVi (as := [_]) dX7_whose_5 lvX7_147 rfl rfl rfl rfl rfl rfl rfl ⟨rfl, rfl⟩ (s_X2_names hn (by omega) (by omega)) (fun z5 I5 L5 R5 hq5 => ?_)
  obtain ⟨rfl, rfl, rfl, rfl⟩ := hq5
  refine y_ifb_ne (tgt := 13) dX7_whose_8 (by decide) (fun h8 => ?_) (fun h8 => ?_)
  · refine x_aload_n dX7_whose_13 0 rfl rfl ?_
    refine x_getR dX7_whose_14 flX7_60 rfl rfl (hR 0 6 58 rfl) ?_
    refine x_iload_n dX7_whose_17 1 rfl rfl ?_
    refine x_iconst dX7_whose_18 ?_
    refine x_callVi (as := [_, _]) dX7_whose_19 lvX7_152 rfl rfl rfl rfl rfl rfl rfl ⟨rfl, rfl⟩ (s_X2_isOf hn (by omega) (evf (by omega) (by omega)).2 (by omega)) (fun z19 I19 L19 R19 hq19 => ?_)
    obtain ⟨rfl, rfl, rfl, rfl⟩ := hq19
    refine y_ifb_ne (tgt := 31) dX7_whose_22 (by decide) (fun h22 => ?_) (fun h22 => ?_)
    · refine x_aload_n dX7_whose_31 0 rfl rfl ?_
      refine x_callVi (as := []) dX7_whose_32 lvX7_205 rfl rfl rfl rfl rfl rfl rfl ⟨rfl, rfl⟩ (s_X7_knowsWays co0 cc0) (fun z32 I32 L32 R32 hq32 => ?_)
      obtain ⟨rfl, co1, cc1, kw, hK⟩ := hq32
      refine y_ifb_ne (tgt := 44) dX7_whose_35 (by decide) (fun h35 => ?_) (fun h35 => ?_)
      · exact body _ _ _ co1 cc1 (kw (by assumption)).1 (kw (by assumption)).2 (by assumption) (by omega) (by have := (evf (by omega) (by omega)).1; omega)
      · refine x_aload_n dX7_whose_38 0 rfl rfl ?_
        refine x_iconst dX7_whose_39 ?_
        refine x_callVi (as := [_]) dX7_whose_40 lvX7_79 rfl rfl rfl rfl rfl rfl rfl ⟨rfl, rfl⟩ (s_X7_found co1.1 (by omega)) (fun z40 I40 L40 R40 hq40 => ?_)
        obtain ⟨rfl, rfl, rfl, rfl⟩ := hq40
        refine x_iret dX7_whose_43 rfl ?_
        rw [← hQ]
        first
        | (have x : s_whose e M = (-1, M) := by
             unfold s_whose
             exact if_pos (by omega)
           rw [x]
           exact ⟨_, rfl, rfl, co0, cc0⟩)
        | (have z := mt_ok co1 cc1 (f := 4) (by omega)
           have v := (evf (by omega) (by omega)).1
           have x : s_whose e M = (-3, a_mt M 4) := by
             unfold s_whose
             rw [if_neg (by omega), if_neg (by omega), if_pos (bf (by assumption))]
           rw [x]
           exact ⟨_, rfl, rfl, z.1, z.2⟩)
        | (have z := mt_ok co0 cc0 (f := 3) (by omega)
           have v := (evf (by omega) (by omega)).1
           have x : s_whose e M = (-3, a_mt M 3) := by
             unfold s_whose
             rw [if_neg (by omega), if_pos (by omega)]
           rw [x]
           exact ⟨_, rfl, rfl, z.1, z.2⟩)
    · refine x_aload_n dX7_whose_25 0 rfl rfl ?_
      refine x_iconst dX7_whose_26 ?_
      refine x_callVi (as := [_]) dX7_whose_27 lvX7_79 rfl rfl rfl rfl rfl rfl rfl ⟨rfl, rfl⟩ (s_X7_found co0.1 (by omega)) (fun z27 I27 L27 R27 hq27 => ?_)
      obtain ⟨rfl, rfl, rfl, rfl⟩ := hq27
      refine x_iret dX7_whose_30 rfl ?_
      rw [← hQ]
      first
      | (have x : s_whose e M = (-1, M) := by
           unfold s_whose
           exact if_pos (by omega)
         rw [x]
         exact ⟨_, rfl, rfl, co0, cc0⟩)
      | (have z := mt_ok co1 cc1 (f := 4) (by omega)
         have v := (evf (by omega) (by omega)).1
         have x : s_whose e M = (-3, a_mt M 4) := by
           unfold s_whose
           rw [if_neg (by omega), if_neg (by omega), if_pos (bf (by assumption))]
         rw [x]
         exact ⟨_, rfl, rfl, z.1, z.2⟩)
      | (have z := mt_ok co0 cc0 (f := 3) (by omega)
         have v := (evf (by omega) (by omega)).1
         have x : s_whose e M = (-3, a_mt M 3) := by
           unfold s_whose
           rw [if_neg (by omega), if_pos (by omega)]
         rw [x]
         exact ⟨_, rfl, rfl, z.1, z.2⟩)
  · refine x_iconst dX7_whose_11 ?_
    refine x_iret dX7_whose_12 rfl ?_
    rw [← hQ]
    first
    | (have x : s_whose e M = (-1, M) := by
         unfold s_whose
         exact if_pos (by omega)
       rw [x]
       exact ⟨_, rfl, rfl, co0, cc0⟩)
    | (have z := mt_ok co1 cc1 (f := 4) (by omega)
       have v := (evf (by omega) (by omega)).1
       have x : s_whose e M = (-3, a_mt M 4) := by
         unfold s_whose
         rw [if_neg (by omega), if_neg (by omega), if_pos (bf (by assumption))]
       rw [x]
       exact ⟨_, rfl, rfl, z.1, z.2⟩)
    | (have z := mt_ok co0 cc0 (f := 3) (by omega)
       have v := (evf (by omega) (by omega)).1
       have x : s_whose e M = (-3, a_mt M 3) := by
         unfold s_whose
         rw [if_neg (by omega), if_pos (by omega)]
       rw [x]
       exact ⟨_, rfl, rfl, z.1, z.2⟩)
theorem s_X7_same {e : Int} (co0 : CO I L R M N h h') (cc0 : CC I L R M h) (he : rI e) : Sp G mtX7_same [mr 0, mi e] shX I L R (qi (fun z I' L' R' => z = (s_same e M).1 ∧ CO I' L' R' (s_same e M).2 N h h' ∧ CC I' L' R' (s_same e M).2 h)) := by
  refine Sp.of pnX7_same rfl ?_
  show Rn G mtX7_same _ 0 [(0, mr 0), (1, mi e)] [] shX I L R
  generalize hQ : (qi (fun z I' L' R' => z = (s_same e M).1 ∧ CO I' L' R' (s_same e M).2 N h h' ∧ CC I' L' R' (s_same e M).2 h)) = Q
  have hR := co0.1
  have r8 := co0.2.1.1
  have r9 := co0.2.1.2.1
  have h32 := co0.h32
  have hh := hR.h h32
  obtain ⟨iH, iE, iL, iR, iT⟩ := co0.2.2.2.2.1
  have hrl := co0.2.2.2.2.2.1.1
  have q0 := hrl.1
  have q1 := hrl.2.1
  have q2 := hrl.2.2.1
  have q3 := hrl.2.2.2.1
  have b0 := iH.1
  have b1 := iH.2.1
  have b2 := iH.2.2.1
  have b3 := iH.2.2.2.1
  have hn := hR.n (h := 58) (Or.inl rfl)
  have hrn := co0.2.2.2.2.2.2.1
  have n25 : I 58 0 = M 0 25 := hrn.1
  have e25 := iE.1
  have evf : 0 ≤ e → e < M 0 25 → I (58 + 1) e = M 11 (4 * e + 0) ∧ rI (I (58 + 1) e) := fun z1 z2 => by
    obtain ⟨en, rfl⟩ : ∃ en : Nat, e = (en : Int) := ⟨e.toNat, by omega⟩
    have z := (hrn.2 en z2).1
    have v := (iE.2 en z2).1
    exact ⟨z, by omega⟩
  have body : ∀ J K S, CO J K S M N h h' → CC J K S M h → J 0 10 = 1 → J 0 11 = 1 → okA M = true → (0 ≤ e ∧ e < M 0 25) → (M 11 (4 * e + 0) = 2 ∨ M 11 (4 * e + 0) = 3) → Rn G mtX7_same Q 44 [(0, mr 0), (1, mi e)] [] shX J K S := by
    intro J K S co cc h10 h11 hok g0 g1
    have hR := co.1
    have r8 := co.2.1.1
    have r9 := co.2.1.2.1
    have hh := hR.h h32
    obtain ⟨na, nb, nk, tw⟩ := co.2.2.1
    obtain ⟨m12, m15⟩ := co.2.2.2.1
    obtain ⟨c1, c2, n, c3, c4, -, c6⟩ := cc.2 h10
    obtain ⟨fit, st, nt⟩ := c6 h11
    have hp := hR.p (Or.inl rfl)
    have hn3 : J 42 3 = (n : Int) := c3.1.1.2.2.2.2.1
    have hn2 := (PQ_n c3.1.1).2
    have hus := PK_us c3.1
    have h34 := c3.1.2.2.2.1
    have hl : ((lst (kM M) : Nat) : Int) = M 0 14 := KA_lst iH
    have hu : ((us (kM M) : Nat) : Int) = M 0 13 := KA_us iH
    have k11 : kM M 0 11 = M 0 11 := kap_per (by unfold per; omega)
    have j0 : J h 0 = M 0 11 := co.2.2.2.2.2.1.1.1
    have j1 : J h 1 = M 0 12 := co.2.2.2.2.2.1.1.2.1
    have j3 : J h 3 = M 0 14 := co.2.2.2.2.2.1.1.2.2.2.1
    obtain ⟨en, rfl⟩ : ∃ en : Nat, e = (en : Int) := ⟨e.toNat, by omega⟩
    obtain ⟨v1, v2, v3, v4, v5, v6⟩ := iE.2 en (by omega)
    obtain ⟨l1, l2, l3, l4, l5⟩ := iL (en : Int) (by omega) (by omega)
    obtain ⟨z1, z2, z3, z4⟩ := co.2.2.2.2.2.2.1.2 en (by omega)
    obtain ⟨dn, hd⟩ : ∃ dn : Nat, M 11 (4 * (en : Int) + 1) = (dn : Int) := ⟨(M 11 (4 * (en : Int) + 1)).toNat, by omega⟩
    obtain ⟨tn, htn⟩ : ∃ tn : Nat, M 11 (4 * (en : Int) + 3) = (tn : Int) := ⟨(M 11 (4 * (en : Int) + 3)).toNat, by omega⟩
    have f2 : J 60 (en : Int) = (dn : Int) := z2.trans hd
    have f4 : J 62 (en : Int) = (tn : Int) := z4.trans htn
    have w := sm_eq (t := tn) (a := dn) c3 st (by omega) fit (by omega)
    have x : s_same (en : Int) M = (smMay (kM M) (dn : Int) tn (nst (kM M)), a_tl M (smMus (kM M) (dn : Int) tn (nst (kM M)))) := by
      unfold s_same
      rw [if_neg (by omega), if_neg (by omega), if_neg (by rw [hok]; exact fun z => Bool.noConfusion z), hd, htn, Int.toNat_natCast]
      rfl
    have tl := tl_ok co cc (smMus (kM M) (dn : Int) tn (nst (kM M)))
    refine x_aload_n dX7_same_44 0 rfl rfl ?_
    refine x_getR dX7_same_45 flX7_60 rfl rfl (hR 0 6 58 rfl) ?_
    refine x_getR dX7_same_48 flX7_161 rfl rfl (hR 58 2 60 rfl) ?_
    refine x_iload_n dX7_same_51 1 rfl rfl ?_
    refine x_iald dX7_same_52 rfl (by omega) ?_
    rw [f2]
    refine x_istore_n (lv' := [(0, _), (1, _), (2, _)]) dX7_same_53 rfl rfl rfl ?_
    refine x_aload_n dX7_same_54 0 rfl rfl ?_
    refine x_getR dX7_same_55 flX7_60 rfl rfl (hR 0 6 58 rfl) ?_
    refine x_getR dX7_same_58 flX7_158 rfl rfl (hR 58 4 62 rfl) ?_
    refine x_iload_n dX7_same_61 1 rfl rfl ?_
    refine x_iald dX7_same_62 rfl (by omega) ?_
    rw [f4]
    refine x_istore_n (lv' := [(0, _), (1, _), (2, _), (3, _)]) dX7_same_63 rfl rfl rfl ?_
    refine x_aload_n dX7_same_64 0 rfl rfl ?_
    refine x_aload_n dX7_same_65 0 rfl rfl ?_
    refine x_getR dX7_same_66 flX7_31 rfl rfl (hR 0 3 19 rfl) ?_
    refine x_aload_n dX7_same_69 0 rfl rfl ?_
    refine x_getR dX7_same_70 flX7_50 rfl rfl (hR 0 4 42 rfl) ?_
    refine x_iload_n dX7_same_73 3 rfl rfl ?_
    refine x_callVi (as := [_, _]) dX7_same_74 lvX7_237 rfl rfl rfl rfl rfl rfl rfl ⟨rfl, rfl⟩ (s_X6_mustBe2 hR hp hn3 hn2 (by omega)) (fun z74 I74 L74 R74 hq74 => ?_)
    obtain ⟨rfl, rfl, rfl, rfl⟩ := hq74
    refine x_iload_n dX7_same_77 2 rfl rfl ?_
    refine x_callSi (as := [_, _]) dX7_same_78 lvX7_280 rfl rfl rfl rfl ⟨rfl, rfl⟩ (s_X7_walkersIn (by omega)) (fun z78 I78 L78 R78 hq78 => ?_)
    obtain ⟨rfl, rfl, rfl, rfl⟩ := hq78
    refine x_putI dX7_same_81 flX7_186 rfl rfl rfl ?_
    refine x_aload_n dX7_same_84 0 rfl rfl ?_
    refine x_getR dX7_same_85 flX7_31 rfl rfl (hR 0 3 19 rfl) ?_
    refine x_aload_n dX7_same_88 0 rfl rfl ?_
    refine x_getR dX7_same_89 flX7_50 rfl rfl (hR 0 4 42 rfl) ?_
    refine x_iload_n dX7_same_92 3 rfl rfl ?_
    refine x_callVi (as := [_, _]) dX7_same_93 lvX7_245 rfl rfl rfl rfl rfl rfl rfl ⟨rfl, rfl⟩ (s_X6_mayBe2 hR hp (by rw [m_up_ne (by decide)]; exact hn3) hn2 (by omega)) (fun z93 I93 L93 R93 hq93 => ?_)
    obtain ⟨rfl, rfl, rfl, rfl⟩ := hq93
    refine x_iload_n dX7_same_96 2 rfl rfl ?_
    refine x_callSi (as := [_, _]) dX7_same_97 lvX7_280 rfl rfl rfl rfl ⟨rfl, rfl⟩ (s_X7_walkersIn (by omega)) (fun z97 I97 L97 R97 hq97 => ?_)
    obtain ⟨rfl, rfl, rfl, rfl⟩ := hq97
    refine x_iret dX7_same_100 rfl ?_
    rw [← hQ, x]
    refine ⟨_, rfl, ?_, ?_⟩
    · rw [mbF_c (fun i => by rw [m_up_ne (by decide)])]
      exact w.1
    · rw [w.2]
      exact tl
  refine x_aload_n dX7_same_0 0 rfl rfl ?_
  refine x_getR dX7_same_1 flX7_60 rfl rfl (hR 0 6 58 rfl) ?_
  refine x_iload_n dX7_same_4 1 rfl rfl ?_
  refine x_callVi (as := [_]) dX7_same_5 lvX7_147 rfl rfl rfl rfl rfl rfl rfl ⟨rfl, rfl⟩ (s_X2_names hn (by omega) (by omega)) (fun z5 I5 L5 R5 hq5 => ?_)
  obtain ⟨rfl, rfl, rfl, rfl⟩ := hq5
  refine y_ifb_ne (tgt := 13) dX7_same_8 (by decide) (fun h8 => ?_) (fun h8 => ?_)
  · refine x_aload_n dX7_same_13 0 rfl rfl ?_
    refine x_getR dX7_same_14 flX7_60 rfl rfl (hR 0 6 58 rfl) ?_
    refine x_iload_n dX7_same_17 1 rfl rfl ?_
    refine x_iconst dX7_same_18 ?_
    refine x_callVi (as := [_, _]) dX7_same_19 lvX7_152 rfl rfl rfl rfl rfl rfl rfl ⟨rfl, rfl⟩ (s_X2_isOf hn (by omega) (evf (by omega) (by omega)).2 (by omega)) (fun z19 I19 L19 R19 hq19 => ?_)
    obtain ⟨rfl, rfl, rfl, rfl⟩ := hq19
    refine y_ifb_ne (tgt := 31) dX7_same_22 (by decide) (fun h22 => ?_) (fun h22 => ?_)
    · refine x_aload_n dX7_same_31 0 rfl rfl ?_
      refine x_callVi (as := []) dX7_same_32 lvX7_205 rfl rfl rfl rfl rfl rfl rfl ⟨rfl, rfl⟩ (s_X7_knowsWays co0 cc0) (fun z32 I32 L32 R32 hq32 => ?_)
      obtain ⟨rfl, co1, cc1, kw, hK⟩ := hq32
      refine y_ifb_ne (tgt := 44) dX7_same_35 (by decide) (fun h35 => ?_) (fun h35 => ?_)
      · exact body _ _ _ co1 cc1 (kw (by assumption)).1 (kw (by assumption)).2 (by assumption) (by omega) (by have := (evf (by omega) (by omega)).1; omega)
      · refine x_aload_n dX7_same_38 0 rfl rfl ?_
        refine x_iconst dX7_same_39 ?_
        refine x_callVi (as := [_]) dX7_same_40 lvX7_79 rfl rfl rfl rfl rfl rfl rfl ⟨rfl, rfl⟩ (s_X7_found co1.1 (by omega)) (fun z40 I40 L40 R40 hq40 => ?_)
        obtain ⟨rfl, rfl, rfl, rfl⟩ := hq40
        refine x_iret dX7_same_43 rfl ?_
        rw [← hQ]
        first
        | (have x : s_same e M = (-1, M) := by
             unfold s_same
             exact if_pos (by omega)
           rw [x]
           exact ⟨_, rfl, rfl, co0, cc0⟩)
        | (have z := mt_ok co1 cc1 (f := 4) (by omega)
           have v := (evf (by omega) (by omega)).1
           have x : s_same e M = (-3, a_mt M 4) := by
             unfold s_same
             rw [if_neg (by omega), if_neg (by omega), if_pos (bf (by assumption))]
           rw [x]
           exact ⟨_, rfl, rfl, z.1, z.2⟩)
        | (have z := mt_ok co0 cc0 (f := 3) (by omega)
           have v := (evf (by omega) (by omega)).1
           have x : s_same e M = (-3, a_mt M 3) := by
             unfold s_same
             rw [if_neg (by omega), if_pos (by omega)]
           rw [x]
           exact ⟨_, rfl, rfl, z.1, z.2⟩)
    · refine x_aload_n dX7_same_25 0 rfl rfl ?_
      refine x_iconst dX7_same_26 ?_
      refine x_callVi (as := [_]) dX7_same_27 lvX7_79 rfl rfl rfl rfl rfl rfl rfl ⟨rfl, rfl⟩ (s_X7_found co0.1 (by omega)) (fun z27 I27 L27 R27 hq27 => ?_)
      obtain ⟨rfl, rfl, rfl, rfl⟩ := hq27
      refine x_iret dX7_same_30 rfl ?_
      rw [← hQ]
      first
      | (have x : s_same e M = (-1, M) := by
           unfold s_same
           exact if_pos (by omega)
         rw [x]
         exact ⟨_, rfl, rfl, co0, cc0⟩)
      | (have z := mt_ok co1 cc1 (f := 4) (by omega)
         have v := (evf (by omega) (by omega)).1
         have x : s_same e M = (-3, a_mt M 4) := by
           unfold s_same
           rw [if_neg (by omega), if_neg (by omega), if_pos (bf (by assumption))]
         rw [x]
         exact ⟨_, rfl, rfl, z.1, z.2⟩)
      | (have z := mt_ok co0 cc0 (f := 3) (by omega)
         have v := (evf (by omega) (by omega)).1
         have x : s_same e M = (-3, a_mt M 3) := by
           unfold s_same
           rw [if_neg (by omega), if_pos (by omega)]
         rw [x]
         exact ⟨_, rfl, rfl, z.1, z.2⟩)
  · refine x_iconst dX7_same_11 ?_
    refine x_iret dX7_same_12 rfl ?_
    rw [← hQ]
    first
    | (have x : s_same e M = (-1, M) := by
         unfold s_same
         exact if_pos (by omega)
       rw [x]
       exact ⟨_, rfl, rfl, co0, cc0⟩)
    | (have z := mt_ok co1 cc1 (f := 4) (by omega)
       have v := (evf (by omega) (by omega)).1
       have x : s_same e M = (-3, a_mt M 4) := by
         unfold s_same
         rw [if_neg (by omega), if_neg (by omega), if_pos (bf (by assumption))]
       rw [x]
       exact ⟨_, rfl, rfl, z.1, z.2⟩)
    | (have z := mt_ok co0 cc0 (f := 3) (by omega)
       have v := (evf (by omega) (by omega)).1
       have x : s_same e M = (-3, a_mt M 3) := by
         unfold s_same
         rw [if_neg (by omega), if_pos (by omega)]
       rw [x]
       exact ⟨_, rfl, rfl, z.1, z.2⟩)
theorem s_X7_passes {d : Int} (co0 : CO I L R M N h h') (cc0 : CC I L R M h) (hd : rI d) : Sp G mtX7_passes [mr 0, mi d] shX I L R (qi (fun z I' L' R' => z = (s_passes d M).1 ∧ CO I' L' R' (s_passes d M).2 N h h' ∧ CC I' L' R' (s_passes d M).2 h)) := by
  refine Sp.of pnX7_passes rfl ?_
  show Rn G mtX7_passes _ 0 [(0, mr 0), (1, mi d)] [] shX I L R
  generalize hQ : (qi (fun z I' L' R' => z = (s_passes d M).1 ∧ CO I' L' R' (s_passes d M).2 N h h' ∧ CC I' L' R' (s_passes d M).2 h)) = Q
  have hR := co0.1
  have r8 := co0.2.1.1
  have r9 := co0.2.1.2.1
  have h32 := co0.h32
  have hh := hR.h h32
  obtain ⟨iH, iE, iL, iR, iT⟩ := co0.2.2.2.2.1
  have hrl := co0.2.2.2.2.2.1.1
  have q0 := hrl.1
  have q1 := hrl.2.1
  have q2 := hrl.2.2.1
  have q3 := hrl.2.2.2.1
  have b0 := iH.1
  have b1 := iH.2.1
  have b2 := iH.2.2.1
  have b3 := iH.2.2.2.1
  have body : ∀ J K S, CO J K S M N h h' → CC J K S M h → J 0 10 = 1 → J 0 11 = 1 → okA M = true → (0 ≤ d ∧ d < M 0 12) → Rn G mtX7_passes Q 26 [(0, mr 0), (1, mi d)] [] shX J K S := by
    intro J K S co cc h10 h11 hok g0
    have hR := co.1
    have r8 := co.2.1.1
    have r9 := co.2.1.2.1
    have hh := hR.h h32
    obtain ⟨na, nb, nk, tw⟩ := co.2.2.1
    obtain ⟨m12, m15⟩ := co.2.2.2.1
    obtain ⟨c1, c2, n, c3, c4, -, c6⟩ := cc.2 h10
    obtain ⟨fit, st, nt⟩ := c6 h11
    have hp := hR.p (Or.inl rfl)
    have hn3 : J 42 3 = (n : Int) := c3.1.1.2.2.2.2.1
    have hn2 := (PQ_n c3.1.1).2
    have hus := PK_us c3.1
    have h34 := c3.1.2.2.2.1
    have hl : ((lst (kM M) : Nat) : Int) = M 0 14 := KA_lst iH
    have hu : ((us (kM M) : Nat) : Int) = M 0 13 := KA_us iH
    have k11 : kM M 0 11 = M 0 11 := kap_per (by unfold per; omega)
    have j0 : J h 0 = M 0 11 := co.2.2.2.2.2.1.1.1
    have j1 : J h 1 = M 0 12 := co.2.2.2.2.2.1.1.2.1
    have j3 : J h 3 = M 0 14 := co.2.2.2.2.2.1.1.2.2.2.1
    obtain ⟨dn, rfl⟩ : ∃ dn : Nat, d = (dn : Int) := ⟨d.toNat, by omega⟩
    have w := mn_eq (I := J) (d := dn) c3.1.2.1 c3.1.2.2.1 nt (by omega)
    have jl : J h 3 = ((lst (kM M) : Nat) : Int) := j3.trans hl.symm
    have x : s_passes (dn : Int) M = (pmn (kM M) (dn : Int), a_tl M (pmx (kM M) (dn : Int))) := by
      unfold s_passes
      rw [if_neg (by omega), if_neg (by rw [hok]; exact fun z => Bool.noConfusion z)]
      rfl
    have tl := tl_ok co cc (pmx (kM M) (dn : Int))
    refine x_aload_n dX7_passes_26 0 rfl rfl ?_
    refine x_aload_n dX7_passes_27 0 rfl rfl ?_
    refine x_getR dX7_passes_28 flX7_31 rfl rfl (hR 0 3 19 rfl) ?_
    refine x_aload_n dX7_passes_31 0 rfl rfl ?_
    refine x_getR dX7_passes_32 flX7_31 rfl rfl (hR 0 3 19 rfl) ?_
    refine x_getR dX7_passes_35 flX7_283 rfl rfl (hR 19 5 28 rfl) ?_
    refine x_iload_n dX7_passes_38 1 rfl rfl ?_
    refine x_aload_n dX7_passes_39 0 rfl rfl ?_
    refine x_getR dX7_passes_40 flX7_38 rfl rfl r8 ?_
    refine x_getI dX7_passes_43 flX7_208 (shH0 hh) rfl ?_
    rw [jl]
    refine x_callVi (as := [_, _, _]) dX7_passes_46 lvX7_286 rfl rfl rfl rfl rfl rfl rfl ⟨rfl, rfl⟩ (s_X6_minutesOf (c := 28) (Or.inr rfl) (by omega) (by omega)) (fun z46 I46 L46 R46 hq46 => ?_)
    obtain ⟨rfl, rfl, rfl, rfl⟩ := hq46
    refine x_putI dX7_passes_49 flX7_186 rfl rfl rfl ?_
    refine x_aload_n dX7_passes_52 0 rfl rfl ?_
    refine x_getR dX7_passes_53 flX7_31 rfl rfl (hR 0 3 19 rfl) ?_
    refine x_aload_n dX7_passes_56 0 rfl rfl ?_
    refine x_getR dX7_passes_57 flX7_31 rfl rfl (hR 0 3 19 rfl) ?_
    refine x_getR dX7_passes_60 flX7_289 rfl rfl (hR 19 4 27 rfl) ?_
    refine x_iload_n dX7_passes_63 1 rfl rfl ?_
    refine x_aload_n dX7_passes_64 0 rfl rfl ?_
    refine x_getR dX7_passes_65 flX7_38 rfl rfl r8 ?_
    refine y_getI dX7_passes_68 flX7_208 (shH0 hh) rfl (m_up_ne (by omega) _) ?_
    rw [jl]
    refine x_callVi (as := [_, _, _]) dX7_passes_71 lvX7_286 rfl rfl rfl rfl rfl rfl rfl ⟨rfl, rfl⟩ (s_X6_minutesOf (c := 27) (Or.inl rfl) (by omega) (by omega)) (fun z71 I71 L71 R71 hq71 => ?_)
    obtain ⟨rfl, rfl, rfl, rfl⟩ := hq71
    refine x_iret dX7_passes_74 rfl ?_
    rw [← hQ, x]
    refine ⟨_, rfl, ?_, ?_⟩
    · have e : mnX (m_up J 0 13 (mnX J 28 (dn : Int) (lst (kM M)))) 27 (dn : Int) (lst (kM M)) = mnX J 27 (dn : Int) (lst (kM M)) := by
        unfold mnX
        simp only [m_up_ne (show (27 : Nat) ≠ 0 by decide)]
      rw [e]
      exact w.1
    · rw [w.2]
      exact tl
  refine x_aload_n dX7_passes_0 0 rfl rfl ?_
  refine x_getR dX7_passes_1 flX7_38 rfl rfl r8 ?_
  refine x_iload_n dX7_passes_4 1 rfl rfl ?_
  refine x_callVi (as := [_]) dX7_passes_5 lvX7_164 rfl (shH0 hh) rfl rfl rfl rfl rfl ⟨rfl, rfl⟩ (s_X0_hasDoor hh (by omega) (by omega)) (fun z5 I5 L5 R5 hq5 => ?_)
  obtain ⟨rfl, rfl, rfl, rfl⟩ := hq5
  refine y_ifb_ne (tgt := 13) dX7_passes_8 (by decide) (fun h8 => ?_) (fun h8 => ?_)
  · refine x_aload_n dX7_passes_13 0 rfl rfl ?_
    refine x_callVi (as := []) dX7_passes_14 lvX7_205 rfl rfl rfl rfl rfl rfl rfl ⟨rfl, rfl⟩ (s_X7_knowsWays co0 cc0) (fun z14 I14 L14 R14 hq14 => ?_)
    obtain ⟨rfl, co1, cc1, kw, hK⟩ := hq14
    refine y_ifb_ne (tgt := 26) dX7_passes_17 (by decide) (fun h17 => ?_) (fun h17 => ?_)
    · exact body _ _ _ co1 cc1 (kw (by assumption)).1 (kw (by assumption)).2 (by assumption) (by omega)
    · refine x_aload_n dX7_passes_20 0 rfl rfl ?_
      refine x_iconst dX7_passes_21 ?_
      refine x_callVi (as := [_]) dX7_passes_22 lvX7_79 rfl rfl rfl rfl rfl rfl rfl ⟨rfl, rfl⟩ (s_X7_found co1.1 (by omega)) (fun z22 I22 L22 R22 hq22 => ?_)
      obtain ⟨rfl, rfl, rfl, rfl⟩ := hq22
      refine x_iret dX7_passes_25 rfl ?_
      rw [← hQ]
      first
      | (have e : s_passes d M = (-1, M) := by
           unfold s_passes
           exact if_pos (by omega)
         rw [e]
         exact ⟨_, rfl, rfl, co0, cc0⟩)
      | (have e : s_passes d M = (-3, a_mt M 4) := by
           unfold s_passes
           rw [if_neg (by omega), if_pos (bf (by assumption))]
         rw [e]
         have z := mt_ok co1 cc1 (f := 4) (by omega)
         exact ⟨_, rfl, rfl, z.1, z.2⟩)
  · refine x_iconst dX7_passes_11 ?_
    refine x_iret dX7_passes_12 rfl ?_
    rw [← hQ]
    first
    | (have e : s_passes d M = (-1, M) := by
         unfold s_passes
         exact if_pos (by omega)
       rw [e]
       exact ⟨_, rfl, rfl, co0, cc0⟩)
    | (have e : s_passes d M = (-3, a_mt M 4) := by
         unfold s_passes
         rw [if_neg (by omega), if_pos (bf (by assumption))]
       rw [e]
       have z := mt_ok co1 cc1 (f := 4) (by omega)
       exact ⟨_, rfl, rfl, z.1, z.2⟩)
theorem s_X7_met {w o : Int} (co0 : CO I L R M N h h') (cc0 : CC I L R M h) (hw : rI w) (ho : rI o) : Sp G mtX7_met [mr 0, mi w, mi o] shX I L R (qi (fun z I' L' R' => z = (s_met w o M).1 ∧ CO I' L' R' (s_met w o M).2 N h h' ∧ CC I' L' R' (s_met w o M).2 h)) := by
  refine Sp.of pnX7_met rfl ?_
  show Rn G mtX7_met _ 0 [(0, mr 0), (1, mi w), (2, mi o)] [] shX I L R
  generalize hQ : (qi (fun z I' L' R' => z = (s_met w o M).1 ∧ CO I' L' R' (s_met w o M).2 N h h' ∧ CC I' L' R' (s_met w o M).2 h)) = Q
  have hR := co0.1
  have r8 := co0.2.1.1
  have r9 := co0.2.1.2.1
  have h32 := co0.h32
  have hh := hR.h h32
  obtain ⟨iH, iE, iL, iR, iT⟩ := co0.2.2.2.2.1
  have hrl := co0.2.2.2.2.2.1.1
  have q0 := hrl.1
  have q1 := hrl.2.1
  have q2 := hrl.2.2.1
  have q3 := hrl.2.2.2.1
  have b0 := iH.1
  have b1 := iH.2.1
  have b2 := iH.2.2.1
  have b3 := iH.2.2.2.1
  have body : ∀ J K S, CO J K S M N h h' → CC J K S M h → J 0 10 = 1 → J 0 11 = 1 → okA M = true → (0 ≤ w ∧ w < M 0 13) → (0 ≤ o ∧ o < M 0 13) → w ≠ o → Rn G mtX7_met Q 42 [(0, mr 0), (1, mi w), (2, mi o)] [] shX J K S := by
    intro J K S co cc h10 h11 hok g0 g1 g2
    have hR := co.1
    have r8 := co.2.1.1
    have r9 := co.2.1.2.1
    have hh := hR.h h32
    obtain ⟨na, nb, nk, tw⟩ := co.2.2.1
    obtain ⟨m12, m15⟩ := co.2.2.2.1
    obtain ⟨c1, c2, n, c3, c4, -, c6⟩ := cc.2 h10
    obtain ⟨fit, st, nt⟩ := c6 h11
    have hp := hR.p (Or.inl rfl)
    have hn3 : J 42 3 = (n : Int) := c3.1.1.2.2.2.2.1
    have hn2 := (PQ_n c3.1.1).2
    have hus := PK_us c3.1
    have h34 := c3.1.2.2.2.1
    have hl : ((lst (kM M) : Nat) : Int) = M 0 14 := KA_lst iH
    have hu : ((us (kM M) : Nat) : Int) = M 0 13 := KA_us iH
    have k11 : kM M 0 11 = M 0 11 := kap_per (by unfold per; omega)
    have j0 : J h 0 = M 0 11 := co.2.2.2.2.2.1.1.1
    have j1 : J h 1 = M 0 12 := co.2.2.2.2.2.1.1.2.1
    have j3 : J h 3 = M 0 14 := co.2.2.2.2.2.1.1.2.2.2.1
    obtain ⟨wn, rfl⟩ : ∃ wn : Nat, w = (wn : Int) := ⟨w.toNat, by omega⟩
    obtain ⟨on, rfl⟩ : ∃ on : Nat, o = (on : Int) := ⟨o.toNat, by omega⟩
    obtain ⟨v, hv⟩ : ∃ v, v = meF (kM M) wn on (lst (kM M) + 1) 0 := ⟨_, rfl⟩
    have hvr := meF_r (kM M) wn on (lst (kM M) + 1) 0
    rw [← hv] at hvr
    have x : s_met (wn : Int) (on : Int) M = (if v = -9 then 0 else if anv (cmV (kM M) wn on (lst (kM M))) (nst (kM M)) then 1 else 2, a_tl M v) := by
      unfold s_met
      rw [if_neg (by omega), if_neg (by rw [hok]; exact fun z => Bool.noConfusion z), show (M 0 14 + 1).toNat = lst (kM M) + 1 by omega, show (M 0 14).toNat = lst (kM M) by omega, Int.toNat_natCast, Int.toNat_natCast, hv]
      rfl
    have at59 : ∀ S2, S2 = m_up S 19 9 (some 42) → Rn G mtX7_met Q 59 [(0, mr 0), (1, mi (wn : Int)), (2, mi (on : Int))] [] shX (m_up J 0 13 v) K S2 := by
      intro S2 hS2
      have r0 : RFw S S2 := by rw [hS2]; exact (RFw.rf S).up (by omega) _
      have tl := tl_ok co cc v
      have tw2 : tW S2 na nb nk := by
        rw [hS2]
        unfold tW
        rw [m_up_nj (by decide), m_up_nj (by decide), m_up_nj (by decide)]
        exact tw
      have co3 : CO (m_up J 0 13 v) K S2 (a_tl M v) N h h' := tl.1.fr (KO.rf _) (fun _ _ => rfl) (r0.ok hR) (r0 0 8 (by decide)) (r0 0 9 (by decide)) ⟨na, nb, nk, tw2⟩ tl.1.2.2.2.1
      have cc3 : CC (m_up J 0 13 v) K S2 (a_tl M v) h := tl.2.fr (fun _ _ _ => rfl) (fun _ _ => rfl) (r0 42 0 (by decide)) (fun _ => rfl)
      have jn : ∀ c i, c ≠ 0 → m_up J 0 13 v c i = J c i := fun c i q => m_up_ne q i
      have c3' : PKR (m_up J 0 13 v) 42 h n (kM M) := PKR_f (fun c i q => jn c i (by omega)) c3
      have st' : SETS (kM M) (m_up J 0 13 v) K 42 h n := fun t ht j hj => by
        rw [sgX_f (fun c i q => jn c i (by omega))]
        exact st t ht j hj
      have hR := r0.ok hR
      have hp := hR.p (Or.inl rfl)
      have hh := hR.h h32
      have c1 := (r0 42 0 (by decide)).trans c1
      have m12 : rI (m_up J 0 13 v 19 12) := by rw [m_up_ne (by decide)]; exact m12
      have sa := s_X6_stayApart (G := G) (L := K) hR tw2 hp c1 hh c3' m12 st' (w := wn) (o := on) (by omega) (by omega)
      refine x_aload_n dX7_met_59 0 rfl rfl ?_
      refine x_getI dX7_met_60 flX7_186 rfl rfl ?_
      rw [m_up_eq]
      refine x_bipush dX7_met_63 (by decide) ?_
      refine x_ic_ne (tgt := 70) dX7_met_65 (by decide) (by first | omega | exact z_and_r _ _ | exact z_shl_r _ _) (fun h65 => ?_) (fun h65 => ?_)
      · refine x_aload_n dX7_met_70 0 rfl rfl ?_
        refine x_getR dX7_met_71 flX7_31 rfl rfl (hR 0 3 19 rfl) ?_
        refine x_aload_n dX7_met_74 0 rfl rfl ?_
        refine x_getR dX7_met_75 flX7_50 rfl rfl (hR 0 4 42 rfl) ?_
        refine x_iload_n dX7_met_78 1 rfl rfl ?_
        refine x_iload_n dX7_met_79 2 rfl rfl ?_
        refine x_callVi (as := [_, _, _]) dX7_met_80 lvX7_254 rfl rfl rfl rfl rfl rfl rfl ⟨rfl, rfl⟩ (sa) (fun z80 I80 L80 R80 hq80 => ?_)
        obtain ⟨rfl, w80⟩ := hq80
        refine y_ifb_eq (tgt := 90) dX7_met_83 (by decide) (fun h83 => ?_) (fun h83 => ?_)
        · refine x_iconst dX7_met_90 ?_
          refine x_iret dX7_met_91 rfl ?_
          rw [← hQ, x]
          first
          | (refine ⟨_, rfl, ?_, co3, cc3⟩
             rw [if_pos (by assumption)])
          | (refine ⟨_, rfl, ?_, co3.wp w80, cc3.wp h32 w80⟩
             rw [if_neg (by assumption), if_pos (by assumption)])
          | (refine ⟨_, rfl, ?_, co3.wp w80, cc3.wp h32 w80⟩
             rw [if_neg (by assumption), if_neg (by assumption)])
        · refine x_iconst dX7_met_86 ?_
          refine x_goto (tgt := 91) dX7_met_87 (by decide) ?_
          refine x_iret dX7_met_91 rfl ?_
          rw [← hQ, x]
          first
          | (refine ⟨_, rfl, ?_, co3, cc3⟩
             rw [if_pos (by assumption)])
          | (refine ⟨_, rfl, ?_, co3.wp w80, cc3.wp h32 w80⟩
             rw [if_neg (by assumption), if_pos (by assumption)])
          | (refine ⟨_, rfl, ?_, co3.wp w80, cc3.wp h32 w80⟩
             rw [if_neg (by assumption), if_neg (by assumption)])
      · refine x_iconst dX7_met_68 ?_
        refine x_iret dX7_met_69 rfl ?_
        rw [← hQ, x]
        first
        | (refine ⟨_, rfl, ?_, co3, cc3⟩
           rw [if_pos (by assumption)])
        | (refine ⟨_, rfl, ?_, co3.wp w80, cc3.wp h32 w80⟩
           rw [if_neg (by assumption), if_pos (by assumption)])
        | (refine ⟨_, rfl, ?_, co3.wp w80, cc3.wp h32 w80⟩
           rw [if_neg (by assumption), if_neg (by assumption)])
    refine x_aload_n dX7_met_42 0 rfl rfl ?_
    refine x_aload_n dX7_met_43 0 rfl rfl ?_
    refine x_getR dX7_met_44 flX7_31 rfl rfl (hR 0 3 19 rfl) ?_
    refine x_aload_n dX7_met_47 0 rfl rfl ?_
    refine x_getR dX7_met_48 flX7_50 rfl rfl (hR 0 4 42 rfl) ?_
    refine x_iload_n dX7_met_51 1 rfl rfl ?_
    refine x_iload_n dX7_met_52 2 rfl rfl ?_
    refine x_callVi (as := [_, _, _]) dX7_met_53 lvX7_251 rfl rfl rfl rfl rfl rfl rfl ⟨rfl, rfl⟩ (s_X6_firstMeeting hR tw hp c1 hh c3 st (by omega) (by omega)) (fun z53 I53 L53 R53 hq53 => ?_)
    obtain ⟨z53, rfl, rfl, w53⟩ := hq53
    refine x_putI dX7_met_56 flX7_186 rfl rfl rfl ?_
    rw [z53, ← hv]
    exact at59 _ w53
  refine x_aload_n dX7_met_0 0 rfl rfl ?_
  refine x_getR dX7_met_1 flX7_38 rfl rfl r8 ?_
  refine x_iload_n dX7_met_4 1 rfl rfl ?_
  refine x_callVi (as := [_]) dX7_met_5 lvX7_170 rfl (shH0 hh) rfl rfl rfl rfl rfl ⟨rfl, rfl⟩ (s_X0_hasWalker hh (by omega) (by omega)) (fun z5 I5 L5 R5 hq5 => ?_)
  obtain ⟨rfl, rfl, rfl, rfl⟩ := hq5
  refine y_ifb_eq (tgt := 27) dX7_met_8 (by decide) (fun h8 => ?_) (fun h8 => ?_)
  · refine x_iconst dX7_met_27 ?_
    refine x_iret dX7_met_28 rfl ?_
    rw [← hQ]
    first
    | (have e : s_met w o M = (-1, M) := by
         unfold s_met
         exact if_pos (by omega)
       rw [e]
       exact ⟨_, rfl, rfl, co0, cc0⟩)
    | (have e : s_met w o M = (-3, a_mt M 4) := by
         unfold s_met
         rw [if_neg (by omega), if_pos (bf (by assumption))]
       rw [e]
       have z := mt_ok co1 cc1 (f := 4) (by omega)
       exact ⟨_, rfl, rfl, z.1, z.2⟩)
  · refine x_aload_n dX7_met_11 0 rfl rfl ?_
    refine x_getR dX7_met_12 flX7_38 rfl rfl r8 ?_
    refine x_iload_n dX7_met_15 2 rfl rfl ?_
    refine x_callVi (as := [_]) dX7_met_16 lvX7_170 rfl (shH0 hh) rfl rfl rfl rfl rfl ⟨rfl, rfl⟩ (s_X0_hasWalker hh (by omega) (by omega)) (fun z16 I16 L16 R16 hq16 => ?_)
    obtain ⟨rfl, rfl, rfl, rfl⟩ := hq16
    refine y_ifb_eq (tgt := 27) dX7_met_19 (by decide) (fun h19 => ?_) (fun h19 => ?_)
    · refine x_iconst dX7_met_27 ?_
      refine x_iret dX7_met_28 rfl ?_
      rw [← hQ]
      first
      | (have e : s_met w o M = (-1, M) := by
           unfold s_met
           exact if_pos (by omega)
         rw [e]
         exact ⟨_, rfl, rfl, co0, cc0⟩)
      | (have e : s_met w o M = (-3, a_mt M 4) := by
           unfold s_met
           rw [if_neg (by omega), if_pos (bf (by assumption))]
         rw [e]
         have z := mt_ok co1 cc1 (f := 4) (by omega)
         exact ⟨_, rfl, rfl, z.1, z.2⟩)
    · refine x_iload_n dX7_met_22 1 rfl rfl ?_
      refine x_iload_n dX7_met_23 2 rfl rfl ?_
      refine x_ic_ne (tgt := 29) dX7_met_24 (by decide) (by first | omega | exact z_and_r _ _ | exact z_shl_r _ _) (fun h24 => ?_) (fun h24 => ?_)
      · refine x_aload_n dX7_met_29 0 rfl rfl ?_
        refine x_callVi (as := []) dX7_met_30 lvX7_205 rfl rfl rfl rfl rfl rfl rfl ⟨rfl, rfl⟩ (s_X7_knowsWays co0 cc0) (fun z30 I30 L30 R30 hq30 => ?_)
        obtain ⟨rfl, co1, cc1, kw, hK⟩ := hq30
        refine y_ifb_ne (tgt := 42) dX7_met_33 (by decide) (fun h33 => ?_) (fun h33 => ?_)
        · exact body _ _ _ co1 cc1 (kw (by assumption)).1 (kw (by assumption)).2 (by assumption) (by omega) (by omega) (by omega)
        · refine x_aload_n dX7_met_36 0 rfl rfl ?_
          refine x_iconst dX7_met_37 ?_
          refine x_callVi (as := [_]) dX7_met_38 lvX7_79 rfl rfl rfl rfl rfl rfl rfl ⟨rfl, rfl⟩ (s_X7_found co1.1 (by omega)) (fun z38 I38 L38 R38 hq38 => ?_)
          obtain ⟨rfl, rfl, rfl, rfl⟩ := hq38
          refine x_iret dX7_met_41 rfl ?_
          rw [← hQ]
          first
          | (have e : s_met w o M = (-1, M) := by
               unfold s_met
               exact if_pos (by omega)
             rw [e]
             exact ⟨_, rfl, rfl, co0, cc0⟩)
          | (have e : s_met w o M = (-3, a_mt M 4) := by
               unfold s_met
               rw [if_neg (by omega), if_pos (bf (by assumption))]
             rw [e]
             have z := mt_ok co1 cc1 (f := 4) (by omega)
             exact ⟨_, rfl, rfl, z.1, z.2⟩)
      · refine x_iconst dX7_met_27 ?_
        refine x_iret dX7_met_28 rfl ?_
        rw [← hQ]
        first
        | (have e : s_met w o M = (-1, M) := by
             unfold s_met
             exact if_pos (by omega)
           rw [e]
           exact ⟨_, rfl, rfl, co0, cc0⟩)
        | (have e : s_met w o M = (-3, a_mt M 4) := by
             unfold s_met
             rw [if_neg (by omega), if_pos (bf (by assumption))]
           rw [e]
           have z := mt_ok co1 cc1 (f := 4) (by omega)
           exact ⟨_, rfl, rfl, z.1, z.2⟩)
end

/-! THE CLASS'S FACE: third, chance, likely, ways, still. -/
section
variable {I L M N : MI} {R : MR} {h h' : Nat}
/-- a part told, on both sides -/
theorem fr_ok (co : CO I L R M N h h') (cc : CC I L R M h) (u l : Int) : CO I (tpL u l L) R M (frT u l N) h h' ∧ CC I (tpL u l L) R M h := by
  refine ⟨?_, cc.fr (fun _ _ _ => rfl) (fun _ _ => rfl) rfl (fun i => by unfold tpL; rw [m_up_ne (by decide), m_up_ne (by decide)])⟩
  obtain ⟨q1, q2, q5, q6, q7, q8, q9, q10, q11, q12, q15⟩ := co
  refine ⟨q1, q2, q5, q6, q7, q8, q9, q10, q11, q12, ?_, ?_, ?_⟩
  · unfold tpL frT
    rw [m_up_nj (by decide), m_up_nj (by decide), m_up_nj (by decide), m_up_nj (by decide)]
    exact q15.1
  · unfold tpL frT
    rw [m_up_nj (by decide), m_up_eq, m_up_nj (by decide), m_up_eq]
  · unfold tpL frT
    rw [m_up_eq, m_up_eq]
theorem many_ok (co : CO I L R M N h h') (cc : CC I L R M h) (v : Int) : CO I (m_up L 0 16 v) R M (m_up N 0 3 v) h h' ∧ CC I (m_up L 0 16 v) R M h := by
  refine ⟨?_, cc.fr (fun _ _ _ => rfl) (fun _ _ => rfl) rfl (fun i => by rw [m_up_ne (by decide)])⟩
  obtain ⟨q1, q2, q5, q6, q7, q8, q9, q10, q11, q12, q15⟩ := co
  refine ⟨q1, q2, q5, q6, q7, q8, q9, q10, q11, q12, ?_, ?_, ?_⟩
  · rw [m_up_eq, m_up_eq]
  · rw [m_up_nj (by decide), m_up_nj (by decide)]; exact q15.2.1
  · rw [m_up_nj (by decide), m_up_nj (by decide)]; exact q15.2.2
theorem part_le {κ : MI} (hH : iHs κ) (hS : iSc κ) {t : Nat} (ht : t ≤ lst κ) (ha : aw κ ≤ 1000000000000000) : (∀ r, chS κ r t (nst κ) ≤ aw κ) ∧ ∀ w r, lkS κ w t r (nst κ) ≤ aw κ := by
  obtain ⟨hW, hw⟩ := wyB_x hH hS ht ha
  have h8 : Wx κ t = smi (fun s => wyB κ t s) (nst κ) := smi_cg _ (fun i hi => ((hw i hi).1).symm)
  rw [h8] at hW
  constructor
  · intro r
    rw [chS_smi, ← hW]
    exact smi_le _ (fun i hi => by have := (hw i hi).2.1; split <;> omega)
  · intro w r
    rw [lkS_smi, ← hW]
    exact smi_le _ (fun i hi => by have := (hw i hi).2.1; split <;> omega)
/-- nobody is where there is no room -/
theorem lkS_0 {J κ : MI} {p x n : Nat} (k : PKR J p x n κ) {t w r : Nat} (ht : t ≤ lst κ) (hw : w < us κ) (hr : ¬ (r : Int) < κ 0 11) : lkS κ w t r (nst κ) = 0 := by
  rw [lkS_smi]
  have e : smi (fun s => if rm s w = r then wyB κ t s else 0) (nst κ) = smi (fun _ => 0) (nst κ) := smi_cg _ (fun s hs => by
    show (if rm s w = r then wyB κ t s else 0) = 0
    split
    · rename_i q
      unfold wyB
      split
      · rename_i ha
        have := (al_room k ht hs ha hw).1
        omega
      · rfl
    · rfl)
  rw [e]
  have : ∀ m, smi (fun _ => (0 : Int)) m = 0 := fun m => by
    induction m with
    | zero => rfl
    | succ m ih => unfold smi; rw [ih]; rfl
  exact this _
end
section
variable {G : GT} {I L M N : MI} {R : MR} {h h' : Nat}

theorem s_X7_chance {r t : Int} (co0 : CO I L R M N h h') (cc0 : CC I L R M h) (hr : rI r) (ht : rI t) : Sp G mtX7_chance [mr 0, mi r, mi t] shX I L R (qi (fun z I' L' R' => z = (s_chance r t M).1 ∧ CO I' L' R' (s_chance r t M).2 (l_chance r t M N) h h' ∧ CC I' L' R' (s_chance r t M).2 h)) := by
  refine Sp.of pnX7_chance rfl ?_
  show Rn G mtX7_chance _ 0 [(0, mr 0), (1, mi r), (2, mi t)] [] shX I L R
  generalize hQ : (qi (fun z I' L' R' => z = (s_chance r t M).1 ∧ CO I' L' R' (s_chance r t M).2 (l_chance r t M N) h h' ∧ CC I' L' R' (s_chance r t M).2 h)) = Q
  have hR := co0.1
  have r8 := co0.2.1.1
  have r9 := co0.2.1.2.1
  have h32 := co0.h32
  have hh := hR.h h32
  obtain ⟨iH, iE, iL, iR, iT⟩ := co0.2.2.2.2.1
  have hrl := co0.2.2.2.2.2.1.1
  have q0 := hrl.1
  have q1 := hrl.2.1
  have q2 := hrl.2.2.1
  have q3 := hrl.2.2.2.1
  have b0 := iH.1
  have b1 := iH.2.1
  have b2 := iH.2.2.1
  have b3 := iH.2.2.2.1
  have body : ∀ J K S, CO J K S M N h h' → CC J K S M h → J 0 10 = 1 → J 0 11 = 1 → okA M = true → (0 ≤ r ∧ r < M 0 11) → (0 ≤ t ∧ t ≤ M 0 14) → Rn G mtX7_chance Q 37 [(0, mr 0), (1, mi r), (2, mi t)] [] shX J K S := by
    intro J K S co cc h10 h11 hok g0 g1
    have hR := co.1
    have r8 := co.2.1.1
    have r9 := co.2.1.2.1
    have hh := hR.h h32
    obtain ⟨na, nb, nk, tw⟩ := co.2.2.1
    obtain ⟨m12, m15⟩ := co.2.2.2.1
    obtain ⟨c1, c2, n, c3, c4, -, c6⟩ := cc.2 h10
    obtain ⟨fit, st, nt⟩ := c6 h11
    have hp := hR.p (Or.inl rfl)
    have hn3 : J 42 3 = (n : Int) := c3.1.1.2.2.2.2.1
    have hn2 := (PQ_n c3.1.1).2
    have hus := PK_us c3.1
    have h34 := c3.1.2.2.2.1
    have hl : ((lst (kM M) : Nat) : Int) = M 0 14 := KA_lst iH
    have hu : ((us (kM M) : Nat) : Int) = M 0 13 := KA_us iH
    have k11 : kM M 0 11 = M 0 11 := kap_per (by unfold per; omega)
    have j0 : J h 0 = M 0 11 := co.2.2.2.2.2.1.1.1
    have j1 : J h 1 = M 0 12 := co.2.2.2.2.2.1.1.2.1
    have j3 : J h 3 = M 0 14 := co.2.2.2.2.2.1.1.2.2.2.1
    obtain ⟨rn, rfl⟩ : ∃ rn : Nat, r = (rn : Int) := ⟨r.toNat, by omega⟩
    obtain ⟨tn, rfl⟩ : ∃ tn : Nat, t = (tn : Int) := ⟨t.toNat, by omega⟩
    have at49 : ∀ J' K' S', ((RFw S S' ∧ FIw J J' ∧ (rI (J' 19 12) ∧ rI (J' 19 15)) ∧ (∀ c i, ¬ (c = 29 ∨ c = 30 ∨ c = 31) → K' c i = K c i)) ∧ ∃ na nb nk, isW S' 42 na nb nk ∧ S' 42 0 = some h ∧ isH S' h ∧ PKR J' 42 h n (kM M) ∧ (∀ x : Nat, x < n → K' na (x : Int) = FA (kM M) tn (sgX J' 42 h x)) ∧ ∀ x : Nat, x < n → K' nk (x : Int) = RA (kM M) tn (sgX J' 42 h x)) → Rn G mtX7_chance Q 49 [(0, mr 0), (1, mi (rn : Int)), (2, mi (tn : Int))] [] shX J' K' S' := by
      rintro J' K' S' ⟨⟨w1, w2, w3, w4⟩, na, nb, nk, hW, u1, u2, u3, u4, u5⟩
      have wp : WP J K S J' K' S' := ⟨w2, w3, fun c i q => w4 c i (by omega), w1, na, nb, nk, hW.t⟩
      have co2 := co.wp wp
      have cc2 := cc.wp h32 wp
      have hR := co2.1
      have r8 := co2.2.1.1
      have hh := hR.h h32
      have hp := hR.p (Or.inl rfl)
      have hn3 : J' 42 3 = (n : Int) := u3.1.1.2.2.2.2.1
      have j0 : J' h 0 = M 0 11 := co2.2.2.2.2.2.1.1.1
      have hv : ∀ x : Nat, x < n → 0 ≤ K' na (x : Int) ∧ K' na (x : Int) ≤ 1000000000000001 := fun x hx => by rw [u4 x hx]; exact FA_r _ _ _
      have hv2 : ∀ x : Nat, x < n → 0 ≤ K' nk (x : Int) ∧ K' nk (x : Int) ≤ 1000000000000001 := fun x hx => by rw [u5 x hx]; exact RA_r _ _ _
      have ws := wi_sum u3 (t := tn) (by have := (PK_last u3.1).1; omega) u4 u5
      have awr := awF_r (kM M) (nst (kM M))
      have awr2 : 0 ≤ aw (kM M) ∧ aw (kM M) ≤ 1000000000000001 := awr
      have cok := cnt_ok c3.1.2.1 c3.1.2.2.1 fit
      have ple := fun ha => part_le c3.1.2.1 c3.1.2.2.1 (t := tn) (by omega) ha
      refine x_aload_n dX7_chance_49 0 rfl rfl ?_
      refine x_getR dX7_chance_50 flX7_31 rfl rfl (hR 0 3 19 rfl) ?_
      refine x_aload_n dX7_chance_53 0 rfl rfl ?_
      refine x_getR dX7_chance_54 flX7_50 rfl rfl (hR 0 4 42 rfl) ?_
      refine x_iconst dX7_chance_57 ?_
      refine x_callVl (as := [_, _]) dX7_chance_58 lvX7_215 rfl rfl rfl rfl rfl rfl rfl ⟨rfl, rfl⟩ (s_X6_waysIn hW hp hn3 hn2 (by omega) hv hv2) (fun z58 I58 L58 R58 hq58 => ?_)
      obtain ⟨rfl, rfl, rfl, rfl⟩ := hq58
      rw [ws.1]
      refine x_lstore_n (lv' := [(0, _), (1, _), (2, _), (3, _)]) dX7_chance_61 rfl rfl rfl ?_
      refine x_lload_n dX7_chance_62 3 rfl rfl ?_
      refine x_ldc2 (1000000000000000) dX7_chance_63 lkX7_219 ?_
      refine x_lc_le (tgt := 73) dX7_chance_66 dX7_chance_67 (by decide) (by first | omega | exact z_and_r _ _ | exact z_shl_r _ _) (fun h66 => ?_) (fun h66 => ?_)
      · refine x_aload_n dX7_chance_73 0 rfl rfl ?_
        refine x_aload_n dX7_chance_74 0 rfl rfl ?_
        refine x_getR dX7_chance_75 flX7_31 rfl rfl (hR 0 3 19 rfl) ?_
        refine x_aload_n dX7_chance_78 0 rfl rfl ?_
        refine x_getR dX7_chance_79 flX7_50 rfl rfl (hR 0 4 42 rfl) ?_
        refine x_sipush dX7_chance_82 (by decide) ?_
        refine x_iload_n dX7_chance_85 1 rfl rfl ?_
        refine x_ishl dX7_chance_86 ?_
        refine x_callVl (as := [_, _]) dX7_chance_87 lvX7_215 rfl rfl rfl rfl rfl rfl rfl ⟨rfl, rfl⟩ (s_X6_waysIn hW hp hn3 hn2 (z_shl_r _ _) hv hv2) (fun z87 I87 L87 R87 hq87 => ?_)
        obtain ⟨rfl, rfl, rfl, rfl⟩ := hq87
        rw [(ws.2 (by omega)).1 rn (by omega)]
        refine x_lload_n dX7_chance_90 3 rfl rfl ?_
        refine x_callVv (as := [_, _]) dX7_chance_91 lvX7_295 rfl rfl rfl rfl rfl rfl rfl ⟨rfl, rfl⟩ (s_X7_tellPart ⟨((cok (by omega)).2 tn (by omega)).1 (rn : Int) |>.1, (ple (by omega)).1 (rn : Int)⟩ ⟨(cok (by omega)).1, by omega⟩) (fun I91 L91 R91 hq91 => ?_)
        obtain ⟨rfl, rfl, rfl⟩ := hq91
        refine x_iconst dX7_chance_94 ?_
        refine x_iret dX7_chance_95 rfl ?_
        rw [← hQ]
        first
        | (have hbig : 1000000000000000 < aw (kM M) := by omega
           have x : s_chance (rn : Int) (tn : Int) M = (-6, M) := by
             unfold s_chance
             rw [if_neg (by omega), if_neg (by rw [hok]; exact fun z => Bool.noConfusion z)]
             exact if_pos hbig
           have y : l_chance (rn : Int) (tn : Int) M N = N := by
             unfold l_chance
             rw [if_neg (by omega), if_neg (by rw [hok]; exact fun z => Bool.noConfusion z)]
             exact if_pos hbig
           rw [x, y]
           exact ⟨_, rfl, rfl, co2, cc2⟩)
        | (have hbig : ¬ 1000000000000000 < aw (kM M) := by omega
           have x : s_chance (rn : Int) (tn : Int) M = (1, M) := by
             unfold s_chance
             rw [if_neg (by omega), if_neg (by rw [hok]; exact fun z => Bool.noConfusion z)]
             exact if_neg hbig
           have y : l_chance (rn : Int) (tn : Int) M N = frT (chS (kM M) (rn : Int) tn (nst (kM M))) (aw (kM M)) N := by
             unfold l_chance
             rw [if_neg (by omega), if_neg (by rw [hok]; exact fun z => Bool.noConfusion z)]
             exact if_neg hbig
           rw [x, y]
           have z := fr_ok co2 cc2 (chS (kM M) (rn : Int) tn (nst (kM M))) (aw (kM M))
           exact ⟨_, rfl, rfl, z.1, z.2⟩)
      · refine x_bipush dX7_chance_70 (by decide) ?_
        refine x_iret dX7_chance_72 rfl ?_
        rw [← hQ]
        first
        | (have hbig : 1000000000000000 < aw (kM M) := by omega
           have x : s_chance (rn : Int) (tn : Int) M = (-6, M) := by
             unfold s_chance
             rw [if_neg (by omega), if_neg (by rw [hok]; exact fun z => Bool.noConfusion z)]
             exact if_pos hbig
           have y : l_chance (rn : Int) (tn : Int) M N = N := by
             unfold l_chance
             rw [if_neg (by omega), if_neg (by rw [hok]; exact fun z => Bool.noConfusion z)]
             exact if_pos hbig
           rw [x, y]
           exact ⟨_, rfl, rfl, co2, cc2⟩)
        | (have hbig : ¬ 1000000000000000 < aw (kM M) := by omega
           have x : s_chance (rn : Int) (tn : Int) M = (1, M) := by
             unfold s_chance
             rw [if_neg (by omega), if_neg (by rw [hok]; exact fun z => Bool.noConfusion z)]
             exact if_neg hbig
           have y : l_chance (rn : Int) (tn : Int) M N = frT (chS (kM M) (rn : Int) tn (nst (kM M))) (aw (kM M)) N := by
             unfold l_chance
             rw [if_neg (by omega), if_neg (by rw [hok]; exact fun z => Bool.noConfusion z)]
             exact if_neg hbig
           rw [x, y]
           have z := fr_ok co2 cc2 (chS (kM M) (rn : Int) tn (nst (kM M))) (aw (kM M))
           exact ⟨_, rfl, rfl, z.1, z.2⟩)
    refine x_aload_n dX7_chance_37 0 rfl rfl ?_
    refine x_getR dX7_chance_38 flX7_31 rfl rfl (hR 0 3 19 rfl) ?_
    refine x_aload_n dX7_chance_41 0 rfl rfl ?_
    refine x_getR dX7_chance_42 flX7_50 rfl rfl (hR 0 4 42 rfl) ?_
    refine x_iload_n dX7_chance_45 2 rfl rfl ?_
    refine x_callVv (as := [_, _]) dX7_chance_46 lvX7_211 rfl rfl rfl rfl rfl rfl rfl ⟨rfl, rfl⟩ (s_X6_weigh hR tw hp c1 hh c3 m12 st m15 (by omega)) (fun I46 L46 R46 hq46 => ?_)
    skip
    exact at49 _ _ _ hq46
  refine x_aload_n dX7_chance_0 0 rfl rfl ?_
  refine x_getR dX7_chance_1 flX7_38 rfl rfl r8 ?_
  refine x_iload_n dX7_chance_4 1 rfl rfl ?_
  refine x_callVi (as := [_]) dX7_chance_5 lvX7_224 rfl (shH0 hh) rfl rfl rfl rfl rfl ⟨rfl, rfl⟩ (s_X0_hasRoom hh (by omega) (by omega)) (fun z5 I5 L5 R5 hq5 => ?_)
  obtain ⟨rfl, rfl, rfl, rfl⟩ := hq5
  refine y_ifb_eq (tgt := 22) dX7_chance_8 (by decide) (fun h8 => ?_) (fun h8 => ?_)
  · refine x_iconst dX7_chance_22 ?_
    refine x_iret dX7_chance_23 rfl ?_
    rw [← hQ]
    first
    | (have x : s_chance r t M = (-1, M) := by
         unfold s_chance
         exact if_pos (by omega)
       have y : l_chance r t M N = N := by
         unfold l_chance
         exact if_pos (by omega)
       rw [x, y]
       exact ⟨_, rfl, rfl, co0, cc0⟩)
    | (have x : s_chance r t M = (-3, a_mt M 4) := by
         unfold s_chance
         rw [if_neg (by omega), if_pos (bf (by assumption))]
       have y : l_chance r t M N = N := by
         unfold l_chance
         rw [if_neg (by omega), if_pos (bf (by assumption))]
       rw [x, y]
       have z := mt_ok co1 cc1 (f := 4) (by omega)
       exact ⟨_, rfl, rfl, z.1, z.2⟩)
  · refine x_aload_n dX7_chance_11 0 rfl rfl ?_
    refine x_getR dX7_chance_12 flX7_38 rfl rfl r8 ?_
    refine x_iload_n dX7_chance_15 2 rfl rfl ?_
    refine x_callVi (as := [_]) dX7_chance_16 lvX7_227 rfl (shH0 hh) rfl rfl rfl rfl rfl ⟨rfl, rfl⟩ (s_X0_hasMinute hh (by omega) (by omega)) (fun z16 I16 L16 R16 hq16 => ?_)
    obtain ⟨rfl, rfl, rfl, rfl⟩ := hq16
    refine y_ifb_ne (tgt := 24) dX7_chance_19 (by decide) (fun h19 => ?_) (fun h19 => ?_)
    · refine x_aload_n dX7_chance_24 0 rfl rfl ?_
      refine x_callVi (as := []) dX7_chance_25 lvX7_205 rfl rfl rfl rfl rfl rfl rfl ⟨rfl, rfl⟩ (s_X7_knowsWays co0 cc0) (fun z25 I25 L25 R25 hq25 => ?_)
      obtain ⟨rfl, co1, cc1, kw, hK⟩ := hq25
      refine y_ifb_ne (tgt := 37) dX7_chance_28 (by decide) (fun h28 => ?_) (fun h28 => ?_)
      · exact body _ _ _ co1 cc1 (kw (by assumption)).1 (kw (by assumption)).2 (by assumption) (by omega) (by omega)
      · refine x_aload_n dX7_chance_31 0 rfl rfl ?_
        refine x_iconst dX7_chance_32 ?_
        refine x_callVi (as := [_]) dX7_chance_33 lvX7_79 rfl rfl rfl rfl rfl rfl rfl ⟨rfl, rfl⟩ (s_X7_found co1.1 (by omega)) (fun z33 I33 L33 R33 hq33 => ?_)
        obtain ⟨rfl, rfl, rfl, rfl⟩ := hq33
        refine x_iret dX7_chance_36 rfl ?_
        rw [← hQ]
        first
        | (have x : s_chance r t M = (-1, M) := by
             unfold s_chance
             exact if_pos (by omega)
           have y : l_chance r t M N = N := by
             unfold l_chance
             exact if_pos (by omega)
           rw [x, y]
           exact ⟨_, rfl, rfl, co0, cc0⟩)
        | (have x : s_chance r t M = (-3, a_mt M 4) := by
             unfold s_chance
             rw [if_neg (by omega), if_pos (bf (by assumption))]
           have y : l_chance r t M N = N := by
             unfold l_chance
             rw [if_neg (by omega), if_pos (bf (by assumption))]
           rw [x, y]
           have z := mt_ok co1 cc1 (f := 4) (by omega)
           exact ⟨_, rfl, rfl, z.1, z.2⟩)
    · refine x_iconst dX7_chance_22 ?_
      refine x_iret dX7_chance_23 rfl ?_
      rw [← hQ]
      first
      | (have x : s_chance r t M = (-1, M) := by
           unfold s_chance
           exact if_pos (by omega)
         have y : l_chance r t M N = N := by
           unfold l_chance
           exact if_pos (by omega)
         rw [x, y]
         exact ⟨_, rfl, rfl, co0, cc0⟩)
      | (have x : s_chance r t M = (-3, a_mt M 4) := by
           unfold s_chance
           rw [if_neg (by omega), if_pos (bf (by assumption))]
         have y : l_chance r t M N = N := by
           unfold l_chance
           rw [if_neg (by omega), if_pos (bf (by assumption))]
         rw [x, y]
         have z := mt_ok co1 cc1 (f := 4) (by omega)
         exact ⟨_, rfl, rfl, z.1, z.2⟩)
end

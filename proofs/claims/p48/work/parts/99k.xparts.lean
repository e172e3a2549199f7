section
variable {I L M N : MI} {R : MR} {h h' : Nat}
/-- a part told, on both sides -/
theorem fr_ok (co : CO I L R M N h h') (cc : CC I L R M h) (u l : Int) : CO I (tpL u l L) R M (frT u l N) h h' ∧ CC I (tpL u l L) R M h := by
  refine ⟨?_, cc.fr (fun _ _ _ => rfl) (fun _ _ => rfl) rfl (fun i => by unfold tpL; rw [m_up_ne (by decide), m_up_ne (by decide)])⟩
  obtain ⟨q1, q2, q5, q6, q7, q8, q9, q10, q11, q12, q15⟩ := co
  refine ⟨q1, q2, q5, q6, q7, q8, q9, q10, q11, q12, ?_, ?_, ?_⟩
  · unfold tpL frT
    rw [m_up_nj (by decide), m_up_nj (by decide), m_up_nj (by decide), m_up_nj (by decide)]
    exact q15.1
  · unfold tpL frT
    rw [m_up_nj (by decide), m_up_eq, m_up_nj (by decide), m_up_eq]
  · unfold tpL frT
    rw [m_up_eq, m_up_eq]
theorem many_ok (co : CO I L R M N h h') (cc : CC I L R M h) (v : Int) : CO I (m_up L 0 16 v) R M (m_up N 0 3 v) h h' ∧ CC I (m_up L 0 16 v) R M h := by
  refine ⟨?_, cc.fr (fun _ _ _ => rfl) (fun _ _ => rfl) rfl (fun i => by rw [m_up_ne (by decide)])⟩
  obtain ⟨q1, q2, q5, q6, q7, q8, q9, q10, q11, q12, q15⟩ := co
  refine ⟨q1, q2, q5, q6, q7, q8, q9, q10, q11, q12, ?_, ?_, ?_⟩
  · rw [m_up_eq, m_up_eq]
  · rw [m_up_nj (by decide), m_up_nj (by decide)]; exact q15.2.1
  · rw [m_up_nj (by decide), m_up_nj (by decide)]; exact q15.2.2
theorem part_le {κ : MI} (hH : iHs κ) (hS : iSc κ) {t : Nat} (ht : t ≤ lst κ) (ha : aw κ ≤ 1000000000000000) : (∀ r, chS κ r t (nst κ) ≤ aw κ) ∧ ∀ w r, lkS κ w t r (nst κ) ≤ aw κ := by
  obtain ⟨hW, hw⟩ := wyB_x hH hS ht ha
  have h8 : Wx κ t = smi (fun s => wyB κ t s) (nst κ) := smi_cg _ (fun i hi => ((hw i hi).1).symm)
  rw [h8] at hW
  constructor
  · intro r
    rw [chS_smi, ← hW]
    exact smi_le _ (fun i hi => by have := (hw i hi).2.1; split <;> omega)
  · intro w r
    rw [lkS_smi, ← hW]
    exact smi_le _ (fun i hi => by have := (hw i hi).2.1; split <;> omega)
/-- nobody is where there is no room -/
theorem lkS_0 {J κ : MI} {p x n : Nat} (k : PKR J p x n κ) {t w r : Nat} (ht : t ≤ lst κ) (hw : w < us κ) (hr : ¬ (r : Int) < κ 0 11) : lkS κ w t r (nst κ) = 0 := by
  rw [lkS_smi]
  have e : smi (fun s => if rm s w = r then wyB κ t s else 0) (nst κ) = smi (fun _ => 0) (nst κ) := smi_cg _ (fun s hs => by
    show (if rm s w = r then wyB κ t s else 0) = 0
    split
    · rename_i q
      unfold wyB
      split
      · rename_i ha
        have := (al_room k ht hs ha hw).1
        omega
      · rfl
    · rfl)
  rw [e]
  have : ∀ m, smi (fun _ => (0 : Int)) m = 0 := fun m => by
    induction m with
    | zero => rfl
    | succ m ih => unfold smi; rw [ih]; rfl
  exact this _
end
theorem lkB_ext {f : Nat → Int} (h0 : ∀ r, 0 ≤ f r) {k : Nat} : ∀ m, k ≤ m → (∀ r, k < r → r ≤ m → f r = 0) → lkB f m = lkB f k
  | 0, hk, _ => by
    have : k = 0 := by omega
    subst this
    rfl
  | m + 1, hk, hz => by
    by_cases e : k = m + 1
    · rw [e]
    · have ih := lkB_ext h0 (k := k) m (by omega) (fun r h1 h2 => hz r h1 (by omega))
      show (if f (lkB f m) < f (m + 1) then m + 1 else lkB f m) = lkB f k
      have h1 := hz (m + 1) (by omega) (Nat.le_refl _)
      have h2 := h0 (lkB f m)
      rw [if_neg (show ¬ f (lkB f m) < f (m + 1) by omega), ih]
def lkb (f : Nat → Int) : Nat → Nat
  | 0 => 0
  | r + 1 => lkB f r
def lkm (f : Nat → Int) : Nat → Int
  | 0 => -1
  | r + 1 => f (lkB f r)
theorem lk_t {f : Nat → Int} {r : Nat} (h0 : ∀ r, 0 ≤ f r) (h : lkm f r < f r) : lkb f (r + 1) = r ∧ lkm f (r + 1) = f r := by
  cases r with
  | zero => exact ⟨rfl, rfl⟩
  | succ r =>
    have h' : f (lkB f r) < f (r + 1) := h
    have e : lkB f (r + 1) = r + 1 := if_pos h'
    exact ⟨e, by show f (lkB f (r + 1)) = _; rw [e]⟩
theorem lk_f {f : Nat → Int} {r : Nat} (h0 : ∀ r, 0 ≤ f r) (h : ¬ lkm f r < f r) : lkb f (r + 1) = lkb f r ∧ lkm f (r + 1) = lkm f r := by
  cases r with
  | zero =>
    have := h0 0
    exact absurd (show (-1 : Int) < f 0 by omega) h
  | succ r =>
    have h' : ¬ f (lkB f r) < f (r + 1) := h
    have e : lkB f (r + 1) = lkB f r := if_neg h'
    exact ⟨e, by show f (lkB f (r + 1)) = f (lkB f r); rw [e]⟩
theorem lkb_r (f : Nat → Int) (m : Nat) : lkb f m ≤ m := by
  cases m with
  | zero => exact Nat.le_refl _
  | succ m => have := lkB_r f m; show lkB f m ≤ m + 1; omega
section
variable {G : GT} {I L M N : MI} {R : MR} {h h' : Nat}

theorem s_X7_chance {r t : Int} (co0 : CO I L R M N h h') (cc0 : CC I L R M h) (hr : rI r) (ht : rI t) : Sp G mtX7_chance [mr 0, mi r, mi t] shX I L R (qi (fun z I' L' R' => z = (s_chance r t M).1 ∧ CO I' L' R' (s_chance r t M).2 (l_chance r t M N) h h' ∧ CC I' L' R' (s_chance r t M).2 h)) := by
  refine Sp.of pnX7_chance rfl ?_
  show Rn G mtX7_chance _ 0 [(0, mr 0), (1, mi r), (2, mi t)] [] shX I L R
  generalize hQ : (qi (fun z I' L' R' => z = (s_chance r t M).1 ∧ CO I' L' R' (s_chance r t M).2 (l_chance r t M N) h h' ∧ CC I' L' R' (s_chance r t M).2 h)) = Q
  have hR := co0.1
  have r8 := co0.2.1.1
  have r9 := co0.2.1.2.1
  have h32 := co0.h32
  have hh := hR.h h32
  obtain ⟨iH, iE, iL, iR, iT⟩ := co0.2.2.2.2.1
  have hrl := co0.2.2.2.2.2.1.1
  have q0 := hrl.1
  have q1 := hrl.2.1
  have q2 := hrl.2.2.1
  have q3 := hrl.2.2.2.1
  have b0 := iH.1
  have b1 := iH.2.1
  have b2 := iH.2.2.1
  have b3 := iH.2.2.2.1
  have body : ∀ J K S, CO J K S M N h h' → CC J K S M h → J 0 10 = 1 → J 0 11 = 1 → okA M = true → (0 ≤ r ∧ r < M 0 11) → (0 ≤ t ∧ t ≤ M 0 14) → Rn G mtX7_chance Q 37 [(0, mr 0), (1, mi r), (2, mi t)] [] shX J K S := by
    intro J K S co cc h10 h11 hok g0 g1
    have hR := co.1
    have r8 := co.2.1.1
    have r9 := co.2.1.2.1
    have hh := hR.h h32
    obtain ⟨na, nb, nk, tw⟩ := co.2.2.1
    obtain ⟨m12, m15⟩ := co.2.2.2.1
    obtain ⟨c1, c2, n, c3, c4, -, c6⟩ := cc.2 h10
    obtain ⟨fit, st, nt⟩ := c6 h11
    have hp := hR.p (Or.inl rfl)
    have hn3 : J 42 3 = (n : Int) := c3.1.1.2.2.2.2.1
    have hn2 := (PQ_n c3.1.1).2
    have hus := PK_us c3.1
    have h34 := c3.1.2.2.2.1
    have hl : ((lst (kM M) : Nat) : Int) = M 0 14 := KA_lst iH
    have hu : ((us (kM M) : Nat) : Int) = M 0 13 := KA_us iH
    have k11 : kM M 0 11 = M 0 11 := kap_per (by unfold per; omega)
    have j0 : J h 0 = M 0 11 := co.2.2.2.2.2.1.1.1
    have j1 : J h 1 = M 0 12 := co.2.2.2.2.2.1.1.2.1
    have j3 : J h 3 = M 0 14 := co.2.2.2.2.2.1.1.2.2.2.1
    obtain ⟨rn, rfl⟩ : ∃ rn : Nat, r = (rn : Int) := ⟨r.toNat, by omega⟩
    obtain ⟨tn, rfl⟩ : ∃ tn : Nat, t = (tn : Int) := ⟨t.toNat, by omega⟩
    have at49 : ∀ J' K' S', ((RFw S S' ∧ FIw J J' ∧ (rI (J' 19 12) ∧ rI (J' 19 15)) ∧ (∀ c i, ¬ (c = 29 ∨ c = 30 ∨ c = 31) → K' c i = K c i)) ∧ ∃ na nb nk, isW S' 42 na nb nk ∧ S' 42 0 = some h ∧ isH S' h ∧ PKR J' 42 h n (kM M) ∧ (∀ x : Nat, x < n → K' na (x : Int) = FA (kM M) tn (sgX J' 42 h x)) ∧ ∀ x : Nat, x < n → K' nk (x : Int) = RA (kM M) tn (sgX J' 42 h x)) → Rn G mtX7_chance Q 49 [(0, mr 0), (1, mi (rn : Int)), (2, mi (tn : Int))] [] shX J' K' S' := by
      rintro J' K' S' ⟨⟨w1, w2, w3, w4⟩, na, nb, nk, hW, u1, u2, u3, u4, u5⟩
      have wp : WP J K S J' K' S' := ⟨w2, w3, fun c i q => w4 c i (by omega), w1, na, nb, nk, hW.t⟩
      have co2 := co.wp wp
      have cc2 := cc.wp h32 wp
      have hR := co2.1
      have r8 := co2.2.1.1
      have hh := hR.h h32
      have hp := hR.p (Or.inl rfl)
      have hn3 : J' 42 3 = (n : Int) := u3.1.1.2.2.2.2.1
      have j0 : J' h 0 = M 0 11 := co2.2.2.2.2.2.1.1.1
      have hv : ∀ x : Nat, x < n → 0 ≤ K' na (x : Int) ∧ K' na (x : Int) ≤ 1000000000000001 := fun x hx => by rw [u4 x hx]; exact FA_r _ _ _
      have hv2 : ∀ x : Nat, x < n → 0 ≤ K' nk (x : Int) ∧ K' nk (x : Int) ≤ 1000000000000001 := fun x hx => by rw [u5 x hx]; exact RA_r _ _ _
      have ws := wi_sum u3 (t := tn) (by have := (PK_last u3.1).1; omega) u4 u5
      have awr := awF_r (kM M) (nst (kM M))
      have awr2 : 0 ≤ aw (kM M) ∧ aw (kM M) ≤ 1000000000000001 := awr
      have cok := cnt_ok c3.1.2.1 c3.1.2.2.1 fit
      have ple := fun ha => part_le c3.1.2.1 c3.1.2.2.1 (t := tn) (by omega) ha
      refine x_aload_n dX7_chance_49 0 rfl rfl ?_
      refine x_getR dX7_chance_50 flX7_31 rfl rfl (hR 0 3 19 rfl) ?_
      refine x_aload_n dX7_chance_53 0 rfl rfl ?_
      refine x_getR dX7_chance_54 flX7_50 rfl rfl (hR 0 4 42 rfl) ?_
      refine x_iconst dX7_chance_57 ?_
      refine x_callVl (as := [_, _]) dX7_chance_58 lvX7_215 rfl rfl rfl rfl rfl rfl rfl ⟨rfl, rfl⟩ (s_X6_waysIn hW hp hn3 hn2 (by omega) hv hv2) (fun z58 I58 L58 R58 hq58 => ?_)
      obtain ⟨rfl, rfl, rfl, rfl⟩ := hq58
      rw [ws.1]
      refine x_lstore_n (lv' := [(0, _), (1, _), (2, _), (3, _)]) dX7_chance_61 rfl rfl rfl ?_
      refine x_lload_n dX7_chance_62 3 rfl rfl ?_
      refine x_ldc2 (1000000000000000) dX7_chance_63 lkX7_219 ?_
      refine x_lc_le (tgt := 73) dX7_chance_66 dX7_chance_67 (by decide) (by first | omega | exact z_and_r _ _ | exact z_shl_r _ _) (fun h66 => ?_) (fun h66 => ?_)
      · refine x_aload_n dX7_chance_73 0 rfl rfl ?_
        refine x_aload_n dX7_chance_74 0 rfl rfl ?_
        refine x_getR dX7_chance_75 flX7_31 rfl rfl (hR 0 3 19 rfl) ?_
        refine x_aload_n dX7_chance_78 0 rfl rfl ?_
        refine x_getR dX7_chance_79 flX7_50 rfl rfl (hR 0 4 42 rfl) ?_
        refine x_sipush dX7_chance_82 (by decide) ?_
        refine x_iload_n dX7_chance_85 1 rfl rfl ?_
        refine x_ishl dX7_chance_86 ?_
        refine x_callVl (as := [_, _]) dX7_chance_87 lvX7_215 rfl rfl rfl rfl rfl rfl rfl ⟨rfl, rfl⟩ (s_X6_waysIn hW hp hn3 hn2 (z_shl_r _ _) hv hv2) (fun z87 I87 L87 R87 hq87 => ?_)
        obtain ⟨rfl, rfl, rfl, rfl⟩ := hq87
        rw [(ws.2 (by omega)).1 rn (by omega)]
        refine x_lload_n dX7_chance_90 3 rfl rfl ?_
        refine x_callVv (as := [_, _]) dX7_chance_91 lvX7_295 rfl rfl rfl rfl rfl rfl rfl ⟨rfl, rfl⟩ (s_X7_tellPart ⟨((cok (by omega)).2 tn (by omega)).1 (rn : Int) |>.1, (ple (by omega)).1 (rn : Int)⟩ ⟨(cok (by omega)).1, by omega⟩) (fun I91 L91 R91 hq91 => ?_)
        obtain ⟨rfl, rfl, rfl⟩ := hq91
        refine x_iconst dX7_chance_94 ?_
        refine x_iret dX7_chance_95 rfl ?_
        rw [← hQ]
        first
        | (have hbig : 1000000000000000 < aw (kM M) := by omega
           have x : s_chance (rn : Int) (tn : Int) M = (-6, M) := by
             unfold s_chance
             rw [if_neg (by omega), if_neg (by rw [hok]; exact fun z => Bool.noConfusion z)]
             exact if_pos hbig
           have y : l_chance (rn : Int) (tn : Int) M N = N := by
             unfold l_chance
             rw [if_neg (by omega), if_neg (by rw [hok]; exact fun z => Bool.noConfusion z)]
             exact if_pos hbig
           rw [x, y]
           exact ⟨_, rfl, rfl, co2, cc2⟩)
        | (have hbig : ¬ 1000000000000000 < aw (kM M) := by omega
           have x : s_chance (rn : Int) (tn : Int) M = (1, M) := by
             unfold s_chance
             rw [if_neg (by omega), if_neg (by rw [hok]; exact fun z => Bool.noConfusion z)]
             exact if_neg hbig
           have y : l_chance (rn : Int) (tn : Int) M N = frT (chS (kM M) (rn : Int) tn (nst (kM M))) (aw (kM M)) N := by
             unfold l_chance
             rw [if_neg (by omega), if_neg (by rw [hok]; exact fun z => Bool.noConfusion z)]
             exact if_neg hbig
           rw [x, y]
           have z := fr_ok co2 cc2 (chS (kM M) (rn : Int) tn (nst (kM M))) (aw (kM M))
           exact ⟨_, rfl, rfl, z.1, z.2⟩)
      · refine x_bipush dX7_chance_70 (by decide) ?_
        refine x_iret dX7_chance_72 rfl ?_
        rw [← hQ]
        first
        | (have hbig : 1000000000000000 < aw (kM M) := by omega
           have x : s_chance (rn : Int) (tn : Int) M = (-6, M) := by
             unfold s_chance
             rw [if_neg (by omega), if_neg (by rw [hok]; exact fun z => Bool.noConfusion z)]
             exact if_pos hbig
           have y : l_chance (rn : Int) (tn : Int) M N = N := by
             unfold l_chance
             rw [if_neg (by omega), if_neg (by rw [hok]; exact fun z => Bool.noConfusion z)]
             exact if_pos hbig
           rw [x, y]
           exact ⟨_, rfl, rfl, co2, cc2⟩)
        | (have hbig : ¬ 1000000000000000 < aw (kM M) := by omega
           have x : s_chance (rn : Int) (tn : Int) M = (1, M) := by
             unfold s_chance
             rw [if_neg (by omega), if_neg (by rw [hok]; exact fun z => Bool.noConfusion z)]
             exact if_neg hbig
           have y : l_chance (rn : Int) (tn : Int) M N = frT (chS (kM M) (rn : Int) tn (nst (kM M))) (aw (kM M)) N := by
             unfold l_chance
             rw [if_neg (by omega), if_neg (by rw [hok]; exact fun z => Bool.noConfusion z)]
             exact if_neg hbig
           rw [x, y]
           have z := fr_ok co2 cc2 (chS (kM M) (rn : Int) tn (nst (kM M))) (aw (kM M))
           exact ⟨_, rfl, rfl, z.1, z.2⟩)
    refine x_aload_n dX7_chance_37 0 rfl rfl ?_
    refine x_getR dX7_chance_38 flX7_31 rfl rfl (hR 0 3 19 rfl) ?_
    refine x_aload_n dX7_chance_41 0 rfl rfl ?_
    refine x_getR dX7_chance_42 flX7_50 rfl rfl (hR 0 4 42 rfl) ?_
    refine x_iload_n dX7_chance_45 2 rfl rfl ?_
    refine x_callVv (as := [_, _]) dX7_chance_46 lvX7_211 rfl rfl rfl rfl rfl rfl rfl ⟨rfl, rfl⟩ (s_X6_weigh hR tw hp c1 hh c3 m12 st m15 (by omega)) (fun I46 L46 R46 hq46 => ?_)
    skip
    exact at49 _ _ _ hq46
  refine x_aload_n dX7_chance_0 0 rfl rfl ?_
  refine x_getR dX7_chance_1 flX7_38 rfl rfl r8 ?_
  refine x_iload_n dX7_chance_4 1 rfl rfl ?_
  refine x_callVi (as := [_]) dX7_chance_5 lvX7_224 rfl (shH0 hh) rfl rfl rfl rfl rfl ⟨rfl, rfl⟩ (s_X0_hasRoom hh (by omega) (by omega)) (fun z5 I5 L5 R5 hq5 => ?_)
  obtain ⟨rfl, rfl, rfl, rfl⟩ := hq5
  refine y_ifb_eq (tgt := 22) dX7_chance_8 (by decide) (fun h8 => ?_) (fun h8 => ?_)
  · refine x_iconst dX7_chance_22 ?_
    refine x_iret dX7_chance_23 rfl ?_
    rw [← hQ]
    first
    | (have x : s_chance r t M = (-1, M) := by
         unfold s_chance
         exact if_pos (by omega)
       have y : l_chance r t M N = N := by
         unfold l_chance
         exact if_pos (by omega)
       rw [x, y]
       exact ⟨_, rfl, rfl, co0, cc0⟩)
    | (have x : s_chance r t M = (-3, a_mt M 4) := by
         unfold s_chance
         rw [if_neg (by omega), if_pos (bf (by assumption))]
       have y : l_chance r t M N = N := by
         unfold l_chance
         rw [if_neg (by omega), if_pos (bf (by assumption))]
       rw [x, y]
       have z := mt_ok co1 cc1 (f := 4) (by omega)
       exact ⟨_, rfl, rfl, z.1, z.2⟩)
  · refine x_aload_n dX7_chance_11 0 rfl rfl ?_
    refine x_getR dX7_chance_12 flX7_38 rfl rfl r8 ?_
    refine x_iload_n dX7_chance_15 2 rfl rfl ?_
    refine x_callVi (as := [_]) dX7_chance_16 lvX7_227 rfl (shH0 hh) rfl rfl rfl rfl rfl ⟨rfl, rfl⟩ (s_X0_hasMinute hh (by omega) (by omega)) (fun z16 I16 L16 R16 hq16 => ?_)
    obtain ⟨rfl, rfl, rfl, rfl⟩ := hq16
    refine y_ifb_ne (tgt := 24) dX7_chance_19 (by decide) (fun h19 => ?_) (fun h19 => ?_)
    · refine x_aload_n dX7_chance_24 0 rfl rfl ?_
      refine x_callVi (as := []) dX7_chance_25 lvX7_205 rfl rfl rfl rfl rfl rfl rfl ⟨rfl, rfl⟩ (s_X7_knowsWays co0 cc0) (fun z25 I25 L25 R25 hq25 => ?_)
      obtain ⟨rfl, co1, cc1, kw, hK⟩ := hq25
      refine y_ifb_ne (tgt := 37) dX7_chance_28 (by decide) (fun h28 => ?_) (fun h28 => ?_)
      · exact body _ _ _ co1 cc1 (kw (by assumption)).1 (kw (by assumption)).2 (by assumption) (by omega) (by omega)
      · refine x_aload_n dX7_chance_31 0 rfl rfl ?_
        refine x_iconst dX7_chance_32 ?_
        refine x_callVi (as := [_]) dX7_chance_33 lvX7_79 rfl rfl rfl rfl rfl rfl rfl ⟨rfl, rfl⟩ (s_X7_found co1.1 (by omega)) (fun z33 I33 L33 R33 hq33 => ?_)
        obtain ⟨rfl, rfl, rfl, rfl⟩ := hq33
        refine x_iret dX7_chance_36 rfl ?_
        rw [← hQ]
        first
        | (have x : s_chance r t M = (-1, M) := by
             unfold s_chance
             exact if_pos (by omega)
           have y : l_chance r t M N = N := by
             unfold l_chance
             exact if_pos (by omega)
           rw [x, y]
           exact ⟨_, rfl, rfl, co0, cc0⟩)
        | (have x : s_chance r t M = (-3, a_mt M 4) := by
             unfold s_chance
             rw [if_neg (by omega), if_pos (bf (by assumption))]
           have y : l_chance r t M N = N := by
             unfold l_chance
             rw [if_neg (by omega), if_pos (bf (by assumption))]
           rw [x, y]
           have z := mt_ok co1 cc1 (f := 4) (by omega)
           exact ⟨_, rfl, rfl, z.1, z.2⟩)
    · refine x_iconst dX7_chance_22 ?_
      refine x_iret dX7_chance_23 rfl ?_
      rw [← hQ]
      first
      | (have x : s_chance r t M = (-1, M) := by
           unfold s_chance
           exact if_pos (by omega)
         have y : l_chance r t M N = N := by
           unfold l_chance
           exact if_pos (by omega)
         rw [x, y]
         exact ⟨_, rfl, rfl, co0, cc0⟩)
      | (have x : s_chance r t M = (-3, a_mt M 4) := by
           unfold s_chance
           rw [if_neg (by omega), if_pos (bf (by assumption))]
         have y : l_chance r t M N = N := by
           unfold l_chance
           rw [if_neg (by omega), if_pos (bf (by assumption))]
         rw [x, y]
         have z := mt_ok co1 cc1 (f := 4) (by omega)
         exact ⟨_, rfl, rfl, z.1, z.2⟩)
set_option maxHeartbeats 1000000 in
theorem s_X7_likely {w t : Int} (co0 : CO I L R M N h h') (cc0 : CC I L R M h) (hw : rI w) (ht : rI t) : Sp G mtX7_likely [mr 0, mi w, mi t] shX I L R (qi (fun z I' L' R' => z = (s_likely w t M).1 ∧ CO I' L' R' (s_likely w t M).2 (l_likely w t M N) h h' ∧ CC I' L' R' (s_likely w t M).2 h)) := by
  refine Sp.of pnX7_likely rfl ?_
  show Rn G mtX7_likely _ 0 [(0, mr 0), (1, mi w), (2, mi t)] [] shX I L R
  generalize hQ : (qi (fun z I' L' R' => z = (s_likely w t M).1 ∧ CO I' L' R' (s_likely w t M).2 (l_likely w t M N) h h' ∧ CC I' L' R' (s_likely w t M).2 h)) = Q
  have hR := co0.1
  have r8 := co0.2.1.1
  have r9 := co0.2.1.2.1
  have h32 := co0.h32
  have hh := hR.h h32
  obtain ⟨iH, iE, iL, iR, iT⟩ := co0.2.2.2.2.1
  have hrl := co0.2.2.2.2.2.1.1
  have q0 := hrl.1
  have q1 := hrl.2.1
  have q2 := hrl.2.2.1
  have q3 := hrl.2.2.2.1
  have b0 := iH.1
  have b1 := iH.2.1
  have b2 := iH.2.2.1
  have b3 := iH.2.2.2.1
  have body : ∀ J K S, CO J K S M N h h' → CC J K S M h → J 0 10 = 1 → J 0 11 = 1 → okA M = true → (0 ≤ w ∧ w < M 0 13) → (0 ≤ t ∧ t ≤ M 0 14) → Rn G mtX7_likely Q 37 [(0, mr 0), (1, mi w), (2, mi t)] [] shX J K S := by
    intro J K S co cc h10 h11 hok g0 g1
    have hR := co.1
    have r8 := co.2.1.1
    have r9 := co.2.1.2.1
    have hh := hR.h h32
    obtain ⟨na, nb, nk, tw⟩ := co.2.2.1
    obtain ⟨m12, m15⟩ := co.2.2.2.1
    obtain ⟨c1, c2, n, c3, c4, -, c6⟩ := cc.2 h10
    obtain ⟨fit, st, nt⟩ := c6 h11
    have hp := hR.p (Or.inl rfl)
    have hn3 : J 42 3 = (n : Int) := c3.1.1.2.2.2.2.1
    have hn2 := (PQ_n c3.1.1).2
    have hus := PK_us c3.1
    have h34 := c3.1.2.2.2.1
    have hl : ((lst (kM M) : Nat) : Int) = M 0 14 := KA_lst iH
    have hu : ((us (kM M) : Nat) : Int) = M 0 13 := KA_us iH
    have k11 : kM M 0 11 = M 0 11 := kap_per (by unfold per; omega)
    have j0 : J h 0 = M 0 11 := co.2.2.2.2.2.1.1.1
    have j1 : J h 1 = M 0 12 := co.2.2.2.2.2.1.1.2.1
    have j3 : J h 3 = M 0 14 := co.2.2.2.2.2.1.1.2.2.2.1
    obtain ⟨wn, rfl⟩ : ∃ wn : Nat, w = (wn : Int) := ⟨w.toNat, by omega⟩
    obtain ⟨tn, rfl⟩ : ∃ tn : Nat, t = (tn : Int) := ⟨t.toNat, by omega⟩
    obtain ⟨ro, hro⟩ : ∃ ro : Nat, M 0 11 = ((ro + 1 : Nat) : Int) := ⟨(M 0 11).toNat - 1, by omega⟩
    have at49 : ∀ J' K' S', ((RFw S S' ∧ FIw J J' ∧ (rI (J' 19 12) ∧ rI (J' 19 15)) ∧ (∀ c i, ¬ (c = 29 ∨ c = 30 ∨ c = 31) → K' c i = K c i)) ∧ ∃ na nb nk, isW S' 42 na nb nk ∧ S' 42 0 = some h ∧ isH S' h ∧ PKR J' 42 h n (kM M) ∧ (∀ x : Nat, x < n → K' na (x : Int) = FA (kM M) tn (sgX J' 42 h x)) ∧ ∀ x : Nat, x < n → K' nk (x : Int) = RA (kM M) tn (sgX J' 42 h x)) → Rn G mtX7_likely Q 49 [(0, mr 0), (1, mi (wn : Int)), (2, mi (tn : Int))] [] shX J' K' S' := by
      rintro J' K' S' ⟨⟨w1, w2, w3, w4⟩, na, nb, nk, hW, u1, u2, u3, u4, u5⟩
      have wp : WP J K S J' K' S' := ⟨w2, w3, fun c i q => w4 c i (by omega), w1, na, nb, nk, hW.t⟩
      have co2 := co.wp wp
      have cc2 := cc.wp h32 wp
      have hR := co2.1
      have r8 := co2.2.1.1
      have hh := hR.h h32
      have hp := hR.p (Or.inl rfl)
      have hn3 : J' 42 3 = (n : Int) := u3.1.1.2.2.2.2.1
      have j0 : J' h 0 = M 0 11 := co2.2.2.2.2.2.1.1.1
      have hv : ∀ x : Nat, x < n → 0 ≤ K' na (x : Int) ∧ K' na (x : Int) ≤ 1000000000000001 := fun x hx => by rw [u4 x hx]; exact FA_r _ _ _
      have hv2 : ∀ x : Nat, x < n → 0 ≤ K' nk (x : Int) ∧ K' nk (x : Int) ≤ 1000000000000001 := fun x hx => by rw [u5 x hx]; exact RA_r _ _ _
      have ws := wi_sum u3 (t := tn) (by have := (PK_last u3.1).1; omega) u4 u5
      have awr := awF_r (kM M) (nst (kM M))
      have awr2 : 0 ≤ aw (kM M) ∧ aw (kM M) ≤ 1000000000000001 := awr
      have cok := cnt_ok c3.1.2.1 c3.1.2.2.1 fit
      have ple := fun ha => part_le c3.1.2.1 c3.1.2.2.1 (t := tn) (by omega) ha
      obtain ⟨f, hf⟩ : ∃ f : Nat → Int, f = fun r => lkS (kM M) wn tn r (nst (kM M)) := ⟨_, rfl⟩
      have at84 : ¬ 1000000000000000 < aw (kM M) → ∀ r : Nat, r ≤ ro + 1 → Rn G mtX7_likely Q 84 [(0, mr 0), (1, mi (wn : Int)), (2, mi (tn : Int)), (3, ml (aw (kM M))), (5, mi ((lkb f r : Nat) : Int)), (6, ml (lkm f r)), (8, mi (r : Int))] [] shX J' K' S' := by
        intro hbig
        have f0 : ∀ r, 0 ≤ f r ∧ f r ≤ aw (kM M) := fun r => by
          rw [hf]
          exact ⟨(((cok (by omega)).2 tn (by omega)).2 wn r).1, (ple (by omega)).2 wn r⟩
        have lr : ∀ m, -1 ≤ lkm f m ∧ lkm f m ≤ aw (kM M) := fun m => by
          cases m with
          | zero => show -1 ≤ (-1 : Int) ∧ (-1 : Int) ≤ aw (kM M); omega
          | succ m => have := f0 (lkB f m); show -1 ≤ f (lkB f m) ∧ f (lkB f m) ≤ aw (kM M); omega
        have ext : lkB f 5 = lkB f ro := lkB_ext (fun r => (f0 r).1) 5 (by omega) (fun r h1 h2 => by
          rw [hf]
          exact lkS_0 c3 (by omega) (by omega) (by omega))
        refine lpn (ro + 1) (fun r hr ih => ?_) ?_
        · have b := lkb_r f r
          have l := lr r
          have fr := f0 r
          have wsr : wiF J' K' 42 na nk (z_shl 1 (6 * (wn : Int) + (r : Int))) n = f r := by
            rw [hf]
            exact (ws.2 (by omega)).2 wn r (by omega) (by omega)
          refine x_iload dX7_likely_84 6 rfl ?_
          refine x_aload_n dX7_likely_86 0 rfl rfl ?_
          refine x_getR dX7_likely_87 flX7_38 rfl rfl r8 ?_
          refine x_getI dX7_likely_90 flX7_301 (shH0 hh) rfl ?_
          rw [j0, hro]
          refine x_ic_ge (tgt := 137) dX7_likely_93 (by decide) (by first | omega | exact z_and_r _ _ | exact z_shl_r _ _) (fun h93 => ?_) (fun h93 => ?_)
          · exfalso; omega
          · refine x_aload_n dX7_likely_96 0 rfl rfl ?_
            refine x_getR dX7_likely_97 flX7_31 rfl rfl (hR 0 3 19 rfl) ?_
            refine x_aload_n dX7_likely_100 0 rfl rfl ?_
            refine x_getR dX7_likely_101 flX7_50 rfl rfl (hR 0 4 42 rfl) ?_
            refine x_iload_n dX7_likely_104 1 rfl rfl ?_
            refine x_iload dX7_likely_105 6 rfl ?_
            refine x_callSi (as := [_, _]) dX7_likely_107 lvX7_304 rfl rfl rfl rfl ⟨rfl, rfl⟩ (s_X7_roomBit) (fun z107 I107 L107 R107 hq107 => ?_)
            obtain ⟨rfl, rfl, rfl, rfl⟩ := hq107
            refine x_callVl (as := [_, _]) dX7_likely_110 lvX7_215 rfl rfl rfl rfl rfl rfl rfl ⟨rfl, rfl⟩ (s_X6_waysIn hW hp hn3 hn2 (z_shl_r _ _) hv hv2) (fun z110 I110 L110 R110 hq110 => ?_)
            obtain ⟨rfl, rfl, rfl, rfl⟩ := hq110
            rw [wsr]
            refine x_lstore (lv' := [(0, _), (1, _), (2, _), (3, _), (5, _), (6, _), (8, _), (9, _)]) dX7_likely_113 rfl rfl ?_
            refine x_lload dX7_likely_115 7 rfl ?_
            refine x_lload dX7_likely_117 5 rfl ?_
            refine x_lc_le (tgt := 131) dX7_likely_119 dX7_likely_120 (by decide) (by first | omega | exact z_and_r _ _ | exact z_shl_r _ _) (fun h119 => ?_) (fun h119 => ?_)
            · refine x_iinc (lv' := [(0, _), (1, _), (2, _), (3, _), (5, _), (6, _), (8, _), (9, _)]) dX7_likely_131 6 rfl rfl rfl ?_
              refine x_goto (tgt := 84) dX7_likely_134 (by decide) ?_
              refine x_top (lv' := [(0, _), (1, _), (2, _), (3, _), (5, _), (6, _), (8, _)]) 9 rfl ?_
              first
              | (have z := lk_t (f := f) (r := r) (fun r => (f0 r).1) (by omega)
                 rw [z.1, z.2] at ih
                 exact ih)
              | (have z := lk_f (f := f) (r := r) (fun r => (f0 r).1) (by omega)
                 rw [z.1, z.2] at ih
                 exact ih)
            · refine x_iload dX7_likely_123 6 rfl ?_
              refine x_istore (lv' := [(0, _), (1, _), (2, _), (3, _), (5, _), (6, _), (8, _), (9, _)]) dX7_likely_125 rfl rfl ?_
              refine x_lload dX7_likely_127 7 rfl ?_
              refine x_lstore (lv' := [(0, _), (1, _), (2, _), (3, _), (5, _), (6, _), (8, _), (9, _)]) dX7_likely_129 rfl rfl ?_
              refine x_iinc (lv' := [(0, _), (1, _), (2, _), (3, _), (5, _), (6, _), (8, _), (9, _)]) dX7_likely_131 6 rfl rfl rfl ?_
              refine x_goto (tgt := 84) dX7_likely_134 (by decide) ?_
              refine x_top (lv' := [(0, _), (1, _), (2, _), (3, _), (5, _), (6, _), (8, _)]) 9 rfl ?_
              first
              | (have z := lk_t (f := f) (r := r) (fun r => (f0 r).1) (by omega)
                 rw [z.1, z.2] at ih
                 exact ih)
              | (have z := lk_f (f := f) (r := r) (fun r => (f0 r).1) (by omega)
                 rw [z.1, z.2] at ih
                 exact ih)
        · have b := lkb_r f (ro + 1)
          have fb := f0 (lkB f ro)
          have el : lkm f (ro + 1) = f (lkB f ro) := rfl
          refine x_iload dX7_likely_84 6 rfl ?_
          refine x_aload_n dX7_likely_86 0 rfl rfl ?_
          refine x_getR dX7_likely_87 flX7_38 rfl rfl r8 ?_
          refine x_getI dX7_likely_90 flX7_301 (shH0 hh) rfl ?_
          rw [j0, hro]
          refine x_ic_ge (tgt := 137) dX7_likely_93 (by decide) (by first | omega | exact z_and_r _ _ | exact z_shl_r _ _) (fun h93 => ?_) (fun h93 => ?_)
          · refine x_aload_n dX7_likely_137 0 rfl rfl ?_
            refine x_lload dX7_likely_138 5 rfl ?_
            refine x_lload_n dX7_likely_140 3 rfl rfl ?_
            refine x_callVv (as := [_, _]) dX7_likely_141 lvX7_295 rfl rfl rfl rfl rfl rfl rfl ⟨rfl, rfl⟩ (s_X7_tellPart (by omega) ⟨(cok (by omega)).1, by omega⟩) (fun I141 L141 R141 hq141 => ?_)
            obtain ⟨rfl, rfl, rfl⟩ := hq141
            refine x_iload dX7_likely_144 4 rfl ?_
            refine x_iret dX7_likely_146 rfl ?_
            rw [← hQ]
            have x : s_likely (wn : Int) (tn : Int) M = (((lkB f ro : Nat) : Int), M) := by
              unfold s_likely
              rw [if_neg (by omega), if_neg (by rw [hok]; exact fun z => Bool.noConfusion z)]
              refine (if_neg hbig).trans ?_
              rw [← ext, hf]
              rfl
            have y : l_likely (wn : Int) (tn : Int) M N = frT (f (lkB f ro)) (aw (kM M)) N := by
              unfold l_likely
              rw [if_neg (by omega), if_neg (by rw [hok]; exact fun z => Bool.noConfusion z)]
              refine (if_neg hbig).trans ?_
              rw [← ext, hf]
              rfl
            rw [x, y]
            have z := fr_ok co2 cc2 (f (lkB f ro)) (aw (kM M))
            exact ⟨_, rfl, rfl, z.1, z.2⟩
          · exfalso; omega
      refine x_aload_n dX7_likely_49 0 rfl rfl ?_
      refine x_getR dX7_likely_50 flX7_31 rfl rfl (hR 0 3 19 rfl) ?_
      refine x_aload_n dX7_likely_53 0 rfl rfl ?_
      refine x_getR dX7_likely_54 flX7_50 rfl rfl (hR 0 4 42 rfl) ?_
      refine x_iconst dX7_likely_57 ?_
      refine x_callVl (as := [_, _]) dX7_likely_58 lvX7_215 rfl rfl rfl rfl rfl rfl rfl ⟨rfl, rfl⟩ (s_X6_waysIn hW hp hn3 hn2 (by omega) hv hv2) (fun z58 I58 L58 R58 hq58 => ?_)
      obtain ⟨rfl, rfl, rfl, rfl⟩ := hq58
      rw [ws.1]
      refine x_lstore_n (lv' := [(0, _), (1, _), (2, _), (3, _)]) dX7_likely_61 rfl rfl rfl ?_
      refine x_lload_n dX7_likely_62 3 rfl rfl ?_
      refine x_ldc2 (1000000000000000) dX7_likely_63 lkX7_219 ?_
      refine x_lc_le (tgt := 73) dX7_likely_66 dX7_likely_67 (by decide) (by first | omega | exact z_and_r _ _ | exact z_shl_r _ _) (fun h66 => ?_) (fun h66 => ?_)
      · refine x_iconst dX7_likely_73 ?_
        refine x_istore (lv' := [(0, _), (1, _), (2, _), (3, _), (5, _)]) dX7_likely_74 rfl rfl ?_
        refine x_ldc2 (-1) dX7_likely_76 lkX7_299 ?_
        refine x_lstore (lv' := [(0, _), (1, _), (2, _), (3, _), (5, _), (6, _)]) dX7_likely_79 rfl rfl ?_
        refine x_iconst dX7_likely_81 ?_
        refine x_istore (lv' := [(0, _), (1, _), (2, _), (3, _), (5, _), (6, _), (8, _)]) dX7_likely_82 rfl rfl ?_
        exact at84 (by omega) 0 (by omega)
      · refine x_bipush dX7_likely_70 (by decide) ?_
        refine x_iret dX7_likely_72 rfl ?_
        rw [← hQ]
        have hbig : 1000000000000000 < aw (kM M) := by omega
        have x : s_likely (wn : Int) (tn : Int) M = (-6, M) := by
          unfold s_likely
          rw [if_neg (by omega), if_neg (by rw [hok]; exact fun z => Bool.noConfusion z)]
          exact if_pos hbig
        have y : l_likely (wn : Int) (tn : Int) M N = N := by
          unfold l_likely
          rw [if_neg (by omega), if_neg (by rw [hok]; exact fun z => Bool.noConfusion z)]
          exact if_pos hbig
        rw [x, y]
        exact ⟨_, rfl, rfl, co2, cc2⟩
    refine x_aload_n dX7_likely_37 0 rfl rfl ?_
    refine x_getR dX7_likely_38 flX7_31 rfl rfl (hR 0 3 19 rfl) ?_
    refine x_aload_n dX7_likely_41 0 rfl rfl ?_
    refine x_getR dX7_likely_42 flX7_50 rfl rfl (hR 0 4 42 rfl) ?_
    refine x_iload_n dX7_likely_45 2 rfl rfl ?_
    refine x_callVv (as := [_, _]) dX7_likely_46 lvX7_211 rfl rfl rfl rfl rfl rfl rfl ⟨rfl, rfl⟩ (s_X6_weigh hR tw hp c1 hh c3 m12 st m15 (by omega)) (fun I46 L46 R46 hq46 => ?_)
    skip
    exact at49 _ _ _ hq46
  refine x_aload_n dX7_likely_0 0 rfl rfl ?_
  refine x_getR dX7_likely_1 flX7_38 rfl rfl r8 ?_
  refine x_iload_n dX7_likely_4 1 rfl rfl ?_
  refine x_callVi (as := [_]) dX7_likely_5 lvX7_170 rfl (shH0 hh) rfl rfl rfl rfl rfl ⟨rfl, rfl⟩ (s_X0_hasWalker hh (by omega) (by omega)) (fun z5 I5 L5 R5 hq5 => ?_)
  obtain ⟨rfl, rfl, rfl, rfl⟩ := hq5
  refine y_ifb_eq (tgt := 22) dX7_likely_8 (by decide) (fun h8 => ?_) (fun h8 => ?_)
  · refine x_iconst dX7_likely_22 ?_
    refine x_iret dX7_likely_23 rfl ?_
    rw [← hQ]
    first
    | (have x : s_likely w t M = (-1, M) := by
         unfold s_likely
         exact if_pos (by omega)
       have y : l_likely w t M N = N := by
         unfold l_likely
         exact if_pos (by omega)
       rw [x, y]
       exact ⟨_, rfl, rfl, co0, cc0⟩)
    | (have x : s_likely w t M = (-3, a_mt M 4) := by
         unfold s_likely
         rw [if_neg (by omega), if_pos (bf (by assumption))]
       have y : l_likely w t M N = N := by
         unfold l_likely
         rw [if_neg (by omega), if_pos (bf (by assumption))]
       rw [x, y]
       have z := mt_ok co1 cc1 (f := 4) (by omega)
       exact ⟨_, rfl, rfl, z.1, z.2⟩)
  · refine x_aload_n dX7_likely_11 0 rfl rfl ?_
    refine x_getR dX7_likely_12 flX7_38 rfl rfl r8 ?_
    refine x_iload_n dX7_likely_15 2 rfl rfl ?_
    refine x_callVi (as := [_]) dX7_likely_16 lvX7_227 rfl (shH0 hh) rfl rfl rfl rfl rfl ⟨rfl, rfl⟩ (s_X0_hasMinute hh (by omega) (by omega)) (fun z16 I16 L16 R16 hq16 => ?_)
    obtain ⟨rfl, rfl, rfl, rfl⟩ := hq16
    refine y_ifb_ne (tgt := 24) dX7_likely_19 (by decide) (fun h19 => ?_) (fun h19 => ?_)
    · refine x_aload_n dX7_likely_24 0 rfl rfl ?_
      refine x_callVi (as := []) dX7_likely_25 lvX7_205 rfl rfl rfl rfl rfl rfl rfl ⟨rfl, rfl⟩ (s_X7_knowsWays co0 cc0) (fun z25 I25 L25 R25 hq25 => ?_)
      obtain ⟨rfl, co1, cc1, kw, hK⟩ := hq25
      refine y_ifb_ne (tgt := 37) dX7_likely_28 (by decide) (fun h28 => ?_) (fun h28 => ?_)
      · exact body _ _ _ co1 cc1 (kw (by assumption)).1 (kw (by assumption)).2 (by assumption) (by omega) (by omega)
      · refine x_aload_n dX7_likely_31 0 rfl rfl ?_
        refine x_iconst dX7_likely_32 ?_
        refine x_callVi (as := [_]) dX7_likely_33 lvX7_79 rfl rfl rfl rfl rfl rfl rfl ⟨rfl, rfl⟩ (s_X7_found co1.1 (by omega)) (fun z33 I33 L33 R33 hq33 => ?_)
        obtain ⟨rfl, rfl, rfl, rfl⟩ := hq33
        refine x_iret dX7_likely_36 rfl ?_
        rw [← hQ]
        first
        | (have x : s_likely w t M = (-1, M) := by
             unfold s_likely
             exact if_pos (by omega)
           have y : l_likely w t M N = N := by
             unfold l_likely
             exact if_pos (by omega)
           rw [x, y]
           exact ⟨_, rfl, rfl, co0, cc0⟩)
        | (have x : s_likely w t M = (-3, a_mt M 4) := by
             unfold s_likely
             rw [if_neg (by omega), if_pos (bf (by assumption))]
           have y : l_likely w t M N = N := by
             unfold l_likely
             rw [if_neg (by omega), if_pos (bf (by assumption))]
           rw [x, y]
           have z := mt_ok co1 cc1 (f := 4) (by omega)
           exact ⟨_, rfl, rfl, z.1, z.2⟩)
    · refine x_iconst dX7_likely_22 ?_
      refine x_iret dX7_likely_23 rfl ?_
      rw [← hQ]
      first
      | (have x : s_likely w t M = (-1, M) := by
           unfold s_likely
           exact if_pos (by omega)
         have y : l_likely w t M N = N := by
           unfold l_likely
           exact if_pos (by omega)
         rw [x, y]
         exact ⟨_, rfl, rfl, co0, cc0⟩)
      | (have x : s_likely w t M = (-3, a_mt M 4) := by
           unfold s_likely
           rw [if_neg (by omega), if_pos (bf (by assumption))]
         have y : l_likely w t M N = N := by
           unfold l_likely
           rw [if_neg (by omega), if_pos (bf (by assumption))]
         rw [x, y]
         have z := mt_ok co1 cc1 (f := 4) (by omega)
         exact ⟨_, rfl, rfl, z.1, z.2⟩)
theorem s_X7_third  (co0 : CO I L R M N h h') (cc0 : CC I L R M h) : Sp G mtX7_third [mr 0] shX I L R (qi (fun z I' L' R' => z = (s_third M).1 ∧ CO I' L' R' (s_third M).2 N h h' ∧ CC I' L' R' (s_third M).2 h)) := by
  refine Sp.of pnX7_third rfl ?_
  show Rn G mtX7_third _ 0 [(0, mr 0)] [] shX I L R
  generalize hQ : (qi (fun z I' L' R' => z = (s_third M).1 ∧ CO I' L' R' (s_third M).2 N h h' ∧ CC I' L' R' (s_third M).2 h)) = Q
  have hR := co0.1
  have r8 := co0.2.1.1
  have r9 := co0.2.1.2.1
  have h32 := co0.h32
  have hh := hR.h h32
  obtain ⟨iH, iE, iL, iR, iT⟩ := co0.2.2.2.2.1
  have hrl := co0.2.2.2.2.2.1.1
  have q0 := hrl.1
  have q1 := hrl.2.1
  have q2 := hrl.2.2.1
  have q3 := hrl.2.2.2.1
  have b0 := iH.1
  have b1 := iH.2.1
  have b2 := iH.2.2.1
  have b3 := iH.2.2.2.1
  have body : ∀ J K S, CO J K S M N h h' → CC J K S M h → J 0 10 = 1 → J 0 11 = 1 → okA M = true → Rn G mtX7_third Q 13 [(0, mr 0)] [] shX J K S := by
    intro J K S co cc h10 h11 hok
    have hR := co.1
    have r8 := co.2.1.1
    have r9 := co.2.1.2.1
    have hh := hR.h h32
    obtain ⟨na, nb, nk, tw⟩ := co.2.2.1
    obtain ⟨m12, m15⟩ := co.2.2.2.1
    obtain ⟨c1, c2, n, c3, c4, -, c6⟩ := cc.2 h10
    obtain ⟨fit, st, nt⟩ := c6 h11
    have hp := hR.p (Or.inl rfl)
    have hn3 : J 42 3 = (n : Int) := c3.1.1.2.2.2.2.1
    have hn2 := (PQ_n c3.1.1).2
    have hus := PK_us c3.1
    have h34 := c3.1.2.2.2.1
    have hl : ((lst (kM M) : Nat) : Int) = M 0 14 := KA_lst iH
    have hu : ((us (kM M) : Nat) : Int) = M 0 13 := KA_us iH
    have k11 : kM M 0 11 = M 0 11 := kap_per (by unfold per; omega)
    have j0 : J h 0 = M 0 11 := co.2.2.2.2.2.1.1.1
    have j1 : J h 1 = M 0 12 := co.2.2.2.2.2.1.1.2.1
    have j3 : J h 3 = M 0 14 := co.2.2.2.2.2.1.1.2.2.2.1
    have j4 : J h 4 = orf (bdF M) (M 0 12).toNat := co.2.2.2.2.2.1.1.2.2.2.2
    have jl : J h 3 = ((lst (kM M) : Nat) : Int) := j3.trans hl.symm
    have k7 : ∀ x, kM M 7 x = M 7 x := fun x => kap_per (by unfold per; omega)
    obtain ⟨dd, hdd⟩ : ∃ dd : Nat, M 0 12 = (dd : Int) := ⟨(M 0 12).toNat, by omega⟩
    have at20 : ∀ d : Nat, d ≤ dd → Rn G mtX7_third Q 20 [(0, mr 0), (1, mi (thF (kM M) d).1), (2, mi (thF (kM M) d).2), (3, mi (d : Int))] [] shX J K S := by
      refine lpn dd (fun d hd ih => ?_) ?_
      · have tr := thF_r (κ := kM M) d
        have w := mn_eq (I := J) (d := d) c3.1.2.1 c3.1.2.2.1 nt (by omega)
        have r1 := mnX_r J 27 (d : Int) (lst (kM M))
        have r2 := mnX_r J 28 (d : Int) (lst (kM M))
        have hb : tb (J h 4) (d : Int).toNat = true ↔ M 7 (3 * (d : Int) + 2) = 1 := by
          rw [j4, Int.toNat_natCast, tb_bd b1 (by omega)]
          exact ⟨fun z => z.2, fun z => ⟨by omega, z⟩⟩
        have es : thF (kM M) (d + 1) = if ¬ M 7 (3 * (d : Int) + 2) = 1 ∧ (thF (kM M) d).2 < mnX J 27 (d : Int) (lst (kM M)) - mnX J 28 (d : Int) (lst (kM M)) then ((d : Int), mnX J 27 (d : Int) (lst (kM M)) - mnX J 28 (d : Int) (lst (kM M))) else thF (kM M) d := by
          rw [w.1, w.2, ← k7]
          rfl
        refine x_iload_n dX7_third_20 3 rfl rfl ?_
        refine x_aload_n dX7_third_21 0 rfl rfl ?_
        refine x_getR dX7_third_22 flX7_38 rfl rfl r8 ?_
        refine x_getI dX7_third_25 flX7_132 (shH0 hh) rfl ?_
        rw [j1, hdd]
        refine x_ic_ge (tgt := 106) dX7_third_28 (by decide) (by omega) (fun h28 => ?_) (fun h28 => ?_)
        · exfalso; omega
        · refine x_aload_n dX7_third_31 0 rfl rfl ?_
          refine x_getR dX7_third_32 flX7_31 rfl rfl (hR 0 3 19 rfl) ?_
          refine x_aload_n dX7_third_35 0 rfl rfl ?_
          refine x_getR dX7_third_36 flX7_31 rfl rfl (hR 0 3 19 rfl) ?_
          refine x_getR dX7_third_39 flX7_289 rfl rfl (hR 19 4 27 rfl) ?_
          refine x_iload_n dX7_third_42 3 rfl rfl ?_
          refine x_aload_n dX7_third_43 0 rfl rfl ?_
          refine x_getR dX7_third_44 flX7_38 rfl rfl r8 ?_
          refine x_getI dX7_third_47 flX7_208 (shH0 hh) rfl ?_
          rw [jl]
          refine x_callVi (as := [_, _, _]) dX7_third_50 lvX7_286 rfl rfl rfl rfl rfl rfl rfl ⟨rfl, rfl⟩ (s_X6_minutesOf (c := 27) (Or.inl rfl) (by omega) (by omega)) (fun z50 I50 L50 R50 hq50 => ?_)
          obtain ⟨rfl, rfl, rfl, rfl⟩ := hq50
          refine x_aload_n dX7_third_53 0 rfl rfl ?_
          refine x_getR dX7_third_54 flX7_31 rfl rfl (hR 0 3 19 rfl) ?_
          refine x_aload_n dX7_third_57 0 rfl rfl ?_
          refine x_getR dX7_third_58 flX7_31 rfl rfl (hR 0 3 19 rfl) ?_
          refine x_getR dX7_third_61 flX7_283 rfl rfl (hR 19 5 28 rfl) ?_
          refine x_iload_n dX7_third_64 3 rfl rfl ?_
          refine x_aload_n dX7_third_65 0 rfl rfl ?_
          refine x_getR dX7_third_66 flX7_38 rfl rfl r8 ?_
          refine x_getI dX7_third_69 flX7_208 (shH0 hh) rfl ?_
          rw [jl]
          refine x_callVi (as := [_, _, _]) dX7_third_72 lvX7_286 rfl rfl rfl rfl rfl rfl rfl ⟨rfl, rfl⟩ (s_X6_minutesOf (c := 28) (Or.inr rfl) (by omega) (by omega)) (fun z72 I72 L72 R72 hq72 => ?_)
          obtain ⟨rfl, rfl, rfl, rfl⟩ := hq72
          refine x_isub dX7_third_75 ?_
          refine x_istore (lv' := [(0, _), (1, _), (2, _), (3, _), (4, _)]) dX7_third_76 rfl rfl ?_
          refine x_aload_n dX7_third_78 0 rfl rfl ?_
          refine x_getR dX7_third_79 flX7_38 rfl rfl r8 ?_
          refine x_iload_n dX7_third_82 3 rfl rfl ?_
          refine x_callVi (as := [_]) dX7_third_83 lvX7_292 rfl (shH0 hh) rfl rfl rfl rfl rfl ⟨rfl, rfl⟩ (s_X0_hasBoard hh (by omega) (by omega)) (fun z83 I83 L83 R83 hq83 => ?_)
          obtain ⟨rfl, rfl, rfl, rfl⟩ := hq83
          refine y_ifb_ne (tgt := 100) dX7_third_86 (by decide) (fun h86 => ?_) (fun h86 => ?_)
          · refine x_iinc (lv' := [(0, _), (1, _), (2, _), (3, _), (4, _)]) dX7_third_100 3 rfl rfl rfl ?_
            refine x_goto (tgt := 20) dX7_third_103 (by decide) ?_
            refine x_top (lv' := [(0, _), (1, _), (2, _), (3, _)]) 4 rfl ?_
            first
            | (rw [if_pos ⟨fun z => (show ¬ ((0 ≤ (d : Int) ∧ (d : Int) < J h 1) ∧ tb (J h 4) (d : Int).toNat = true) by assumption) ⟨by omega, hb.mpr z⟩, by omega⟩] at es
               rw [es] at ih
               exact ih)
            | (rw [if_neg (fun z => absurd z.2 (by omega))] at es
               rw [es] at ih
               exact ih)
            | (rw [if_neg (fun z => z.1 (hb.mp (show (0 ≤ (d : Int) ∧ (d : Int) < J h 1) ∧ tb (J h 4) (d : Int).toNat = true by assumption).2))] at es
               rw [es] at ih
               exact ih)
          · refine x_iload dX7_third_89 4 rfl ?_
            refine x_iload_n dX7_third_91 2 rfl rfl ?_
            refine x_ic_le (tgt := 100) dX7_third_92 (by decide) (by omega) (fun h92 => ?_) (fun h92 => ?_)
            · refine x_iinc (lv' := [(0, _), (1, _), (2, _), (3, _), (4, _)]) dX7_third_100 3 rfl rfl rfl ?_
              refine x_goto (tgt := 20) dX7_third_103 (by decide) ?_
              refine x_top (lv' := [(0, _), (1, _), (2, _), (3, _)]) 4 rfl ?_
              first
              | (rw [if_pos ⟨fun z => (show ¬ ((0 ≤ (d : Int) ∧ (d : Int) < J h 1) ∧ tb (J h 4) (d : Int).toNat = true) by assumption) ⟨by omega, hb.mpr z⟩, by omega⟩] at es
                 rw [es] at ih
                 exact ih)
              | (rw [if_neg (fun z => absurd z.2 (by omega))] at es
                 rw [es] at ih
                 exact ih)
              | (rw [if_neg (fun z => z.1 (hb.mp (show (0 ≤ (d : Int) ∧ (d : Int) < J h 1) ∧ tb (J h 4) (d : Int).toNat = true by assumption).2))] at es
                 rw [es] at ih
                 exact ih)
            · refine x_iload_n dX7_third_95 3 rfl rfl ?_
              refine x_istore_n (lv' := [(0, _), (1, _), (2, _), (3, _), (4, _)]) dX7_third_96 rfl rfl rfl ?_
              refine x_iload dX7_third_97 4 rfl ?_
              refine x_istore_n (lv' := [(0, _), (1, _), (2, _), (3, _), (4, _)]) dX7_third_99 rfl rfl rfl ?_
              refine x_iinc (lv' := [(0, _), (1, _), (2, _), (3, _), (4, _)]) dX7_third_100 3 rfl rfl rfl ?_
              refine x_goto (tgt := 20) dX7_third_103 (by decide) ?_
              refine x_top (lv' := [(0, _), (1, _), (2, _), (3, _)]) 4 rfl ?_
              first
              | (rw [if_pos ⟨fun z => (show ¬ ((0 ≤ (d : Int) ∧ (d : Int) < J h 1) ∧ tb (J h 4) (d : Int).toNat = true) by assumption) ⟨by omega, hb.mpr z⟩, by omega⟩] at es
                 rw [es] at ih
                 exact ih)
              | (rw [if_neg (fun z => absurd z.2 (by omega))] at es
                 rw [es] at ih
                 exact ih)
              | (rw [if_neg (fun z => z.1 (hb.mp (show (0 ≤ (d : Int) ∧ (d : Int) < J h 1) ∧ tb (J h 4) (d : Int).toNat = true by assumption).2))] at es
                 rw [es] at ih
                 exact ih)
      · have tr := thF_r (κ := kM M) dd
        have ed : (M 0 12).toNat = dd := by omega
        refine x_iload_n dX7_third_20 3 rfl rfl ?_
        refine x_aload_n dX7_third_21 0 rfl rfl ?_
        refine x_getR dX7_third_22 flX7_38 rfl rfl r8 ?_
        refine x_getI dX7_third_25 flX7_132 (shH0 hh) rfl ?_
        rw [j1, hdd]
        refine x_ic_ge (tgt := 106) dX7_third_28 (by decide) (by omega) (fun h28 => ?_) (fun h28 => ?_)
        · refine x_iload_n dX7_third_106 1 rfl rfl ?_
          refine x_bipush dX7_third_107 (by decide) ?_
          refine x_ic_eq (tgt := 117) dX7_third_109 (by decide) (by omega) (fun h109 => ?_) (fun h109 => ?_)
          · refine x_iload_n dX7_third_117 1 rfl rfl ?_
            refine x_iret dX7_third_118 rfl ?_
            rw [← hQ]
            first
            | (have x : s_third M = (-9, M) := by
                 unfold s_third
                 rw [if_neg (by rw [hok]; exact fun z => Bool.noConfusion z)]
                 refine if_pos ?_
                 rw [ed]
                 assumption
               rw [x]
               exact ⟨_, rfl, by assumption, co, cc⟩)
            | (have x : s_third M = ((thF (kM M) dd).1, a_tl M (thF (kM M) dd).2) := by
                 unfold s_third
                 rw [if_neg (by rw [hok]; exact fun z => Bool.noConfusion z), ed]
                 exact if_neg (by assumption)
               rw [x]
               have z := tl_ok co cc (thF (kM M) dd).2
               exact ⟨_, rfl, rfl, z.1, z.2⟩)
          · refine x_aload_n dX7_third_112 0 rfl rfl ?_
            refine x_iload_n dX7_third_113 2 rfl rfl ?_
            refine x_putI dX7_third_114 flX7_186 rfl rfl rfl ?_
            refine x_iload_n dX7_third_117 1 rfl rfl ?_
            refine x_iret dX7_third_118 rfl ?_
            rw [← hQ]
            first
            | (have x : s_third M = (-9, M) := by
                 unfold s_third
                 rw [if_neg (by rw [hok]; exact fun z => Bool.noConfusion z)]
                 refine if_pos ?_
                 rw [ed]
                 assumption
               rw [x]
               exact ⟨_, rfl, by assumption, co, cc⟩)
            | (have x : s_third M = ((thF (kM M) dd).1, a_tl M (thF (kM M) dd).2) := by
                 unfold s_third
                 rw [if_neg (by rw [hok]; exact fun z => Bool.noConfusion z), ed]
                 exact if_neg (by assumption)
               rw [x]
               have z := tl_ok co cc (thF (kM M) dd).2
               exact ⟨_, rfl, rfl, z.1, z.2⟩)
        · exfalso; omega
    refine x_bipush dX7_third_13 (by decide) ?_
    refine x_istore_n (lv' := [(0, _), (1, _)]) dX7_third_15 rfl rfl rfl ?_
    refine x_iconst dX7_third_16 ?_
    refine x_istore_n (lv' := [(0, _), (1, _), (2, _)]) dX7_third_17 rfl rfl rfl ?_
    refine x_iconst dX7_third_18 ?_
    refine x_istore_n (lv' := [(0, _), (1, _), (2, _), (3, _)]) dX7_third_19 rfl rfl rfl ?_
    exact at20 0 (by omega)
  refine x_aload_n dX7_third_0 0 rfl rfl ?_
  refine x_callVi (as := []) dX7_third_1 lvX7_205 rfl rfl rfl rfl rfl rfl rfl ⟨rfl, rfl⟩ (s_X7_knowsWays co0 cc0) (fun z1 I1 L1 R1 hq1 => ?_)
  obtain ⟨rfl, co1, cc1, kw, hK⟩ := hq1
  refine y_ifb_ne (tgt := 13) dX7_third_4 (by decide) (fun h4 => ?_) (fun h4 => ?_)
  · exact body _ _ _ co1 cc1 (kw (by assumption)).1 (kw (by assumption)).2 (by assumption)
  · refine x_aload_n dX7_third_7 0 rfl rfl ?_
    refine x_iconst dX7_third_8 ?_
    refine x_callVi (as := [_]) dX7_third_9 lvX7_79 rfl rfl rfl rfl rfl rfl rfl ⟨rfl, rfl⟩ (s_X7_found co1.1 (by omega)) (fun z9 I9 L9 R9 hq9 => ?_)
    obtain ⟨rfl, rfl, rfl, rfl⟩ := hq9
    refine x_iret dX7_third_12 rfl ?_
    rw [← hQ]
    have x : s_third M = (-3, a_mt M 4) := by
      unfold s_third
      rw [if_pos (bf (by assumption))]
    rw [x]
    have z := mt_ok co1 cc1 (f := 4) (by omega)
    exact ⟨_, rfl, rfl, z.1, z.2⟩
end

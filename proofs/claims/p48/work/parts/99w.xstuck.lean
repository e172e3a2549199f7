/-! THE CLASS'S FACE: stuckSince. -/
theorem sgX_p {I J : MI} {p q h : Nat} (e1 : J q 1 = I p 1) (e0 : J h 0 = I h 0) (e3 : ∀ i, J (h + 3) i = I (h + 3) i) (j : Nat) : sgX J q h j = sgX I p h j ∧ std J q h 3 = std I p h 3 := by
  have eS : ∀ w, stW J q h w = stW I p h w := fun w => by unfold stW; rw [e1, e0, e3]
  have eW : ∀ w, nW J q h w = nW I p h w := fun w => by unfold nW; rw [eS]
  have eP : ∀ w s, plX J q h w s = plX I p h w s := fun w s => by unfold plX; rw [e1, e0]
  constructor
  · unfold sgX
    rw [eW, eW, eP, eP, eP]
  · have : ∀ w, std J q h w = std I p h w := fun w => by
      induction w with
      | zero => rfl
      | succ w ih => unfold std; rw [ih, eS]
    exact this 3
theorem PK_2 {T κ : MI} {p h n : Nat} (hp : p ≠ h ∧ p ≠ h + 1 ∧ p ≠ h + 2 ∧ p ≠ h + 3 ∧ p ≠ h + 4) (v : Int) (k : PK T p h n κ) : PK (m_up T p 2 v) p h n κ := by
  have e : ∀ c i, c ≠ p → m_up T p 2 v c i = T c i := fun c i q => m_up_ne q i
  have e1 : ∀ i, i ≠ 2 → m_up T p 2 v p i = T p i := fun i q => m_up_nj q
  obtain ⟨⟨s1, s2, s3, s4, s5, s6, s7, s8⟩, k2, k3, k4, k5, k8, k9, k10⟩ := k
  refine ⟨⟨SHP_e (e1 1 (by decide)) (e1 3 (by decide)) (fun c i hc => e c i (by omega)) (e h 0 (by omega)) (fun i => e (h + 3) i (by omega)) s1, ?_, ?_, ?_, ?_, ?_, ?_, fun t ht => ?_⟩, k2, k3, ?_, ?_, fun d hd => ?_, fun w hw => ?_, fun t ht => ?_⟩
  · unfold okP at s2 ⊢
    rw [e h 0 (by omega), e h 2 (by omega)]
    exact ⟨s2.1, s2.2.1, fun w hw => by rw [e (h + 3) _ (by omega)]; exact s2.2.2 w hw⟩
  · unfold okD at s3 ⊢
    rw [e h 0 (by omega), e h 1 (by omega)]
    exact ⟨s3.1, fun w hw => by rw [e (h + 1) _ (by omega), e (h + 2) _ (by omega)]; exact s3.2 w hw⟩
  · rw [e1 1 (by decide), e h 2 (by omega)]; exact s4
  · rw [e1 3 (by decide)]; exact s5
  · rw [e h 3 (by omega)]; exact s6
  · rw [e h 4 (by omega)]; exact s7
  · rw [e h 3 (by omega)] at ht
    rw [e (p + 1) _ (by omega)]; exact s8 t ht
  · rw [e1 1 (by decide)]; exact k4
  · rw [e h 0 (by omega), e h 1 (by omega), e h 3 (by omega)]; exact k5
  · rw [e h 1 (by omega)] at hd
    rw [e (h + 1) _ (by omega), e (h + 2) _ (by omega)]; exact k8 d hd
  · rw [e1 1 (by decide)] at hw
    rw [e (h + 3) _ (by omega)]; exact k9 w hw
  · rw [e h 3 (by omega)] at ht
    rw [e (p + 1) _ (by omega), e (p + 2) _ (by omega), e (p + 3) _ (by omega), e (p + 4) _ (by omega), e1 1 (by decide), e h 0 (by omega)]
    exact k10 t ht
section
variable {G : GT} {I L M N : MI} {R : MR} {h h' : Nat}

set_option maxHeartbeats 1000000 in
theorem s_X7_stuckSince {dn : Nat} (co0 : CO I L R M N h h') (cc0 : CC I L R M h) (h10 : I 0 10 = 1) (hno : ¬ okA M = true) (hd : (dn : Int) < M 0 12) : Sp G mtX7_stuckSince [mr 0, mi ↑dn] shX I L R (qi (fun z I' L' R' => ((-9 ≤ z ∧ z ≤ 30) ∧ skS M (dn : Int) (lst (kM M)) = if z = -9 then -9 else 100 * (dn : Int) + z) ∧ CO I' L' R' M N h h' ∧ CC I' L' R' M h ∧ I' 0 10 = 1)) := by
  refine Sp.of pnX7_stuckSince rfl ?_
  show Rn G mtX7_stuckSince _ 0 [(0, mr 0), (1, mi ↑dn)] [] shX I L R
  generalize hQ : (qi (fun z I' L' R' => ((-9 ≤ z ∧ z ≤ 30) ∧ skS M (dn : Int) (lst (kM M)) = if z = -9 then -9 else 100 * (dn : Int) + z) ∧ CO I' L' R' M N h h' ∧ CC I' L' R' M h ∧ I' 0 10 = 1)) = Q
  have hR := co0.1
  have r8 := co0.2.1.1
  have r9 := co0.2.1.2.1
  have h32 := co0.h32
  have hh := hR.h h32
  obtain ⟨iH, iE, iL, iR, iT⟩ := co0.2.2.2.2.1
  have hrl := co0.2.2.2.2.2.1.1
  have q0 := hrl.1
  have q1 := hrl.2.1
  have q2 := hrl.2.2.1
  have q3 := hrl.2.2.2.1
  have b0 := iH.1
  have b1 := iH.2.1
  have b2 := iH.2.2.1
  have b3 := iH.2.2.2.1
  obtain ⟨op0, o30, -, -, -⟩ := co0.2.2.2.2.2.1.ok iH
  have hl : ((lst (kM M) : Nat) : Int) = M 0 14 := KA_lst iH
  have k36 : kM M 0 36 = -9 := by unfold kM kap; rw [scn_0]; unfold sc0; simp
  have fit : ¬ fst0 (kM M) = -9 := fun z => hno ((okA_eq iE iL).mpr z)
  have fb := fst0_b (kM M)
  obtain ⟨e, he⟩ : ∃ e : Nat, fst0 (kM M) = (e : Int) := ⟨(fst0 (kM M)).toNat, by
    have := fst0_r (kM M) (lst (kM M) + 1) 0
    unfold fst0 at fit ⊢
    omega⟩
  have body : ∀ J K S, CO J K S M N h h' → CC J K S M h → J 0 10 = 1 → ∀ J1, MK 50 h (M 0 13) (z_and (J h 4) (z_xor (z_shl 1 (dn : Int)) (-1))) J J1 → Rn G mtX7_stuckSince Q 31 [(0, mr 0), (1, mi (dn : Int))] [] shX J1 K (m_up S 50 0 (some h)) := by
    intro J K S co cc h10
    have hR := co.1
    have r8 := co.2.1.1
    have r9 := co.2.1.2.1
    have hh := hR.h h32
    have j2 : J h 2 = M 0 13 := co.2.2.2.2.2.1.1.2.2.1
    have j4 : J h 4 = orf (bdF M) (M 0 12).toNat := co.2.2.2.2.2.1.1.2.2.2.2
    have j25 : J 58 0 = M 0 25 := co.2.2.2.2.2.2.1.1
    obtain ⟨op, o3, o2, -, -⟩ := co.2.2.2.2.2.1.ok iH
    obtain ⟨c1, c2, n', c3, c4, c5, c6⟩ := cc.2 h10
    have h11 : J 0 11 = 0 := by
      rcases cc.1.2 with q | q
      · exact q
      · exact absurd (c6 q).1 fit
    have at31 : ∀ J1, MK 50 h (M 0 13) (z_and (J h 4) (z_xor (z_shl 1 (dn : Int)) (-1))) J J1 → Rn G mtX7_stuckSince Q 31 [(0, mr 0), (1, mi (dn : Int))] [] shX J1 K (m_up S 50 0 (some h)) := by
      intro J1 mk
      generalize hS1 : m_up S 50 0 (some h) = S1
      obtain ⟨hR, ⟨r8, r9⟩, ev, u1, ph3⟩ := trial_pre co ⟨by omega, by omega⟩ mk hS1.symm
      have hh := hR.h h32
      have hp := hR.p (h := 50) (Or.inr rfl)
      have hn := hR.n (h := 58) (Or.inl rfl)
      have at43 : ∀ T, T = tkF J1 50 58 0 (J1 58 0).toNat → Rn G mtX7_stuckSince Q 43 [(0, mr 0), (1, mi (dn : Int))] [] shX T K S1 := by
        intro T hT
        obtain ⟨co3, cc3, -, t4, ⟨n, pk3⟩, p4, p2, d13⟩ := trial_ok co cc ⟨by omega, by omega⟩ mk hT hS1.symm
        obtain ⟨na, nb, nk, tw⟩ := co3.2.2.1
        obtain ⟨m12, m15⟩ := co3.2.2.2.1
        have g01 : T 50 4 = 0 ∨ T 50 4 = 1 := by rw [p4]; have := b01_r (gd M 0 (M 0 13) = true); omega
        have fr : ∀ c i, ¬ (50 ≤ c ∧ c ≤ 50 + 7) → T c i = J c i := fun c i q => by rw [hT]; exact lay_fr mk 0 _ c i q
        have pk : PK T 50 h n (kM M) := pk3
        have t3 : T h 3 = M 0 14 := (fr h 3 (by omega)).trans co.2.2.2.2.2.1.1.2.2.2.1
        have tl := PK_last pk
        have t12 : T 0 12 = (e : Int) := (fr 0 12 (by omega)).trans (c2.trans he)
        have t1 : T 50 1 = J 42 1 := by
          have z1 := pk.2.2.2.1
          have z2 := c3.1.2.2.2.1
          rw [z1, z2]
        have sp := fun j => sgX_p (I := J) (J := T) (p := 42) (q := 50) (h := h) t1 (fr h 0 (by omega)) (fun i => fr (h + 3) i (by omega)) j
        have en : n' = n := by
          have z1 := pk.1.1.1
          have z2 := c3.1.1.1.1
          have z3 := pk.1.2.2.2.2.1
          have z4 := c3.1.1.2.2.2.2.1
          have z5 := (sp 0).2
          omega
        subst en
        have pkr2 : PKR (m_up T 50 2 (orf (bdF M) (M 0 12).toNat)) 50 h n' (kM M) := lay_PKR (PK_2 (by omega) _ pk) m_up_eq d13 iH
        have sup : ∀ s : Nat, (s : Int) ≤ T h 3 → SUP T 50 h n' (nst (kM M)) (Fr (kM M) s) := fun s hs => by
          have z := sup_t pkr2 s (by rw [m_up_ne (by omega)]; exact hs)
          intro x hx hF
          obtain ⟨j, hj, q⟩ := z x hx hF
          refine ⟨j, hj, ?_⟩
          have y := (sgX_p (I := m_up T 50 2 (orf (bdF M) (M 0 12).toNat)) (J := T) (p := 50) (q := 50) (h := h) (m_up_nj (by decide)).symm (m_up_ne (by omega) 0).symm (fun i => (m_up_ne (by omega) i).symm) j).1
          rw [y]
          exact q
        have snd : ∀ t : Nat, (t : Int) ≤ M 0 14 → T (50 + 1) (t : Int) = kM M 13 (t : Int) := fun t ht => (pk.2.2.2.2.2.2.2 t (by omega)).1
        obtain ⟨r1, r2, r3⟩ := sfX_r (kM M) dn (lst (kM M))
        have hsk : ∀ t : Nat, sfX (kM M) dn (lst (kM M)) ≤ t → (t : Int) < T h 3 → hSk T (kM M) 50 t (dn : Int) := fun t h1 h2 => by
          have hS := pk.2.2.1
          refine ⟨?_, ?_⟩
          · rw [p2, j4]
            show _ = z_and (kap M 0 (M 0 13) 0 35) _
            rw [kap_35v]
          · rw [snd t (by omega), p2, j4]
            refine tb_ext (z_and_r _ _) (hS.2.2.2.2 (t : Int) (by omega) (by omega)).1 (fun b hb => ?_)
            rw [tb_and, tb_and]
            cases y : tb (kM M 13 (t : Int)) b
            · rfl
            · have z := d13 t b (by omega) hb y
              have nd : b ≠ dn := fun q => by
                subst q
                exact r2 t h1 (by omega) y
              rw [Bool.true_and, (tb_bd b1 hb).mpr z, Bool.true_and, tb_xor, tb_m1 hb, tb_sh1 (by omega) hb, Int.toNat_natCast, decide_eq_false nd]
              rfl
        have hset : ∀ t : Nat, t < e → ∀ j : Nat, j < n' → (inX K j t = true ↔ 0 < Fr (kM M) t (sgX T 50 h j)) := fun t ht j hj => by
          have nn := (PQ_n pk.1).2
          rw [c5 h11 t (by omega) (Or.inr (by omega)) j (by omega), (sp j).1]
          exact ⟨fun z => z.2, fun z => ⟨hj, z⟩⟩
        have ls := s_X6_lastSince (G := G) (L := K) (f := sfX (kM M) dn (lst (kM M))) (e := e) (d := (dn : Int)) hR tw hp ph3 hh pk m12 (by omega) k36 r1 (by omega) sup hsk hset
        have lp : ∀ t : Nat, t ≤ lst (kM M) → Rn G mtX7_stuckSince Q 47 [(0, mr 0), (1, mi (dn : Int)), (2, mi ((sfX (kM M) dn t : Nat) : Int)), (3, mi (t : Int))] [] shX T K S1 := by
          refine lpn _ (fun t ht ih => ?_) ?_
          · have st := snd t (by omega)
            have es : sfX (kM M) dn (t + 1) = if tb (kM M 13 (t : Int)) dn = true then t + 1 else sfX (kM M) dn t := rfl
            have sr := (sfX_r (kM M) dn t).1
            have hbr := b01_r (tb (kM M 13 (t : Int)) dn = true)
            refine x_iload_n dX7_stuckSince_47 3 rfl rfl ?_
            refine x_aload_n dX7_stuckSince_48 0 rfl rfl ?_
            refine x_getR dX7_stuckSince_49 flX7_38 rfl rfl r8 ?_
            refine x_getI dX7_stuckSince_52 flX7_208 (shH0 hh) rfl ?_
            refine x_ic_ge (tgt := 84) dX7_stuckSince_55 (by decide) (by first | omega | exact z_and_r _ _) (fun h55 => ?_) (fun h55 => ?_)
            · exfalso; omega
            · refine x_aload_n dX7_stuckSince_58 0 rfl rfl ?_
              refine x_getR dX7_stuckSince_59 flX7_54 rfl rfl (hR 0 5 50 rfl) ?_
              refine x_getR dX7_stuckSince_62 flX7_376 rfl rfl (hR 50 5 51 rfl) ?_
              refine x_iload_n dX7_stuckSince_65 3 rfl rfl ?_
              refine x_iald dX7_stuckSince_66 rfl (by omega) ?_
              rw [st]
              refine x_iload_n dX7_stuckSince_67 1 rfl rfl ?_
              refine x_ishr dX7_stuckSince_68 ?_
              refine x_iconst dX7_stuckSince_69 ?_
              refine x_iand dX7_stuckSince_70 ?_
              rw [z_bit (by omega), Int.toNat_natCast]
              refine x_if_eq (tgt := 78) dX7_stuckSince_71 (by decide) (by first | omega | exact z_and_r _ _) (fun h71 => ?_) (fun h71 => ?_)
              · refine x_iinc (lv' := [(0, _), (1, _), (2, _), (3, _)]) dX7_stuckSince_78 3 rfl rfl rfl ?_
                refine x_goto (tgt := 47) dX7_stuckSince_81 (by decide) ?_
                first
                | (rw [if_pos (b01_ne.mp (by assumption))] at es
                   rw [es] at ih
                   exact ih)
                | (rw [if_neg (b01_eq.mp (by assumption))] at es
                   rw [es] at ih
                   exact ih)
                | (rw [if_pos (by assumption)] at es
                   rw [es] at ih
                   exact ih)
                | (rw [if_neg (by assumption)] at es
                   rw [es] at ih
                   exact ih)
              · refine x_iload_n dX7_stuckSince_74 3 rfl rfl ?_
                refine x_iconst dX7_stuckSince_75 ?_
                refine x_iadd dX7_stuckSince_76 ?_
                refine x_istore_n (lv' := [(0, _), (1, _), (2, _), (3, _)]) dX7_stuckSince_77 rfl rfl rfl ?_
                refine x_iinc (lv' := [(0, _), (1, _), (2, _), (3, _)]) dX7_stuckSince_78 3 rfl rfl rfl ?_
                refine x_goto (tgt := 47) dX7_stuckSince_81 (by decide) ?_
                first
                | (rw [if_pos (b01_ne.mp (by assumption))] at es
                   rw [es] at ih
                   exact ih)
                | (rw [if_neg (b01_eq.mp (by assumption))] at es
                   rw [es] at ih
                   exact ih)
                | (rw [if_pos (by assumption)] at es
                   rw [es] at ih
                   exact ih)
                | (rw [if_neg (by assumption)] at es
                   rw [es] at ih
                   exact ih)
          · refine x_iload_n dX7_stuckSince_47 3 rfl rfl ?_
            refine x_aload_n dX7_stuckSince_48 0 rfl rfl ?_
            refine x_getR dX7_stuckSince_49 flX7_38 rfl rfl r8 ?_
            refine x_getI dX7_stuckSince_52 flX7_208 (shH0 hh) rfl ?_
            refine x_ic_ge (tgt := 84) dX7_stuckSince_55 (by decide) (by first | omega | exact z_and_r _ _) (fun h55 => ?_) (fun h55 => ?_)
            · refine x_aload_n dX7_stuckSince_84 0 rfl rfl ?_
              refine x_getR dX7_stuckSince_85 flX7_31 rfl rfl (hR 0 3 19 rfl) ?_
              refine x_aload_n dX7_stuckSince_88 0 rfl rfl ?_
              refine x_getR dX7_stuckSince_89 flX7_54 rfl rfl (hR 0 5 50 rfl) ?_
              refine x_iload_n dX7_stuckSince_92 2 rfl rfl ?_
              refine x_aload_n dX7_stuckSince_93 0 rfl rfl ?_
              refine x_getI dX7_stuckSince_94 flX7_183 rfl rfl ?_
              rw [t12]
              refine x_callVi (as := [_, _, _]) dX7_stuckSince_97 lvX7_379 rfl rfl rfl rfl rfl rfl rfl ⟨rfl, rfl⟩ (ls) (fun z97 I97 L97 R97 hq97 => ?_)
              obtain ⟨kz, wp⟩ := hq97
              refine x_iret dX7_stuckSince_100 rfl ?_
              rw [← hQ]
              have zr : -9 ≤ z97 ∧ z97 ≤ 30 := by
                rcases kz with ⟨q, -⟩ | ⟨s, q, q2, q3, -⟩ <;> omega
              refine ⟨_, rfl, ⟨zr, skS_eq (by omega) k36 rfl he (by omega) ?_⟩, co3.wp wp, cc3.wp h32 wp, ?_⟩
              · rcases kz with ⟨q, q2⟩ | ⟨s, q, q2, q3, q4, q5⟩
                · exact Or.inl ⟨q, fun s h1 h2 y => q2 s h1 h2 (sk_last.mp y)⟩
                · exact Or.inr ⟨s, q, q2, q3, sk_last.mpr q4, fun s' h1 h2 y => q5 s' h1 h2 (sk_last.mp y)⟩
              · rw [wp.1 0 10 (by decide), fr 0 10 (by omega)]
                exact h10
            · exfalso; omega
        refine x_iconst dX7_stuckSince_43 ?_
        refine x_istore_n (lv' := [(0, _), (1, _), (2, _)]) dX7_stuckSince_44 rfl rfl rfl ?_
        refine x_iconst dX7_stuckSince_45 ?_
        refine x_istore_n (lv' := [(0, _), (1, _), (2, _), (3, _)]) dX7_stuckSince_46 rfl rfl rfl ?_
        exact lp 0 (by omega)
      refine x_aload_n dX7_stuckSince_31 0 rfl rfl ?_
      refine x_getR dX7_stuckSince_32 flX7_54 rfl rfl (hR 0 5 50 rfl) ?_
      refine x_aload_n dX7_stuckSince_35 0 rfl rfl ?_
      refine x_getR dX7_stuckSince_36 flX7_60 rfl rfl (hR 0 6 58 rfl) ?_
      refine x_iconst dX7_stuckSince_39 ?_
      refine x_callVv (as := [_, _]) dX7_stuckSince_40 lvX7_198 rfl rfl rfl rfl rfl rfl rfl ⟨rfl, rfl⟩ (s_X3_take hp hn ev.1 ev.2 u1) (fun I40 L40 R40 hq40 => ?_)
      obtain ⟨w40, rfl, rfl⟩ := hq40
      exact at43 _ w40
    exact at31
  refine x_aload_n dX7_stuckSince_0 0 rfl rfl ?_
  refine x_getR dX7_stuckSince_1 flX7_54 rfl rfl (hR 0 5 50 rfl) ?_
  refine x_aload_n dX7_stuckSince_4 0 rfl rfl ?_
  refine x_getR dX7_stuckSince_5 flX7_38 rfl rfl r8 ?_
  refine x_aload_n dX7_stuckSince_8 0 rfl rfl ?_
  refine x_getR dX7_stuckSince_9 flX7_38 rfl rfl r8 ?_
  refine x_getI dX7_stuckSince_12 flX7_189 (shH0 hh) rfl ?_
  refine x_aload_n dX7_stuckSince_15 0 rfl rfl ?_
  refine x_getR dX7_stuckSince_16 flX7_38 rfl rfl r8 ?_
  refine x_getI dX7_stuckSince_19 flX7_192 (shH0 hh) rfl ?_
  refine x_iconst dX7_stuckSince_22 ?_
  refine x_iload_n dX7_stuckSince_23 1 rfl rfl ?_
  refine x_ishl dX7_stuckSince_24 ?_
  refine x_iconst dX7_stuckSince_25 ?_
  refine x_ixor dX7_stuckSince_26 ?_
  refine x_iand dX7_stuckSince_27 ?_
  refine x_callVv (as := [_, _, _]) dX7_stuckSince_28 lvX7_195 rfl rfl rfl rfl rfl rfl rfl ⟨rfl, rfl⟩ (s_X3_make (hR.p (h := 50) (Or.inr rfl)) hh op0 o30 (by omega)) (fun I28 L28 R28 hq28 => ?_)
  obtain ⟨rfl, rfl, mk28⟩ := hq28
  rw [q2] at mk28
  exact body _ _ _ co0 cc0 h10 _ mk28
theorem s_X7_stuck  (co0 : CO I L R M N h h') (cc0 : CC I L R M h) : Sp G mtX7_stuck [mr 0] shX I L R (qi (fun z I' L' R' => z = s_stuck M ∧ CO I' L' R' M N h h' ∧ CC I' L' R' M h)) := by
  refine Sp.of pnX7_stuck rfl ?_
  show Rn G mtX7_stuck _ 0 [(0, mr 0)] [] shX I L R
  generalize hQ : (qi (fun z I' L' R' => z = s_stuck M ∧ CO I' L' R' M N h h' ∧ CC I' L' R' M h)) = Q
  have hR := co0.1
  have r8 := co0.2.1.1
  have r9 := co0.2.1.2.1
  have h32 := co0.h32
  have hh := hR.h h32
  obtain ⟨iH, iE, iL, iR, iT⟩ := co0.2.2.2.2.1
  have hrl := co0.2.2.2.2.2.1.1
  have q0 := hrl.1
  have q1 := hrl.2.1
  have q2 := hrl.2.2.1
  have q3 := hrl.2.2.2.1
  have b0 := iH.1
  have b1 := iH.2.1
  have b2 := iH.2.2.1
  have b3 := iH.2.2.2.1
  obtain ⟨D, hD⟩ : ∃ D : Nat, M 0 12 = (D : Int) := ⟨(M 0 12).toNat, by omega⟩
  have hl : ((lst (kM M) : Nat) : Int) = M 0 14 := KA_lst iH
  have lp : ¬ okA M = true → ∀ d : Nat, d ≤ D → ∀ J K S, CO J K S M N h h' → CC J K S M h → J 0 10 = 1 → skD M (D - d) d = s_stuck M → Rn G mtX7_stuck Q 12 [(0, mr 0), (1, mi (d : Int))] [] shX J K S := by
    intro hno
    refine lpn D (fun d hd ih => ?_) ?_
    · intro J K S co cc h10 ed
      have hR := co.1
      have r8 := co.2.1.1
      have hh := hR.h h32
      have j1 : J h 1 = M 0 12 := co.2.2.2.2.2.1.1.2.1
      have j4 : J h 4 = orf (bdF M) (M 0 12).toNat := co.2.2.2.2.2.1.1.2.2.2.2
      have hb : tb (J h 4) (d : Int).toNat = true ↔ M 7 (3 * (d : Int) + 2) = 1 := by
        rw [j4, Int.toNat_natCast, tb_bd b1 (by omega)]
        exact ⟨fun z => z.2, fun z => ⟨by omega, z⟩⟩
      have es : skD M (D - d) d = if M 7 (3 * (d : Int) + 2) = 1 ∧ skS M (d : Int) (lst (kM M)) ≠ -9 then skS M (d : Int) (lst (kM M)) else skD M (D - (d + 1)) (d + 1) := by
        rw [show D - d = (D - (d + 1)) + 1 by omega, show lst (kM M) = (M 0 14).toNat by omega]
        rfl
      have ss := s_X7_stuckSince (G := G) (dn := d) co cc h10 hno (by omega)
      refine x_iload_n dX7_stuck_12 1 rfl rfl ?_
      refine x_aload_n dX7_stuck_13 0 rfl rfl ?_
      refine x_getR dX7_stuck_14 flX7_38 rfl rfl r8 ?_
      refine x_getI dX7_stuck_17 flX7_132 (shH0 hh) rfl ?_
      rw [j1, hD]
      refine x_ic_ge (tgt := 64) dX7_stuck_20 (by decide) (by omega) (fun h20 => ?_) (fun h20 => ?_)
      · exfalso; omega
      · refine x_aload_n dX7_stuck_23 0 rfl rfl ?_
        refine x_getR dX7_stuck_24 flX7_38 rfl rfl r8 ?_
        refine x_iload_n dX7_stuck_27 1 rfl rfl ?_
        refine x_callVi (as := [_]) dX7_stuck_28 lvX7_292 rfl (shH0 hh) rfl rfl rfl rfl rfl ⟨rfl, rfl⟩ (s_X0_hasBoard hh (by omega) (by omega)) (fun z28 I28 L28 R28 hq28 => ?_)
        obtain ⟨rfl, rfl, rfl, rfl⟩ := hq28
        refine y_ifb_eq (tgt := 42) dX7_stuck_31 (by decide) (fun h31 => ?_) (fun h31 => ?_)
        · refine x_bipush dX7_stuck_42 (by decide) ?_
          refine x_istore_n (lv' := [(0, _), (1, _), (2, _)]) dX7_stuck_44 rfl rfl rfl ?_
          refine x_iload_n dX7_stuck_45 2 rfl rfl ?_
          refine x_bipush dX7_stuck_46 (by decide) ?_
          refine x_ic_eq (tgt := 58) dX7_stuck_48 (by decide) (by omega) (fun h48 => ?_) (fun h48 => ?_)
          · refine x_iinc (lv' := [(0, _), (1, _), (2, _)]) dX7_stuck_58 1 rfl rfl rfl ?_
            refine x_goto (tgt := 12) dX7_stuck_61 (by decide) ?_
            refine x_top (lv' := [(0, _), (1, _)]) 2 rfl ?_
            first
            | (have zz : z36 = -9 := by assumption
               rw [if_pos zz] at zk
               rw [if_neg (fun y => y.2 zk)] at es
               exact ih _ _ _ co2 cc2 h102 (es.symm.trans ed))
            | (rw [if_neg (fun y => (show ¬ ((0 ≤ (d : Int) ∧ (d : Int) < J h 1) ∧ tb (J h 4) (d : Int).toNat = true) by assumption) ⟨by omega, hb.mpr y.1⟩)] at es
               exact ih _ _ _ co cc h10 (es.symm.trans ed))
          · exfalso; omega
        · refine x_aload_n dX7_stuck_34 0 rfl rfl ?_
          refine x_iload_n dX7_stuck_35 1 rfl rfl ?_
          refine x_callVi (as := [_]) dX7_stuck_36 lvX7_316 rfl rfl rfl rfl rfl rfl rfl ⟨rfl, rfl⟩ (ss) (fun z36 I36 L36 R36 hq36 => ?_)
          obtain ⟨⟨zr, zk⟩, co2, cc2, h102⟩ := hq36
          refine x_goto (tgt := 44) dX7_stuck_39 (by decide) ?_
          refine x_istore_n (lv' := [(0, _), (1, _), (2, _)]) dX7_stuck_44 rfl rfl rfl ?_
          refine x_iload_n dX7_stuck_45 2 rfl rfl ?_
          refine x_bipush dX7_stuck_46 (by decide) ?_
          refine x_ic_eq (tgt := 58) dX7_stuck_48 (by decide) (by omega) (fun h48 => ?_) (fun h48 => ?_)
          · refine x_iinc (lv' := [(0, _), (1, _), (2, _)]) dX7_stuck_58 1 rfl rfl rfl ?_
            refine x_goto (tgt := 12) dX7_stuck_61 (by decide) ?_
            refine x_top (lv' := [(0, _), (1, _)]) 2 rfl ?_
            first
            | (have zz : z36 = -9 := by assumption
               rw [if_pos zz] at zk
               rw [if_neg (fun y => y.2 zk)] at es
               exact ih _ _ _ co2 cc2 h102 (es.symm.trans ed))
            | (rw [if_neg (fun y => (show ¬ ((0 ≤ (d : Int) ∧ (d : Int) < J h 1) ∧ tb (J h 4) (d : Int).toNat = true) by assumption) ⟨by omega, hb.mpr y.1⟩)] at es
               exact ih _ _ _ co cc h10 (es.symm.trans ed))
          · refine x_bipush dX7_stuck_51 (by decide) ?_
            refine x_iload_n dX7_stuck_53 1 rfl rfl ?_
            refine x_imul dX7_stuck_54 ?_
            refine x_iload_n dX7_stuck_55 2 rfl rfl ?_
            refine x_iadd dX7_stuck_56 ?_
            refine x_iret dX7_stuck_57 rfl ?_
            rw [← hQ]
            first
            | (exfalso; omega)
            | (have zz : ¬ z36 = -9 := by assumption
               rw [if_neg zz] at zk
               rw [if_pos ⟨hb.mp (show (0 ≤ (d : Int) ∧ (d : Int) < J h 1) ∧ tb (J h 4) (d : Int).toNat = true by assumption).2, by omega⟩] at es
               exact ⟨_, rfl, zk.symm.trans (es.symm.trans ed), co2, cc2⟩)
    · intro J K S co cc h10 ed
      have hR := co.1
      have r8 := co.2.1.1
      have hh := hR.h h32
      have j1 : J h 1 = M 0 12 := co.2.2.2.2.2.1.1.2.1
      refine x_iload_n dX7_stuck_12 1 rfl rfl ?_
      refine x_aload_n dX7_stuck_13 0 rfl rfl ?_
      refine x_getR dX7_stuck_14 flX7_38 rfl rfl r8 ?_
      refine x_getI dX7_stuck_17 flX7_132 (shH0 hh) rfl ?_
      rw [j1, hD]
      refine x_ic_ge (tgt := 64) dX7_stuck_20 (by decide) (by omega) (fun h20 => ?_) (fun h20 => ?_)
      · refine x_bipush dX7_stuck_64 (by decide) ?_
        refine x_iret dX7_stuck_66 rfl ?_
        rw [← hQ]
        refine ⟨_, rfl, ?_, co, cc⟩
        rw [← ed, show D - D = 0 by omega]
        rfl
      · exfalso; omega
  have body : ∀ J K S, CO J K S M N h h' → CC J K S M h → J 0 10 = 1 → ¬ okA M = true → Rn G mtX7_stuck Q 10 [(0, mr 0)] [] shX J K S := by
    intro J K S co cc h10 hno
    have e0 : skD M (D - 0) 0 = s_stuck M := by
      unfold s_stuck
      rw [if_neg hno, show (M 0 12).toNat = D by omega]
      rfl
    refine x_iconst dX7_stuck_10 ?_
    refine x_istore_n (lv' := [(0, _), (1, _)]) dX7_stuck_11 rfl rfl rfl ?_
    exact lp hno 0 (by omega) _ _ _ co cc h10 e0
  refine x_aload_n dX7_stuck_0 0 rfl rfl ?_
  refine x_callVi (as := []) dX7_stuck_1 lvX7_179 rfl rfl rfl rfl rfl rfl rfl ⟨rfl, rfl⟩ (s_X7_canBe co0 cc0) (fun z1 I1 L1 R1 hq1 => ?_)
  obtain ⟨rfl, co1, cc1, h10, hK⟩ := hq1
  refine y_ifb_eq (tgt := 10) dX7_stuck_4 (by decide) (fun h4 => ?_) (fun h4 => ?_)
  · exact body _ _ _ co1 cc1 h10 (by assumption)
  · refine x_bipush dX7_stuck_7 (by decide) ?_
    refine x_iret dX7_stuck_9 rfl ?_
    rw [← hQ]
    refine ⟨_, rfl, ?_, co1, cc1⟩
    unfold s_stuck
    rw [if_pos (by assumption)]
end

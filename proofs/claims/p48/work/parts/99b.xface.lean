/-! THE CLASS'S FACE: what it holds, as the reference does. -/
noncomputable def kM (M : MI) : MI := kap M 0 (M 0 13)
/-- the class's cells as the reference's memory, its plan and its sets aside -/
def CO (I L : MI) (R : MR) (M N : MI) (h h' : Nat) : Prop :=
  okR R ∧ (R 0 8 = some h ∧ R 0 9 = some h' ∧ (h = 32 ∧ h' = 37 ∨ h = 37 ∧ h' = 32)) ∧ (∃ na nb nk, tW R na nb nk) ∧ (rI (I 19 12) ∧ rI (I 19 15)) ∧
  (iHs M ∧ iEvs M ∧ iEvL M ∧ iRows M ∧ iTexts M) ∧ HRL I M h ∧ NRL I M 58 ∧
  (∀ r : Nat, r < 6 → I 9 (r : Int) = M 2 (r : Int) ∧ (∀ i : Int, 0 ≤ i → i < 40 → rI (I (3 + r) i)) ∧ ∀ i : Int, 0 ≤ i → i < M 2 (r : Int) → I (3 + r) i = M 3 (40 * (r : Int) + i)) ∧
  (∀ t : Nat, t < 4 → I 16 (t : Int) = M 5 (t : Int) ∧ (∀ i : Int, 0 ≤ i → i < 80 → -128 ≤ I (12 + t) i ∧ I (12 + t) i ≤ 127) ∧ ∀ i : Int, 0 ≤ i → i < M 5 (t : Int) → I (12 + t) i = M 6 (80 * (t : Int) + i)) ∧
  (I 0 13 = M 0 2 ∧ I 0 14 = M 0 0 ∧ ∀ f : Nat, f < 6 → I 68 (f : Int) = M 1 (f : Int)) ∧ (L 0 16 = N 0 3 ∧ L 0 17 = N 0 4 ∧ L 0 18 = N 0 5)
/-- its plan and its sets, once searched for -/
def CC (I L : MI) (R : MR) (M : MI) (h : Nat) : Prop := ((I 0 10 = 0 ∨ I 0 10 = 1) ∧ (I 0 11 = 0 ∨ I 0 11 = 1)) ∧
  (I 0 10 = 1 → R 42 0 = some h ∧ I 0 12 = fst0 (kM M) ∧ ∃ n, PKR I 42 h n (kM M) ∧ I 42 4 = 1 ∧
    (I 0 11 = 0 → ∀ t : Nat, t ≤ lst (kM M) → (I 0 12 = -9 ∨ (t : Int) ≤ I 0 12) → ∀ j : Nat, j < 1728 → (inX L j t = true ↔ j < n ∧ 0 < Fr (kM M) t (sgX I 42 h j))) ∧
    (I 0 11 = 1 → fst0 (kM M) = -9 ∧ SETS (kM M) I L 42 h n ∧ ∀ t : Nat, t < lst (kM M) → NTS (kM M) I t))
/-- cells outside plan, sets and Walks -/
def KO (I I' : MI) : Prop := ∀ c i, ((c ≤ 16 ∧ ¬ (c = 0 ∧ (i = 10 ∨ i = 11 ∨ i = 12))) ∨ (32 ≤ c ∧ c ≤ 41) ∨ 58 ≤ c) → I' c i = I c i
theorem KO.rf (I : MI) : KO I I := fun _ _ _ => rfl
theorem KO.tr {I J K : MI} (h : KO I J) (k : KO J K) : KO I K := fun c i q => (k c i q).trans (h c i q)
theorem KO.fw {I J : MI} (h : FIw I J) : KO I J := fun c i q => h c i (by omega)
theorem KO.up {I J : MI} (h : KO I J) {i : Int} (hi : i = 10 ∨ i = 11 ∨ i = 12) (v : Int) : KO I (m_up J 0 i v) := fun c j q => by
  unfold m_up
  rw [if_neg (by omega)]
  exact h c j q
theorem HRL.fr {I I' M : MI} {h : Nat} (hh : h = 32 ∨ h = 37) (k : KO I I') (q : HRL I M h) : HRL I' M h := by
  unfold HRL
  have e : ∀ c i, h ≤ c ∧ c ≤ h + 4 → I' c i = I c i := fun c i q => k c i (by omega)
  rw [e h 0 (by omega), e h 1 (by omega), e h 2 (by omega), e h 3 (by omega), e h 4 (by omega)]
  refine ⟨q.1, fun d hd => ?_, fun w hw => ?_⟩
  · rw [e (h + 1) _ (by omega), e (h + 2) _ (by omega)]; exact q.2.1 d hd
  · rw [e (h + 3) _ (by omega), e (h + 4) _ (by omega)]; exact q.2.2 w hw
theorem NRL.fr {I I' M : MI} (k : KO I I') (q : NRL I M 58) : NRL I' M 58 := by
  unfold NRL
  rw [k 58 0 (by omega)]
  refine ⟨q.1, fun e he => ?_⟩
  rw [k (58 + 1) _ (by omega), k (58 + 2) _ (by omega), k (58 + 3) _ (by omega), k (58 + 4) _ (by omega)]
  exact q.2 e he
theorem CO.fr {I L I' L' M N : MI} {R R' : MR} {h h' : Nat} (q : CO I L R M N h h') (k : KO I I') (kl : ∀ i, i = 16 ∨ i = 17 ∨ i = 18 → L' 0 i = L 0 i) (hR : okR R') (h8 : R' 0 8 = R 0 8) (h9 : R' 0 9 = R 0 9) (tw : ∃ na nb nk, tW R' na nb nk) (hw : rI (I' 19 12) ∧ rI (I' 19 15)) : CO I' L' R' M N h h' := by
  obtain ⟨q1, ⟨q2, q3, q4⟩, q5, q6, q7, q8, q9, q10, q11, ⟨q12, q13, q14⟩, q15⟩ := q
  refine ⟨hR, ⟨h8.trans q2, h9.trans q3, q4⟩, tw, hw, q7, q8.fr (by omega) k, q9.fr k, fun r hr => ⟨?_, fun i hi hi2 => ?_, fun i hi hi2 => ?_⟩, fun t ht => ⟨?_, fun i hi hi2 => ?_, fun i hi hi2 => ?_⟩, ⟨?_, ?_, fun f hf => ?_⟩, ?_⟩
  · rw [k 9 _ (by omega)]; exact (q10 r hr).1
  · rw [k (3 + r) _ (by omega)]; exact (q10 r hr).2.1 i hi hi2
  · rw [k (3 + r) _ (by omega)]; exact (q10 r hr).2.2 i hi hi2
  · rw [k 16 _ (by omega)]; exact (q11 t ht).1
  · rw [k (12 + t) _ (by omega)]; exact (q11 t ht).2.1 i hi hi2
  · rw [k (12 + t) _ (by omega)]; exact (q11 t ht).2.2 i hi hi2
  · rw [k 0 13 (by omega)]; exact q12
  · rw [k 0 14 (by omega)]; exact q13
  · rw [k 68 _ (by omega)]; exact q14 f hf
  · rw [kl 16 (by omega), kl 17 (by omega), kl 18 (by omega)]; exact q15
theorem gd_all {M : MI} (hE : iEvs M) (hL : iEvL M) : gd M 0 (M 0 13) = true := by
  unfold gd
  rw [al_iff]
  intro e he
  unfold gdF
  have p11 : ∀ j, pm M 11 j = M 11 j := fun j => pm_at (by unfold per; omega)
  rw [p11, p11]
  by_cases q : M 11 (4 * (e : Int) + 0) = 3
  · rw [decide_eq_true ((hL (e : Int) (by omega) (by omega)).2.2.2.2 q), Bool.or_true]
  · rw [decide_eq_false q, Bool.not_false, Bool.or_true, Bool.true_or]
theorem okA_eq {M : MI} (hE : iEvs M) (hL : iEvL M) : okA M = true ↔ fst0 (kM M) = -9 := by
  rw [okA_iff]
  exact ⟨fun z => z.2, fun z => ⟨gd_all hE hL, z⟩⟩
theorem fst0_b (κ : MI) : -9 ≤ fst0 κ ∧ fst0 κ ≤ (lst κ : Int) := by
  have := fst0_r κ (lst κ + 1) 0
  unfold fst0
  omega
theorem HRL.ok {I M : MI} {h : Nat} (hH : iHs M) (q : HRL I M h) : okP I h ∧ (0 ≤ I h 3 ∧ I h 3 ≤ 30) ∧ (0 ≤ I h 2 ∧ I h 2 ≤ 3) ∧ I h 2 = M 0 13 ∧ I h 4 = orf (bdF M) (M 0 12).toNat := by
  obtain ⟨⟨q0, q1, q2, q3, q4⟩, q5, q6⟩ := q
  obtain ⟨c1, c2, c3, c4, c5, c6⟩ := id hH
  refine ⟨⟨by omega, by omega, fun w hw => ?_⟩, by omega, by omega, q2, q4⟩
  rw [(q6 w (by omega)).1]
  have := (c6 (w : Int) (by omega) (by omega)).1
  omega
theorem NRL.ev {I M : MI} {n : Nat} (hE : iEvs M) (hL : iEvL M) (hH : iHs M) (q : NRL I M n) : (0 ≤ I n 0 ∧ I n 0 ≤ 24) ∧ ∀ e : Nat, (e : Int) < I n 0 → evR (I (n + 1) (e : Int)) (I (n + 3) (e : Int)) (I (n + 4) (e : Int)) := by
  have h0 := hE.1
  have hT := hH.2.2.2.1
  refine ⟨by rw [q.1]; exact h0, fun e he => ?_⟩
  rw [q.1] at he
  obtain ⟨f1, f2, f3, f4⟩ := q.2 e he
  obtain ⟨v1, v2, v3, v4, v5, v6⟩ := hE.2 e he
  rw [f1, f3, f4]
  exact ⟨by omega, by omega, by omega, fun z => ⟨v6 z, by omega⟩⟩
section
variable {G : GT} {I L M N : MI} {R : MR} {h h' : Nat}

theorem s_X7_canBe  (co : CO I L R M N h h') (cc : CC I L R M h) : Sp G mtX7_canBe [mr 0] shX I L R (qi (fun z I' L' R' => z = b01 (okA M = true) ∧ CO I' L' R' M N h h' ∧ CC I' L' R' M h ∧ I' 0 10 = 1 ∧ ∀ i, L' 0 i = L 0 i)) := by
  refine Sp.of pnX7_canBe rfl ?_
  show Rn G mtX7_canBe _ 0 [(0, mr 0)] [] shX I L R
  generalize hQ : (qi (fun z I' L' R' => z = b01 (okA M = true) ∧ CO I' L' R' M N h h' ∧ CC I' L' R' M h ∧ I' 0 10 = 1 ∧ ∀ i, L' 0 i = L 0 i)) = Q
  have co1 := co
  obtain ⟨hR, ⟨r8, r9, h32⟩, ⟨na, nb, nk, tw⟩, ⟨m12, m15⟩, ⟨iH, iE, iL, iR, iT⟩, hrl, nrl, -⟩ := co1
  have hh := hR.h (h := h) (by omega)
  have hfb := fst0_b (kM M)
  obtain ⟨op, o3, o2, o13, o4⟩ := hrl.ok iH
  obtain ⟨n0, nv⟩ := nrl.ev iE iL iH
  have hcc := cc.1
  have fin : ∀ J K S, CO J K S M N h h' → CC J K S M h → J 0 10 = 1 → (∀ i, K 0 i = L 0 i) → Rn G mtX7_canBe Q 70 [(0, mr 0)] [] shX J K S := by
    intro J K S co2 cc2 h10 hK
    have e12 := (cc2.2 h10).2.1
    have hl2 := KA_lst iH (wo := 0) (k := M 0 13)
    have hl3 := iH.2.2.2.1
    have hl4 : ((lst (kM M) : Nat) : Int) = M 0 14 := hl2
    refine x_aload_n dX7_canBe_70 0 rfl rfl ?_
    refine x_getI dX7_canBe_71 flX7_183 rfl rfl ?_
    rw [e12]
    refine x_bipush dX7_canBe_74 (by decide) ?_
    refine x_ic_ne (tgt := 83) dX7_canBe_76 (by decide) (by omega) (fun h76 => ?_) (fun h76 => ?_)
    · refine x_iconst dX7_canBe_83 ?_
      refine x_zret dX7_canBe_84 rfl (by omega) ?_
      rw [← hQ]
      refine ⟨_, rfl, ?_, co2, cc2, h10, hK⟩
      first
      | (rw [b01_t ((okA_eq iE iL).mpr (by assumption))])
      | (rw [b01_f (fun z => absurd ((okA_eq iE iL).mp z) (by assumption))])
    · refine x_iconst dX7_canBe_79 ?_
      refine x_goto (tgt := 84) dX7_canBe_80 (by decide) ?_
      refine x_zret dX7_canBe_84 rfl (by omega) ?_
      rw [← hQ]
      refine ⟨_, rfl, ?_, co2, cc2, h10, hK⟩
      first
      | (rw [b01_t ((okA_eq iE iL).mpr (by assumption))])
      | (rw [b01_f (fun z => absurd ((okA_eq iE iL).mp z) (by assumption))])
  have at32 : ∀ J, MK 42 h (I h 2) (I h 4) I J → Rn G mtX7_canBe Q 32 [(0, mr 0)] [] shX J L (m_up R 42 0 (some h)) := by
    intro J mk
    generalize hS : m_up R 42 0 (some h) = S
    have hR0 := hR
    have hR : okR S := by
      rw [← hS]
      intro a j v hv
      by_cases q : a = 42 ∧ j = 0
      · obtain ⟨rfl, rfl⟩ := q
        cases hv
      · unfold m_up
        rw [if_neg q]
        exact hR0 a j v hv
    have r8 : S 0 8 = some h := by rw [← hS, m_up_ne (by decide)]; exact r8
    have r9 : S 0 9 = some h' := by rw [← hS, m_up_ne (by decide)]; exact r9
    have hp : isP S 42 := hR.p (Or.inl rfl)
    have hh : isH S h := hR.h (by omega)
    have hn : isN S 58 := hR.n (Or.inl rfl)
    have hph : S 42 0 = some h := by rw [← hS]; exact m_up_eq
    have tw : tW S na nb nk := by
      rw [← hS]
      unfold tW
      rw [m_up_ne (by decide), m_up_ne (by decide), m_up_ne (by decide)]
      exact tw
    have m7 := mk.2.2.2.2.2
    have ev : (0 ≤ J 58 0 ∧ J 58 0 ≤ 24) ∧ ∀ e : Nat, (e : Int) < J 58 0 → evR (J (58 + 1) (e : Int)) (J (58 + 3) (e : Int)) (J (58 + 4) (e : Int)) := by
      rw [m7 58 0 (by omega)]
      refine ⟨n0, fun e he => ?_⟩
      rw [m7 (58 + 1) _ (by omega), m7 (58 + 3) _ (by omega), m7 (58 + 4) _ (by omega)]
      exact nv e he
    have u1 : rI (J 42 1) := by rw [mk.1]; omega
    have at44 : ∀ T, T = tkF J 42 58 0 (J 58 0).toNat → Rn G mtX7_canBe Q 44 [(0, mr 0)] [] shX T L S := by
      intro T hT
      have lp := lay_PK (p := 42) (nn := 58) (k := M 0 13) (v := I h 4) (by omega) (by omega) (by omega) iH iE iL hrl nrl ⟨by omega, by omega⟩ (by rw [← o13]; exact mk) 0 hT
      obtain ⟨⟨n, pk⟩, p4, p2, p13⟩ := lp
      have pkr := lay_PKR pk (p2.trans o4) p13 iH
      have fr : ∀ c i, ¬ (42 ≤ c ∧ c ≤ 42 + 7) → T c i = I c i := fun c i q => by rw [hT]; exact lay_fr mk 0 _ c i q
      have g1 : T 42 4 = 1 := p4.trans (b01_t (gd_all iE iL)).symm
      have m12 : rI (T 19 12) := by rw [fr 19 12 (by omega)]; exact m12
      have m15 : rI (T 19 15) := by rw [fr 19 15 (by omega)]; exact m15
      have fe := s_X6_firstEmpty (G := G) (L := L) (kp := 1) hR tw hp hph hh pkr m12 (Or.inr rfl) (Or.inr g1)
      have after : ∀ z J' K' S', (z = (if T 42 4 = 0 then 0 else fst0 (kM M)) ∧ FIw T J' ∧ (rI (J' 19 12) ∧ (rI (T 19 15) → rI (J' 19 15))) ∧ (∀ c i, c ≠ 24 → ¬ (c = 29 ∨ c = 30 ∨ c = 31) → K' c i = L c i) ∧ ((1 : Int) = 0 → ∀ i, K' 24 i = L 24 i) ∧ ((1 : Int) = 1 → T 42 4 ≠ 0 → ∀ t : Nat, (t : Int) ≤ T h 3 → (z = -9 ∨ (t : Int) ≤ z) → ∀ j : Nat, j < 1728 → (inX K' j t = true ↔ j < n ∧ 0 < Fr (kM M) t (sgX T 42 h j))) ∧ RFw S S' ∧ ∃ na' nb', tW S' na' nb' nk) → CO (m_up (m_up (m_up J' 0 12 z) 0 10 1) 0 11 0) K' S' M N h h' ∧ CC (m_up (m_up (m_up J' 0 12 z) 0 10 1) 0 11 0) K' S' M h := by
        rintro z J' K' S' ⟨z1, z2, z3, z4, -, z6, z7, na', nb', tw'⟩
        rw [if_neg (by omega)] at z1
        have e32 : ∀ c i, 32 ≤ c → (m_up (m_up (m_up J' 0 12 z) 0 10 1) 0 11 0) c i = T c i := fun c i q => by
          rw [m_up_ne (by omega), m_up_ne (by omega), m_up_ne (by omega)]
          exact z2 c i (by omega)
        have hl := PK_last pk
        constructor
        · refine co.fr ?_ (fun i _ => z4 0 i (by decide) (by decide)) (z7.ok hR) ?_ ?_ ⟨na', nb', nk, tw'⟩ ⟨?_, ?_⟩
          · have k1 : KO I T := fun c i q => fr c i (by omega)
            exact (((k1.tr (KO.fw z2)).up (by omega) _).up (by omega) _).up (by omega) _
          · rw [z7 0 8 (by decide), r8]; exact co.2.1.1.symm
          · rw [z7 0 9 (by decide), r9]; exact co.2.1.2.1.symm
          · rw [m_up_ne (by decide), m_up_ne (by decide), m_up_ne (by decide)]; exact z3.1
          · rw [m_up_ne (by decide), m_up_ne (by decide), m_up_ne (by decide)]; exact z3.2 m15
        · refine ⟨⟨Or.inr ?_, Or.inl m_up_eq⟩, fun _ => ⟨?_, ?_, n, PKR_d e32 (by omega) (by omega) pkr, ?_, fun _ t ht h12 j hj => ?_, fun q => ?_⟩⟩
          · rw [m_up_nj (by decide), m_up_eq]
          · rw [z7 42 0 (by decide)]; exact hph
          · rw [m_up_nj (by decide), m_up_nj (by decide), m_up_eq]; exact z1
          · rw [e32 42 4 (by omega)]; exact g1
          · rw [m_up_nj (by decide), m_up_nj (by decide), m_up_eq] at h12
            rw [sgX_d e32 (by omega) (by omega)]
            exact z6 rfl (by omega) t (by have : ((lst (kM M) : Nat) : Int) = T h 3 := hl.1; omega) h12 j hj
          · rw [m_up_eq] at q; omega
      refine x_aload_n dX7_canBe_44 0 rfl rfl ?_
      refine x_aload_n dX7_canBe_45 0 rfl rfl ?_
      refine x_getR dX7_canBe_46 flX7_31 rfl rfl (hR 0 3 19 rfl) ?_
      refine x_aload_n dX7_canBe_49 0 rfl rfl ?_
      refine x_getR dX7_canBe_50 flX7_50 rfl rfl (hR 0 4 42 rfl) ?_
      refine x_iconst dX7_canBe_53 ?_
      refine x_callVi (as := [_, _]) dX7_canBe_54 lvX7_201 rfl rfl rfl rfl rfl rfl rfl ⟨rfl, rfl⟩ (fe) (fun z54 I54 L54 R54 hq54 => ?_)
      skip
      refine x_putI dX7_canBe_57 flX7_183 rfl rfl rfl ?_
      refine x_aload_n dX7_canBe_60 0 rfl rfl ?_
      refine x_iconst dX7_canBe_61 ?_
      refine x_putZ dX7_canBe_62 flX7_128 rfl rfl rfl (by omega) ?_
      refine x_aload_n dX7_canBe_65 0 rfl rfl ?_
      refine x_iconst dX7_canBe_66 ?_
      refine x_putZ dX7_canBe_67 flX7_366 rfl rfl rfl (by omega) ?_
      have a2 := after _ _ _ _ hq54
      exact fin _ _ _ a2.1 a2.2 (by rw [m_up_nj (by decide), m_up_eq]) (fun i => hq54.2.2.2.1 0 i (by decide) (by decide))
    refine x_aload_n dX7_canBe_32 0 rfl rfl ?_
    refine x_getR dX7_canBe_33 flX7_50 rfl rfl (hR 0 4 42 rfl) ?_
    refine x_aload_n dX7_canBe_36 0 rfl rfl ?_
    refine x_getR dX7_canBe_37 flX7_60 rfl rfl (hR 0 6 58 rfl) ?_
    refine x_iconst dX7_canBe_40 ?_
    refine x_callVv (as := [_, _]) dX7_canBe_41 lvX7_198 rfl rfl rfl rfl rfl rfl rfl ⟨rfl, rfl⟩ (s_X3_take hp hn ev.1 ev.2 u1) (fun I41 L41 R41 hq41 => ?_)
    obtain ⟨w41, rfl, rfl⟩ := hq41
    exact at44 _ w41
  refine x_aload_n dX7_canBe_0 0 rfl rfl ?_
  refine x_getI dX7_canBe_1 flX7_128 rfl rfl ?_
  refine x_if_ne (tgt := 70) dX7_canBe_4 (by decide) (by omega) (fun h4 => ?_) (fun h4 => ?_)
  · first
    | exact fin I L R co cc (by omega) (fun _ => rfl)
  · refine x_aload_n dX7_canBe_7 0 rfl rfl ?_
    refine x_getR dX7_canBe_8 flX7_50 rfl rfl (hR 0 4 42 rfl) ?_
    refine x_aload_n dX7_canBe_11 0 rfl rfl ?_
    refine x_getR dX7_canBe_12 flX7_38 rfl rfl r8 ?_
    refine x_aload_n dX7_canBe_15 0 rfl rfl ?_
    refine x_getR dX7_canBe_16 flX7_38 rfl rfl r8 ?_
    refine x_getI dX7_canBe_19 flX7_189 (shH0 hh) rfl ?_
    refine x_aload_n dX7_canBe_22 0 rfl rfl ?_
    refine x_getR dX7_canBe_23 flX7_38 rfl rfl r8 ?_
    refine x_getI dX7_canBe_26 flX7_192 (shH0 hh) rfl ?_
    refine x_callVv (as := [_, _, _]) dX7_canBe_29 lvX7_195 rfl rfl rfl rfl rfl rfl rfl ⟨rfl, rfl⟩ (s_X3_make (hR.p (Or.inl rfl)) hh op o3 (by omega)) (fun I29 L29 R29 hq29 => ?_)
    obtain ⟨rfl, rfl, mk29⟩ := hq29
    exact at32 _ mk29
end

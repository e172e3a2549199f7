/-! THE CLASS: the Walks live: the method. -/
def ntI (J : MI) (t : Int) : MI :=
  m_up (m_up (m_up (m_up (m_up (m_up (m_up (m_up J 25 (0 * 31 + t) 0) 26 (0 * 31 + t) (-1)) 25 ((0 + 1) * 31 + t) 0) 26 ((0 + 1) * 31 + t) (-1)) 25 ((0 + 1 + 1) * 31 + t) 0) 26 ((0 + 1 + 1) * 31 + t) (-1)) 27 t 0) 28 t (-1)
theorem ntI_fr (J : MI) (t : Int) : (∀ c i, c < 25 ∨ 28 < c → ntI J t c i = J c i) ∧ (∀ i, ¬ (i = t ∨ i = 31 + t ∨ i = 62 + t) → ntI J t 25 i = J 25 i ∧ ntI J t 26 i = J 26 i) ∧ (∀ i, i ≠ t → ntI J t 27 i = J 27 i ∧ ntI J t 28 i = J 28 i) ∧
    (∀ w : Nat, w < 3 → ntI J t 25 (31 * (w : Int) + t) = 0 ∧ ntI J t 26 (31 * (w : Int) + t) = -1) ∧ ntI J t 27 t = 0 ∧ ntI J t 28 t = -1 := by
  have a25 : ∀ i, ntI J t 25 i = if i = (0 + 1 + 1) * 31 + t then 0 else if i = (0 + 1) * 31 + t then 0 else if i = 0 * 31 + t then 0 else J 25 i := fun i => by
    unfold ntI
    rw [m_up_ne (by decide), m_up_ne (by decide), m_up_ne (by decide)]
    unfold m_up
    by_cases z1 : i = (0 + 1 + 1) * 31 + t
    · rw [if_pos ⟨rfl, z1⟩, if_pos z1]
    · rw [if_neg (fun y => z1 y.2), if_neg z1, if_neg (fun y => absurd y.1 (by decide))]
      by_cases z2 : i = (0 + 1) * 31 + t
      · rw [if_pos ⟨rfl, z2⟩, if_pos z2]
      · rw [if_neg (fun y => z2 y.2), if_neg z2, if_neg (fun y => absurd y.1 (by decide))]
        by_cases z3 : i = 0 * 31 + t
        · rw [if_pos ⟨rfl, z3⟩, if_pos z3]
        · rw [if_neg (fun y => z3 y.2), if_neg z3]
  have a26 : ∀ i, ntI J t 26 i = if i = (0 + 1 + 1) * 31 + t then -1 else if i = (0 + 1) * 31 + t then -1 else if i = 0 * 31 + t then -1 else J 26 i := fun i => by
    unfold ntI
    rw [m_up_ne (by decide), m_up_ne (by decide)]
    unfold m_up
    by_cases z1 : i = (0 + 1 + 1) * 31 + t
    · rw [if_pos ⟨rfl, z1⟩, if_pos z1]
    · rw [if_neg (fun y => z1 y.2), if_neg z1, if_neg (fun y => absurd y.1 (by decide))]
      by_cases z2 : i = (0 + 1) * 31 + t
      · rw [if_pos ⟨rfl, z2⟩, if_pos z2]
      · rw [if_neg (fun y => z2 y.2), if_neg z2, if_neg (fun y => absurd y.1 (by decide))]
        by_cases z3 : i = 0 * 31 + t
        · rw [if_pos ⟨rfl, z3⟩, if_pos z3]
        · rw [if_neg (fun y => z3 y.2), if_neg z3, if_neg (fun y => absurd y.1 (by decide))]
  refine ⟨fun c i hc => ?_, fun i hi => ?_, fun i hi => ?_, ptri ?_ ?_ ?_, ?_, ?_⟩
  · unfold ntI
    rw [m_up_ne (by omega), m_up_ne (by omega), m_up_ne (by omega), m_up_ne (by omega), m_up_ne (by omega), m_up_ne (by omega), m_up_ne (by omega), m_up_ne (by omega)]
  · rw [a25, a26, if_neg (by omega), if_neg (by omega), if_neg (by omega), if_neg (by omega), if_neg (by omega), if_neg (by omega)]
    exact ⟨rfl, rfl⟩
  · unfold ntI
    rw [m_up_ne (by decide), m_up_nj hi, m_up_ne (by decide), m_up_ne (by decide), m_up_ne (by decide), m_up_ne (by decide), m_up_ne (by decide), m_up_ne (by decide), m_up_nj hi, m_up_ne (by decide), m_up_ne (by decide), m_up_ne (by decide), m_up_ne (by decide), m_up_ne (by decide), m_up_ne (by decide), m_up_ne (by decide)]
    exact ⟨rfl, rfl⟩
  · rw [a25, a26, if_neg (by omega), if_neg (by omega), if_pos (by omega), if_neg (by omega), if_neg (by omega), if_pos (by omega)]
    exact ⟨rfl, rfl⟩
  · rw [a25, a26, if_neg (by omega), if_pos (by omega), if_neg (by omega), if_pos (by omega)]
    exact ⟨rfl, rfl⟩
  · rw [a25, a26, if_pos (by omega), if_pos (by omega)]
    exact ⟨rfl, rfl⟩
  · unfold ntI
    rw [m_up_ne (by decide), m_up_eq]
  · unfold ntI
    rw [m_up_eq]
section
variable {G : GT} {I L : MI} {R : MR} {p h na nb nk : Nat}

set_option maxHeartbeats 1000000 in
theorem s_X6_live {κ : MI} {n : Nat} (hR : okR R) (tw : tW R na nb nk) (hp : isP R p) (hph : R p 0 = some h) (hh : isH R h) (k : PKR I p h n κ) (m12 : rI (I 19 12)) (m15 : rI (I 19 15)) (hset : ∀ t : Nat, t ≤ lst κ → ∀ j : Nat, j < 1728 → (inX L j t = true ↔ j < n ∧ 0 < Fr κ t (sgX I p h j))) : Sp G mtX6_live [mr 19, mr p] shX I L R (qv (fun I' L' R' => (∀ c i, c < 19 ∨ 29 ≤ c → I' c i = I c i) ∧ (rI (I' 19 12) ∧ rI (I' 19 15)) ∧ (∀ c i, c ≠ 24 → ¬ (c = 29 ∨ c = 30 ∨ c = 31) → L' c i = L c i) ∧ (∀ t : Nat, t ≤ lst κ → ∀ j : Nat, j < 1728 → (inX L' j t = true ↔ j < n ∧ alv κ t (sgX I p h j) = true)) ∧ (∀ t : Nat, t < lst κ → NTS κ I' t) ∧ RFw R R' ∧ ∃ na' nb', tW R' na' nb' nk)) := by
  refine Sp.of pnX6_live rfl ?_
  show Rn G mtX6_live _ 0 [(0, mr 19), (1, mr p)] [] shX I L R
  generalize hQ : (qv (fun I' L' R' => (∀ c i, c < 19 ∨ 29 ≤ c → I' c i = I c i) ∧ (rI (I' 19 12) ∧ rI (I' 19 15)) ∧ (∀ c i, c ≠ 24 → ¬ (c = 29 ∨ c = 30 ∨ c = 31) → L' c i = L c i) ∧ (∀ t : Nat, t ≤ lst κ → ∀ j : Nat, j < 1728 → (inX L' j t = true ↔ j < n ∧ alv κ t (sgX I p h j) = true)) ∧ (∀ t : Nat, t < lst κ → NTS κ I' t) ∧ RFw R R' ∧ ∃ na' nb', tW R' na' nb' nk)) = Q
  have hp1 := hp.1
  have hh1 := hh.1
  have hlt := PK_last k.1
  have hn2 := (PQ_n k.1.1).2
  obtain ⟨R0, hR0⟩ : ∃ R0, R0 = m_up R 19 9 (some p) := ⟨_, rfl⟩
  obtain ⟨J0, hJ0⟩ : ∃ J0, J0 = m_up I 19 10 5 := ⟨_, rfl⟩
  have hW0 : isW R0 p na nb nk := by rw [hR0]; exact tw.w hR hp1
  have r0 : RFw R R0 := by rw [hR0]; exact (RFw.rf R).up (by omega) _
  have hph0 : R0 p 0 = some h := by rw [hR0, m_up_ne (by omega)]; exact hph
  have hh0 : isH R0 h := r0.iH hh
  have hna := hW0.2.2.2.2.2.2.1
  have j0e : ∀ c i, c ≠ 19 → J0 c i = I c i := fun c i q => by rw [hJ0, m_up_ne q]
  have k0 : PKR J0 p h n κ := PKR_d (fun c i q => j0e c i (by omega)) (by omega) (by omega) k
  have esg : ∀ {J : MI}, (∀ c i, c < 19 ∨ 29 ≤ c → J c i = I c i) → ∀ j, sgX J p h j = sgX I p h j := fun f j => sgX_d (fun c i q => f c i (by omega)) (by omega) (by omega) j
  have lp : ∀ t : Nat, t ≤ lst κ → ∀ na nb J K S, lvI I L R p h n nk κ na nb t J K S → (∀ t' : Nat, t' ≤ lst κ → ∀ j : Nat, j < 1728 → (inX K j t' = true ↔ j < n ∧ if t ≤ t' then alv κ t' (sgX I p h j) = true else 0 < Fr κ t' (sgX I p h j))) → (∀ t' : Nat, t ≤ t' → t' < lst κ → NTS κ J t') → Rn G mtX6_live Q 30 [(0, mr 19), (1, mr p), (2, mi (I h 3)), (3, mi ((t : Int) + (-1)))] [] shX J K S := by
    intro t
    induction t with
    | zero =>
      intro _ na nb J K S g st nts
      refine x_iload_n dX6_live_30 3 rfl rfl ?_
      refine x_if_lt (tgt := 105) dX6_live_31 (by decide) (by omega) (fun h31 => ?_) (fun h31 => ?_)
      · refine x_vret dX6_live_105 rfl ?_
        obtain ⟨x1, x2, x3, x4, x5, ⟨y1, y2, y3⟩, x7, x8, x9⟩ := g
        rw [← hQ]
        refine ⟨rfl, x5, ⟨y2, y3⟩, x7, fun t q j hj => ?_, fun t q => nts t (Nat.zero_le _) q, x4, na, nb, x1.t⟩
        rw [st t q j hj, if_pos (Nat.zero_le t)]
      · exfalso; omega
    | succ t ih =>
      intro ht na nb J K S g st nts
      have hW := g.1
      have hph2 := g.2.1
      have hh2 := g.2.2.1
      have hp2 := hW.2.1
      have f := g.2.2.2.2.1
      rw [show ((t + 1 : Nat) : Int) + (-1) = (t : Int) by omega]
      obtain ⟨n1, n2, n3, n4, n5, n6⟩ := ntI_fr J (t : Int)
      have gN : lvI I L R p h n nk κ na nb (t + 1) (ntI J (t : Int)) K S := by
        obtain ⟨x1, x2, x3, x4, x5, ⟨y1, y2, y3⟩, x7, x8, x9⟩ := g
        refine ⟨x1, x2, x3, x4, fun c i q => (n1 c i (by omega)).trans (x5 c i q), ⟨(n1 19 10 (by omega)).trans y1, by rw [n1 19 12 (by omega)]; exact y2, by rw [n1 19 15 (by omega)]; exact y3⟩, x7, PKR_d (fun c i q => n1 c i (by omega)) (by omega) (by omega) x8, fun x hx => ?_⟩
        rw [sgX_d (I := J) (fun c i q => n1 c i (by omega)) (by omega) (by omega)]
        exact x9 x hx
      have fN := gN.2.2.2.2.1
      have hsw := s_sweepL (G := G) gN (by rw [fN h 3 (by omega)]; omega) (fun j hj => by
        rw [esg fN, st t (by omega) j (by omega), if_neg (by omega)]
        exact ⟨fun z => z.2, fun z => ⟨hj, z⟩⟩) ⟨n4, n5, n6⟩
      have at94 : ∀ J' K' S', (lvI I L R p h n nk κ nb na t J' K' S' ∧ (∀ i, K' 24 i = K 24 i) ∧ NTS κ J' t ∧ (∀ i, ¬ (i = (t : Int) ∨ i = 31 + (t : Int) ∨ i = 62 + (t : Int)) → J' 25 i = ntI J (t : Int) 25 i ∧ J' 26 i = ntI J (t : Int) 26 i) ∧ ∀ i, i ≠ (t : Int) → J' 27 i = ntI J (t : Int) 27 i ∧ J' 28 i = ntI J (t : Int) 28 i) → Rn G mtX6_live Q 94 [(0, mr 19), (1, mr p), (2, mi (I h 3)), (3, mi (t : Int))] [] shX J' K' S' := by
        rintro J' K' S' ⟨g', e24, nt, o1, o2⟩
        have hW' := g'.1
        have hn3 : J' p 3 = (n : Int) := g'.2.2.2.2.2.2.2.1.1.1.2.2.2.2.1
        have f' := g'.2.2.2.2.1
        have hnb' := hW'.2.2.2.2.2.2.1
        have hvv := g'.2.2.2.2.2.2.2.2
        have hvr : ∀ j : Nat, j < n → rL (K' nb (j : Int)) := fun j hj => by
          have := (hvv j hj).1
          omega
        have nts2 : ∀ t' : Nat, t ≤ t' → t' < lst κ → NTS κ J' t' := fun t' q1 q2 => by
          by_cases e : t' = t
          · rw [e]; exact nt
          · have z := nts t' (by omega) q2
            unfold NTS at z ⊢
            rw [(o2 (t' : Int) (by omega)).1, (o2 (t' : Int) (by omega)).2, (n3 (t' : Int) (by omega)).1, (n3 (t' : Int) (by omega)).2]
            refine ⟨fun w hw b hb => ?_, z.2⟩
            rw [(o1 _ (by omega)).1, (o1 _ (by omega)).2, (n2 _ (by omega)).1, (n2 _ (by omega)).2]
            exact z.1 w hw b hb
        refine x_aload_n dX6_live_94 0 rfl rfl ?_
        refine x_iload_n dX6_live_95 3 rfl rfl ?_
        refine x_callVv (as := [_]) dX6_live_96 lvX6_72 rfl rfl rfl rfl rfl rfl rfl ⟨rfl, rfl⟩ (s_X6_keepSet hW' hn3 hn2 (by omega) hvr) (fun I96 L96 R96 hq96 => ?_)
        obtain ⟨rfl, ks96, rfl⟩ := hq96
        refine x_iinc (lv' := [(0, _), (1, _), (2, _), (3, _)]) dX6_live_99 3 rfl rfl rfl ?_
        refine x_goto (tgt := 30) dX6_live_102 (by decide) ?_
        have ks := ks96
        refine ih (by omega) nb na J' L96 S' ?_ (fun t' q j hj => ?_) nts2
        · obtain ⟨x1, x2, x3, x4, x5, x6, x7, x8, x9⟩ := g'
          refine ⟨x1, x2, x3, x4, x5, x6, fun c i q1 q2 => (ks.1 c i q1).trans (x7 c i q1 q2), x8, fun x hx => ?_⟩
          rw [ks.1 nb _ (by omega)]
          exact x9 x hx
        · by_cases e : t' = t
          · subst e
            rw [ks.2.2 j hj, if_pos (Nat.le_refl _)]
            constructor
            · rintro ⟨z1, z2⟩
              have := (hvv j z1).2.mp z2
              rw [esg f'] at this
              exact ⟨z1, this⟩
            · rintro ⟨z1, z2⟩
              refine ⟨z1, (hvv j z1).2.mpr ?_⟩
              rw [esg f']; exact z2
          · have e2 : inX L96 j t' = inX K j t' := by
              unfold inX
              rw [ks.2.1 _ (by omega), e24]
            rw [e2, st t' q j hj]
            by_cases y : t ≤ t'
            · rw [if_pos y, if_pos (by omega)]
            · rw [if_neg y, if_neg (by omega)]
      refine x_iload_n dX6_live_30 3 rfl rfl ?_
      refine x_if_lt (tgt := 105) dX6_live_31 (by decide) (by omega) (fun h31 => ?_) (fun h31 => ?_)
      · exfalso; omega
      · refine x_iconst dX6_live_34 ?_
        refine x_istore (lv' := [(0, _), (1, _), (2, _), (3, _), (4, _)]) dX6_live_35 rfl rfl ?_
        refine x_iload dX6_live_37 4 rfl ?_
        refine x_iconst dX6_live_39 ?_
        refine x_ic_ge (tgt := 75) dX6_live_40 (by decide) (by omega) (fun h40 => ?_) (fun h40 => ?_)
        · exfalso; omega
        · refine x_aload_n dX6_live_43 0 rfl rfl ?_
          refine x_getR dX6_live_44 flX6_22 rfl rfl (hW.1 19 2 25 rfl) ?_
          refine x_iload dX6_live_47 4 rfl ?_
          refine x_bipush dX6_live_49 (by decide) ?_
          refine x_imul dX6_live_51 ?_
          refine x_iload_n dX6_live_52 3 rfl rfl ?_
          refine x_iadd dX6_live_53 ?_
          refine x_iconst dX6_live_54 ?_
          refine x_iast dX6_live_55 rfl (by omega) ?_
          refine x_aload_n dX6_live_56 0 rfl rfl ?_
          refine x_getR dX6_live_57 flX6_26 rfl rfl (hW.1 19 3 26 rfl) ?_
          refine x_iload dX6_live_60 4 rfl ?_
          refine x_bipush dX6_live_62 (by decide) ?_
          refine x_imul dX6_live_64 ?_
          refine x_iload_n dX6_live_65 3 rfl rfl ?_
          refine x_iadd dX6_live_66 ?_
          refine x_iconst dX6_live_67 ?_
          refine x_iast dX6_live_68 rfl (by omega) ?_
          refine x_iinc (lv' := [(0, _), (1, _), (2, _), (3, _), (4, _)]) dX6_live_69 4 rfl rfl rfl ?_
          refine x_goto (tgt := 37) dX6_live_72 (by decide) ?_
          refine x_iload dX6_live_37 4 rfl ?_
          refine x_iconst dX6_live_39 ?_
          refine x_ic_ge (tgt := 75) dX6_live_40 (by decide) (by omega) (fun h40 => ?_) (fun h40 => ?_)
          · exfalso; omega
          · refine x_aload_n dX6_live_43 0 rfl rfl ?_
            refine x_getR dX6_live_44 flX6_22 rfl rfl (hW.1 19 2 25 rfl) ?_
            refine x_iload dX6_live_47 4 rfl ?_
            refine x_bipush dX6_live_49 (by decide) ?_
            refine x_imul dX6_live_51 ?_
            refine x_iload_n dX6_live_52 3 rfl rfl ?_
            refine x_iadd dX6_live_53 ?_
            refine x_iconst dX6_live_54 ?_
            refine x_iast dX6_live_55 rfl (by omega) ?_
            refine x_aload_n dX6_live_56 0 rfl rfl ?_
            refine x_getR dX6_live_57 flX6_26 rfl rfl (hW.1 19 3 26 rfl) ?_
            refine x_iload dX6_live_60 4 rfl ?_
            refine x_bipush dX6_live_62 (by decide) ?_
            refine x_imul dX6_live_64 ?_
            refine x_iload_n dX6_live_65 3 rfl rfl ?_
            refine x_iadd dX6_live_66 ?_
            refine x_iconst dX6_live_67 ?_
            refine x_iast dX6_live_68 rfl (by omega) ?_
            refine x_iinc (lv' := [(0, _), (1, _), (2, _), (3, _), (4, _)]) dX6_live_69 4 rfl rfl rfl ?_
            refine x_goto (tgt := 37) dX6_live_72 (by decide) ?_
            refine x_iload dX6_live_37 4 rfl ?_
            refine x_iconst dX6_live_39 ?_
            refine x_ic_ge (tgt := 75) dX6_live_40 (by decide) (by omega) (fun h40 => ?_) (fun h40 => ?_)
            · exfalso; omega
            · refine x_aload_n dX6_live_43 0 rfl rfl ?_
              refine x_getR dX6_live_44 flX6_22 rfl rfl (hW.1 19 2 25 rfl) ?_
              refine x_iload dX6_live_47 4 rfl ?_
              refine x_bipush dX6_live_49 (by decide) ?_
              refine x_imul dX6_live_51 ?_
              refine x_iload_n dX6_live_52 3 rfl rfl ?_
              refine x_iadd dX6_live_53 ?_
              refine x_iconst dX6_live_54 ?_
              refine x_iast dX6_live_55 rfl (by omega) ?_
              refine x_aload_n dX6_live_56 0 rfl rfl ?_
              refine x_getR dX6_live_57 flX6_26 rfl rfl (hW.1 19 3 26 rfl) ?_
              refine x_iload dX6_live_60 4 rfl ?_
              refine x_bipush dX6_live_62 (by decide) ?_
              refine x_imul dX6_live_64 ?_
              refine x_iload_n dX6_live_65 3 rfl rfl ?_
              refine x_iadd dX6_live_66 ?_
              refine x_iconst dX6_live_67 ?_
              refine x_iast dX6_live_68 rfl (by omega) ?_
              refine x_iinc (lv' := [(0, _), (1, _), (2, _), (3, _), (4, _)]) dX6_live_69 4 rfl rfl rfl ?_
              refine x_goto (tgt := 37) dX6_live_72 (by decide) ?_
              refine x_iload dX6_live_37 4 rfl ?_
              refine x_iconst dX6_live_39 ?_
              refine x_ic_ge (tgt := 75) dX6_live_40 (by decide) (by omega) (fun h40 => ?_) (fun h40 => ?_)
              · refine x_aload_n dX6_live_75 0 rfl rfl ?_
                refine x_getR dX6_live_76 flX6_29 rfl rfl (hW.1 19 4 27 rfl) ?_
                refine x_iload_n dX6_live_79 3 rfl rfl ?_
                refine x_iconst dX6_live_80 ?_
                refine x_iast dX6_live_81 rfl (by omega) ?_
                refine x_aload_n dX6_live_82 0 rfl rfl ?_
                refine x_getR dX6_live_83 flX6_32 rfl rfl (hW.1 19 5 28 rfl) ?_
                refine x_iload_n dX6_live_86 3 rfl rfl ?_
                refine x_iconst dX6_live_87 ?_
                refine x_iast dX6_live_88 rfl (by omega) ?_
                refine x_top (lv' := [(0, _), (1, _), (2, _), (3, _)]) 4 rfl ?_
                refine (show Rn G mtX6_live Q 89 [(0, mr 19), (1, mr p), (2, mi (I h 3)), (3, mi (t : Int))] [] shX (ntI J (t : Int)) K S from ?_)
                refine x_aload_n dX6_live_89 0 rfl rfl ?_
                refine x_iload_n dX6_live_90 3 rfl rfl ?_
                refine x_callVv (as := [_]) dX6_live_91 lvX6_68 rfl rfl rfl rfl rfl rfl rfl ⟨rfl, rfl⟩ (hsw) (fun I91 L91 R91 hq91 => ?_)
                skip
                exact at94 _ _ _ hq91
              · exfalso; omega
  have hld : lvI I L R p h n nk κ na nb (lst κ) J0 (ldF L na (lst κ) n) R0 := by
    refine ⟨hW0, hph0, hh0, r0, fun c i q => j0e c i (by omega), ⟨by rw [hJ0, m_up_eq], by rw [hJ0, m_up_nj (by decide)]; exact m12, by rw [hJ0, m_up_nj (by decide)]; exact m15⟩, fun c i q1 q2 => ldF_ne _ _ _ _ _ _ (by omega), k0, fun x hx => ?_⟩
    have e1 := ldF_in L na (lst κ) (by omega) n x hx
    rw [sgX_d (I := I) (fun c i q => j0e c i (by omega)) (by omega) (by omega), alv_last, e1]
    have hs := hset (lst κ) (Nat.le_refl _) x (by omega)
    by_cases q : inX L x (lst κ) = true
    · rw [if_pos q]
      exact ⟨Or.inr rfl, fun _ => (hs.mp q).2, fun _ => by decide⟩
    · rw [if_neg q]
      exact ⟨Or.inl rfl, fun z => absurd rfl z, fun z => absurd (hs.mpr ⟨hx, z⟩) q⟩
  have main : Rn G mtX6_live Q 5 [(0, mr 19), (1, mr p)] [] shX I L R0 := by
    have hp2 := hW0.2.1
    have hph2 := hph0
    have hh2 := hh0
    have hW := hW0
    have jh3 : J0 h 3 = I h 3 := j0e h 3 (by omega)
    have hn3 : J0 p 3 = (n : Int) := k0.1.1.2.2.2.2.1
    refine x_aload_n dX6_live_5 0 rfl rfl ?_
    refine x_iconst dX6_live_6 ?_
    refine x_putI dX6_live_7 flX6_79 rfl rfl rfl ?_
    rw [← hJ0]
    refine x_aload_n dX6_live_10 0 rfl rfl ?_
    refine x_getR dX6_live_11 flX6_54 rfl rfl hW.2.2.1 ?_
    refine x_getR dX6_live_14 flX6_58 (shP0 hp2) rfl hph2 ?_
    refine x_getI dX6_live_17 flX6_62 (shH0 hh2) rfl ?_
    rw [jh3]
    refine x_istore_n (lv' := [(0, _), (1, _), (2, _)]) dX6_live_20 rfl rfl rfl ?_
    rw [show (I h 3) = ((lst κ : Nat) : Int) by omega]
    refine x_aload_n dX6_live_21 0 rfl rfl ?_
    refine x_iload_n dX6_live_22 2 rfl rfl ?_
    refine x_callVv (as := [_]) dX6_live_23 lvX6_82 rfl rfl rfl rfl rfl rfl rfl ⟨rfl, rfl⟩ (s_X6_loadSet hW0 hn3 hn2 (by omega)) (fun I23 L23 R23 hq23 => ?_)
    obtain ⟨rfl, rfl, rfl⟩ := hq23
    refine x_iload_n dX6_live_26 2 rfl rfl ?_
    refine x_iconst dX6_live_27 ?_
    refine x_isub dX6_live_28 ?_
    refine x_istore_n (lv' := [(0, _), (1, _), (2, _), (3, _)]) dX6_live_29 rfl rfl rfl ?_
    have z := lp (lst κ) (Nat.le_refl _) na nb J0 (ldF L na (lst κ) n) R0 hld (fun t' q j hj => by
      rw [inX_c (fun i => ldF_ne _ _ _ _ _ _ (by omega)), hset t' q j hj]
      by_cases e : lst κ ≤ t'
      · rw [if_pos e, show t' = lst κ by omega, alv_last]
      · rw [if_neg e]) (fun t' q1 q2 => by omega)
    rw [show I h 3 = ((lst κ : Nat) : Int) by omega] at z
    exact z
  refine x_aload_n dX6_live_0 0 rfl rfl ?_
  refine x_aload_n dX6_live_1 1 rfl rfl ?_
  refine x_putR dX6_live_2 flX6_54 rfl rfl rfl ?_
  rw [← hR0]
  exact main
end

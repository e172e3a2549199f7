section
variable {G : GT} {I L M N : MI} {R : MR} {h h' : Nat}

theorem s_X7_knowsWays  (co0 : CO I L R M N h h') (cc0 : CC I L R M h) : Sp G mtX7_knowsWays [mr 0] shX I L R (qi (fun z I' L' R' => z = b01 (okA M = true) ∧ CO I' L' R' M N h h' ∧ CC I' L' R' M h ∧ (okA M = true → I' 0 10 = 1 ∧ I' 0 11 = 1) ∧ ∀ i, L' 0 i = L 0 i)) := by
  refine Sp.of pnX7_knowsWays rfl ?_
  show Rn G mtX7_knowsWays _ 0 [(0, mr 0)] [] shX I L R
  generalize hQ : (qi (fun z I' L' R' => z = b01 (okA M = true) ∧ CO I' L' R' M N h h' ∧ CC I' L' R' M h ∧ (okA M = true → I' 0 10 = 1 ∧ I' 0 11 = 1) ∧ ∀ i, L' 0 i = L 0 i)) = Q
  have at27 : ∀ J K S, CO J K S M N h h' → CC (m_up J 0 11 1) K S M h → J 0 10 = 1 → (∀ i, K 0 i = L 0 i) → okA M = true → Rn G mtX7_knowsWays Q 27 [(0, mr 0)] [] shX J K S := by
    intro J K S co cc h10 hK hok
    have co2 : CO (m_up J 0 11 1) K S M N h h' := co.fr ((KO.rf J).up (by omega) _) (fun _ _ => rfl) co.1 rfl rfl co.2.2.1 (by rw [m_up_ne (by decide), m_up_ne (by decide)]; exact co.2.2.2.1)
    refine x_aload_n dX7_knowsWays_27 0 rfl rfl ?_
    refine x_iconst dX7_knowsWays_28 ?_
    refine x_putZ dX7_knowsWays_29 flX7_366 rfl rfl rfl (by omega) ?_
    refine x_iconst dX7_knowsWays_32 ?_
    refine x_zret dX7_knowsWays_33 rfl (by omega) ?_
    rw [← hQ]
    exact ⟨_, rfl, b01_t hok, co2, cc, fun _ => ⟨(m_up_nj (by decide)).trans h10, m_up_eq⟩, hK⟩
  have at9 : ∀ J K S, CO J K S M N h h' → CC J K S M h → J 0 10 = 1 → (∀ i, K 0 i = L 0 i) → okA M = true → Rn G mtX7_knowsWays Q 9 [(0, mr 0)] [] shX J K S := by
    intro J K S co cc h10 hK hok
    have co1 := co
    obtain ⟨hR, ⟨r8, r9, -⟩, ⟨na, nb, nk, tw⟩, ⟨m12, m15⟩, ⟨iH, iE, iL, iR, iT⟩, -⟩ := co1
    have h32 := co.h32
    have hh := hR.h h32
    have h11 := cc.1.2
    obtain ⟨c1, c2, n, c3, c4, c5, c6⟩ := cc.2 h10
    have fit := (okA_eq iE iL).mp hok
    have hlv := fun (q : J 0 11 = 0) => s_X6_live (G := G) hR tw (hR.p (Or.inl rfl)) c1 hh c3 m12 m15 (fun t ht j hj => c5 q t ht (Or.inl (c2.trans fit)) j hj)
    refine x_aload_n dX7_knowsWays_9 0 rfl rfl ?_
    refine x_getI dX7_knowsWays_10 flX7_366 rfl rfl ?_
    refine x_if_ne (tgt := 27) dX7_knowsWays_13 (by decide) (by omega) (fun h13 => ?_) (fun h13 => ?_)
    · first
      | (exact at27 _ _ _ co (cc.fr (fun c i q => by rw [m_up_ne (by omega)]) (fun i q => by
          by_cases e : i = 11
          · subst e; rw [m_up_eq]; omega
          · rw [m_up_nj e]) rfl (fun _ => rfl)) h10 hK hok)
      | (have e32 : ∀ c i, 32 ≤ c → (m_up I24 0 11 1) c i = J c i := fun c i q => by
           rw [m_up_ne (by omega)]
           exact v1 c i (by omega)
         refine at27 _ _ _ (co.fr (fun c i q => v1 c i (by omega)) (fun i _ => v3 0 i (by decide) (by decide)) (v6.ok hR) (v6 0 8 (by decide)) (v6 0 9 (by decide)) ⟨na2, nb2, nk, v7⟩ v2) ?_ ((v1 0 10 (by decide)).trans h10) (fun i => (v3 0 i (by decide) (by decide)).trans (hK i)) hok
         refine ⟨⟨Or.inr ((m_up_nj (by decide)).trans ((v1 0 10 (by decide)).trans h10)), Or.inr m_up_eq⟩, fun _ => ⟨(v6 42 0 (by decide)).trans c1, ?_, n, PKR_d e32 (by omega) (by omega) c3, (e32 42 4 (by omega)).trans c4, fun q => ?_, fun _ => ⟨fit, fun t ht j hj => ?_, fun t ht => ?_⟩⟩⟩
         · rw [m_up_nj (by decide), v1 0 12 (by decide)]; exact c2
         · rw [m_up_eq] at q; omega
         · rw [sgX_d e32 (by omega) (by omega)]; exact v4 t ht j hj
         · have z := v5 t ht
           unfold NTS at z ⊢
           simp only [m_up_ne (show (25 : Nat) ≠ 0 by decide), m_up_ne (show (26 : Nat) ≠ 0 by decide), m_up_ne (show (27 : Nat) ≠ 0 by decide), m_up_ne (show (28 : Nat) ≠ 0 by decide)]
           exact z)
    · refine x_aload_n dX7_knowsWays_16 0 rfl rfl ?_
      refine x_getR dX7_knowsWays_17 flX7_31 rfl rfl (hR 0 3 19 rfl) ?_
      refine x_aload_n dX7_knowsWays_20 0 rfl rfl ?_
      refine x_getR dX7_knowsWays_21 flX7_50 rfl rfl (hR 0 4 42 rfl) ?_
      refine x_callVv (as := [_]) dX7_knowsWays_24 lvX7_369 rfl rfl rfl rfl rfl rfl rfl ⟨rfl, rfl⟩ ((hlv (by omega))) (fun I24 L24 R24 hq24 => ?_)
      obtain ⟨v1, v2, v3, v4, v5, v6, na2, nb2, v7⟩ := hq24
      first
      | (exact at27 _ _ _ co (cc.fr (fun c i q => by rw [m_up_ne (by omega)]) (fun i q => by
          by_cases e : i = 11
          · subst e; rw [m_up_eq]; omega
          · rw [m_up_nj e]) rfl (fun _ => rfl)) h10 hK hok)
      | (have e32 : ∀ c i, 32 ≤ c → (m_up I24 0 11 1) c i = J c i := fun c i q => by
           rw [m_up_ne (by omega)]
           exact v1 c i (by omega)
         refine at27 _ _ _ (co.fr (fun c i q => v1 c i (by omega)) (fun i _ => v3 0 i (by decide) (by decide)) (v6.ok hR) (v6 0 8 (by decide)) (v6 0 9 (by decide)) ⟨na2, nb2, nk, v7⟩ v2) ?_ ((v1 0 10 (by decide)).trans h10) (fun i => (v3 0 i (by decide) (by decide)).trans (hK i)) hok
         refine ⟨⟨Or.inr ((m_up_nj (by decide)).trans ((v1 0 10 (by decide)).trans h10)), Or.inr m_up_eq⟩, fun _ => ⟨(v6 42 0 (by decide)).trans c1, ?_, n, PKR_d e32 (by omega) (by omega) c3, (e32 42 4 (by omega)).trans c4, fun q => ?_, fun _ => ⟨fit, fun t ht j hj => ?_, fun t ht => ?_⟩⟩⟩
         · rw [m_up_nj (by decide), v1 0 12 (by decide)]; exact c2
         · rw [m_up_eq] at q; omega
         · rw [sgX_d e32 (by omega) (by omega)]; exact v4 t ht j hj
         · have z := v5 t ht
           unfold NTS at z ⊢
           simp only [m_up_ne (show (25 : Nat) ≠ 0 by decide), m_up_ne (show (26 : Nat) ≠ 0 by decide), m_up_ne (show (27 : Nat) ≠ 0 by decide), m_up_ne (show (28 : Nat) ≠ 0 by decide)]
           exact z)
  refine x_aload_n dX7_knowsWays_0 0 rfl rfl ?_
  refine x_callVi (as := []) dX7_knowsWays_1 lvX7_179 rfl rfl rfl rfl rfl rfl rfl ⟨rfl, rfl⟩ (s_X7_canBe co0 cc0) (fun z1 I1 L1 R1 hq1 => ?_)
  obtain ⟨rfl, co1, cc1, h10, hK⟩ := hq1
  refine y_ifb_ne (tgt := 9) dX7_knowsWays_4 (by decide) (fun h4 => ?_) (fun h4 => ?_)
  · exact at9 _ _ _ co1 cc1 h10 hK (by assumption)
  · refine x_iconst dX7_knowsWays_7 ?_
    refine x_zret dX7_knowsWays_8 rfl (by omega) ?_
    rw [← hQ]
    refine ⟨_, rfl, ?_, co1, cc1, fun q => absurd q (by assumption), hK⟩
    exact b01_f (by assumption)
theorem s_X7_could  (co0 : CO I L R M N h h') (cc0 : CC I L R M h) : Sp G mtX7_could [mr 0] shX I L R (qi (fun z I' L' R' => z = (s_could M).1 ∧ CO I' L' R' (s_could M).2 N h h' ∧ CC I' L' R' (s_could M).2 h)) := by
  refine Sp.of pnX7_could rfl ?_
  show Rn G mtX7_could _ 0 [(0, mr 0)] [] shX I L R
  generalize hQ : (qi (fun z I' L' R' => z = (s_could M).1 ∧ CO I' L' R' (s_could M).2 N h h' ∧ CC I' L' R' (s_could M).2 h)) = Q
  have iE := co0.2.2.2.2.1.2.1
  have iL := co0.2.2.2.2.1.2.2.1
  have at9 : ∀ J K S, CO J K S M N h h' → CC J K S M h → J 0 10 = 1 → (∀ i, K 0 i = L 0 i) → ¬ okA M = true → Rn G mtX7_could Q 9 [(0, mr 0)] [] shX J K S := by
    intro J K S co cc h10 hK hok
    have fit : ¬ fst0 (kM M) = -9 := fun z => hok ((okA_eq iE iL).mpr z)
    have e12 := (cc.2 h10).2.1
    have tl := tl_ok co cc (J 0 12)
    refine x_aload_n dX7_could_9 0 rfl rfl ?_
    refine x_aload_n dX7_could_10 0 rfl rfl ?_
    refine x_getI dX7_could_11 flX7_183 rfl rfl ?_
    refine x_putI dX7_could_14 flX7_186 rfl rfl rfl ?_
    refine x_iconst dX7_could_17 ?_
    refine x_iret dX7_could_18 rfl ?_
    rw [← hQ]
    have e : s_could M = (0, a_tl M (fst0 (kM M))) := by
      unfold s_could
      exact if_neg fit
    rw [e]
    rw [e12] at tl ⊢
    exact ⟨_, rfl, rfl, tl.1, tl.2⟩
  refine x_aload_n dX7_could_0 0 rfl rfl ?_
  refine x_callVi (as := []) dX7_could_1 lvX7_179 rfl rfl rfl rfl rfl rfl rfl ⟨rfl, rfl⟩ (s_X7_canBe co0 cc0) (fun z1 I1 L1 R1 hq1 => ?_)
  obtain ⟨rfl, co1, cc1, h10, hK⟩ := hq1
  refine y_ifb_eq (tgt := 9) dX7_could_4 (by decide) (fun h4 => ?_) (fun h4 => ?_)
  · exact at9 _ _ _ co1 cc1 h10 hK (by assumption)
  · refine x_iconst dX7_could_7 ?_
    refine x_iret dX7_could_8 rfl ?_
    rw [← hQ]
    have fit := (okA_eq iE iL).mp (show okA M = true by assumption)
    have e : s_could M = (1, M) := by
      unfold s_could
      exact if_pos fit
    rw [e]
    exact ⟨_, rfl, rfl, co1, cc1⟩
end

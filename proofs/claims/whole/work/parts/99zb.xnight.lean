/-! THE CLASS'S FACE: night. -/
/-- k events come behind -/
def TN (I : MI) (es : List EV) (k : Nat) (J : MI) : Prop := J 58 0 = I 58 0 + (k : Int) ∧ (∀ (i : Nat) q, i < k → es[i]? = some q → J (58 + 1) (I 58 0 + (i : Int)) = q.1 ∧ J (58 + 2) (I 58 0 + (i : Int)) = q.2.1 ∧ J (58 + 3) (I 58 0 + (i : Int)) = q.2.2.1 ∧ J (58 + 4) (I 58 0 + (i : Int)) = q.2.2.2) ∧
  ∀ c j, ¬ (c = 58 ∧ j = 0) → ¬ (58 < c ∧ c ≤ 62 ∧ I 58 0 ≤ j) → J c j = I c j
theorem TN.rf (I : MI) (es : List EV) : TN I es 0 I := ⟨by omega, fun i q hi => absurd hi (Nat.not_lt_zero _), fun _ _ _ _ => rfl⟩
theorem TN.st {I J : MI} {es : List EV} {k : Nat} {q : EV} (h : TN I es k J) (hq : es[k]? = some q) : TN I es (k + 1) (adN J 58 q.1 q.2.1 q.2.2.1 q.2.2.2) := by
  obtain ⟨h1, h2, h3⟩ := h
  refine ⟨?_, fun i p hi hp => ?_, fun c j q1 q2 => ?_⟩
  · unfold adN
    rw [m_up_eq, h1]
    omega
  · by_cases e : i = k
    · subst e
      rw [hq] at hp
      cases hp
      unfold adN
      rw [h1]
      refine ⟨?_, ?_, ?_, ?_⟩
      · rw [m_up_ne (by decide), m_up_ne (by decide), m_up_ne (by decide), m_up_ne (by decide), m_up_eq]
      · rw [m_up_ne (by decide), m_up_ne (by decide), m_up_ne (by decide), m_up_eq]
      · rw [m_up_ne (by decide), m_up_ne (by decide), m_up_eq]
      · rw [m_up_ne (by decide), m_up_eq]
    · have z := h2 i p (by omega) hp
      unfold adN
      rw [h1]
      refine ⟨?_, ?_, ?_, ?_⟩
      · rw [m_up_ne (by decide), m_up_ne (by decide), m_up_ne (by decide), m_up_ne (by decide), m_up_nj (by omega)]; exact z.1
      · rw [m_up_ne (by decide), m_up_ne (by decide), m_up_ne (by decide), m_up_nj (by omega), m_up_ne (by decide)]; exact z.2.1
      · rw [m_up_ne (by decide), m_up_ne (by decide), m_up_nj (by omega), m_up_ne (by decide), m_up_ne (by decide)]; exact z.2.2.1
      · rw [m_up_ne (by decide), m_up_nj (by omega), m_up_ne (by decide), m_up_ne (by decide), m_up_ne (by decide)]; exact z.2.2.2
  · unfold adN
    rw [h1]
    unfold m_up
    rw [if_neg (by omega), if_neg (by omega), if_neg (by omega), if_neg (by omega), if_neg (by omega)]
    exact h3 c j q1 q2

section
variable {I L M N M' J : MI} {R : MR} {h h' : Nat}
theorem nig_ok (co : CO I L R M N h h') (cc : CC I L R M h) {es : List EV} (hv : ∀ q, q ∈ es → evV M q) (hl : M 0 25 + (es.length : Int) ≤ 24) (hs : nsI M es M') (ht : TN I es es.length J) : CO (m_up J 0 10 0) L R M' N h h' ∧ CC (m_up J 0 10 0) L R M' h := by
  obtain ⟨iH, iE, iL, -, -⟩ := co.2.2.2.2.1
  have nr := co.2.2.2.2.2.2.1
  obtain ⟨t1, t2, t3⟩ := ht
  obtain ⟨s1, s2, s3⟩ := hs
  have e0 := iE.1
  obtain ⟨en, hen⟩ : ∃ en : Nat, M 0 25 = (en : Int) := ⟨(M 0 25).toNat, by omega⟩
  have n25 : I 58 0 = (en : Int) := nr.1.trans hen
  obtain ⟨K, hK⟩ : ∃ K : MI, K = fun c j => if c = 11 ∨ (c = 0 ∧ j = 25) then M' c j else M c j := ⟨_, rfl⟩
  have k11 : ∀ j, K 11 j = M' 11 j := fun j => by rw [hK]; exact if_pos (Or.inl rfl)
  have k25 : K 0 25 = (en : Int) + (es.length : Int) := by rw [hK, ← hen, ← s1]; exact if_pos (Or.inr ⟨rfl, rfl⟩)
  have ko : ∀ c j, c ≠ 11 → ¬ (c = 0 ∧ j = 25) → K c j = M c j := fun c j q1 q2 => by rw [hK]; exact if_neg (by omega)
  have pe : Pe K M' := fun c j q => by
    by_cases q1 : c = 11 ∨ (c = 0 ∧ j = 25)
    · rw [hK]; exact (if_pos q1).symm
    · rw [ko c j (by omega) (by omega)]; exact s3 c j q (by omega) (by omega)
  have z0 : ∀ j, j ≠ 25 → K 0 j = M 0 j := fun j q => ko 0 j (by decide) (by omega)
  have z7 : ∀ j, K 7 j = M 7 j := fun j => ko 7 j (by decide) (by omega)
  have mo : ∀ j, 0 ≤ j → j < 4 * (en : Int) → K 11 j = M 11 j := fun j q0 q => by rw [k11]; exact s3 11 j (by unfold per; omega) (by omega) (by omega)
  have eg : ∀ e : Nat, en ≤ e → e < en + es.length → ∃ q, q ∈ es ∧ (K 11 (4 * (e : Int) + 0) = q.1 ∧ K 11 (4 * (e : Int) + 1) = q.2.1 ∧ K 11 (4 * (e : Int) + 2) = q.2.2.1 ∧ K 11 (4 * (e : Int) + 3) = q.2.2.2) ∧ J (58 + 1) (e : Int) = q.1 ∧ J (58 + 2) (e : Int) = q.2.1 ∧ J (58 + 3) (e : Int) = q.2.2.1 ∧ J (58 + 4) (e : Int) = q.2.2.2 := fun e h1 h2 => by
    have hi : e - en < es.length := by omega
    have hq := List.getElem?_eq_getElem hi
    have a := s2 _ _ hq
    have b := t2 _ _ hi hq
    rw [hen, show (en : Int) + ((e - en : Nat) : Int) = (e : Int) by omega] at a
    rw [n25, show (en : Int) + ((e - en : Nat) : Int) = (e : Int) by omega] at b
    refine ⟨_, List.mem_of_getElem? hq, ?_, b⟩
    rw [k11, k11, k11, k11, Int.add_zero]
    exact a
  have main := ev_ok (I' := m_up J 0 10 0) (M' := K) co cc (fun c i q1 q2 => ?_) ko m_up_eq ?_ ?_ ?_
  · exact ⟨main.1.pe pe (fun _ _ => rfl), main.2.hn (HN.pe pe)⟩
  · unfold m_up
    rw [if_neg (by omega)]
    exact t3 c i (by omega) (by omega)
  · unfold iEvs
    rw [k25]
    refine ⟨by omega, fun e he => ?_⟩
    by_cases x : e < en
    · have := iE.2 e (by omega)
      unfold iEv at this ⊢
      rw [mo _ (by omega) (by omega), mo _ (by omega) (by omega), mo _ (by omega) (by omega), mo _ (by omega) (by omega)]
      exact this
    · obtain ⟨q, hq, ⟨a1, a2, a3, a4⟩, -⟩ := eg e (by omega) (by omega)
      obtain ⟨v1, v2, v3, v4, v5, v6, -⟩ := hv q hq
      unfold iEv
      rw [a1, a2, a3, a4]
      exact ⟨v1, v2, v3, v4, v5, v6⟩
  · unfold iEvL
    rw [k25, z0 11 (by decide), z0 12 (by decide), z0 13 (by decide), z0 14 (by decide)]
    simp only [z7]
    intro e h1 h2
    obtain ⟨e', rfl⟩ : ∃ e' : Nat, e = (e' : Int) := ⟨e.toNat, by omega⟩
    by_cases x : e' < en
    · have := iL (e' : Int) h1 (by omega)
      rw [mo _ (by omega) (by omega), mo _ (by omega) (by omega), mo _ (by omega) (by omega), mo _ (by omega) (by omega)]
      exact this
    · obtain ⟨q, hq, ⟨a1, a2, a3, a4⟩, -⟩ := eg e' (by omega) (by omega)
      obtain ⟨-, -, -, -, -, -, v7, v8, v9, v10, v11⟩ := hv q hq
      rw [a1, a2, a3, a4]
      exact ⟨v7, v8, v9, v10, v11⟩
  · unfold NRL
    rw [k25]
    have ae : ∀ c i, ¬ (c = 0) → m_up J 0 10 0 c i = J c i := fun c i q => m_up_ne q i
    refine ⟨?_, fun e he => ?_⟩
    · rw [ae _ _ (by decide), t1, n25]
    · rw [ae _ _ (by decide), ae _ _ (by decide), ae _ _ (by decide), ae _ _ (by decide)]
      by_cases x : e < en
      · have z := nr.2 e (by omega)
        rw [mo _ (by omega) (by omega), mo _ (by omega) (by omega), mo _ (by omega) (by omega), mo _ (by omega) (by omega)]
        rw [t3 _ _ (by omega) (by omega), t3 _ _ (by omega) (by omega), t3 _ _ (by omega) (by omega), t3 _ _ (by omega) (by omega)]
        exact z
      · obtain ⟨q, hq, ⟨a1, a2, a3, a4⟩, b1, b2, b3, b4⟩ := eg e (by omega) (by omega)
        rw [a1, a2, a3, a4]
        exact ⟨b1, b2, b3, b4⟩
end
section
variable {G : GT} {I L M N : MI} {R : MR} {h h' : Nat}

theorem s_X7_night {r : Int} (co0 : CO I L R M N h h') (cc0 : CC I L R M h) (hr : rI r) : Sp G mtX7_night [mr 0, mi r] shX I L R (qi (fun z I' L' R' => (okN r M → z = ((nigF (BY M r) M (M 5 r).toNat).2.2.length : Int) ∧ ∀ M', nsI M (nigF (BY M r) M (M 5 r).toNat).2.2 M' → CO I' L' R' M' N h h' ∧ CC I' L' R' M' h) ∧ (¬ okN r M → z = (s_night1 r M).1 ∧ CO I' L' R' (s_night1 r M).2 N h h' ∧ CC I' L' R' (s_night1 r M).2 h))) := by
  refine Sp.of pnX7_night rfl ?_
  show Rn G mtX7_night _ 0 [(0, mr 0), (1, mi r)] [] shX I L R
  generalize hQ : (qi (fun z I' L' R' => (okN r M → z = ((nigF (BY M r) M (M 5 r).toNat).2.2.length : Int) ∧ ∀ M', nsI M (nigF (BY M r) M (M 5 r).toNat).2.2 M' → CO I' L' R' M' N h h' ∧ CC I' L' R' M' h) ∧ (¬ okN r M → z = (s_night1 r M).1 ∧ CO I' L' R' (s_night1 r M).2 N h h' ∧ CC I' L' R' (s_night1 r M).2 h))) = Q
  have hR := co0.1
  have r8 := co0.2.1.1
  have r9 := co0.2.1.2.1
  have h32 := co0.h32
  have hh := hR.h h32
  obtain ⟨iH, iE, iL, iR, iT⟩ := co0.2.2.2.2.1
  have hrl := co0.2.2.2.2.2.1.1
  have q0 := hrl.1
  have q1 := hrl.2.1
  have q2 := hrl.2.2.1
  have q3 := hrl.2.2.2.1
  have b0 := iH.1
  have b1 := iH.2.1
  have b2 := iH.2.2.1
  have b3 := iH.2.2.2.1
  have szr : ∀ rn : Nat, rn < 6 → I 9 (rn : Int) = M 2 (rn : Int) ∧ -1 ≤ M 2 (rn : Int) ∧ M 2 (rn : Int) ≤ 40 := fun rn hrn => ⟨(co0.2.2.2.2.2.2.2.1 rn hrn).1, iR.1 _ (by omega) (by omega)⟩
  have szt : ∀ rn : Nat, rn < 4 → I 16 (rn : Int) = M 5 (rn : Int) ∧ -1 ≤ M 5 (rn : Int) ∧ M 5 (rn : Int) ≤ 80 := fun rn hrn => ⟨(co0.2.2.2.2.2.2.2.2.1 rn hrn).1, iT.1 _ (by omega) (by omega)⟩
  have at13 : ∀ rn : Nat, r = (rn : Int) → rn < 4 → Rn G mtX7_night Q 13 [(0, mr 0), (1, mi r)] [] shX I L R := by
    intro rn e hrn
    subst e
    obtain ⟨sz, sz2⟩ := szt rn hrn
    have at43 : ∀ J K S (es : List EV), CO J K S M N h h' → CC J K S M h → es = (nigF (BY M (rn : Int)) M (M 5 (rn : Int)).toNat).2.2 → (nigF (BY M (rn : Int)) M (M 5 (rn : Int)).toNat).1 = -9 → 0 ≤ M 5 (rn : Int) → NX 63 es J → es.length ≤ 20 → Rn G mtX7_night Q 43 [(0, mr 0), (1, mi (rn : Int))] [] shX J K S := by
      intro J K S es co1 cc1 hes ok9 h5 nx hl
      have hR := co1.1
      have hnn := hR.n (h := 63) (Or.inr rfl)
      have hn := hR.n (h := 58) (Or.inl rfl)
      have nr := co1.2.2.2.2.2.2.1
      have n25 := nr.1
      have e25 := iE.1
      have n63 := nx.1
      have hv : ∀ q, q ∈ es → evV M q := fun q hq => nigF_v iH q (by rw [← hes]; exact hq)
      have lp : M 0 25 + (es.length : Int) ≤ 24 → ∀ k : Nat, k ≤ es.length → ∀ T, TN J es k T → Rn G mtX7_night Q 68 [(0, mr 0), (1, mi (rn : Int)), (2, mi (k : Int))] [] shX T K S := by
        intro hl4
        refine lpn _ (fun k hk ih => ?_) ?_
        · intro T ht
          have t63 : T 63 0 = (es.length : Int) := (ht.2.2 63 0 (by decide) (by omega)).trans n63
          have t58 := ht.1
          have hq := List.getElem?_eq_getElem hk
          have v := nx.2 k _ hq
          have eT : ∀ i, 1 ≤ i → T (63 + i) (k : Int) = J (63 + i) (k : Int) := fun i h1 => ht.2.2 _ _ (by omega) (by omega)
          have st := ht.st hq
          rw [← v.1, ← v.2.1, ← v.2.2.1, ← v.2.2.2, ← eT 1 (by decide), ← eT 2 (by decide), ← eT 3 (by decide), ← eT 4 (by decide)] at st
          refine x_iload_n dX7_night_68 2 rfl rfl ?_
          refine x_aload_n dX7_night_69 0 rfl rfl ?_
          refine x_getR dX7_night_70 flX7_64 rfl rfl (hR 0 7 63 rfl) ?_
          refine x_getI dX7_night_73 flX7_124 rfl rfl ?_
          refine x_ic_ge (tgt := 97) dX7_night_76 (by decide) (by omega) (fun h76 => ?_) (fun h76 => ?_)
          · exfalso; omega
          · refine x_aload_n dX7_night_79 0 rfl rfl ?_
            refine x_getR dX7_night_80 flX7_60 rfl rfl (hR 0 6 58 rfl) ?_
            refine x_aload_n dX7_night_83 0 rfl rfl ?_
            refine x_getR dX7_night_84 flX7_64 rfl rfl (hR 0 7 63 rfl) ?_
            refine x_iload_n dX7_night_87 2 rfl rfl ?_
            refine x_callVv (as := [_, _]) dX7_night_88 lvX7_135 rfl rfl rfl rfl rfl rfl rfl ⟨rfl, rfl⟩ (s_X2_addFrom (e := (k : Int)) hn hnn (by omega) (by omega)) (fun I88 L88 R88 hq88 => ?_)
            obtain ⟨rfl, rfl, rfl⟩ := hq88
            refine x_iinc (lv' := [(0, _), (1, _), (2, _)]) dX7_night_91 2 rfl rfl rfl ?_
            refine x_goto (tgt := 68) dX7_night_94 (by decide) ?_
            exact ih _ st
        · intro T ht
          have t63 : T 63 0 = (es.length : Int) := (ht.2.2 63 0 (by decide) (by omega)).trans n63
          refine x_iload_n dX7_night_68 2 rfl rfl ?_
          refine x_aload_n dX7_night_69 0 rfl rfl ?_
          refine x_getR dX7_night_70 flX7_64 rfl rfl (hR 0 7 63 rfl) ?_
          refine x_getI dX7_night_73 flX7_124 rfl rfl ?_
          refine x_ic_ge (tgt := 97) dX7_night_76 (by decide) (by omega) (fun h76 => ?_) (fun h76 => ?_)
          · refine x_aload_n dX7_night_97 0 rfl rfl ?_
            refine x_iconst dX7_night_98 ?_
            refine x_putZ dX7_night_99 flX7_128 rfl rfl rfl (by omega) ?_
            refine x_aload_n dX7_night_102 0 rfl rfl ?_
            refine x_getR dX7_night_103 flX7_64 rfl rfl (hR 0 7 63 rfl) ?_
            refine y_getI dX7_night_106 flX7_124 rfl rfl (m_up_ne (by decide) _) ?_
            refine x_iret dX7_night_109 rfl ?_
            rw [← hQ]
            refine ⟨_, rfl, fun _ => ⟨?_, fun M' hs => nig_ok co1 cc1 hv hl4 (by rw [hes]; exact hs) ht⟩, fun z => absurd ⟨by omega, h5, ok9, by rw [← hes]; exact hl4⟩ z⟩
            rw [← hes]
            exact t63
          · exfalso; omega
      refine x_aload_n dX7_night_43 0 rfl rfl ?_
      refine x_getR dX7_night_44 flX7_60 rfl rfl (hR 0 6 58 rfl) ?_
      refine x_getI dX7_night_47 flX7_124 rfl rfl ?_
      refine x_aload_n dX7_night_50 0 rfl rfl ?_
      refine x_getR dX7_night_51 flX7_64 rfl rfl (hR 0 7 63 rfl) ?_
      refine x_getI dX7_night_54 flX7_124 rfl rfl ?_
      refine x_iadd dX7_night_57 ?_
      refine x_bipush dX7_night_58 (by decide) ?_
      refine x_ic_le (tgt := 66) dX7_night_60 (by decide) (by omega) (fun h60 => ?_) (fun h60 => ?_)
      · refine x_iconst dX7_night_66 ?_
        refine x_istore_n (lv' := [(0, _), (1, _), (2, _)]) dX7_night_67 rfl rfl rfl ?_
        exact lp (by omega) 0 (by omega) _ (TN.rf _ _)
      · refine x_bipush dX7_night_63 (by decide) ?_
        refine x_iret dX7_night_65 rfl ?_
        rw [← hQ]
        have x : s_night1 (rn : Int) M = (-2, M) := by
          unfold s_night1
          rw [if_neg (by omega), if_neg (by omega), if_neg (by omega)]
        refine ⟨_, rfl, fun z => by have := z.2.2.2; rw [← hes] at this; exfalso; omega, fun _ => ?_⟩
        rw [x]
        exact ⟨rfl, co1, cc1⟩
    refine x_aload_n dX7_night_13 0 rfl rfl ?_
    refine x_getR dX7_night_14 flX7_18 rfl rfl (hR 0 1 10 rfl) ?_
    refine x_iload_n dX7_night_17 1 rfl rfl ?_
    refine x_callVi (as := [_]) dX7_night_18 lvX7_87 rfl rfl rfl rfl rfl rfl rfl ⟨rfl, rfl⟩ (s_X5_lacks hR.s10 hrn (by omega)) (fun z18 I18 L18 R18 hq18 => ?_)
    obtain ⟨rfl, rfl, rfl, rfl⟩ := hq18
    refine y_ifb_eq (tgt := 30) dX7_night_21 (by decide) (fun h21 => ?_) (fun h21 => ?_)
    · refine x_aload_n dX7_night_30 0 rfl rfl ?_
      refine x_iload_n dX7_night_31 1 rfl rfl ?_
      refine x_callVi (as := [_]) dX7_night_32 lvX7_118 rfl rfl rfl rfl rfl rfl rfl ⟨rfl, rfl⟩ (s_X7_faultOfNight co0 cc0 hrn (by omega)) (fun z32 I32 L32 R32 hq32 => ?_)
      obtain ⟨e32, co1, cc1, x32⟩ := hq32
      have rz := nigF_r (BY M (rn : Int)) M (M 5 (rn : Int)).toNat
      refine x_bipush dX7_night_35 (by decide) ?_
      refine x_ic_eq (tgt := 43) dX7_night_37 (by decide) (by omega) (fun h37 => ?_) (fun h37 => ?_)
      · exact at43 _ _ _ _ co1 cc1 rfl (by omega) (by omega) (x32 (by omega)).1 (x32 (by omega)).2
      · refine x_bipush dX7_night_40 (by decide) ?_
        refine x_iret dX7_night_42 rfl ?_
        rw [← hQ]
        have x : s_night1 (rn : Int) M = (-4, M) := by
          unfold s_night1
          rw [if_neg (by omega), if_neg (by omega), if_pos (by omega)]
        refine ⟨_, rfl, fun z => by have := z.2.2.1; exfalso; omega, fun _ => ?_⟩
        rw [x]
        exact ⟨rfl, co1, cc1⟩
    · refine x_aload_n dX7_night_24 0 rfl rfl ?_
      refine x_iconst dX7_night_25 ?_
      refine x_callVi (as := [_]) dX7_night_26 lvX7_79 rfl rfl rfl rfl rfl rfl rfl ⟨rfl, rfl⟩ (s_X7_found co0.1 (by omega)) (fun z26 I26 L26 R26 hq26 => ?_)
      obtain ⟨rfl, rfl, rfl, rfl⟩ := hq26
      refine x_iret dX7_night_29 rfl ?_
      rw [← hQ]
      have x : s_night1 (rn : Int) M = (-3, a_mt M 1) := by
        unfold s_night1
        rw [if_neg (by omega), if_pos (by omega)]
      refine ⟨_, rfl, fun z => by have := z.2.1; exfalso; omega, fun _ => ?_⟩
      rw [x]
      have z := mt_ok co0 cc0 (f := 1) (by omega)
      exact ⟨rfl, z.1, z.2⟩
  refine x_aload_n dX7_night_0 0 rfl rfl ?_
  refine x_getR dX7_night_1 flX7_18 rfl rfl (hR 0 1 10 rfl) ?_
  refine x_iload_n dX7_night_4 1 rfl rfl ?_
  refine x_callVi (as := [_]) dX7_night_5 lvX7_75 rfl rfl rfl rfl rfl rfl rfl ⟨rfl, rfl⟩ (s_X5_names hR.s10 (by omega)) (fun z5 I5 L5 R5 hq5 => ?_)
  obtain ⟨rfl, rfl, rfl, rfl⟩ := hq5
  refine y_ifb_ne (tgt := 13) dX7_night_8 (by decide) (fun h8 => ?_) (fun h8 => ?_)
  · exact at13 r.toNat (by omega) (by omega)
  · refine x_iconst dX7_night_11 ?_
    refine x_iret dX7_night_12 rfl ?_
    rw [← hQ]
    have x : s_night1 r M = (-1, M) := by
      unfold s_night1
      exact if_pos (by omega)
    refine ⟨_, rfl, fun z => by have := z.1; exfalso; omega, fun _ => ?_⟩
    rw [x]
    exact ⟨rfl, co0, cc0⟩
end

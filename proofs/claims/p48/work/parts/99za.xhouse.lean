/-! THE CLASS'S FACE: house. -/
/-- a house taken over, on both sides -/
theorem hou_ok {I J L M N M' : MI} {R S : MR} {h h' : Nat} (co : CO I L R M N h h') (cc : CC I L R M h) {R0 : Int} {σ : HS} (hx : HX h' R0 σ.2 I) (hv : hoV R0 σ) (hR0 : 1 ≤ R0 ∧ R0 ≤ 6) (hs : hsI M R0 σ M') (hJ : J = m_up (m_up I 58 0 0) 0 10 0) (hS : S = m_up (m_up R 0 8 (some h')) 0 9 (some h)) : CO J L S M' N h' h ∧ CC J L S M' h' := by
  have h32 := co.h32
  obtain ⟨q1, ⟨q2, q3, q4⟩, ⟨na, nb, nk, q5⟩, q6, ⟨j1, j2, j3, j4, j5⟩, q8, q9, q10, q11, ⟨q12, q13, q14⟩, q15⟩ := co
  obtain ⟨x1, x2, x3, x4, x5, ⟨x6, x7⟩, x8, x9, x10⟩ := hx
  obtain ⟨v1, v2, v3, v4⟩ := hv
  obtain ⟨s1, s2, s3, s4, s5, s6, s7, s8, s9, s10⟩ := hs
  have jo : ∀ c i, c ≠ 0 → c ≠ 58 → J c i = I c i := fun c i a b => by rw [hJ, m_up_ne a, m_up_ne b]
  have j0 : ∀ i, i ≠ 10 → J 0 i = I 0 i := fun i a => by rw [hJ, m_up_nj a, m_up_ne (by decide)]
  have so : ∀ a i, a ≠ 0 → S a i = R a i := fun a i q => by rw [hS, m_up_ne q, m_up_ne q]
  have mo : ∀ c j, (c = 1 ∨ c = 2 ∨ c = 3 ∨ c = 5 ∨ c = 6) → M' c j = M c j := fun c j q => s8 c j (by unfold per; omega) (by omega) (by omega) (by omega)
  have m0 : ∀ j, (j = 0 ∨ j = 2) → M' 0 j = M 0 j := fun j q => s8 0 j (by unfold per; omega) (by decide) (by decide) (by omega)
  have dg : ∀ d : Nat, (d : Int) < M' 0 12 → ∃ q, σ.2.1[d]? = some q := fun d hd => ⟨_, List.getElem?_eq_getElem (show d < σ.2.1.length by omega)⟩
  have wg : ∀ d : Nat, (d : Int) < M' 0 13 → ∃ q, σ.2.2.1[d]? = some q := fun d hd => ⟨_, List.getElem?_eq_getElem (show d < σ.2.2.1.length by omega)⟩
  have ih : iHs M' := by
    refine ⟨by omega, by omega, by omega, by omega, fun d h1 h2 => ?_, fun w h1 h2 => ?_⟩
    · obtain ⟨dn, rfl⟩ : ∃ dn : Nat, d = (dn : Int) := ⟨d.toNat, by omega⟩
      obtain ⟨q, hq⟩ := dg dn h2
      obtain ⟨a1, a2, a3⟩ := s5 dn q hq
      have b := v1 q (List.mem_of_getElem? hq)
      rw [a1, a2, a3, s1]
      exact b
    · obtain ⟨wn, rfl⟩ : ∃ wn : Nat, w = (wn : Int) := ⟨w.toNat, by omega⟩
      obtain ⟨q, hq⟩ := wg wn h2
      obtain ⟨a1, a2⟩ := s6 wn q hq
      have b := v2 q (List.mem_of_getElem? hq)
      rw [a1, a2]
      exact b
  have b4 : J h' 4 = orf (bdF M') (M' 0 12).toNat := by
    rw [jo h' 4 (by omega) (by omega)]
    refine tb_ext x6 (orf_r _ _) (fun k hk => ?_)
    rw [Bool.eq_iff_iff, x7 k hk, tb_bd ih.2.1 hk]
    constructor
    · rintro ⟨q, hq, e⟩
      have := (List.getElem?_eq_some_iff.mp hq).1
      exact ⟨by omega, by rw [(s5 k q hq).2.2]; exact e⟩
    · rintro ⟨a, b⟩
      obtain ⟨q, hq⟩ := dg k a
      exact ⟨q, hq, by rw [← (s5 k q hq).2.2]; exact b⟩
  have k8 : HRL J M' h' := by
    unfold HRL
    refine ⟨⟨?_, ?_, ?_, ?_, b4⟩, fun d hd => ?_, fun w hw => ?_⟩
    · rw [jo h' 0 (by omega) (by omega), x1, s1]
    · rw [jo h' 1 (by omega) (by omega), x2, s2]
    · rw [jo h' 2 (by omega) (by omega), x3, s3]
    · rw [jo h' 3 (by omega) (by omega), x4, s4]
    · obtain ⟨q, hq⟩ := dg d hd
      obtain ⟨a1, a2, a3⟩ := s5 d q hq
      rw [jo _ _ (by omega) (by omega), jo _ _ (by omega) (by omega), a1, a2]
      exact x5 d q hq
    · obtain ⟨q, hq⟩ := wg w hw
      obtain ⟨a1, a2⟩ := s6 w q hq
      rw [jo _ _ (by omega) (by omega), jo _ _ (by omega) (by omega), a1, a2]
      exact x8 w q hq
  have hR : okR S := by
    intro a j v hv
    by_cases q : a = 0 ∧ (j = 8 ∨ j = 9)
    · obtain ⟨rfl, rfl | rfl⟩ := q
      · cases hv
      · cases hv
    · rw [hS]
      unfold m_up
      rw [if_neg (by omega), if_neg (by omega)]
      exact q1 a j v hv
  refine ⟨⟨hR, ⟨by rw [hS, m_up_nj (by decide), m_up_eq], by rw [hS, m_up_eq], by omega⟩, ⟨na, nb, nk, ?_⟩, ?_, ⟨ih, ?_, ?_, ?_, ?_⟩, k8, ?_, fun r hr => ?_, fun t ht => ?_, ⟨?_, ?_, fun g hg => ?_⟩, q15⟩, ⟨⟨Or.inl ?_, ?_⟩, fun q => ?_⟩⟩
  · unfold tW
    rw [so 19 _ (by decide), so 19 _ (by decide), so 19 _ (by decide)]
    exact q5
  · rw [jo 19 12 (by decide) (by decide), jo 19 15 (by decide) (by decide)]; exact q6
  · unfold iEvs
    rw [s7]
    exact ⟨by omega, fun e he => by omega⟩
  · unfold iEvL
    rw [s7]
    exact fun e h1 h2 => by omega
  · unfold iRows; simp only [mo 2 _ (by decide), mo 3 _ (by decide)]; exact j4
  · unfold iTexts; simp only [mo 5 _ (by decide), mo 6 _ (by decide)]; exact j5
  · unfold NRL
    rw [s7]
    exact ⟨by rw [hJ, m_up_ne (by decide), m_up_eq], fun e he => by omega⟩
  · simp only [mo 2 _ (by decide), mo 3 _ (by decide), jo 9 _ (by decide) (by decide), jo (3 + r) _ (show 3 + r ≠ 0 by omega) (show 3 + r ≠ 58 by omega)]
    exact q10 r hr
  · simp only [mo 5 _ (by decide), mo 6 _ (by decide), jo 16 _ (by decide) (by decide), jo (12 + t) _ (show 12 + t ≠ 0 by omega) (show 12 + t ≠ 58 by omega)]
    exact q11 t ht
  · rw [j0 13 (by decide), m0 2 (by omega)]; exact q12
  · rw [j0 14 (by decide), m0 0 (by omega)]; exact q13
  · rw [jo 68 _ (by decide) (by decide), mo 1 _ (by decide)]; exact q14 g hg
  · rw [hJ, m_up_eq]
  · rw [j0 11 (by decide)]; exact cc.1.2
  · rw [hJ, m_up_eq] at q; omega
section
variable {G : GT} {I L M N : MI} {R : MR} {h h' : Nat}

theorem s_X7_house {r : Int} (co0 : CO I L R M N h h') (cc0 : CC I L R M h) (hr : rI r) : Sp G mtX7_house [mr 0, mi r] shX I L R (qi (fun z I' L' R' => (okH r M → z = ((houF (BY M r) (M 5 r).toNat).2.2.2.1.length : Int) ∧ ∀ M', hsI M (houF (BY M r) (M 5 r).toNat).2.1 (houF (BY M r) (M 5 r).toNat).2.2 M' → CO I' L' R' M' N h' h ∧ CC I' L' R' M' h') ∧ (¬ okH r M → z = (s_house1 r M).1 ∧ CO I' L' R' (s_house1 r M).2 N h h' ∧ CC I' L' R' (s_house1 r M).2 h))) := by
  refine Sp.of pnX7_house rfl ?_
  show Rn G mtX7_house _ 0 [(0, mr 0), (1, mi r)] [] shX I L R
  generalize hQ : (qi (fun z I' L' R' => (okH r M → z = ((houF (BY M r) (M 5 r).toNat).2.2.2.1.length : Int) ∧ ∀ M', hsI M (houF (BY M r) (M 5 r).toNat).2.1 (houF (BY M r) (M 5 r).toNat).2.2 M' → CO I' L' R' M' N h' h ∧ CC I' L' R' M' h') ∧ (¬ okH r M → z = (s_house1 r M).1 ∧ CO I' L' R' (s_house1 r M).2 N h h' ∧ CC I' L' R' (s_house1 r M).2 h))) = Q
  have hR := co0.1
  have r8 := co0.2.1.1
  have r9 := co0.2.1.2.1
  have h32 := co0.h32
  have hh := hR.h h32
  obtain ⟨iH, iE, iL, iR, iT⟩ := co0.2.2.2.2.1
  have hrl := co0.2.2.2.2.2.1.1
  have q0 := hrl.1
  have q1 := hrl.2.1
  have q2 := hrl.2.2.1
  have q3 := hrl.2.2.2.1
  have b0 := iH.1
  have b1 := iH.2.1
  have b2 := iH.2.2.1
  have b3 := iH.2.2.2.1
  have szr : ∀ rn : Nat, rn < 6 → I 9 (rn : Int) = M 2 (rn : Int) ∧ -1 ≤ M 2 (rn : Int) ∧ M 2 (rn : Int) ≤ 40 := fun rn hrn => ⟨(co0.2.2.2.2.2.2.2.1 rn hrn).1, iR.1 _ (by omega) (by omega)⟩
  have szt : ∀ rn : Nat, rn < 4 → I 16 (rn : Int) = M 5 (rn : Int) ∧ -1 ≤ M 5 (rn : Int) ∧ M 5 (rn : Int) ≤ 80 := fun rn hrn => ⟨(co0.2.2.2.2.2.2.2.2.1 rn hrn).1, iT.1 _ (by omega) (by omega)⟩
  have h37 := co0.2.1.2.2
  have at13 : ∀ rn : Nat, r = (rn : Int) → rn < 4 → Rn G mtX7_house Q 13 [(0, mr 0), (1, mi r)] [] shX I L R := by
    intro rn e hrn
    subst e
    obtain ⟨sz, sz2⟩ := szt rn hrn
    refine x_aload_n dX7_house_13 0 rfl rfl ?_
    refine x_getR dX7_house_14 flX7_18 rfl rfl (hR 0 1 10 rfl) ?_
    refine x_iload_n dX7_house_17 1 rfl rfl ?_
    refine x_callVi (as := [_]) dX7_house_18 lvX7_87 rfl rfl rfl rfl rfl rfl rfl ⟨rfl, rfl⟩ (s_X5_lacks hR.s10 hrn (by omega)) (fun z18 I18 L18 R18 hq18 => ?_)
    obtain ⟨rfl, rfl, rfl, rfl⟩ := hq18
    refine y_ifb_eq (tgt := 30) dX7_house_21 (by decide) (fun h21 => ?_) (fun h21 => ?_)
    · refine x_aload_n dX7_house_30 0 rfl rfl ?_
      refine x_iload_n dX7_house_31 1 rfl rfl ?_
      refine x_callVi (as := [_]) dX7_house_32 lvX7_121 rfl rfl rfl rfl rfl rfl rfl ⟨rfl, rfl⟩ (s_X7_faultOfHouse co0 cc0 hrn (by omega)) (fun z32 I32 L32 R32 hq32 => ?_)
      obtain ⟨e32, co1, cc1, x32⟩ := hq32
      have hR := co1.1
      have r8 := co1.2.1.1
      have r9 := co1.2.1.2.1
      have hh' := hR.h (h := h') (by omega)
      have rz := houF_r (BY M (rn : Int)) (M 5 (rn : Int)).toNat
      refine x_bipush dX7_house_35 (by decide) ?_
      refine x_ic_eq (tgt := 43) dX7_house_37 (by decide) (by omega) (fun h37 => ?_) (fun h37 => ?_)
      · refine x_aload_n dX7_house_43 0 rfl rfl ?_
        refine x_getR dX7_house_44 flX7_38 rfl rfl r8 ?_
        refine x_astore_n (lv' := [(0, _), (1, _), (2, _)]) dX7_house_47 rfl rfl rfl ?_
        refine x_aload_n dX7_house_48 0 rfl rfl ?_
        refine x_aload_n dX7_house_49 0 rfl rfl ?_
        refine x_getR dX7_house_50 flX7_42 rfl rfl r9 ?_
        refine x_putR dX7_house_53 flX7_38 rfl rfl rfl ?_
        refine x_aload_n dX7_house_56 0 rfl rfl ?_
        refine x_aload_n dX7_house_57 2 rfl rfl ?_
        refine x_putR dX7_house_58 flX7_42 rfl rfl rfl ?_
        refine x_aload_n dX7_house_61 0 rfl rfl ?_
        refine x_getR dX7_house_62 flX7_60 rfl rfl (((m_up_nj (by decide)).trans (((m_up_nj (by decide)).trans ((hR 0 6 58 rfl)))))) ?_
        refine x_iconst dX7_house_65 ?_
        refine x_putI dX7_house_66 flX7_124 rfl rfl rfl ?_
        refine x_aload_n dX7_house_69 0 rfl rfl ?_
        refine x_iconst dX7_house_70 ?_
        refine x_putZ dX7_house_71 flX7_128 rfl rfl rfl (by omega) ?_
        refine x_aload_n dX7_house_74 0 rfl rfl ?_
        refine x_getR dX7_house_75 flX7_38 rfl rfl (((m_up_nj (by decide)).trans (m_up_eq))) ?_
        refine y_getI dX7_house_78 flX7_132 (shH0 hh') rfl (((m_up_ne (by omega) _).trans (m_up_ne (by omega) _))) ?_
        refine x_iret dX7_house_81 rfl ?_
        rw [← hQ]
        have ok9 : (houF (BY M (rn : Int)) (M 5 (rn : Int)).toNat).1 = -9 := by omega
        have x := x32 (by omega)
        have hv := houF_v (B := BY M (rn : Int)) (n := (M 5 (rn : Int)).toNat) ok9
        exact ⟨_, rfl, fun _ => ⟨x.1.2.1, fun M' hs => hou_ok co1 cc1 x.1 hv.2 x.2 hs rfl rfl⟩, fun z => absurd ⟨by omega, by omega, ok9⟩ z⟩
      · refine x_bipush dX7_house_40 (by decide) ?_
        refine x_iret dX7_house_42 rfl ?_
        rw [← hQ]
        have x : s_house1 (rn : Int) M = (-4, M) := by
          unfold s_house1
          rw [if_neg (by omega), if_neg (by omega)]
        refine ⟨_, rfl, fun z => by have := z.2.2; exfalso; omega, fun _ => ?_⟩
        rw [x]
        exact ⟨rfl, co1, cc1⟩
    · refine x_aload_n dX7_house_24 0 rfl rfl ?_
      refine x_iconst dX7_house_25 ?_
      refine x_callVi (as := [_]) dX7_house_26 lvX7_79 rfl rfl rfl rfl rfl rfl rfl ⟨rfl, rfl⟩ (s_X7_found co0.1 (by omega)) (fun z26 I26 L26 R26 hq26 => ?_)
      obtain ⟨rfl, rfl, rfl, rfl⟩ := hq26
      refine x_iret dX7_house_29 rfl ?_
      rw [← hQ]
      have x : s_house1 (rn : Int) M = (-3, a_mt M 1) := by
        unfold s_house1
        rw [if_neg (by omega), if_pos (by omega)]
      refine ⟨_, rfl, fun z => by have := z.2.1; exfalso; omega, fun _ => ?_⟩
      rw [x]
      have z := mt_ok co0 cc0 (f := 1) (by omega)
      exact ⟨rfl, z.1, z.2⟩
  refine x_aload_n dX7_house_0 0 rfl rfl ?_
  refine x_getR dX7_house_1 flX7_18 rfl rfl (hR 0 1 10 rfl) ?_
  refine x_iload_n dX7_house_4 1 rfl rfl ?_
  refine x_callVi (as := [_]) dX7_house_5 lvX7_75 rfl rfl rfl rfl rfl rfl rfl ⟨rfl, rfl⟩ (s_X5_names hR.s10 (by omega)) (fun z5 I5 L5 R5 hq5 => ?_)
  obtain ⟨rfl, rfl, rfl, rfl⟩ := hq5
  refine y_ifb_ne (tgt := 13) dX7_house_8 (by decide) (fun h8 => ?_) (fun h8 => ?_)
  · exact at13 r.toNat (by omega) (by omega)
  · refine x_iconst dX7_house_11 ?_
    refine x_iret dX7_house_12 rfl ?_
    rw [← hQ]
    have x : s_house1 r M = (-1, M) := by
      unfold s_house1
      exact if_pos (by omega)
    refine ⟨_, rfl, fun z => by have := z.1; exfalso; omega, fun _ => ?_⟩
    rw [x]
    exact ⟨rfl, co0, cc0⟩
end

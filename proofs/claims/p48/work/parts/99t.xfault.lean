/-! THE CLASS'S FACE: faults of texts. -/
theorem CO.fs {I L I' L' M N : MI} {R R' : MR} {h h' : Nat} (q : CO I L R M N h h') (k : ∀ c i, (c ≤ 16 ∨ (h ≤ c ∧ c ≤ h + 4) ∨ (58 ≤ c ∧ c ≤ 62) ∨ c = 68 ∨ c = 19) → I' c i = I c i) (kl : ∀ i, L' 0 i = L 0 i) (hR : okR R') (h8 : R' 0 8 = R 0 8) (h9 : R' 0 9 = R 0 9) (tw : ∀ i, R' 19 i = R 19 i) : CO I' L' R' M N h h' := by
  obtain ⟨q1, ⟨q2, q3, q4⟩, ⟨na, nb, nk, q5⟩, q6, q7, q8, q9, q10, q11, ⟨q12, q13, q14⟩, q15⟩ := q
  refine ⟨hR, ⟨h8.trans q2, h9.trans q3, q4⟩, ⟨na, nb, nk, ?_⟩, ?_, q7, ?_, ?_, fun r hr => ⟨?_, fun i hi hi2 => ?_, fun i hi hi2 => ?_⟩, fun t ht => ⟨?_, fun i hi hi2 => ?_, fun i hi hi2 => ?_⟩, ⟨?_, ?_, fun f hf => ?_⟩, ?_⟩
  · unfold tW
    rw [tw, tw, tw]
    exact q5
  · rw [k 19 12 (by omega), k 19 15 (by omega)]; exact q6
  · unfold HRL
    rw [k h 0 (by omega), k h 1 (by omega), k h 2 (by omega), k h 3 (by omega), k h 4 (by omega)]
    refine ⟨q8.1, fun d hd => ?_, fun w hw => ?_⟩
    · rw [k (h + 1) _ (by omega), k (h + 2) _ (by omega)]; exact q8.2.1 d hd
    · rw [k (h + 3) _ (by omega), k (h + 4) _ (by omega)]; exact q8.2.2 w hw
  · unfold NRL
    rw [k 58 0 (by omega)]
    refine ⟨q9.1, fun e he => ?_⟩
    rw [k (58 + 1) _ (by omega), k (58 + 2) _ (by omega), k (58 + 3) _ (by omega), k (58 + 4) _ (by omega)]
    exact q9.2 e he
  · rw [k 9 _ (by omega)]; exact (q10 r hr).1
  · rw [k (3 + r) _ (by omega)]; exact (q10 r hr).2.1 i hi hi2
  · rw [k (3 + r) _ (by omega)]; exact (q10 r hr).2.2 i hi hi2
  · rw [k 16 _ (by omega)]; exact (q11 t ht).1
  · rw [k (12 + t) _ (by omega)]; exact (q11 t ht).2.1 i hi hi2
  · rw [k (12 + t) _ (by omega)]; exact (q11 t ht).2.2 i hi hi2
  · rw [k 0 13 (by omega)]; exact q12
  · rw [k 0 14 (by omega)]; exact q13
  · rw [k 68 _ (by omega)]; exact q14 f hf
  · rw [kl, kl, kl]; exact q15
theorem okR_17 {R : MR} (hR : okR R) (x : Option Nat) : okR (m_up R 17 0 x) := by
  intro a j w hw
  by_cases q : a = 17 ∧ j = 0
  · obtain ⟨rfl, rfl⟩ := q
    cases hw
  · unfold m_up
    rw [if_neg q]
    exact hR a j w hw
/-- a text opened -/
theorem open_XT {I L M N : MI} {R : MR} {h h' t : Nat} (co : CO I L R M N h h') (ht : t < 4) (h0 : 0 ≤ M 5 (t : Int)) {J : MI} (hJ : J = m_up (m_up (m_up I 17 1 (min (I 16 (t : Int)) 80)) 17 2 0) 17 3 0) : XT (10 + 2 + t) (BY M (t : Int)) (M 5 (t : Int)).toNat J (m_up R 17 0 (some (10 + 2 + t))) ∧ J 17 2 = 0 ∧ J 17 3 = 0 ∧ ∀ c i, c ≠ 17 → J c i = I c i := by
  have iT := co.2.2.2.2.1.2.2.2.2
  have hz := iT.1 (t : Int) (by omega) (by omega)
  obtain ⟨e1, e2, e3⟩ := co.2.2.2.2.2.2.2.2.1 t ht
  have jc : ∀ c i, c ≠ 17 → J c i = I c i := fun c i q => by rw [hJ, m_up_ne q, m_up_ne q, m_up_ne q]
  refine ⟨⟨m_up_eq, by omega, ?_, by omega, fun i hi => ?_, fun i hi => ?_, fun i => ?_⟩, ?_, ?_, jc⟩
  · rw [hJ, m_up_nj (by decide), m_up_nj (by decide), m_up_eq, e1]; omega
  · rw [jc _ _ (by omega), show 10 + 2 + t = 12 + t by omega, e3 (i : Int) (by omega) (by omega)]
    unfold BY a_by
    rw [if_pos (by omega)]
  · unfold BY a_by
    rw [if_neg (by omega)]
  · unfold BY a_by
    split
    · exact iT.2 _ (by omega) (by omega)
    · omega
  · rw [hJ, m_up_nj (by decide), m_up_eq]
  · rw [hJ, m_up_eq]
section
variable {G : GT} {I L M N : MI} {R : MR} {h h' : Nat}

theorem s_X7_faultOfHouse {rn : Nat} (co0 : CO I L R M N h h') (cc0 : CC I L R M h) (hrn : rn < 4) (h5 : 0 ≤ M 5 (rn : Int)) : Sp G mtX7_faultOfHouse [mr 0, mi ↑rn] shX I L R (qi (fun z I' L' R' => z = (houF (BY M (rn : Int)) (M 5 (rn : Int)).toNat).1 ∧ CO I' L' R' M N h h' ∧ CC I' L' R' M h ∧ (z = -9 → HX h' (houF (BY M (rn : Int)) (M 5 (rn : Int)).toNat).2.1 (houF (BY M (rn : Int)) (M 5 (rn : Int)).toNat).2.2.2 I' ∧ (1 ≤ (houF (BY M (rn : Int)) (M 5 (rn : Int)).toNat).2.1 ∧ (houF (BY M (rn : Int)) (M 5 (rn : Int)).toNat).2.1 ≤ 6)))) := by
  refine Sp.of pnX7_faultOfHouse rfl ?_
  show Rn G mtX7_faultOfHouse _ 0 [(0, mr 0), (1, mi ↑rn)] [] shX I L R
  generalize hQ : (qi (fun z I' L' R' => z = (houF (BY M (rn : Int)) (M 5 (rn : Int)).toNat).1 ∧ CO I' L' R' M N h h' ∧ CC I' L' R' M h ∧ (z = -9 → HX h' (houF (BY M (rn : Int)) (M 5 (rn : Int)).toNat).2.1 (houF (BY M (rn : Int)) (M 5 (rn : Int)).toNat).2.2.2 I' ∧ (1 ≤ (houF (BY M (rn : Int)) (M 5 (rn : Int)).toNat).2.1 ∧ (houF (BY M (rn : Int)) (M 5 (rn : Int)).toNat).2.1 ≤ 6)))) = Q
  have hR := co0.1
  have r8 := co0.2.1.1
  have r9 := co0.2.1.2.1
  have h32 := co0.h32
  have hh := hR.h h32
  obtain ⟨iH, iE, iL, iR, iT⟩ := co0.2.2.2.2.1
  have hrl := co0.2.2.2.2.2.1.1
  have q0 := hrl.1
  have q1 := hrl.2.1
  have q2 := hrl.2.2.1
  have q3 := hrl.2.2.2.1
  have b0 := iH.1
  have b1 := iH.2.1
  have b2 := iH.2.2.1
  have b3 := iH.2.2.2.1
  have szr : ∀ rn : Nat, rn < 6 → I 9 (rn : Int) = M 2 (rn : Int) ∧ -1 ≤ M 2 (rn : Int) ∧ M 2 (rn : Int) ≤ 40 := fun rn hrn => ⟨(co0.2.2.2.2.2.2.2.1 rn hrn).1, iR.1 _ (by omega) (by omega)⟩
  have szt : ∀ rn : Nat, rn < 4 → I 16 (rn : Int) = M 5 (rn : Int) ∧ -1 ≤ M 5 (rn : Int) ∧ M 5 (rn : Int) ≤ 80 := fun rn hrn => ⟨(co0.2.2.2.2.2.2.2.2.1 rn hrn).1, iT.1 _ (by omega) (by omega)⟩
  obtain ⟨sz, sz2⟩ := szt rn hrn
  have at25 : ∀ J, J = m_up (m_up (m_up I 17 1 (min (I 16 (rn : Int)) 80)) 17 2 0) 17 3 0 → Rn G mtX7_faultOfHouse Q 25 [(0, mr 0), (1, mi (rn : Int))] [] shX J L (m_up R 17 0 (some (10 + 2 + rn))) := by
    intro J hJ
    obtain ⟨hX, j2, j3, jc⟩ := open_XT co0 hrn h5 hJ
    generalize hS : m_up R 17 0 (some (10 + 2 + rn)) = S at hX
    have hR0 := hR
    have hR : okR S := by rw [← hS]; exact okR_17 hR0 _
    have r8 : S 0 8 = some h := by rw [← hS, m_up_ne (by decide)]; exact r8
    have r9 : S 0 9 = some h' := by rw [← hS, m_up_ne (by decide)]; exact r9
    have hh := hR.h h32
    have hh' := hR.h (h := h') (by have := co0.2.1.2.2; omega)
    have hnn := hR.n (h := 63) (Or.inr rfl)
    have hne : h' ≠ h := by have := co0.2.1.2.2; omega
    have fin : ∀ J', (∀ c i, ¬ (c = 17 ∧ (i = 2 ∨ i = 3)) → ¬ (h' ≤ c ∧ c ≤ h' + 4) → J' c i = J c i) → CO J' L S M N h h' ∧ CC J' L S M h := fun J' q => by
        have h37 := co0.2.1.2.2
        have e : ∀ c i, c ≠ 17 → ¬ (h' ≤ c ∧ c ≤ h' + 4) → J' c i = I c i := fun c i z1 z2 => (q c i (by omega) z2).trans (jc c i z1)
        refine ⟨co0.fs (fun c i z => e c i (by omega) (by omega)) (fun _ => rfl) hR (by rw [← hS, m_up_ne (by decide)]) (by rw [← hS, m_up_ne (by decide)]) (fun i => by rw [← hS, m_up_ne (by decide)]), cc0.fr (fun c i z => e c i (by omega) (by omega)) (fun i z => e 0 i (by omega) (by omega)) (by rw [← hS, m_up_ne (by decide)]) (fun _ => rfl)⟩
    have rh := s_X4_readHouse (G := G) (L := L) hX hh' j2 j3
    refine x_aload_n dX7_faultOfHouse_25 0 rfl rfl ?_
    refine x_getR dX7_faultOfHouse_26 flX7_24 rfl rfl (hR 0 2 17 rfl) ?_
    refine x_aload_n dX7_faultOfHouse_29 0 rfl rfl ?_
    refine x_getR dX7_faultOfHouse_30 flX7_42 rfl rfl r9 ?_
    refine x_callVv (as := [_]) dX7_faultOfHouse_33 lvX7_353 rfl rfl rfl rfl rfl rfl rfl ⟨rfl, rfl⟩ (rh) (fun I33 L33 R33 hq33 => ?_)
    obtain ⟨q33, g33, e33, f33, k33, x33, rfl, rfl⟩ := hq33
    have fz := fin _ x33
    have rz := houF_r (BY M (rn : Int)) (M 5 (rn : Int)).toNat
    refine x_aload_n dX7_faultOfHouse_36 0 rfl rfl ?_
    refine x_getR dX7_faultOfHouse_37 flX7_24 rfl rfl (hR 0 2 17 rfl) ?_
    refine x_getI dX7_faultOfHouse_40 flX7_356 rfl rfl ?_
    rw [f33]
    refine x_if_eq (tgt := 56) dX7_faultOfHouse_43 (by decide) (by omega) (fun h43 => ?_) (fun h43 => ?_)
    · refine x_bipush dX7_faultOfHouse_56 (by decide) ?_
      refine x_iret dX7_faultOfHouse_58 rfl ?_
      rw [← hQ]
      rcases k33 with ⟨k1, k2, k3, k4⟩ | ⟨k1, k2⟩
      · first
        | (exfalso; omega)
        | exact ⟨_, rfl, k2.symm, fz.1, fz.2, fun _ => ⟨k3, k4⟩⟩
      · first
        | (exfalso; omega)
        | exact ⟨_, rfl, k2.symm, fz.1, fz.2, fun z => by exfalso; omega⟩
    · refine x_aload_n dX7_faultOfHouse_46 0 rfl rfl ?_
      refine x_getR dX7_faultOfHouse_47 flX7_24 rfl rfl (hR 0 2 17 rfl) ?_
      refine x_getI dX7_faultOfHouse_50 flX7_359 rfl rfl ?_
      rw [e33]
      refine x_goto (tgt := 58) dX7_faultOfHouse_53 (by decide) ?_
      refine x_iret dX7_faultOfHouse_58 rfl ?_
      rw [← hQ]
      rcases k33 with ⟨k1, k2, k3, k4⟩ | ⟨k1, k2⟩
      · first
        | (exfalso; omega)
        | exact ⟨_, rfl, k2.symm, fz.1, fz.2, fun _ => ⟨k3, k4⟩⟩
      · first
        | (exfalso; omega)
        | exact ⟨_, rfl, k2.symm, fz.1, fz.2, fun z => by exfalso; omega⟩
  refine x_aload_n dX7_faultOfHouse_0 0 rfl rfl ?_
  refine x_getR dX7_faultOfHouse_1 flX7_24 rfl rfl (hR 0 2 17 rfl) ?_
  refine x_aload_n dX7_faultOfHouse_4 0 rfl rfl ?_
  refine x_getR dX7_faultOfHouse_5 flX7_18 rfl rfl (hR 0 1 10 rfl) ?_
  refine x_getR dX7_faultOfHouse_8 flX7_101 rfl rfl (hR 10 0 11 rfl) ?_
  refine x_iload_n dX7_faultOfHouse_11 1 rfl rfl ?_
  refine x_aald dX7_faultOfHouse_12 rfl (by omega) (hR.s10.2.2.2 rn hrn) ?_
  refine x_aload_n dX7_faultOfHouse_13 0 rfl rfl ?_
  refine x_getR dX7_faultOfHouse_14 flX7_18 rfl rfl (hR 0 1 10 rfl) ?_
  refine x_getR dX7_faultOfHouse_17 flX7_105 rfl rfl (hR 10 1 16 rfl) ?_
  refine x_iload_n dX7_faultOfHouse_20 1 rfl rfl ?_
  refine x_iald dX7_faultOfHouse_21 rfl (by omega) ?_
  refine x_callVv (as := [_, _]) dX7_faultOfHouse_22 lvX7_349 rfl rfl rfl rfl rfl rfl rfl ⟨rfl, rfl⟩ (s_X4_open (by omega) (by omega)) (fun I22 L22 R22 hq22 => ?_)
  obtain ⟨w22, rfl, rfl⟩ := hq22
  exact at25 _ w22
theorem s_X7_faultOfNight {rn : Nat} (co0 : CO I L R M N h h') (cc0 : CC I L R M h) (hrn : rn < 4) (h5 : 0 ≤ M 5 (rn : Int)) : Sp G mtX7_faultOfNight [mr 0, mi ↑rn] shX I L R (qi (fun z I' L' R' => z = (nigF (BY M (rn : Int)) M (M 5 (rn : Int)).toNat).1 ∧ CO I' L' R' M N h h' ∧ CC I' L' R' M h ∧ (z = -9 → NX 63 (nigF (BY M (rn : Int)) M (M 5 (rn : Int)).toNat).2.2 I' ∧ (nigF (BY M (rn : Int)) M (M 5 (rn : Int)).toNat).2.2.length ≤ 20))) := by
  refine Sp.of pnX7_faultOfNight rfl ?_
  show Rn G mtX7_faultOfNight _ 0 [(0, mr 0), (1, mi ↑rn)] [] shX I L R
  generalize hQ : (qi (fun z I' L' R' => z = (nigF (BY M (rn : Int)) M (M 5 (rn : Int)).toNat).1 ∧ CO I' L' R' M N h h' ∧ CC I' L' R' M h ∧ (z = -9 → NX 63 (nigF (BY M (rn : Int)) M (M 5 (rn : Int)).toNat).2.2 I' ∧ (nigF (BY M (rn : Int)) M (M 5 (rn : Int)).toNat).2.2.length ≤ 20))) = Q
  have hR := co0.1
  have r8 := co0.2.1.1
  have r9 := co0.2.1.2.1
  have h32 := co0.h32
  have hh := hR.h h32
  obtain ⟨iH, iE, iL, iR, iT⟩ := co0.2.2.2.2.1
  have hrl := co0.2.2.2.2.2.1.1
  have q0 := hrl.1
  have q1 := hrl.2.1
  have q2 := hrl.2.2.1
  have q3 := hrl.2.2.2.1
  have b0 := iH.1
  have b1 := iH.2.1
  have b2 := iH.2.2.1
  have b3 := iH.2.2.2.1
  have szr : ∀ rn : Nat, rn < 6 → I 9 (rn : Int) = M 2 (rn : Int) ∧ -1 ≤ M 2 (rn : Int) ∧ M 2 (rn : Int) ≤ 40 := fun rn hrn => ⟨(co0.2.2.2.2.2.2.2.1 rn hrn).1, iR.1 _ (by omega) (by omega)⟩
  have szt : ∀ rn : Nat, rn < 4 → I 16 (rn : Int) = M 5 (rn : Int) ∧ -1 ≤ M 5 (rn : Int) ∧ M 5 (rn : Int) ≤ 80 := fun rn hrn => ⟨(co0.2.2.2.2.2.2.2.2.1 rn hrn).1, iT.1 _ (by omega) (by omega)⟩
  obtain ⟨sz, sz2⟩ := szt rn hrn
  have at25 : ∀ J, J = m_up (m_up (m_up I 17 1 (min (I 16 (rn : Int)) 80)) 17 2 0) 17 3 0 → Rn G mtX7_faultOfNight Q 25 [(0, mr 0), (1, mi (rn : Int))] [] shX J L (m_up R 17 0 (some (10 + 2 + rn))) := by
    intro J hJ
    obtain ⟨hX, j2, j3, jc⟩ := open_XT co0 hrn h5 hJ
    generalize hS : m_up R 17 0 (some (10 + 2 + rn)) = S at hX
    have hR0 := hR
    have hR : okR S := by rw [← hS]; exact okR_17 hR0 _
    have r8 : S 0 8 = some h := by rw [← hS, m_up_ne (by decide)]; exact r8
    have r9 : S 0 9 = some h' := by rw [← hS, m_up_ne (by decide)]; exact r9
    have hh := hR.h h32
    have hh' := hR.h (h := h') (by have := co0.2.1.2.2; omega)
    have hnn := hR.n (h := 63) (Or.inr rfl)
    have hne : h' ≠ h := by have := co0.2.1.2.2; omega
    have fin : ∀ J', (∀ c i, ¬ (c = 17 ∧ (i = 2 ∨ i = 3)) → ¬ (63 ≤ c ∧ c ≤ 63 + 4) → J' c i = J c i) → CO J' L S M N h h' ∧ CC J' L S M h := fun J' q => by
        have h37 := co0.2.1.2.2
        have e : ∀ c i, c ≠ 17 → ¬ (63 ≤ c ∧ c ≤ 63 + 4) → J' c i = I c i := fun c i z1 z2 => (q c i (by omega) z2).trans (jc c i z1)
        refine ⟨co0.fs (fun c i z => e c i (by omega) (by omega)) (fun _ => rfl) hR (by rw [← hS, m_up_ne (by decide)]) (by rw [← hS, m_up_ne (by decide)]) (fun i => by rw [← hS, m_up_ne (by decide)]), cc0.fr (fun c i z => e c i (by omega) (by omega)) (fun i z => e 0 i (by omega) (by omega)) (by rw [← hS, m_up_ne (by decide)]) (fun _ => rfl)⟩
    have hk : HK h J M := by
      have e : ∀ i, J h i = I h i := fun i => jc h i (by omega)
      refine ⟨(e 0).trans q0, (e 1).trans q1, (e 2).trans q2, (e 3).trans q3, fun v hv => ?_⟩
      rw [e 4, hrl.2.2.2.2]
      exact tb_bd b1 (by omega)
    have rh := s_X4_readNight (G := G) (L := L) hX hh hnn hk iH j2 j3
    refine x_aload_n dX7_faultOfNight_25 0 rfl rfl ?_
    refine x_getR dX7_faultOfNight_26 flX7_24 rfl rfl (hR 0 2 17 rfl) ?_
    refine x_aload_n dX7_faultOfNight_29 0 rfl rfl ?_
    refine x_getR dX7_faultOfNight_30 flX7_38 rfl rfl r8 ?_
    refine x_aload_n dX7_faultOfNight_33 0 rfl rfl ?_
    refine x_getR dX7_faultOfNight_34 flX7_64 rfl rfl (hR 0 7 63 rfl) ?_
    refine x_callVv (as := [_, _]) dX7_faultOfNight_37 lvX7_362 rfl rfl rfl rfl rfl rfl rfl ⟨rfl, rfl⟩ (rh) (fun I37 L37 R37 hq37 => ?_)
    obtain ⟨q37, g37, e37, f37, k37, x37, rfl, rfl⟩ := hq37
    have fz := fin _ x37
    have rz := nigF_r (BY M (rn : Int)) M (M 5 (rn : Int)).toNat
    refine x_aload_n dX7_faultOfNight_40 0 rfl rfl ?_
    refine x_getR dX7_faultOfNight_41 flX7_24 rfl rfl (hR 0 2 17 rfl) ?_
    refine x_getI dX7_faultOfNight_44 flX7_356 rfl rfl ?_
    rw [f37]
    refine x_if_eq (tgt := 60) dX7_faultOfNight_47 (by decide) (by omega) (fun h47 => ?_) (fun h47 => ?_)
    · refine x_bipush dX7_faultOfNight_60 (by decide) ?_
      refine x_iret dX7_faultOfNight_62 rfl ?_
      rw [← hQ]
      rcases k37 with ⟨k1, k2, k3, k4⟩ | ⟨k1, k2⟩
      · first
        | (exfalso; omega)
        | exact ⟨_, rfl, k2.symm, fz.1, fz.2, fun _ => ⟨k3, k4⟩⟩
      · first
        | (exfalso; omega)
        | exact ⟨_, rfl, k2.symm, fz.1, fz.2, fun z => by exfalso; omega⟩
    · refine x_aload_n dX7_faultOfNight_50 0 rfl rfl ?_
      refine x_getR dX7_faultOfNight_51 flX7_24 rfl rfl (hR 0 2 17 rfl) ?_
      refine x_getI dX7_faultOfNight_54 flX7_359 rfl rfl ?_
      rw [e37]
      refine x_goto (tgt := 62) dX7_faultOfNight_57 (by decide) ?_
      refine x_iret dX7_faultOfNight_62 rfl ?_
      rw [← hQ]
      rcases k37 with ⟨k1, k2, k3, k4⟩ | ⟨k1, k2⟩
      · first
        | (exfalso; omega)
        | exact ⟨_, rfl, k2.symm, fz.1, fz.2, fun _ => ⟨k3, k4⟩⟩
      · first
        | (exfalso; omega)
        | exact ⟨_, rfl, k2.symm, fz.1, fz.2, fun z => by exfalso; omega⟩
  refine x_aload_n dX7_faultOfNight_0 0 rfl rfl ?_
  refine x_getR dX7_faultOfNight_1 flX7_24 rfl rfl (hR 0 2 17 rfl) ?_
  refine x_aload_n dX7_faultOfNight_4 0 rfl rfl ?_
  refine x_getR dX7_faultOfNight_5 flX7_18 rfl rfl (hR 0 1 10 rfl) ?_
  refine x_getR dX7_faultOfNight_8 flX7_101 rfl rfl (hR 10 0 11 rfl) ?_
  refine x_iload_n dX7_faultOfNight_11 1 rfl rfl ?_
  refine x_aald dX7_faultOfNight_12 rfl (by omega) (hR.s10.2.2.2 rn hrn) ?_
  refine x_aload_n dX7_faultOfNight_13 0 rfl rfl ?_
  refine x_getR dX7_faultOfNight_14 flX7_18 rfl rfl (hR 0 1 10 rfl) ?_
  refine x_getR dX7_faultOfNight_17 flX7_105 rfl rfl (hR 10 1 16 rfl) ?_
  refine x_iload_n dX7_faultOfNight_20 1 rfl rfl ?_
  refine x_iald dX7_faultOfNight_21 rfl (by omega) ?_
  refine x_callVv (as := [_, _]) dX7_faultOfNight_22 lvX7_349 rfl rfl rfl rfl rfl rfl rfl ⟨rfl, rfl⟩ (s_X4_open (by omega) (by omega)) (fun I22 L22 R22 hq22 => ?_)
  obtain ⟨w22, rfl, rfl⟩ := hq22
  exact at25 _ w22
end

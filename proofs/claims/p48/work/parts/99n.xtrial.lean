section
variable {I L M N J T : MI} {R S : MR} {h h' : Nat} {k v wo : Int}
theorem okR_50 (hR : okR R) (x : Option Nat) : okR (m_up R 50 0 x) := by
  intro a j w hw
  by_cases q : a = 50 ∧ j = 0
  · obtain ⟨rfl, rfl⟩ := q
    cases hw
  · unfold m_up
    rw [if_neg q]
    exact hR a j w hw
theorem trial_pre (co : CO I L R M N h h') (hk : 0 ≤ k ∧ k ≤ M 0 13) (mk : MK 50 h k v I J) (hS : S = m_up R 50 0 (some h)) : okR S ∧ (S 0 8 = some h ∧ S 0 9 = some h') ∧ ((0 ≤ J 58 0 ∧ J 58 0 ≤ 24) ∧ ∀ e : Nat, (e : Int) < J 58 0 → evR (J (58 + 1) (e : Int)) (J (58 + 3) (e : Int)) (J (58 + 4) (e : Int))) ∧ rI (J 50 1) ∧ S 50 0 = some h := by
  obtain ⟨iH, iE, iL, -, -⟩ := co.2.2.2.2.1
  obtain ⟨n0, nv⟩ := co.2.2.2.2.2.2.1.ev iE iL iH
  have b2 := iH.2.2.1
  have m7 := mk.2.2.2.2.2
  refine ⟨by rw [hS]; exact okR_50 co.1 _, ⟨by rw [hS, m_up_ne (by decide)]; exact co.2.1.1, by rw [hS, m_up_ne (by decide)]; exact co.2.1.2.1⟩, ?_, ?_, by rw [hS, m_up_eq]⟩
  · rw [m7 58 0 (by omega)]
    refine ⟨n0, fun e he => ?_⟩
    rw [m7 (58 + 1) _ (by omega), m7 (58 + 3) _ (by omega), m7 (58 + 4) _ (by omega)]
    exact nv e he
  · rw [mk.1]
    have := co.2.2.2.2.2.1.1.2.2.1
    omega
theorem trial_ok (co : CO I L R M N h h') (cc : CC I L R M h) (hk : 0 ≤ k ∧ k ≤ M 0 13) (mk : MK 50 h k v I J) (hT : T = tkF J 50 58 wo (J 58 0).toNat) (hS : S = m_up R 50 0 (some h)) : CO T L S M N h h' ∧ CC T L S M h ∧ S 50 0 = some h ∧ T h 4 = orf (bdF M) (M 0 12).toNat ∧ (∃ n, PK T 50 h n (kap M wo k)) ∧ T 50 4 = b01 (gd M wo k = true) ∧ T 50 2 = v ∧ ∀ t x : Nat, (t : Int) ≤ M 0 14 → x < 32 → tb (kap M wo k 13 (t : Int)) x = true → (x : Int) < M 0 12 ∧ M 7 (3 * (x : Int) + 2) = 1 := by
  have h32 := co.h32
  obtain ⟨iH, iE, iL, -, -⟩ := co.2.2.2.2.1
  have fr : ∀ c i, ¬ (50 ≤ c ∧ c ≤ 50 + 7) → T c i = I c i := fun c i q => by rw [hT]; exact lay_fr mk wo _ c i q
  have lp := lay_PK (p := 50) (nn := 58) (Or.inr rfl) h32 (Or.inl rfl) iH iE iL co.2.2.2.2.2.1 co.2.2.2.2.2.2.1 hk mk wo hT
  obtain ⟨pr1, ⟨pr2, pr3⟩, -, -, pr4⟩ := trial_pre co hk mk hS
  refine ⟨?_, ?_, pr4, ?_, lp.1, lp.2.1, lp.2.2.1, lp.2.2.2⟩
  · obtain ⟨na, nb, nk, tw⟩ := co.2.2.1
    refine co.fr (fun c i q => fr c i (by omega)) (fun _ _ => rfl) pr1 (pr2.trans co.2.1.1.symm) (pr3.trans co.2.1.2.1.symm) ⟨na, nb, nk, ?_⟩ ?_
    · rw [hS]
      unfold tW
      rw [m_up_ne (by decide), m_up_ne (by decide), m_up_ne (by decide)]
      exact tw
    · rw [fr 19 12 (by omega), fr 19 15 (by omega)]
      exact co.2.2.2.1
  · exact cc.fr (fun c i q => fr c i (by omega)) (fun i _ => fr 0 i (by omega)) (by rw [hS, m_up_ne (by decide)]) (fun _ => rfl)
  · rw [fr h 4 (by omega)]
    exact co.2.2.2.2.2.1.1.2.2.2.2
/-- behind a search of the trial plan -/
theorem fe_ok {z : Int} {κ I' L' : MI} {R' : MR} {n nk : Nat} (co : CO T L S M N h h') (cc : CC T L S M h) (q : z = (if T 50 4 = 0 then 0 else fst0 κ) ∧ FIw T I' ∧ (rI (I' 19 12) ∧ (rI (T 19 15) → rI (I' 19 15))) ∧ (∀ c i, c ≠ 24 → ¬ (c = 29 ∨ c = 30 ∨ c = 31) → L' c i = L c i) ∧ ((0 : Int) = 0 → ∀ i, L' 24 i = L 24 i) ∧ ((0 : Int) = 1 → T 50 4 ≠ 0 → ∀ t : Nat, (t : Int) ≤ T h 3 → (z = -9 ∨ (t : Int) ≤ z) → ∀ j : Nat, j < 1728 → (inX L' j t = true ↔ j < n ∧ 0 < Fr κ t (sgX T 50 h j))) ∧ RFw S R' ∧ ∃ na' nb', tW R' na' nb' nk) : CO I' L' R' M N h h' ∧ CC I' L' R' M h := by
  have h32 := co.h32
  obtain ⟨-, q2, q3, q4, q5, -, q7, na, nb, q8⟩ := q
  exact ⟨co.fr (KO.fw q2) (fun i _ => q4 0 i (by decide) (by decide)) (q7.ok co.1) (q7 0 8 (by decide)) (q7 0 9 (by decide)) ⟨na, nb, nk, q8⟩ ⟨q3.1, q3.2 co.2.2.2.1.2⟩, cc.fr (fun c i q => q2 c i (by omega)) (fun i _ => q2 0 i (by decide)) (q7 42 0 (by decide)) (q5 rfl)⟩
end
section
variable {G : GT} {I L M N : MI} {R : MR} {h h' : Nat}

theorem s_X7_fewest  (co0 : CO I L R M N h h') (cc0 : CC I L R M h) : Sp G mtX7_fewest [mr 0] shX I L R (qi (fun z I' L' R' => z = fwF M ((M 0 13).toNat + 1) 0 ∧ CO I' L' R' M N h h' ∧ CC I' L' R' M h)) := by
  refine Sp.of pnX7_fewest rfl ?_
  show Rn G mtX7_fewest _ 0 [(0, mr 0)] [] shX I L R
  generalize hQ : (qi (fun z I' L' R' => z = fwF M ((M 0 13).toNat + 1) 0 ∧ CO I' L' R' M N h h' ∧ CC I' L' R' M h)) = Q
  have hR := co0.1
  have r8 := co0.2.1.1
  have r9 := co0.2.1.2.1
  have h32 := co0.h32
  have hh := hR.h h32
  obtain ⟨iH, iE, iL, iR, iT⟩ := co0.2.2.2.2.1
  have hrl := co0.2.2.2.2.2.1.1
  have q0 := hrl.1
  have q1 := hrl.2.1
  have q2 := hrl.2.2.1
  have q3 := hrl.2.2.2.1
  have b0 := iH.1
  have b1 := iH.2.1
  have b2 := iH.2.2.1
  have b3 := iH.2.2.2.1
  obtain ⟨W, hW⟩ : ∃ W : Nat, M 0 13 = (W : Int) := ⟨(M 0 13).toNat, by omega⟩
  have lp : ∀ k : Nat, k ≤ W + 1 → ∀ J K S, CO J K S M N h h' → CC J K S M h → fwF M (W + 1 - k) k = fwF M ((M 0 13).toNat + 1) 0 → Rn G mtX7_fewest Q 2 [(0, mr 0), (1, mi (k : Int))] [] shX J K S := by
    refine lpn (W + 1) (fun k hk ih => ?_) ?_
    · intro J K S co cc ef
      have hR := co.1
      have r8 := co.2.1.1
      have r9 := co.2.1.2.1
      have hh := hR.h h32
      have j2 : J h 2 = M 0 13 := co.2.2.2.2.2.1.1.2.2.1
      have j4 : J h 4 = orf (bdF M) (M 0 12).toNat := co.2.2.2.2.2.1.1.2.2.2.2
      have j25 : J 58 0 = M 0 25 := co.2.2.2.2.2.2.1.1
      obtain ⟨op, o3, o2, -, -⟩ := co.2.2.2.2.2.1.ok iH
      have es : fwF M (W + 1 - k) k = if gd M 0 (k : Int) = true ∧ fst0 (kap M 0 (k : Int)) = -9 then (k : Int) else fwF M (W + 1 - (k + 1)) (k + 1) := by
        rw [show W + 1 - k = (W + 1 - (k + 1)) + 1 by omega]
        rfl
      have at32 : ∀ J1, MK 50 h (k : Int) (J h 4) J J1 → Rn G mtX7_fewest Q 32 [(0, mr 0), (1, mi (k : Int))] [] shX J1 K (m_up S 50 0 (some h)) := by
        intro J1 mk
        generalize hS1 : m_up S 50 0 (some h) = S1
        obtain ⟨hR, ⟨r8, r9⟩, ev, u1, ph3⟩ := trial_pre co ⟨by omega, by omega⟩ mk hS1.symm
        have hh := hR.h h32
        have hp := hR.p (h := 50) (Or.inr rfl)
        have hn := hR.n (h := 58) (Or.inl rfl)
        have at44 : ∀ T, T = tkF J1 50 58 0 (J1 58 0).toNat → Rn G mtX7_fewest Q 44 [(0, mr 0), (1, mi (k : Int))] [] shX T K S1 := by
          intro T hT
          obtain ⟨co3, cc3, -, t4, ⟨n, pk3⟩, p4, p2, d13⟩ := trial_ok co cc ⟨by omega, by omega⟩ mk hT hS1.symm
          obtain ⟨na, nb, nk, tw⟩ := co3.2.2.1
          obtain ⟨m12, m15⟩ := co3.2.2.2.1
          have g01 : T 50 4 = 0 ∨ T 50 4 = 1 := by rw [p4]; have := b01_r (gd M 0 (k : Int) = true); omega
          have pkr := lay_PKR pk3 (p2.trans j4) d13 iH
          have fe := s_X6_firstEmpty (G := G) (L := K) (kp := 0) hR tw hp ph3 hh pkr m12 (Or.inl rfl) g01
          have zv : (if T 50 4 = 0 then 0 else fst0 (kap M 0 (k : Int))) = -9 ↔ gd M 0 (k : Int) = true ∧ fst0 (kap M 0 (k : Int)) = -9 := by
            by_cases q : gd M 0 (k : Int) = true
            · rw [if_neg (show ¬ T 50 4 = 0 by rw [p4, ← b01_t q]; decide)]
              exact ⟨fun z => ⟨q, z⟩, fun z => z.2⟩
            · rw [if_pos (show T 50 4 = 0 by rw [p4, ← b01_f q])]
              exact ⟨fun z => by omega, fun z => absurd z.1 q⟩
          have zr : rI (if T 50 4 = 0 then 0 else fst0 (kap M 0 (k : Int))) := by
            have := fst0_b (kap M 0 (k : Int))
            have := KA_lst iH (wo := 0) (k := (k : Int))
            split <;> omega
          refine x_aload_n dX7_fewest_44 0 rfl rfl ?_
          refine x_getR dX7_fewest_45 flX7_31 rfl rfl (hR 0 3 19 rfl) ?_
          refine x_aload_n dX7_fewest_48 0 rfl rfl ?_
          refine x_getR dX7_fewest_49 flX7_54 rfl rfl (hR 0 5 50 rfl) ?_
          refine x_iconst dX7_fewest_52 ?_
          refine x_callVi (as := [_, _]) dX7_fewest_53 lvX7_201 rfl rfl rfl rfl rfl rfl rfl ⟨rfl, rfl⟩ (fe) (fun z53 I53 L53 R53 hq53 => ?_)
          have z9 := fe_ok co3 cc3 hq53
          have zz := hq53.1
          refine x_bipush dX7_fewest_56 (by decide) ?_
          rw [zz]
          refine x_ic_ne (tgt := 63) dX7_fewest_58 (by decide) (by omega) (fun h58 => ?_) (fun h58 => ?_)
          · have hz : ¬ (if T 50 4 = 0 then 0 else fst0 (kap M 0 (k : Int))) = -9 := by assumption
            rw [if_neg (fun z => hz (zv.mpr z))] at es
            refine x_iinc (lv' := [(0, _), (1, _)]) dX7_fewest_63 1 rfl rfl rfl ?_
            refine x_goto (tgt := 2) dX7_fewest_66 (by decide) ?_
            exact ih _ _ _ z9.1 z9.2 (es.symm.trans ef)
          · refine x_iload_n dX7_fewest_61 1 rfl rfl ?_
            refine x_iret dX7_fewest_62 rfl ?_
            rw [← hQ]
            have hz : (if T 50 4 = 0 then 0 else fst0 (kap M 0 (k : Int))) = -9 := by assumption
            rw [if_pos (zv.mp hz)] at es
            exact ⟨_, rfl, es.symm.trans ef, z9.1, z9.2⟩
        refine x_aload_n dX7_fewest_32 0 rfl rfl ?_
        refine x_getR dX7_fewest_33 flX7_54 rfl rfl (hR 0 5 50 rfl) ?_
        refine x_aload_n dX7_fewest_36 0 rfl rfl ?_
        refine x_getR dX7_fewest_37 flX7_60 rfl rfl (hR 0 6 58 rfl) ?_
        refine x_iconst dX7_fewest_40 ?_
        refine x_callVv (as := [_, _]) dX7_fewest_41 lvX7_198 rfl rfl rfl rfl rfl rfl rfl ⟨rfl, rfl⟩ (s_X3_take hp hn ev.1 ev.2 u1) (fun I41 L41 R41 hq41 => ?_)
        obtain ⟨w41, rfl, rfl⟩ := hq41
        exact at44 _ w41
      refine x_iload_n dX7_fewest_2 1 rfl rfl ?_
      refine x_aload_n dX7_fewest_3 0 rfl rfl ?_
      refine x_getR dX7_fewest_4 flX7_38 rfl rfl r8 ?_
      refine x_getI dX7_fewest_7 flX7_189 (shH0 hh) rfl ?_
      rw [j2, hW]
      refine x_ic_gt (tgt := 69) dX7_fewest_10 (by decide) (by omega) (fun h10 => ?_) (fun h10 => ?_)
      · exfalso; omega
      · refine x_aload_n dX7_fewest_13 0 rfl rfl ?_
        refine x_getR dX7_fewest_14 flX7_54 rfl rfl (hR 0 5 50 rfl) ?_
        refine x_aload_n dX7_fewest_17 0 rfl rfl ?_
        refine x_getR dX7_fewest_18 flX7_38 rfl rfl r8 ?_
        refine x_iload_n dX7_fewest_21 1 rfl rfl ?_
        refine x_aload_n dX7_fewest_22 0 rfl rfl ?_
        refine x_getR dX7_fewest_23 flX7_38 rfl rfl r8 ?_
        refine x_getI dX7_fewest_26 flX7_192 (shH0 hh) rfl ?_
        refine x_callVv (as := [_, _, _]) dX7_fewest_29 lvX7_195 rfl rfl rfl rfl rfl rfl rfl ⟨rfl, rfl⟩ (s_X3_make (hR.p (h := 50) (Or.inr rfl)) hh op o3 (by omega)) (fun I29 L29 R29 hq29 => ?_)
        obtain ⟨rfl, rfl, mk29⟩ := hq29
        exact at32 _ mk29
    · intro J K S co cc ef
      have hR := co.1
      have r8 := co.2.1.1
      have r9 := co.2.1.2.1
      have hh := hR.h h32
      have j2 : J h 2 = M 0 13 := co.2.2.2.2.2.1.1.2.2.1
      have j4 : J h 4 = orf (bdF M) (M 0 12).toNat := co.2.2.2.2.2.1.1.2.2.2.2
      have j25 : J 58 0 = M 0 25 := co.2.2.2.2.2.2.1.1
      obtain ⟨op, o3, o2, -, -⟩ := co.2.2.2.2.2.1.ok iH
      refine x_iload_n dX7_fewest_2 1 rfl rfl ?_
      refine x_aload_n dX7_fewest_3 0 rfl rfl ?_
      refine x_getR dX7_fewest_4 flX7_38 rfl rfl r8 ?_
      refine x_getI dX7_fewest_7 flX7_189 (shH0 hh) rfl ?_
      rw [j2, hW]
      refine x_ic_gt (tgt := 69) dX7_fewest_10 (by decide) (by omega) (fun h10 => ?_) (fun h10 => ?_)
      · refine x_bipush dX7_fewest_69 (by decide) ?_
        refine x_iret dX7_fewest_71 rfl ?_
        rw [← hQ]
        refine ⟨_, rfl, ?_, co, cc⟩
        rw [← ef, show W + 1 - (W + 1) = 0 by omega]
        rfl
      · exfalso; omega
  refine x_iconst dX7_fewest_0 ?_
  refine x_istore_n (lv' := [(0, _), (1, _)]) dX7_fewest_1 rfl rfl rfl ?_
  exact lp 0 (by omega) _ _ _ co0 cc0 (by rw [hW]; rfl)
end

/-! THE CLASS'S FACE: count, mean. -/
theorem ctF_cg {f g : Nat → Bool} : ∀ n, (∀ k, k < n → f k = g k) → ctF f n = ctF g n
  | 0, _ => rfl
  | n + 1, h => by rw [ctF_s, ctF_s, ctF_cg n (fun k hk => h k (by omega)), h n (by omega)]
section
variable {G : GT} {I L M N : MI} {R : MR} {h h' : Nat}

theorem s_X7_count {w : Int} (co0 : CO I L R M N h h') (cc0 : CC I L R M h) (hw : rI w) : Sp G mtX7_count [mr 0, mi w] shX I L R (qi (fun z I' L' R' => z = s_count w M ∧ I' = I ∧ L' = L ∧ R' = R)) := by
  refine Sp.of pnX7_count rfl ?_
  show Rn G mtX7_count _ 0 [(0, mr 0), (1, mi w)] [] shX I L R
  generalize hQ : (qi (fun z I' L' R' => z = s_count w M ∧ I' = I ∧ L' = L ∧ R' = R)) = Q
  have hR := co0.1
  have r8 := co0.2.1.1
  have r9 := co0.2.1.2.1
  have h32 := co0.h32
  have hh := hR.h h32
  obtain ⟨iH, iE, iL, iR, iT⟩ := co0.2.2.2.2.1
  have hrl := co0.2.2.2.2.2.1.1
  have q0 := hrl.1
  have q1 := hrl.2.1
  have q2 := hrl.2.2.1
  have q3 := hrl.2.2.2.1
  have b0 := iH.1
  have b1 := iH.2.1
  have b2 := iH.2.2.1
  have b3 := iH.2.2.2.1
  have n25 : I 58 0 = M 0 25 := co0.2.2.2.2.2.2.1.1
  have e25 := iE.1
  have hn := hR.n (h := 58) (Or.inl rfl)
  have evk : ∀ e : Nat, (e : Int) < M 0 25 → I (58 + 1) (e : Int) = M 11 (4 * (e : Int) + 0) := fun e he => (co0.2.2.2.2.2.2.1.2 e he).1
  have hsw : w = 0 ∨ w = 1 ∨ w = 2 ∨ w = 3 ∨ w = 4 ∨ w = 5 ∨ w = 6 ∨ w = 7 ∨ (w < 0 ∨ 7 < w) := by omega
  have sg : ctF (fun e => decide (I (58 + 1) (e : Int) = 2 ∨ I (58 + 1) (e : Int) = 3)) (I 58 0).toNat = ctE M (M 0 25).toNat := by
    rw [n25]
    unfold ctE
    exact ctF_cg _ (fun e he => by rw [evk e (by omega)])
  have sr : ctF (fun r => decide (0 ≤ I 9 (r : Int))) 6 = ctR M 6 := by
    unfold ctR
    exact ctF_cg _ (fun r hr => by rw [(co0.2.2.2.2.2.2.2.1 r hr).1])
  have sx : ctF (fun r => decide (0 ≤ I 16 (r : Int))) 4 = ctT M 4 := by
    unfold ctT
    exact ctF_cg _ (fun r hr => by rw [(co0.2.2.2.2.2.2.2.2.1 r hr).1])
  have rk : ∀ e, 0 ≤ e → e < I 58 0 → rI (I (58 + 1) e) := fun e z1 z2 => by
    have y := evk e.toNat (by omega)
    rw [show ((e.toNat : Nat) : Int) = e by omega] at y
    have v := (iE.2 e.toNat (by omega)).1
    rw [show ((e.toNat : Nat) : Int) = e by omega] at v
    rw [y]
    omega
  have r9 : ∀ i, 0 ≤ i → i < ((6 : Nat) : Int) → rI (I 9 i) := fun i z1 z2 => by
    have y := (co0.2.2.2.2.2.2.2.1 i.toNat (by omega)).1
    rw [show ((i.toNat : Nat) : Int) = i by omega] at y
    have v := iR.1 i z1 (by omega)
    rw [y]
    omega
  have r16 : ∀ i, 0 ≤ i → i < ((4 : Nat) : Int) → rI (I 16 i) := fun i z1 z2 => by
    have y := (co0.2.2.2.2.2.2.2.2.1 i.toNat (by omega)).1
    rw [show ((i.toNat : Nat) : Int) = i by omega] at y
    have v := iT.1 i z1 (by omega)
    rw [y]
    omega
  refine x_iload_n dX7_count_0 1 rfl rfl ?_
  rcases hsw with sw1 | sw1 | sw1 | sw1 | sw1 | sw1 | sw1 | sw1 | sw1
  · rw [sw1]
    refine x_tswIn (off := 47) (tgt := 48) dX7_count_1 (by decide) (by decide) rfl (by decide) ?_
    refine x_aload_n dX7_count_48 0 rfl rfl ?_
    refine x_getR dX7_count_49 flX7_38 rfl rfl r8 ?_
    refine x_getI dX7_count_52 flX7_301 (shH0 hh) rfl ?_
    refine x_iret dX7_count_55 rfl ?_
    rw [← hQ]
    refine ⟨_, rfl, ?_, rfl, rfl, rfl⟩
    unfold s_count
    first
    | (rw [if_pos (show _ ∨ _ by assumption)])
    | (rw [if_neg (by omega)]
       unfold cnI
       first
       | (rw [if_pos (by omega)]; exact q0)
       | (rw [if_neg (by omega), if_pos (by omega)]; exact q1)
       | (rw [if_neg (by omega), if_neg (by omega), if_pos (by omega)]; exact q2)
       | (rw [if_neg (by omega), if_neg (by omega), if_neg (by omega), if_pos (by omega)]; exact q3)
       | (rw [if_neg (by omega), if_neg (by omega), if_neg (by omega), if_neg (by omega), if_pos (by omega)]; exact n25)
       | (rw [if_neg (by omega), if_neg (by omega), if_neg (by omega), if_neg (by omega), if_neg (by omega), if_pos (by omega)]; exact sg)
       | (rw [if_neg (by omega), if_neg (by omega), if_neg (by omega), if_neg (by omega), if_neg (by omega), if_neg (by omega), if_pos (by omega)]; exact sr)
       | (rw [if_neg (by omega), if_neg (by omega), if_neg (by omega), if_neg (by omega), if_neg (by omega), if_neg (by omega), if_neg (by omega)]; exact sx))
  · rw [sw1]
    refine x_tswIn (off := 55) (tgt := 56) dX7_count_1 (by decide) (by decide) rfl (by decide) ?_
    refine x_aload_n dX7_count_56 0 rfl rfl ?_
    refine x_getR dX7_count_57 flX7_38 rfl rfl r8 ?_
    refine x_getI dX7_count_60 flX7_132 (shH0 hh) rfl ?_
    refine x_iret dX7_count_63 rfl ?_
    rw [← hQ]
    refine ⟨_, rfl, ?_, rfl, rfl, rfl⟩
    unfold s_count
    first
    | (rw [if_pos (show _ ∨ _ by assumption)])
    | (rw [if_neg (by omega)]
       unfold cnI
       first
       | (rw [if_pos (by omega)]; exact q0)
       | (rw [if_neg (by omega), if_pos (by omega)]; exact q1)
       | (rw [if_neg (by omega), if_neg (by omega), if_pos (by omega)]; exact q2)
       | (rw [if_neg (by omega), if_neg (by omega), if_neg (by omega), if_pos (by omega)]; exact q3)
       | (rw [if_neg (by omega), if_neg (by omega), if_neg (by omega), if_neg (by omega), if_pos (by omega)]; exact n25)
       | (rw [if_neg (by omega), if_neg (by omega), if_neg (by omega), if_neg (by omega), if_neg (by omega), if_pos (by omega)]; exact sg)
       | (rw [if_neg (by omega), if_neg (by omega), if_neg (by omega), if_neg (by omega), if_neg (by omega), if_neg (by omega), if_pos (by omega)]; exact sr)
       | (rw [if_neg (by omega), if_neg (by omega), if_neg (by omega), if_neg (by omega), if_neg (by omega), if_neg (by omega), if_neg (by omega)]; exact sx))
  · rw [sw1]
    refine x_tswIn (off := 63) (tgt := 64) dX7_count_1 (by decide) (by decide) rfl (by decide) ?_
    refine x_aload_n dX7_count_64 0 rfl rfl ?_
    refine x_getR dX7_count_65 flX7_38 rfl rfl r8 ?_
    refine x_getI dX7_count_68 flX7_189 (shH0 hh) rfl ?_
    refine x_iret dX7_count_71 rfl ?_
    rw [← hQ]
    refine ⟨_, rfl, ?_, rfl, rfl, rfl⟩
    unfold s_count
    first
    | (rw [if_pos (show _ ∨ _ by assumption)])
    | (rw [if_neg (by omega)]
       unfold cnI
       first
       | (rw [if_pos (by omega)]; exact q0)
       | (rw [if_neg (by omega), if_pos (by omega)]; exact q1)
       | (rw [if_neg (by omega), if_neg (by omega), if_pos (by omega)]; exact q2)
       | (rw [if_neg (by omega), if_neg (by omega), if_neg (by omega), if_pos (by omega)]; exact q3)
       | (rw [if_neg (by omega), if_neg (by omega), if_neg (by omega), if_neg (by omega), if_pos (by omega)]; exact n25)
       | (rw [if_neg (by omega), if_neg (by omega), if_neg (by omega), if_neg (by omega), if_neg (by omega), if_pos (by omega)]; exact sg)
       | (rw [if_neg (by omega), if_neg (by omega), if_neg (by omega), if_neg (by omega), if_neg (by omega), if_neg (by omega), if_pos (by omega)]; exact sr)
       | (rw [if_neg (by omega), if_neg (by omega), if_neg (by omega), if_neg (by omega), if_neg (by omega), if_neg (by omega), if_neg (by omega)]; exact sx))
  · rw [sw1]
    refine x_tswIn (off := 71) (tgt := 72) dX7_count_1 (by decide) (by decide) rfl (by decide) ?_
    refine x_aload_n dX7_count_72 0 rfl rfl ?_
    refine x_getR dX7_count_73 flX7_38 rfl rfl r8 ?_
    refine x_getI dX7_count_76 flX7_208 (shH0 hh) rfl ?_
    refine x_iret dX7_count_79 rfl ?_
    rw [← hQ]
    refine ⟨_, rfl, ?_, rfl, rfl, rfl⟩
    unfold s_count
    first
    | (rw [if_pos (show _ ∨ _ by assumption)])
    | (rw [if_neg (by omega)]
       unfold cnI
       first
       | (rw [if_pos (by omega)]; exact q0)
       | (rw [if_neg (by omega), if_pos (by omega)]; exact q1)
       | (rw [if_neg (by omega), if_neg (by omega), if_pos (by omega)]; exact q2)
       | (rw [if_neg (by omega), if_neg (by omega), if_neg (by omega), if_pos (by omega)]; exact q3)
       | (rw [if_neg (by omega), if_neg (by omega), if_neg (by omega), if_neg (by omega), if_pos (by omega)]; exact n25)
       | (rw [if_neg (by omega), if_neg (by omega), if_neg (by omega), if_neg (by omega), if_neg (by omega), if_pos (by omega)]; exact sg)
       | (rw [if_neg (by omega), if_neg (by omega), if_neg (by omega), if_neg (by omega), if_neg (by omega), if_neg (by omega), if_pos (by omega)]; exact sr)
       | (rw [if_neg (by omega), if_neg (by omega), if_neg (by omega), if_neg (by omega), if_neg (by omega), if_neg (by omega), if_neg (by omega)]; exact sx))
  · rw [sw1]
    refine x_tswIn (off := 79) (tgt := 80) dX7_count_1 (by decide) (by decide) rfl (by decide) ?_
    refine x_aload_n dX7_count_80 0 rfl rfl ?_
    refine x_getR dX7_count_81 flX7_60 rfl rfl (hR 0 6 58 rfl) ?_
    refine x_getI dX7_count_84 flX7_124 rfl rfl ?_
    refine x_iret dX7_count_87 rfl ?_
    rw [← hQ]
    refine ⟨_, rfl, ?_, rfl, rfl, rfl⟩
    unfold s_count
    first
    | (rw [if_pos (show _ ∨ _ by assumption)])
    | (rw [if_neg (by omega)]
       unfold cnI
       first
       | (rw [if_pos (by omega)]; exact q0)
       | (rw [if_neg (by omega), if_pos (by omega)]; exact q1)
       | (rw [if_neg (by omega), if_neg (by omega), if_pos (by omega)]; exact q2)
       | (rw [if_neg (by omega), if_neg (by omega), if_neg (by omega), if_pos (by omega)]; exact q3)
       | (rw [if_neg (by omega), if_neg (by omega), if_neg (by omega), if_neg (by omega), if_pos (by omega)]; exact n25)
       | (rw [if_neg (by omega), if_neg (by omega), if_neg (by omega), if_neg (by omega), if_neg (by omega), if_pos (by omega)]; exact sg)
       | (rw [if_neg (by omega), if_neg (by omega), if_neg (by omega), if_neg (by omega), if_neg (by omega), if_neg (by omega), if_pos (by omega)]; exact sr)
       | (rw [if_neg (by omega), if_neg (by omega), if_neg (by omega), if_neg (by omega), if_neg (by omega), if_neg (by omega), if_neg (by omega)]; exact sx))
  · rw [sw1]
    refine x_tswIn (off := 87) (tgt := 88) dX7_count_1 (by decide) (by decide) rfl (by decide) ?_
    refine x_aload_n dX7_count_88 0 rfl rfl ?_
    refine x_getR dX7_count_89 flX7_60 rfl rfl (hR 0 6 58 rfl) ?_
    refine x_callVi (as := []) dX7_count_92 lvX7_327 rfl rfl rfl rfl rfl rfl rfl ⟨rfl, rfl⟩ (s_X2_sightings hn (by omega) rk) (fun z92 I92 L92 R92 hq92 => ?_)
    obtain ⟨rfl, rfl, rfl, rfl⟩ := hq92
    refine x_iret dX7_count_95 rfl ?_
    rw [← hQ]
    refine ⟨_, rfl, ?_, rfl, rfl, rfl⟩
    unfold s_count
    first
    | (rw [if_pos (show _ ∨ _ by assumption)])
    | (rw [if_neg (by omega)]
       unfold cnI
       first
       | (rw [if_pos (by omega)]; exact q0)
       | (rw [if_neg (by omega), if_pos (by omega)]; exact q1)
       | (rw [if_neg (by omega), if_neg (by omega), if_pos (by omega)]; exact q2)
       | (rw [if_neg (by omega), if_neg (by omega), if_neg (by omega), if_pos (by omega)]; exact q3)
       | (rw [if_neg (by omega), if_neg (by omega), if_neg (by omega), if_neg (by omega), if_pos (by omega)]; exact n25)
       | (rw [if_neg (by omega), if_neg (by omega), if_neg (by omega), if_neg (by omega), if_neg (by omega), if_pos (by omega)]; exact sg)
       | (rw [if_neg (by omega), if_neg (by omega), if_neg (by omega), if_neg (by omega), if_neg (by omega), if_neg (by omega), if_pos (by omega)]; exact sr)
       | (rw [if_neg (by omega), if_neg (by omega), if_neg (by omega), if_neg (by omega), if_neg (by omega), if_neg (by omega), if_neg (by omega)]; exact sx))
  · rw [sw1]
    refine x_tswIn (off := 95) (tgt := 96) dX7_count_1 (by decide) (by decide) rfl (by decide) ?_
    refine x_aload_n dX7_count_96 0 rfl rfl ?_
    refine x_getR dX7_count_97 flX7_14 rfl rfl (hR 0 0 1 rfl) ?_
    refine x_callVi (as := []) dX7_count_100 lvX7_330 rfl rfl rfl rfl rfl rfl rfl ⟨rfl, rfl⟩ (s_X5_standing hR.s1 r9) (fun z100 I100 L100 R100 hq100 => ?_)
    obtain ⟨rfl, rfl, rfl, rfl⟩ := hq100
    refine x_iret dX7_count_103 rfl ?_
    rw [← hQ]
    refine ⟨_, rfl, ?_, rfl, rfl, rfl⟩
    unfold s_count
    first
    | (rw [if_pos (show _ ∨ _ by assumption)])
    | (rw [if_neg (by omega)]
       unfold cnI
       first
       | (rw [if_pos (by omega)]; exact q0)
       | (rw [if_neg (by omega), if_pos (by omega)]; exact q1)
       | (rw [if_neg (by omega), if_neg (by omega), if_pos (by omega)]; exact q2)
       | (rw [if_neg (by omega), if_neg (by omega), if_neg (by omega), if_pos (by omega)]; exact q3)
       | (rw [if_neg (by omega), if_neg (by omega), if_neg (by omega), if_neg (by omega), if_pos (by omega)]; exact n25)
       | (rw [if_neg (by omega), if_neg (by omega), if_neg (by omega), if_neg (by omega), if_neg (by omega), if_pos (by omega)]; exact sg)
       | (rw [if_neg (by omega), if_neg (by omega), if_neg (by omega), if_neg (by omega), if_neg (by omega), if_neg (by omega), if_pos (by omega)]; exact sr)
       | (rw [if_neg (by omega), if_neg (by omega), if_neg (by omega), if_neg (by omega), if_neg (by omega), if_neg (by omega), if_neg (by omega)]; exact sx))
  · rw [sw1]
    refine x_tswIn (off := 103) (tgt := 104) dX7_count_1 (by decide) (by decide) rfl (by decide) ?_
    refine x_aload_n dX7_count_104 0 rfl rfl ?_
    refine x_getR dX7_count_105 flX7_18 rfl rfl (hR 0 1 10 rfl) ?_
    refine x_callVi (as := []) dX7_count_108 lvX7_330 rfl rfl rfl rfl rfl rfl rfl ⟨rfl, rfl⟩ (s_X5_standing hR.s10 r16) (fun z108 I108 L108 R108 hq108 => ?_)
    obtain ⟨rfl, rfl, rfl, rfl⟩ := hq108
    refine x_iret dX7_count_111 rfl ?_
    rw [← hQ]
    refine ⟨_, rfl, ?_, rfl, rfl, rfl⟩
    unfold s_count
    first
    | (rw [if_pos (show _ ∨ _ by assumption)])
    | (rw [if_neg (by omega)]
       unfold cnI
       first
       | (rw [if_pos (by omega)]; exact q0)
       | (rw [if_neg (by omega), if_pos (by omega)]; exact q1)
       | (rw [if_neg (by omega), if_neg (by omega), if_pos (by omega)]; exact q2)
       | (rw [if_neg (by omega), if_neg (by omega), if_neg (by omega), if_pos (by omega)]; exact q3)
       | (rw [if_neg (by omega), if_neg (by omega), if_neg (by omega), if_neg (by omega), if_pos (by omega)]; exact n25)
       | (rw [if_neg (by omega), if_neg (by omega), if_neg (by omega), if_neg (by omega), if_neg (by omega), if_pos (by omega)]; exact sg)
       | (rw [if_neg (by omega), if_neg (by omega), if_neg (by omega), if_neg (by omega), if_neg (by omega), if_neg (by omega), if_pos (by omega)]; exact sr)
       | (rw [if_neg (by omega), if_neg (by omega), if_neg (by omega), if_neg (by omega), if_neg (by omega), if_neg (by omega), if_neg (by omega)]; exact sx))
  · refine x_tswOut (tgt := 112) dX7_count_1 (by omega) (by omega) (by decide) ?_
    refine x_iconst dX7_count_112 ?_
    refine x_iret dX7_count_113 rfl ?_
    rw [← hQ]
    refine ⟨_, rfl, ?_, rfl, rfl, rfl⟩
    unfold s_count
    first
    | (rw [if_pos (show _ ∨ _ by assumption)])
    | (rw [if_neg (by omega)]
       unfold cnI
       first
       | (rw [if_pos (by omega)]; exact q0)
       | (rw [if_neg (by omega), if_pos (by omega)]; exact q1)
       | (rw [if_neg (by omega), if_neg (by omega), if_pos (by omega)]; exact q2)
       | (rw [if_neg (by omega), if_neg (by omega), if_neg (by omega), if_pos (by omega)]; exact q3)
       | (rw [if_neg (by omega), if_neg (by omega), if_neg (by omega), if_neg (by omega), if_pos (by omega)]; exact n25)
       | (rw [if_neg (by omega), if_neg (by omega), if_neg (by omega), if_neg (by omega), if_neg (by omega), if_pos (by omega)]; exact sg)
       | (rw [if_neg (by omega), if_neg (by omega), if_neg (by omega), if_neg (by omega), if_neg (by omega), if_neg (by omega), if_pos (by omega)]; exact sr)
       | (rw [if_neg (by omega), if_neg (by omega), if_neg (by omega), if_neg (by omega), if_neg (by omega), if_neg (by omega), if_neg (by omega)]; exact sx))
theorem s_X7_mean {r : Int} (co0 : CO I L R M N h h') (cc0 : CC I L R M h) (hr : rI r) : Sp G mtX7_mean [mr 0, mi r] shX I L R (qi (fun z I' L' R' => z = (s_mean r M).1 ∧ CO I' L' R' (s_mean r M).2 N h h' ∧ CC I' L' R' (s_mean r M).2 h)) := by
  refine Sp.of pnX7_mean rfl ?_
  show Rn G mtX7_mean _ 0 [(0, mr 0), (1, mi r)] [] shX I L R
  generalize hQ : (qi (fun z I' L' R' => z = (s_mean r M).1 ∧ CO I' L' R' (s_mean r M).2 N h h' ∧ CC I' L' R' (s_mean r M).2 h)) = Q
  have hR := co0.1
  have r8 := co0.2.1.1
  have r9 := co0.2.1.2.1
  have h32 := co0.h32
  have hh := hR.h h32
  obtain ⟨iH, iE, iL, iR, iT⟩ := co0.2.2.2.2.1
  have hrl := co0.2.2.2.2.2.1.1
  have q0 := hrl.1
  have q1 := hrl.2.1
  have q2 := hrl.2.2.1
  have q3 := hrl.2.2.2.1
  have b0 := iH.1
  have b1 := iH.2.1
  have b2 := iH.2.2.1
  have b3 := iH.2.2.2.1
  have szr : ∀ rn : Nat, rn < 6 → I 9 (rn : Int) = M 2 (rn : Int) ∧ -1 ≤ M 2 (rn : Int) ∧ M 2 (rn : Int) ≤ 40 := fun rn hrn => ⟨(co0.2.2.2.2.2.2.2.1 rn hrn).1, iR.1 _ (by omega) (by omega)⟩
  have szt : ∀ rn : Nat, rn < 4 → I 16 (rn : Int) = M 5 (rn : Int) ∧ -1 ≤ M 5 (rn : Int) ∧ M 5 (rn : Int) ≤ 80 := fun rn hrn => ⟨(co0.2.2.2.2.2.2.2.2.1 rn hrn).1, iT.1 _ (by omega) (by omega)⟩
  have at13 : ∀ rn : Nat, r = (rn : Int) → rn < 6 → Rn G mtX7_mean Q 13 [(0, mr 0), (1, mi r)] [] shX I L R := by
    intro rn e hrn
    subst e
    obtain ⟨sz, sz2⟩ := szr rn hrn
    have fin : ∀ i : Nat, (i : Int) < M 2 (rn : Int) → I (1 + 2 + rn) (i : Int) = M 3 (40 * (rn : Int) + (i : Int)) ∧ rI (M 3 (40 * (rn : Int) + (i : Int))) := fun i z => by
      have y := (co0.2.2.2.2.2.2.2.1 rn hrn).2.2 (i : Int) (by omega) (by omega)
      rw [show 1 + 2 + rn = 3 + rn by omega]
      exact ⟨y, iR.2 _ (by omega) (by omega)⟩
    have at56 : ∀ n : Nat, M 2 (rn : Int) = (n : Int) → 0 < n → ∀ k : Nat, k ≤ n → Rn G mtX7_mean Q 56 [(0, mr 0), (1, mi (rn : Int)), (2, mi (I 9 (rn : Int))), (3, ml (a_sum (fun k => M 3 (40 * (rn : Int) + k)) k)), (5, mi (k : Int))] [] shX I L R := by
      intro n hn hn0
      have ar := fun k (hk : k ≤ n) => a_sum_r (f := fun k => M 3 (40 * (rn : Int) + k)) k (fun i hi => (fin i (by omega)).2)
      refine lpn n (fun k hk ih => ?_) ?_
      · obtain ⟨f1, f2⟩ := fin k (by omega)
        have a1 := ar k (by omega)
        have es : a_sum (fun k => M 3 (40 * (rn : Int) + k)) (k + 1) = a_sum (fun k => M 3 (40 * (rn : Int) + k)) k + M 3 (40 * (rn : Int) + (k : Int)) := rfl
        rw [es] at ih
        refine x_iload dX7_mean_56 4 rfl ?_
        refine x_iload_n dX7_mean_58 2 rfl rfl ?_
        refine x_ic_ge (tgt := 84) dX7_mean_59 (by decide) (by omega) (fun h59 => ?_) (fun h59 => ?_)
        · exfalso; omega
        · refine x_lload_n dX7_mean_62 3 rfl rfl ?_
          refine x_aload_n dX7_mean_63 0 rfl rfl ?_
          refine x_getR dX7_mean_64 flX7_14 rfl rfl (hR 0 0 1 rfl) ?_
          refine x_getR dX7_mean_67 flX7_101 rfl rfl (hR 1 0 2 rfl) ?_
          refine x_iload_n dX7_mean_70 1 rfl rfl ?_
          refine x_aald dX7_mean_71 rfl (by omega) (hR.s1.2.2.2 rn hrn) ?_
          refine x_iload dX7_mean_72 4 rfl ?_
          refine x_iald dX7_mean_74 (shSi hR.s1 hrn) (by omega) ?_
          rw [f1]
          refine x_i2l dX7_mean_75 (by omega) ?_
          refine x_ladd dX7_mean_76 ?_
          refine x_lstore_n (lv' := [(0, _), (1, _), (2, _), (3, _), (5, _)]) dX7_mean_77 rfl rfl rfl ?_
          refine x_iinc (lv' := [(0, _), (1, _), (2, _), (3, _), (5, _)]) dX7_mean_78 4 rfl rfl rfl ?_
          refine x_goto (tgt := 56) dX7_mean_81 (by decide) ?_
          exact ih
      · have a1 := ar n (Nat.le_refl _)
        have x : s_mean (rn : Int) M = (1, a_tl M ((a_sum (fun k => M 3 (40 * (rn : Int) + k)) n).tdiv (n : Int))) := by
          unfold s_mean
          rw [if_neg (by omega), if_neg (by omega), if_neg (by omega), hn, Int.toNat_natCast]
        have tl := tl_ok co0 cc0 ((a_sum (fun k => M 3 (40 * (rn : Int) + k)) n).tdiv (n : Int))
        refine x_iload dX7_mean_56 4 rfl ?_
        refine x_iload_n dX7_mean_58 2 rfl rfl ?_
        refine x_ic_ge (tgt := 84) dX7_mean_59 (by decide) (by omega) (fun h59 => ?_) (fun h59 => ?_)
        · refine x_aload_n dX7_mean_84 0 rfl rfl ?_
          refine x_lload_n dX7_mean_85 3 rfl rfl ?_
          refine x_iload_n dX7_mean_86 2 rfl rfl ?_
          refine x_i2l dX7_mean_87 (by omega) ?_
          rw [sz, hn]
          refine x_ldiv dX7_mean_88 (by omega) (by omega) ?_
          refine x_l2i dX7_mean_89 ?_
          refine x_callVi (as := [_]) dX7_mean_90 lvX7_98 rfl rfl rfl rfl rfl rfl rfl ⟨rfl, rfl⟩ (s_X7_tell) (fun z90 I90 L90 R90 hq90 => ?_)
          obtain ⟨rfl, rfl, rfl, rfl⟩ := hq90
          refine x_iret dX7_mean_93 rfl ?_
          rw [← hQ, x]
          exact ⟨_, rfl, rfl, tl.1, tl.2⟩
        · exfalso; omega
    refine x_aload_n dX7_mean_13 0 rfl rfl ?_
    refine x_getR dX7_mean_14 flX7_14 rfl rfl (hR 0 0 1 rfl) ?_
    refine x_iload_n dX7_mean_17 1 rfl rfl ?_
    refine x_callVi (as := [_]) dX7_mean_18 lvX7_87 rfl rfl rfl rfl rfl rfl rfl ⟨rfl, rfl⟩ (s_X5_lacks hR.s1 hrn (by omega)) (fun z18 I18 L18 R18 hq18 => ?_)
    obtain ⟨rfl, rfl, rfl, rfl⟩ := hq18
    refine y_ifb_eq (tgt := 30) dX7_mean_21 (by decide) (fun h21 => ?_) (fun h21 => ?_)
    · refine x_aload_n dX7_mean_30 0 rfl rfl ?_
      refine x_getR dX7_mean_31 flX7_14 rfl rfl (hR 0 0 1 rfl) ?_
      refine x_getR dX7_mean_34 flX7_105 rfl rfl (hR 1 1 9 rfl) ?_
      refine x_iload_n dX7_mean_37 1 rfl rfl ?_
      refine x_iald dX7_mean_38 rfl (by omega) ?_
      refine x_istore_n (lv' := [(0, _), (1, _), (2, _)]) dX7_mean_39 rfl rfl rfl ?_
      refine x_iload_n dX7_mean_40 2 rfl rfl ?_
      refine x_iconst dX7_mean_41 ?_
      refine x_ic_ge (tgt := 51) dX7_mean_42 (by decide) (by omega) (fun h42 => ?_) (fun h42 => ?_)
      · refine x_lconst 0 dX7_mean_51 rfl ?_
        refine x_lstore_n (lv' := [(0, _), (1, _), (2, _), (3, _)]) dX7_mean_52 rfl rfl rfl ?_
        refine x_iconst dX7_mean_53 ?_
        refine x_istore (lv' := [(0, _), (1, _), (2, _), (3, _), (5, _)]) dX7_mean_54 rfl rfl ?_
        exact at56 (M 2 (rn : Int)).toNat (by omega) (by omega) 0 (by omega)
      · refine x_aload_n dX7_mean_45 0 rfl rfl ?_
        refine x_iconst dX7_mean_46 ?_
        refine x_callVi (as := [_]) dX7_mean_47 lvX7_79 rfl rfl rfl rfl rfl rfl rfl ⟨rfl, rfl⟩ (s_X7_found co0.1 (by omega)) (fun z47 I47 L47 R47 hq47 => ?_)
        obtain ⟨rfl, rfl, rfl, rfl⟩ := hq47
        refine x_iret dX7_mean_50 rfl ?_
        rw [← hQ]
        first
        | (have x : s_mean (rn : Int) M = (-3, a_mt M 1) := by
             unfold s_mean
             rw [if_neg (by omega), if_pos (by omega)]
           rw [x]
           have z := mt_ok co0 cc0 (f := 1) (by omega)
           exact ⟨_, rfl, rfl, z.1, z.2⟩)
        | (have x : s_mean (rn : Int) M = (-3, a_mt M 4) := by
             unfold s_mean
             rw [if_neg (by omega), if_neg (by omega), if_pos (by omega)]
           rw [x]
           have z := mt_ok co0 cc0 (f := 4) (by omega)
           exact ⟨_, rfl, rfl, z.1, z.2⟩)
    · refine x_aload_n dX7_mean_24 0 rfl rfl ?_
      refine x_iconst dX7_mean_25 ?_
      refine x_callVi (as := [_]) dX7_mean_26 lvX7_79 rfl rfl rfl rfl rfl rfl rfl ⟨rfl, rfl⟩ (s_X7_found co0.1 (by omega)) (fun z26 I26 L26 R26 hq26 => ?_)
      obtain ⟨rfl, rfl, rfl, rfl⟩ := hq26
      refine x_iret dX7_mean_29 rfl ?_
      rw [← hQ]
      first
      | (have x : s_mean (rn : Int) M = (-3, a_mt M 1) := by
           unfold s_mean
           rw [if_neg (by omega), if_pos (by omega)]
         rw [x]
         have z := mt_ok co0 cc0 (f := 1) (by omega)
         exact ⟨_, rfl, rfl, z.1, z.2⟩)
      | (have x : s_mean (rn : Int) M = (-3, a_mt M 4) := by
           unfold s_mean
           rw [if_neg (by omega), if_neg (by omega), if_pos (by omega)]
         rw [x]
         have z := mt_ok co0 cc0 (f := 4) (by omega)
         exact ⟨_, rfl, rfl, z.1, z.2⟩)
  refine x_aload_n dX7_mean_0 0 rfl rfl ?_
  refine x_getR dX7_mean_1 flX7_14 rfl rfl (hR 0 0 1 rfl) ?_
  refine x_iload_n dX7_mean_4 1 rfl rfl ?_
  refine x_callVi (as := [_]) dX7_mean_5 lvX7_75 rfl rfl rfl rfl rfl rfl rfl ⟨rfl, rfl⟩ (s_X5_names hR.s1 (by omega)) (fun z5 I5 L5 R5 hq5 => ?_)
  obtain ⟨rfl, rfl, rfl, rfl⟩ := hq5
  refine y_ifb_ne (tgt := 13) dX7_mean_8 (by decide) (fun h8 => ?_) (fun h8 => ?_)
  · exact at13 r.toNat (by omega) (by omega)
  · refine x_iconst dX7_mean_11 ?_
    refine x_iret dX7_mean_12 rfl ?_
    rw [← hQ]
    first
    | (have x : s_mean r M = (-1, M) := by
         unfold s_mean
         exact if_pos (by omega)
       rw [x]
       exact ⟨_, rfl, rfl, co0, cc0⟩)
end

/-! THE CLASS'S FACE: digest. -/
theorem hxL_cg {f g : Nat → Int} {x : Int} : ∀ n, (∀ k, k < n → f k = g k) → hxL f n x = hxL g n x
  | 0, _ => rfl
  | n + 1, h => by rw [hxL_s, hxL_s, hxL_cg n (fun k hk => h k (by omega)), h n (by omega)]
theorem hxN_cg {f g : Nat → Int → Int} {x : Int} : ∀ n, (∀ k, k < n → ∀ y, f k y = g k y) → hxN f n x = hxN g n x
  | 0, _ => rfl
  | n + 1, h => by rw [hxN_s, hxN_s, hxN_cg n (fun k hk => h k (by omega)), h n (by omega)]
theorem dig_eq {I L M N : MI} {R : MR} {h h' : Nat} (co : CO I L R M N h h') (x : Int) : dxS I 10 16 4 (dxS I 1 9 6 (dxE I 58 (I 58 0).toNat (dxW I h (I h 2).toNat (dxD I h (I h 1).toNat x)))) = dgT M 4 (dgR M 6 (dgE M (M 0 25).toNat (dgW M (M 0 13).toNat (dgD M (M 0 12).toNat x)))) := by
  obtain ⟨iH, iE, iL, iR, iT⟩ := co.2.2.2.2.1
  obtain ⟨⟨q0, q1, q2, q3, q4⟩, q5, q6⟩ := co.2.2.2.2.2.1
  have b1 := iH.2.1
  have b2 := iH.2.2.1
  have nr := co.2.2.2.2.2.2.1
  have qr := co.2.2.2.2.2.2.2.1
  have qt := co.2.2.2.2.2.2.2.2.1
  have eD : ∀ x, dxD I h (I h 1).toNat x = dgD M (M 0 12).toNat x := fun x => by
    rw [q1]
    unfold dxD dgD
    refine hxN_cg _ (fun d hd y => hxL_cg _ (fun w hw => ?_))
    have z := q5 d (by omega)
    have c := (iH.2.2.2.2.1 (d : Int) (by omega) (by omega)).2.2.2
    unfold diX
    have : w = 0 ∨ w = 1 ∨ w = 2 := by omega
    rcases this with rfl | rfl | rfl
    · rw [if_pos (show ((0 : Nat) : Int) = 0 from rfl), z.1, show 3 * (d : Int) + ((0 : Nat) : Int) = 3 * (d : Int) by omega]
    · rw [if_neg (show ¬ ((1 : Nat) : Int) = 0 by decide), if_pos (show ((1 : Nat) : Int) = 1 from rfl), z.2]
      rfl
    · rw [if_neg (show ¬ ((2 : Nat) : Int) = 0 by decide), if_neg (show ¬ ((2 : Nat) : Int) = 1 by decide), q4, Int.toNat_natCast]
      rcases c with c | c
      · refine Eq.trans ?_ c.symm
        exact (b01_f (fun q => by have := ((tb_bd b1 (show d < 32 by omega)).mp q).2; omega)).symm
      · refine Eq.trans ?_ c.symm
        exact (b01_t ((tb_bd b1 (show d < 32 by omega)).mpr ⟨by omega, c⟩)).symm
  have eW : ∀ x, dxW I h (I h 2).toNat x = dgW M (M 0 13).toNat x := fun x => by
    rw [q2]
    unfold dxW dgW
    refine hxN_cg _ (fun w hw y => ?_)
    have z := q6 w (by omega)
    rw [z.1, z.2]
  have eE : ∀ x, dxE I 58 (I 58 0).toNat x = dgE M (M 0 25).toNat x := fun x => by
    rw [nr.1]
    unfold dxE dgE
    refine hxN_cg _ (fun e he y => hxL_cg _ (fun w hw => ?_))
    obtain ⟨z1, z2, z3, z4⟩ := nr.2 e (by omega)
    unfold itX
    have : w = 0 ∨ w = 1 ∨ w = 2 ∨ w = 3 := by omega
    rcases this with rfl | rfl | rfl | rfl
    · exact z1
    · exact z2
    · exact z3
    · exact z4
  have eR : ∀ x, dxS I 1 9 6 x = dgR M 6 x := fun x => by
    unfold dxS dgR
    refine hxN_cg _ (fun r hr y => ?_)
    have z := qr r hr
    rw [z.1]
    refine hxL_cg _ (fun i hi => ?_)
    rw [show 1 + 2 + r = 3 + r by omega]
    exact z.2.2 (i : Int) (by omega) (by omega)
  have eT : ∀ x, dxS I 10 16 4 x = dgT M 4 x := fun x => by
    unfold dxS dgT
    refine hxN_cg _ (fun r hr y => ?_)
    have z := qt r hr
    rw [z.1]
    refine hxL_cg _ (fun i hi => ?_)
    rw [show 10 + 2 + r = 12 + r by omega]
    have y := z.2.2 (i : Int) (by omega) (by omega)
    unfold a_by
    rw [if_pos (show (i : Int) < M 5 (r : Int) by omega)]
    exact y
  rw [eD, eW, eE, eR, eT]
section
variable {G : GT} {I L M N : MI} {R : MR} {h h' : Nat}

theorem s_X0_digested2 {x : Int} (hh : isH R h) (hb1 : 0 ≤ I h 1 ∧ I h 1 ≤ 8) (hb2 : 0 ≤ I h 2 ∧ I h 2 ≤ 3) (hl : ∀ d, 0 ≤ d → d < I h 1 → rI (I (h + 1) d) ∧ rI (I (h + 2) d)) (hw : ∀ w, 0 ≤ w → w < I h 2 → rI (I (h + 3) w) ∧ rI (I (h + 4) w)) : Sp G mtX0_digested [mr h, ml x] shX I L R (ql (pu (dxW I h (I h 2).toNat (dxD I h (I h 1).toNat x)) I L R)) := by
  refine Sp.of pnX0_digested rfl ?_
  show Rn G mtX0_digested _ 0 [(0, mr h), (1, ml x)] [] shX I L R
  generalize hQ : (ql (pu (dxW I h (I h 2).toNat (dxD I h (I h 1).toNat x)) I L R)) = Q
  have l2 : ∀ w : Nat, w ≤ (I h 2).toNat → ∀ lv8, (lv8 = [(0, mr h), (1, ml (dxW I h w (dxD I h (I h 1).toNat x))), (3, mi (w : Int))]) → Rn G mtX0_digested Q 48 lv8 [] shX I L R := by
    refine lpn _ (fun w hwk ih => ?_) ?_
    · intro lv8 hlv
      subst hlv
      have hwr := hw (w : Int) (by omega) (by omega)
      refine x_iload_n dX0_digested_48 2 rfl rfl ?_
      refine x_aload_n dX0_digested_49 0 rfl rfl ?_
      refine x_getI dX0_digested_50 flX0_34 (shH0 hh) rfl ?_
      refine x_ic_ge (tgt := 90) dX0_digested_53 (by decide) (by omega) (fun h53 => ?_) (fun h53 => ?_)
      · exfalso; omega
      · refine x_ldc2 (31) dX0_digested_56 lkX0_68 ?_
        refine x_lload_n dX0_digested_59 1 rfl rfl ?_
        refine x_lmul dX0_digested_60 ?_
        refine x_aload_n dX0_digested_61 0 rfl rfl ?_
        refine x_getR dX0_digested_62 flX0_18 (shH0 hh) rfl hh.2.2.2.1 ?_
        refine x_iload_n dX0_digested_65 2 rfl rfl ?_
        refine x_iald dX0_digested_66 (shH3 hh) (by omega) ?_
        refine x_i2l dX0_digested_67 (by omega) ?_
        refine x_ladd dX0_digested_68 ?_
        refine x_lstore_n (lv' := [(0, _), (1, _), (3, _)]) dX0_digested_69 rfl rfl rfl ?_
        refine x_ldc2 (31) dX0_digested_70 lkX0_68 ?_
        refine x_lload_n dX0_digested_73 1 rfl rfl ?_
        refine x_lmul dX0_digested_74 ?_
        refine x_aload_n dX0_digested_75 0 rfl rfl ?_
        refine x_getR dX0_digested_76 flX0_21 (shH0 hh) rfl hh.2.2.2.2 ?_
        refine x_iload_n dX0_digested_79 2 rfl rfl ?_
        refine x_iald dX0_digested_80 (shH4 hh) (by omega) ?_
        refine x_i2l dX0_digested_81 (by omega) ?_
        refine x_ladd dX0_digested_82 ?_
        refine x_lstore_n (lv' := [(0, _), (1, _), (3, _)]) dX0_digested_83 rfl rfl rfl ?_
        refine x_iinc (lv' := [(0, _), (1, _), (3, _)]) dX0_digested_84 2 rfl rfl rfl ?_
        refine x_goto (tgt := 48) dX0_digested_87 (by decide) ?_
        exact ih _ rfl
    · intro lv8 hlv
      subst hlv
      refine x_iload_n dX0_digested_48 2 rfl rfl ?_
      refine x_aload_n dX0_digested_49 0 rfl rfl ?_
      refine x_getI dX0_digested_50 flX0_34 (shH0 hh) rfl ?_
      refine x_ic_ge (tgt := 90) dX0_digested_53 (by decide) (by omega) (fun h53 => ?_) (fun h53 => ?_)
      · refine x_lload_n dX0_digested_90 1 rfl rfl ?_
        refine x_lret dX0_digested_91 rfl ?_
        rw [← hQ]
        exact ⟨_, rfl, rfl, rfl, rfl, rfl⟩
      · exfalso; omega
  have l1 : ∀ d : Nat, d ≤ (I h 1).toNat → ∀ lv8, (lv8 = [(0, mr h), (1, ml (dxD I h d x)), (3, mi (d : Int))]) → Rn G mtX0_digested Q 2 lv8 [] shX I L R := by
    refine lpn _ (fun d hd ih => ?_) ?_
    · intro lv8 hlv
      subst hlv
      have hlr := hl (d : Int) (by omega) (by omega)
      have il : ∀ k : Nat, k ≤ 3 → Rn G mtX0_digested Q 13 [(0, mr h), (1, ml (hxL (fun k => diX I h (d : Int) (k : Int)) k (dxD I h d x))), (3, mi (d : Int)), (4, mi (k : Int))] [] shX I L R := by
        refine lpn 3 (fun k hk ihk => ?_) ?_
        · have hri : rI (diX I h (d : Int) (k : Int)) := by
            have := b01_r (tb (I h 4) (d : Int).toNat = true)
            unfold diX
            split
            · exact hlr.1
            · split
              · exact hlr.2
              · omega
          refine x_iload dX0_digested_13 3 rfl ?_
          refine x_iconst dX0_digested_15 ?_
          refine x_ic_gt (tgt := 40) dX0_digested_16 (by decide) (by omega) (fun h16 => ?_) (fun h16 => ?_)
          · exfalso; omega
          · refine x_ldc2 (31) dX0_digested_19 lkX0_68 ?_
            refine x_lload_n dX0_digested_22 1 rfl rfl ?_
            refine x_lmul dX0_digested_23 ?_
            refine x_aload_n dX0_digested_24 0 rfl rfl ?_
            refine x_iload_n dX0_digested_25 2 rfl rfl ?_
            refine x_iload dX0_digested_26 3 rfl ?_
            refine x_callVi (as := [_, _]) dX0_digested_28 lvX0_70 rfl (shH0 hh) rfl rfl rfl rfl rfl ⟨rfl, rfl⟩ (s_X0_doorItem hh (by omega) (by omega)) (fun z28 I28 L28 R28 hq28 => ?_)
            obtain ⟨rfl, rfl, rfl, rfl⟩ := hq28
            refine x_i2l dX0_digested_31 (by omega) ?_
            refine x_ladd dX0_digested_32 ?_
            refine x_lstore_n (lv' := [(0, _), (1, _), (3, _), (4, _)]) dX0_digested_33 rfl rfl rfl ?_
            refine x_iinc (lv' := [(0, _), (1, _), (3, _), (4, _)]) dX0_digested_34 3 rfl rfl rfl ?_
            refine x_goto (tgt := 13) dX0_digested_37 (by decide) ?_
            exact ihk
        · refine x_iload dX0_digested_13 3 rfl ?_
          refine x_iconst dX0_digested_15 ?_
          refine x_ic_gt (tgt := 40) dX0_digested_16 (by decide) (by omega) (fun h16 => ?_) (fun h16 => ?_)
          · refine x_iinc (lv' := [(0, _), (1, _), (3, _), (4, _)]) dX0_digested_40 2 rfl rfl rfl ?_
            refine x_goto (tgt := 2) dX0_digested_43 (by decide) ?_
            refine x_top (lv' := [(0, _), (1, _), (3, _)]) 4 rfl ?_
            exact ih _ rfl
          · exfalso; omega
      refine x_iload_n dX0_digested_2 2 rfl rfl ?_
      refine x_aload_n dX0_digested_3 0 rfl rfl ?_
      refine x_getI dX0_digested_4 flX0_31 (shH0 hh) rfl ?_
      refine x_ic_ge (tgt := 46) dX0_digested_7 (by decide) (by omega) (fun h7 => ?_) (fun h7 => ?_)
      · exfalso; omega
      · refine x_iconst dX0_digested_10 ?_
        refine x_istore (lv' := [(0, _), (1, _), (3, _), (4, _)]) dX0_digested_11 rfl rfl ?_
        exact il 0 (by omega)
    · intro lv8 hlv
      subst hlv
      refine x_iload_n dX0_digested_2 2 rfl rfl ?_
      refine x_aload_n dX0_digested_3 0 rfl rfl ?_
      refine x_getI dX0_digested_4 flX0_31 (shH0 hh) rfl ?_
      refine x_ic_ge (tgt := 46) dX0_digested_7 (by decide) (by omega) (fun h7 => ?_) (fun h7 => ?_)
      · refine x_iconst dX0_digested_46 ?_
        refine x_istore_n (lv' := [(0, _), (1, _), (3, _)]) dX0_digested_47 rfl rfl rfl ?_
        exact l2 0 (by omega) _ rfl
      · exfalso; omega
  refine x_iconst dX0_digested_0 ?_
  refine x_istore_n (lv' := [(0, _), (1, _), (3, _)]) dX0_digested_1 rfl rfl rfl ?_
  exact l1 0 (by omega) _ rfl
theorem s_X7_digest  (co0 : CO I L R M N h h') (cc0 : CC I L R M h) : Sp G mtX7_digest [mr 0] shX I L R (ql (fun z I' L' R' => z = s_digest M ∧ I' = I ∧ L' = L ∧ R' = R)) := by
  refine Sp.of pnX7_digest rfl ?_
  show Rn G mtX7_digest _ 0 [(0, mr 0)] [] shX I L R
  generalize hQ : (ql (fun z I' L' R' => z = s_digest M ∧ I' = I ∧ L' = L ∧ R' = R)) = Q
  have hR := co0.1
  have r8 := co0.2.1.1
  have r9 := co0.2.1.2.1
  have h32 := co0.h32
  have hh := hR.h h32
  obtain ⟨iH, iE, iL, iR, iT⟩ := co0.2.2.2.2.1
  have hrl := co0.2.2.2.2.2.1.1
  have q0 := hrl.1
  have q1 := hrl.2.1
  have q2 := hrl.2.2.1
  have q3 := hrl.2.2.2.1
  have b0 := iH.1
  have b1 := iH.2.1
  have b2 := iH.2.2.1
  have b3 := iH.2.2.2.1
  have szr : ∀ rn : Nat, rn < 6 → I 9 (rn : Int) = M 2 (rn : Int) ∧ -1 ≤ M 2 (rn : Int) ∧ M 2 (rn : Int) ≤ 40 := fun rn hrn => ⟨(co0.2.2.2.2.2.2.2.1 rn hrn).1, iR.1 _ (by omega) (by omega)⟩
  have szt : ∀ rn : Nat, rn < 4 → I 16 (rn : Int) = M 5 (rn : Int) ∧ -1 ≤ M 5 (rn : Int) ∧ M 5 (rn : Int) ≤ 80 := fun rn hrn => ⟨(co0.2.2.2.2.2.2.2.2.1 rn hrn).1, iT.1 _ (by omega) (by omega)⟩
  have n25 : I 58 0 = M 0 25 := co0.2.2.2.2.2.2.1.1
  have e25 := iE.1
  have hn := hR.n (h := 58) (Or.inl rfl)
  have nr := co0.2.2.2.2.2.2.1.2
  have hev : ∀ e, 0 ≤ e → e < I 58 0 → rI (I (58 + 1) e) ∧ rI (I (58 + 2) e) ∧ rI (I (58 + 3) e) ∧ rI (I (58 + 4) e) := fun e z1 z2 => by
    have y := nr e.toNat (by omega)
    have v := iE.2 e.toNat (by omega)
    rw [show ((e.toNat : Nat) : Int) = e by omega] at y v
    obtain ⟨y1, y2, y3, y4⟩ := y
    obtain ⟨v1, v2, v3, v4, -, -⟩ := v
    rw [y1, y2, y3, y4]
    exact ⟨by omega, by omega, by omega, by omega⟩
  have hl : ∀ d, 0 ≤ d → d < I h 1 → rI (I (h + 1) d) ∧ rI (I (h + 2) d) := fun d z1 z2 => by
    have y := co0.2.2.2.2.2.1.2.1 d.toNat (by omega)
    have c := iH.2.2.2.2.1 d z1 (by omega)
    rw [show ((d.toNat : Nat) : Int) = d by omega] at y
    rw [y.1, y.2]
    exact ⟨by omega, by omega⟩
  have hw : ∀ w, 0 ≤ w → w < I h 2 → rI (I (h + 3) w) ∧ rI (I (h + 4) w) := fun w z1 z2 => by
    have y := co0.2.2.2.2.2.1.2.2 w.toNat (by omega)
    have c := iH.2.2.2.2.2 w z1 (by omega)
    rw [show ((w.toNat : Nat) : Int) = w by omega] at y
    rw [y.1, y.2]
    exact ⟨by omega, by omega⟩
  have cr : ∀ k : Nat, rI (cnI M (k : Int)) := fun k => by
    have c1 := ctF_r (fun e => decide (M 11 (4 * (e : Int) + 0) = 2 ∨ M 11 (4 * (e : Int) + 0) = 3)) (M 0 25).toNat
    have c2 := ctF_r (fun r => decide (0 ≤ M 2 (r : Int))) 6
    have c3 := ctF_r (fun t => decide (0 ≤ M 5 (t : Int))) 4
    have d1 : rI (ctE M (M 0 25).toNat) := by unfold ctE; omega
    have d2 : rI (ctR M 6) := by unfold ctR; omega
    have d3 : rI (ctT M 4) := by unfold ctT; omega
    unfold cnI
    repeat' split
    all_goals first | exact d1 | exact d2 | exact d3 | omega
  have dq := dig_eq co0 (hxL (fun k => cnI M (k : Int)) 8 17)
  have lp : ∀ k : Nat, k ≤ 8 → Rn G mtX7_digest Q 6 [(0, mr 0), (1, ml (hxL (fun k => cnI M (k : Int)) k 17)), (3, mi (k : Int))] [] shX I L R := by
    refine lpn 8 (fun k hk ih => ?_) ?_
    · have sc : s_count (k : Int) M = cnI M (k : Int) := by
        unfold s_count
        rw [if_neg (by omega)]
      have ck : rI (s_count (k : Int) M) := by rw [sc]; exact cr k
      rw [hxL_s, ← sc] at ih
      refine x_iload_n dX7_digest_6 2 rfl rfl ?_
      refine x_bipush dX7_digest_7 (by decide) ?_
      refine x_ic_gt (tgt := 31) dX7_digest_9 (by decide) (by omega) (fun h9 => ?_) (fun h9 => ?_)
      · exfalso; omega
      · refine x_ldc2 (31) dX7_digest_12 lkX7_338 ?_
        refine x_lload_n dX7_digest_15 1 rfl rfl ?_
        refine x_lmul dX7_digest_16 ?_
        refine x_aload_n dX7_digest_17 0 rfl rfl ?_
        refine x_iload_n dX7_digest_18 2 rfl rfl ?_
        refine x_callVi (as := [_]) dX7_digest_19 lvX7_340 rfl rfl rfl rfl rfl rfl rfl ⟨rfl, rfl⟩ (s_X7_count co0 cc0 (by omega)) (fun z19 I19 L19 R19 hq19 => ?_)
        obtain ⟨rfl, rfl, rfl, rfl⟩ := hq19
        refine x_i2l dX7_digest_22 (by omega) ?_
        refine x_ladd dX7_digest_23 ?_
        refine x_lstore_n (lv' := [(0, _), (1, _), (3, _)]) dX7_digest_24 rfl rfl rfl ?_
        refine x_iinc (lv' := [(0, _), (1, _), (3, _)]) dX7_digest_25 2 rfl rfl rfl ?_
        refine x_goto (tgt := 6) dX7_digest_28 (by decide) ?_
        exact ih
    · refine x_iload_n dX7_digest_6 2 rfl rfl ?_
      refine x_bipush dX7_digest_7 (by decide) ?_
      refine x_ic_gt (tgt := 31) dX7_digest_9 (by decide) (by omega) (fun h9 => ?_) (fun h9 => ?_)
      · refine x_aload_n dX7_digest_31 0 rfl rfl ?_
        refine x_getR dX7_digest_32 flX7_38 rfl rfl r8 ?_
        refine x_lload_n dX7_digest_35 1 rfl rfl ?_
        refine x_callVl (as := [_]) dX7_digest_36 lvX7_343 rfl (shH0 hh) rfl rfl rfl rfl rfl ⟨rfl, rfl⟩ (s_X0_digested2 hh (by omega) (by omega) hl hw) (fun z36 I36 L36 R36 hq36 => ?_)
        obtain ⟨rfl, rfl, rfl, rfl⟩ := hq36
        refine x_lstore_n (lv' := [(0, _), (1, _), (3, _)]) dX7_digest_39 rfl rfl rfl ?_
        refine x_aload_n dX7_digest_40 0 rfl rfl ?_
        refine x_getR dX7_digest_41 flX7_60 rfl rfl (hR 0 6 58 rfl) ?_
        refine x_lload_n dX7_digest_44 1 rfl rfl ?_
        refine x_callVl (as := [_]) dX7_digest_45 lvX7_347 rfl rfl rfl rfl rfl rfl rfl ⟨rfl, rfl⟩ (s_X2_digested hn (by omega) hev) (fun z45 I45 L45 R45 hq45 => ?_)
        obtain ⟨rfl, rfl, rfl, rfl⟩ := hq45
        refine x_lstore_n (lv' := [(0, _), (1, _), (3, _)]) dX7_digest_48 rfl rfl rfl ?_
        refine x_aload_n dX7_digest_49 0 rfl rfl ?_
        refine x_getR dX7_digest_50 flX7_14 rfl rfl (hR 0 0 1 rfl) ?_
        refine x_lload_n dX7_digest_53 1 rfl rfl ?_
        refine x_callVl (as := [_]) dX7_digest_54 lvX7_348 rfl rfl rfl rfl rfl rfl rfl ⟨rfl, rfl⟩ (s_X5_digested hR.s1 (fun i hi => by have := szr i hi; omega) (fun i j hi h1 h2 => by rw [show 1 + 2 + i = 3 + i by omega]; exact (co0.2.2.2.2.2.2.2.1 i hi).2.1 j h1 h2)) (fun z54 I54 L54 R54 hq54 => ?_)
        obtain ⟨rfl, rfl, rfl, rfl⟩ := hq54
        refine x_lstore_n (lv' := [(0, _), (1, _), (3, _)]) dX7_digest_57 rfl rfl rfl ?_
        refine x_aload_n dX7_digest_58 0 rfl rfl ?_
        refine x_getR dX7_digest_59 flX7_18 rfl rfl (hR 0 1 10 rfl) ?_
        refine x_lload_n dX7_digest_62 1 rfl rfl ?_
        refine x_callVl (as := [_]) dX7_digest_63 lvX7_348 rfl rfl rfl rfl rfl rfl rfl ⟨rfl, rfl⟩ (s_X5_digested hR.s10 (fun i hi => by have := szt i hi; omega) (fun i j hi h1 h2 => by rw [show 10 + 2 + i = 12 + i by omega]; have := (co0.2.2.2.2.2.2.2.2.1 i hi).2.1 j h1 h2; omega)) (fun z63 I63 L63 R63 hq63 => ?_)
        obtain ⟨rfl, rfl, rfl, rfl⟩ := hq63
        refine x_lret dX7_digest_66 rfl ?_
        rw [← hQ]
        refine ⟨_, rfl, ?_, rfl, rfl, rfl⟩
        rw [dq]
        rfl
      · exfalso; omega
  refine x_ldc2 (17) dX7_digest_0 lkX7_336 ?_
  refine x_lstore_n (lv' := [(0, _), (1, _)]) dX7_digest_3 rfl rfl rfl ?_
  refine x_iconst dX7_digest_4 ?_
  refine x_istore_n (lv' := [(0, _), (1, _), (3, _)]) dX7_digest_5 rfl rfl rfl ?_
  exact lp 0 (by omega)
end

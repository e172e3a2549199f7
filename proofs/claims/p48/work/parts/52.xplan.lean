def wkX (s r : Int) : Nat → Int
  | 0 => 0
  | k + 1 => z_or (wkX s r k) (z_shl (b01 (tb s (6 * (k : Int) + r).toNat = true)) (k : Int))
def rmX (I : MI) (h : Nat) (s : Int) : Int := if s < I h 0 then s else s - I h 0
def spX (I : MI) (p h : Nat) (w s : Int) : Int := if w < I p 1 then z_or (z_shl 1 (6 * w + rmX I h s)) (z_shl 1 (18 + rmX I h s)) else 0
def opX (I : MI) (p : Nat) (d t : Int) : Bool := !tb (z_or (I (p + 2) t) (z_and (I p 2) (z_xor (I (p + 1) t) (-1)))) d.toNat
def mgX (I : MI) (p : Nat) (w r t : Int) : Bool := tb (I (p + 4) t) (6 * w + r).toNat
def ftX (I : MI) (p : Nat) (j t : Int) : Bool := decide (z_and (I (p + 7) j) (z_xor (I (p + 4) t) (-1)) = 0) && decide (z_and (z_shl (I (p + 3) t) 18) (z_xor (I (p + 7) j) (-1)) = 0)
section
variable {G : GT} {I L : MI} {R : MR} {p h : Nat}
theorem s_X7_walkersIn {s r : Int} (hr : 0 ≤ r ∧ r < 18) : Sp G mtX7_walkersIn [mi s, mi r] shX I L R (qi (pu (wkX s r 3) I L R)) := by
  refine Sp.of pnX7_walkersIn rfl ?_
  show Rn G mtX7_walkersIn _ 0 [(0, mi s), (1, mi r)] [] shX I L R
  generalize hQ : (qi (pu (wkX s r 3) I L R)) = Q
  have loop : ∀ i : Nat, i ≤ 3 → Rn G mtX7_walkersIn Q 4 [(0, mi s), (1, mi r), (2, mi (wkX s r i)), (3, mi (i : Int))] [] shX I L R := by
    refine lpn 3 (fun i hi ih => ?_) ?_
    · refine x_iload_n dX7_walkersIn_4 3 rfl rfl ?_
      refine x_iconst dX7_walkersIn_5 ?_
      refine x_ic_ge (tgt := 30) dX7_walkersIn_6 (by decide) (by first | omega | exact z_and_r _ _ | exact z_or_r _ _ | exact z_xor_r _ _) (fun h6 => ?_) (fun h6 => ?_)
      · exfalso; omega
      · refine x_iload_n dX7_walkersIn_9 2 rfl rfl ?_
        refine x_iload_n dX7_walkersIn_10 0 rfl rfl ?_
        refine x_bipush dX7_walkersIn_11 (by decide) ?_
        refine x_iload_n dX7_walkersIn_13 3 rfl rfl ?_
        refine x_imul dX7_walkersIn_14 ?_
        refine x_iload_n dX7_walkersIn_15 1 rfl rfl ?_
        refine x_iadd dX7_walkersIn_16 ?_
        refine x_ishr dX7_walkersIn_17 ?_
        refine x_iconst dX7_walkersIn_18 ?_
        refine x_iand dX7_walkersIn_19 ?_
        rw [z_bit (by omega)]
        refine x_iload_n dX7_walkersIn_20 3 rfl rfl ?_
        refine x_ishl dX7_walkersIn_21 ?_
        refine x_ior dX7_walkersIn_22 ?_
        refine x_istore_n (lv' := [(0, _), (1, _), (2, _), (3, _)]) dX7_walkersIn_23 rfl rfl rfl ?_
        refine x_iinc (lv' := [(0, _), (1, _), (2, _), (3, _)]) dX7_walkersIn_24 3 rfl rfl rfl ?_
        refine x_goto (tgt := 4) dX7_walkersIn_27 (by decide) ?_
        exact ih
    · refine x_iload_n dX7_walkersIn_4 3 rfl rfl ?_
      refine x_iconst dX7_walkersIn_5 ?_
      refine x_ic_ge (tgt := 30) dX7_walkersIn_6 (by decide) (by first | omega | exact z_and_r _ _ | exact z_or_r _ _ | exact z_xor_r _ _) (fun h6 => ?_) (fun h6 => ?_)
      · refine x_iload_n dX7_walkersIn_30 2 rfl rfl ?_
        refine x_iret dX7_walkersIn_31 rfl ?_
        rw [← hQ]
        exact ⟨_, rfl, rfl, rfl, rfl, rfl⟩
      · exfalso; omega
  refine x_iconst dX7_walkersIn_0 ?_
  refine x_istore_n (lv' := [(0, _), (1, _), (2, _)]) dX7_walkersIn_1 rfl rfl rfl ?_
  refine x_iconst dX7_walkersIn_2 ?_
  refine x_istore_n (lv' := [(0, _), (1, _), (2, _), (3, _)]) dX7_walkersIn_3 rfl rfl rfl ?_
  exact loop 0 (by omega)
theorem s_X3_roomOf {s : Int} (hp : isP R p) (hh : isH R h) (hph : R p 0 = some h) (hs : rI s) (hb : rI (I h 0)) : Sp G mtX3_roomOf [mr p, mi s] shX I L R (qi (pu (rmX I h s) I L R)) := by
  refine Sp.of pnX3_roomOf rfl ?_
  show Rn G mtX3_roomOf _ 0 [(0, mr p), (1, mi s)] [] shX I L R
  generalize hQ : (qi (pu (rmX I h s) I L R)) = Q
  refine x_iload_n dX3_roomOf_0 1 rfl rfl ?_
  refine x_aload_n dX3_roomOf_1 0 rfl rfl ?_
  refine x_getR dX3_roomOf_2 flX3_9 (shP0 hp) rfl hph ?_
  refine x_getI dX3_roomOf_5 flX3_76 (shH0 hh) rfl ?_
  refine x_ic_ge (tgt := 15) dX3_roomOf_8 (by decide) (by first | omega | exact z_and_r _ _ | exact z_or_r _ _ | exact z_xor_r _ _) (fun h8 => ?_) (fun h8 => ?_)
  · refine x_iload_n dX3_roomOf_15 1 rfl rfl ?_
    refine x_aload_n dX3_roomOf_16 0 rfl rfl ?_
    refine x_getR dX3_roomOf_17 flX3_9 (shP0 hp) rfl hph ?_
    refine x_getI dX3_roomOf_20 flX3_76 (shH0 hh) rfl ?_
    refine x_isub dX3_roomOf_23 ?_
    refine x_iret dX3_roomOf_24 rfl ?_
    rw [← hQ]
    refine ⟨_, rfl, ?_, rfl, rfl, rfl⟩
    unfold rmX
    first | (rw [if_pos (by omega)]) | (rw [if_neg (by omega)])
  · refine x_iload_n dX3_roomOf_11 1 rfl rfl ?_
    refine x_goto (tgt := 24) dX3_roomOf_12 (by decide) ?_
    refine x_iret dX3_roomOf_24 rfl ?_
    rw [← hQ]
    refine ⟨_, rfl, ?_, rfl, rfl, rfl⟩
    unfold rmX
    first | (rw [if_pos (by omega)]) | (rw [if_neg (by omega)])
theorem s_X3_spot {w s : Int} (hp : isP R p) (hh : isH R h) (hph : R p 0 = some h) (hw : rI w) (hs : rI s) (hb : rI (I h 0)) (hu : rI (I p 1)) : Sp G mtX3_spot [mr p, mi w, mi s] shX I L R (qi (pu (spX I p h w s) I L R)) := by
  refine Sp.of pnX3_spot rfl ?_
  show Rn G mtX3_spot _ 0 [(0, mr p), (1, mi w), (2, mi s)] [] shX I L R
  generalize hQ : (qi (pu (spX I p h w s) I L R)) = Q
  refine x_iload_n dX3_spot_0 1 rfl rfl ?_
  refine x_aload_n dX3_spot_1 0 rfl rfl ?_
  refine x_getI dX3_spot_2 flX3_49 (shP0 hp) rfl ?_
  refine x_ic_ge (tgt := 31) dX3_spot_5 (by decide) (by first | omega | exact z_and_r _ _ | exact z_or_r _ _ | exact z_xor_r _ _) (fun h5 => ?_) (fun h5 => ?_)
  · refine x_iconst dX3_spot_31 ?_
    refine x_iret dX3_spot_32 rfl ?_
    rw [← hQ]
    refine ⟨_, rfl, ?_, rfl, rfl, rfl⟩
    unfold spX
    first | (rw [if_pos (by omega)]) | (rw [if_neg (by omega)])
  · refine x_iload_n dX3_spot_8 1 rfl rfl ?_
    refine x_aload_n dX3_spot_9 0 rfl rfl ?_
    refine x_iload_n dX3_spot_10 2 rfl rfl ?_
    refine x_callVi (as := [_]) dX3_spot_11 lvX3_85 rfl (shP0 hp) rfl rfl rfl rfl rfl ⟨rfl, rfl⟩ (s_X3_roomOf hp hh hph (by omega) (by omega)) (fun z11 I11 L11 R11 hq11 => ?_)
    obtain ⟨rfl, rfl, rfl, rfl⟩ := hq11
    refine x_callNi (as := [_, _]) dX3_spot_14 lvX3_89 rfl rfl rfl rfl ⟨rfl, rfl⟩ (s_X7_roomBit) (fun z14 I14 L14 R14 hq14 => ?_)
    obtain ⟨rfl, rfl, rfl, rfl⟩ := hq14
    refine x_iconst dX3_spot_17 ?_
    refine x_bipush dX3_spot_18 (by decide) ?_
    refine x_aload_n dX3_spot_20 0 rfl rfl ?_
    refine x_iload_n dX3_spot_21 2 rfl rfl ?_
    refine x_callVi (as := [_]) dX3_spot_22 lvX3_85 rfl (shP0 hp) rfl rfl rfl rfl rfl ⟨rfl, rfl⟩ (s_X3_roomOf hp hh hph (by omega) (by omega)) (fun z22 I22 L22 R22 hq22 => ?_)
    obtain ⟨rfl, rfl, rfl, rfl⟩ := hq22
    refine x_iadd dX3_spot_25 ?_
    refine x_ishl dX3_spot_26 ?_
    refine x_ior dX3_spot_27 ?_
    refine x_goto (tgt := 32) dX3_spot_28 (by decide) ?_
    refine x_iret dX3_spot_32 rfl ?_
    rw [← hQ]
    refine ⟨_, rfl, ?_, rfl, rfl, rfl⟩
    unfold spX
    first | (rw [if_pos (by omega)]) | (rw [if_neg (by omega)])
theorem s_X3_opens {d t : Int} (hp : isP R p) (hd : 0 ≤ d ∧ d < 32) (ht : 0 ≤ t ∧ t < 31) : Sp G mtX3_opens [mr p, mi d, mi t] shX I L R (qi (pu (b01 (opX I p d t = true)) I L R)) := by
  refine Sp.of pnX3_opens rfl ?_
  show Rn G mtX3_opens _ 0 [(0, mr p), (1, mi d), (2, mi t)] [] shX I L R
  generalize hQ : (qi (pu (b01 (opX I p d t = true)) I L R)) = Q
  refine x_aload_n dX3_opens_0 0 rfl rfl ?_
  refine x_getI dX3_opens_1 flX3_52 (shP0 hp) rfl ?_
  refine x_aload_n dX3_opens_4 0 rfl rfl ?_
  refine x_getR dX3_opens_5 flX3_15 (shP0 hp) rfl hp.2.1 ?_
  refine x_iload_n dX3_opens_8 2 rfl rfl ?_
  refine x_iald dX3_opens_9 (shP1 hp) (by omega) ?_
  refine x_iconst dX3_opens_10 ?_
  refine x_ixor dX3_opens_11 ?_
  refine x_iand dX3_opens_12 ?_
  refine x_istore_n (lv' := [(0, _), (1, _), (2, _), (3, _)]) dX3_opens_13 rfl rfl rfl ?_
  refine x_aload_n dX3_opens_14 0 rfl rfl ?_
  refine x_getR dX3_opens_15 flX3_19 (shP0 hp) rfl hp.2.2.1 ?_
  refine x_iload_n dX3_opens_18 2 rfl rfl ?_
  refine x_iald dX3_opens_19 (shP2 hp) (by omega) ?_
  refine x_iload_n dX3_opens_20 3 rfl rfl ?_
  refine x_ior dX3_opens_21 ?_
  refine x_iload_n dX3_opens_22 1 rfl rfl ?_
  refine x_ishr dX3_opens_23 ?_
  refine x_iconst dX3_opens_24 ?_
  refine x_iand dX3_opens_25 ?_
  rw [z_bit (by omega)]
  have hbr := b01_r (tb (z_or (I (p + 2) t) (z_and (I p 2) (z_xor (I (p + 1) t) (-1)))) d.toNat = true)
  refine x_if_ne (tgt := 33) dX3_opens_26 (by decide) (by first | omega | exact z_and_r _ _ | exact z_or_r _ _ | exact z_xor_r _ _) (fun h26 => ?_) (fun h26 => ?_)
  · refine x_iconst dX3_opens_33 ?_
    refine x_zret dX3_opens_34 rfl (by omega) ?_
    rw [← hQ]
    refine ⟨_, rfl, ?_, rfl, rfl, rfl⟩
    unfold opX
    first
    | exact b01_t (by rw [Bool.not_eq_true', ← Bool.not_eq_true]; exact b01_eq.mp (by assumption))
    | exact b01_f (by rw [Bool.not_eq_true', Bool.not_eq_false]; exact b01_ne.mp (by assumption))
  · refine x_iconst dX3_opens_29 ?_
    refine x_goto (tgt := 34) dX3_opens_30 (by decide) ?_
    refine x_zret dX3_opens_34 rfl (by omega) ?_
    rw [← hQ]
    refine ⟨_, rfl, ?_, rfl, rfl, rfl⟩
    unfold opX
    first
    | exact b01_t (by rw [Bool.not_eq_true', ← Bool.not_eq_true]; exact b01_eq.mp (by assumption))
    | exact b01_f (by rw [Bool.not_eq_true', Bool.not_eq_false]; exact b01_ne.mp (by assumption))
theorem s_X3_mayGo {w r t : Int} (hp : isP R p) (hw : 0 ≤ w ∧ w < 3) (hr : 0 ≤ r ∧ r < 6) (ht : 0 ≤ t ∧ t < 31) : Sp G mtX3_mayGo [mr p, mi w, mi r, mi t] shX I L R (qi (pu (b01 (mgX I p w r t = true)) I L R)) := by
  refine Sp.of pnX3_mayGo rfl ?_
  show Rn G mtX3_mayGo _ 0 [(0, mr p), (1, mi w), (2, mi r), (3, mi t)] [] shX I L R
  generalize hQ : (qi (pu (b01 (mgX I p w r t = true)) I L R)) = Q
  refine x_aload_n dX3_mayGo_0 0 rfl rfl ?_
  refine x_getR dX3_mayGo_1 flX3_25 (shP0 hp) rfl hp.2.2.2.2.1 ?_
  refine x_iload_n dX3_mayGo_4 3 rfl rfl ?_
  refine x_iald dX3_mayGo_5 (shP4 hp) (by omega) ?_
  refine x_bipush dX3_mayGo_6 (by decide) ?_
  refine x_iload_n dX3_mayGo_8 1 rfl rfl ?_
  refine x_imul dX3_mayGo_9 ?_
  refine x_iload_n dX3_mayGo_10 2 rfl rfl ?_
  refine x_iadd dX3_mayGo_11 ?_
  refine x_ishr dX3_mayGo_12 ?_
  refine x_iconst dX3_mayGo_13 ?_
  refine x_iand dX3_mayGo_14 ?_
  rw [z_bit (by omega)]
  have hbr := b01_r (tb (I (p + 4) t) (6 * w + r).toNat = true)
  refine x_if_eq (tgt := 22) dX3_mayGo_15 (by decide) (by first | omega | exact z_and_r _ _ | exact z_or_r _ _ | exact z_xor_r _ _) (fun h15 => ?_) (fun h15 => ?_)
  · refine x_iconst dX3_mayGo_22 ?_
    refine x_zret dX3_mayGo_23 rfl (by omega) ?_
    rw [← hQ]
    refine ⟨_, rfl, ?_, rfl, rfl, rfl⟩
    unfold mgX
    first
    | exact b01_t (b01_ne.mp (by assumption))
    | exact b01_f (b01_eq.mp (by assumption))
  · refine x_iconst dX3_mayGo_18 ?_
    refine x_goto (tgt := 23) dX3_mayGo_19 (by decide) ?_
    refine x_zret dX3_mayGo_23 rfl (by omega) ?_
    rw [← hQ]
    refine ⟨_, rfl, ?_, rfl, rfl, rfl⟩
    unfold mgX
    first
    | exact b01_t (b01_ne.mp (by assumption))
    | exact b01_f (b01_eq.mp (by assumption))
theorem s_X3_fits {j t : Int} (hp : isP R p) (hj : 0 ≤ j ∧ j < 1728) (ht : 0 ≤ t ∧ t < 31) : Sp G mtX3_fits [mr p, mi j, mi t] shX I L R (qi (pu (b01 (ftX I p j t = true)) I L R)) := by
  refine Sp.of pnX3_fits rfl ?_
  show Rn G mtX3_fits _ 0 [(0, mr p), (1, mi j), (2, mi t)] [] shX I L R
  generalize hQ : (qi (pu (b01 (ftX I p j t = true)) I L R)) = Q
  refine x_aload_n dX3_fits_0 0 rfl rfl ?_
  refine x_getR dX3_fits_1 flX3_34 (shP0 hp) rfl hp.2.2.2.2.2.2.2 ?_
  refine x_iload_n dX3_fits_4 1 rfl rfl ?_
  refine x_iald dX3_fits_5 (shP7 hp) (by omega) ?_
  refine x_aload_n dX3_fits_6 0 rfl rfl ?_
  refine x_getR dX3_fits_7 flX3_25 (shP0 hp) rfl hp.2.2.2.2.1 ?_
  refine x_iload_n dX3_fits_10 2 rfl rfl ?_
  refine x_iald dX3_fits_11 (shP4 hp) (by omega) ?_
  refine x_iconst dX3_fits_12 ?_
  refine x_ixor dX3_fits_13 ?_
  refine x_iand dX3_fits_14 ?_
  refine x_if_ne (tgt := 43) dX3_fits_15 (by decide) (by first | omega | exact z_and_r _ _ | exact z_or_r _ _ | exact z_xor_r _ _) (fun h15 => ?_) (fun h15 => ?_)
  · refine x_iconst dX3_fits_43 ?_
    refine x_zret dX3_fits_44 rfl (by omega) ?_
    rw [← hQ]
    refine ⟨_, rfl, ?_, rfl, rfl, rfl⟩
    unfold ftX
    first
    | (have h36b := h36
       first
       | (have hn : ¬ _ := h36b
          exact b01_f (fun q => by rw [Bool.and_eq_true, decide_eq_true_eq, decide_eq_true_eq] at q; exact hn q.2))
       | exact b01_t (by rw [Bool.and_eq_true, decide_eq_true_eq, decide_eq_true_eq]; exact ⟨h15, h36b⟩))
    | exact b01_f (fun q => by rw [Bool.and_eq_true, decide_eq_true_eq, decide_eq_true_eq] at q; exact h15 q.1)
  · refine x_aload_n dX3_fits_18 0 rfl rfl ?_
    refine x_getR dX3_fits_19 flX3_22 (shP0 hp) rfl hp.2.2.2.1 ?_
    refine x_iload_n dX3_fits_22 2 rfl rfl ?_
    refine x_iald dX3_fits_23 (shP3 hp) (by omega) ?_
    refine x_bipush dX3_fits_24 (by decide) ?_
    refine x_ishl dX3_fits_26 ?_
    refine x_aload_n dX3_fits_27 0 rfl rfl ?_
    refine x_getR dX3_fits_28 flX3_34 (shP0 hp) rfl hp.2.2.2.2.2.2.2 ?_
    refine x_iload_n dX3_fits_31 1 rfl rfl ?_
    refine x_iald dX3_fits_32 (shP7 hp) (by omega) ?_
    refine x_iconst dX3_fits_33 ?_
    refine x_ixor dX3_fits_34 ?_
    refine x_iand dX3_fits_35 ?_
    refine x_if_ne (tgt := 43) dX3_fits_36 (by decide) (by first | omega | exact z_and_r _ _ | exact z_or_r _ _ | exact z_xor_r _ _) (fun h36 => ?_) (fun h36 => ?_)
    · refine x_iconst dX3_fits_43 ?_
      refine x_zret dX3_fits_44 rfl (by omega) ?_
      rw [← hQ]
      refine ⟨_, rfl, ?_, rfl, rfl, rfl⟩
      unfold ftX
      first
      | (have h36b := h36
         first
         | (have hn : ¬ _ := h36b
            exact b01_f (fun q => by rw [Bool.and_eq_true, decide_eq_true_eq, decide_eq_true_eq] at q; exact hn q.2))
         | exact b01_t (by rw [Bool.and_eq_true, decide_eq_true_eq, decide_eq_true_eq]; exact ⟨h15, h36b⟩))
      | exact b01_f (fun q => by rw [Bool.and_eq_true, decide_eq_true_eq, decide_eq_true_eq] at q; exact h15 q.1)
    · refine x_iconst dX3_fits_39 ?_
      refine x_goto (tgt := 44) dX3_fits_40 (by decide) ?_
      refine x_zret dX3_fits_44 rfl (by omega) ?_
      rw [← hQ]
      refine ⟨_, rfl, ?_, rfl, rfl, rfl⟩
      unfold ftX
      first
      | (have h36b := h36
         first
         | (have hn : ¬ _ := h36b
            exact b01_f (fun q => by rw [Bool.and_eq_true, decide_eq_true_eq, decide_eq_true_eq] at q; exact hn q.2))
         | exact b01_t (by rw [Bool.and_eq_true, decide_eq_true_eq, decide_eq_true_eq]; exact ⟨h15, h36b⟩))
      | exact b01_f (fun q => by rw [Bool.and_eq_true, decide_eq_true_eq, decide_eq_true_eq] at q; exact h15 q.1)
end

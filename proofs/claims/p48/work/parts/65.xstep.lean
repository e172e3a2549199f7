/-! THE CLASS: the Walks: prices; what a step brings. -/
theorem z_and_nn {x y : Int} {n : Nat} (hn : n ≤ 31) (hx : 0 ≤ x ∧ x < 2 ^ n) : 0 ≤ z_and x y ∧ z_and x y < 2 ^ n := by
  have hb : (2 : Int) ^ n ≤ 2147483648 := by
    have h1 : (2 : Nat) ^ n ≤ 2 ^ 31 := Nat.pow_le_pow_right (by decide) hn
    have h2 : ((2 ^ n : Nat) : Int) = (2 : Int) ^ n := by simp
    omega
  refine (tb_up (z_and_r _ _) n hn).mpr (fun k h1 h2 => ?_)
  rw [tb_and, (tb_up (by omega) n hn).mp hx k h1 h2, Bool.false_and]
theorem z_and_cm (x y : Int) : z_and x y = z_and y x := tb_ext (z_and_r _ _) (z_and_r _ _) (fun k _ => by rw [tb_and, tb_and, Bool.and_comm])
/-- a step's misses, its sounds by themselves, its price -/
def msX (I : MI) (p h : Nat) (d : Int) : Int := pc (z_and (z_and d (I h 4)) (z_xor (I (p + 1) (I 19 11)) (-1)))
def slX (I : MI) (p : Nat) (d : Int) : Int := pc (z_and (I (p + 1) (I 19 11)) (z_xor d (-1)))
def prX (I : MI) (p h : Nat) (d : Int) : Int := 1024 * (msX I p h d * I 19 13 + slX I p d * I 19 14) + msX I p h d
theorem mul_32 {a b : Int} (ha : 0 ≤ a ∧ a ≤ 32) (hb : 0 ≤ b ∧ b ≤ 99) : 0 ≤ a * b ∧ a * b ≤ 3168 := by
  refine ⟨Int.mul_nonneg ha.1 hb.1, ?_⟩
  have h1 : a * b ≤ 32 * b := Int.mul_le_mul_of_nonneg_right ha.2 hb.1
  omega
theorem prX_r {I : MI} {p h : Nat} {d : Int} (hm : 0 ≤ I 19 13 ∧ I 19 13 ≤ 99) (hf : 0 ≤ I 19 14 ∧ I 19 14 ≤ 99) : 0 ≤ prX I p h d ∧ prX I p h d ≤ 6488096 := by
  have h1 : 0 ≤ msX I p h d ∧ msX I p h d ≤ 32 := pc_r _
  have h2 : 0 ≤ slX I p d ∧ slX I p d ≤ 32 := pc_r _
  have h3 := mul_32 h1 hm
  have h4 := mul_32 h2 hf
  unfold prX
  omega
def capX (x : Int) : Int := if x ≤ 1000000000000001 then x else 1000000000000001
def flX (I : MI) (d0 d1 d2 : Int) : Int := if I 19 12 = 0 then d0 else if I 19 12 = 1 then d1 else d2
def nt3 (I : MI) (d0 d1 d2 : Int) : MI :=
  m_up (m_up (ntX (ntX (ntX I 0 d0) 1 d1) 2 d2) 27 (I 19 11) (z_or (ntX (ntX (ntX I 0 d0) 1 d1) 2 d2 27 (I 19 11)) (z_or (z_or d0 d1) d2))) 28 (I 19 11) (z_and (ntX (ntX (ntX I 0 d0) 1 d1) 2 d2 28 (I 19 11)) (z_or (z_or d0 d1) d2))
def lkI (I L : MI) (na k : Nat) (d0 d1 d2 : Int) : MI := if I 19 10 = 5 ∧ L na (k : Int) ≠ 0 then nt3 I d0 d1 d2 else I
def lkL (I L : MI) (p h na nb j k : Nat) (d0 d1 d2 : Int) : MI :=
  if I 19 10 = 0 then m_up L nb (k : Int) (capX (L nb (k : Int) + L na (j : Int)))
  else if I 19 10 = 1 then m_up L nb (k : Int) (z_lorl (L nb (k : Int)) (soX (L na (j : Int)) (L 19 16) (flX I d0 d1 d2)))
  else if I 19 10 = 2 then m_up L nb (k : Int) (lsr (L nb (k : Int)) (L na (j : Int) + prX I p h (z_or (z_or d0 d1) d2)))
  else if I 19 10 = 3 then m_up L nb (k : Int) (max (L nb (k : Int)) (L na (j : Int)))
  else if I 19 10 = 4 then m_up L nb (j : Int) (capX (L nb (j : Int) + L na (k : Int)))
  else if L na (k : Int) = 0 then L else m_up L nb (j : Int) 1
section
variable {G : GT} {I L : MI} {R : MR} {p h na nb nk : Nat}

theorem s_X6_priceOf {d : Int} (hW : isW R p na nb nk) (hph : R p 0 = some h) (hh : isH R h) (hmn : 0 ≤ I 19 11 ∧ I 19 11 < 31) (hb : 0 ≤ I h 4 ∧ I h 4 < 256) (hs : 0 ≤ I (p + 1) (I 19 11) ∧ I (p + 1) (I 19 11) < 256) (hm : 0 ≤ I 19 13 ∧ I 19 13 ≤ 99) (hf : 0 ≤ I 19 14 ∧ I 19 14 ≤ 99) : Sp G mtX6_priceOf [mr 19, mi d] shX I L R (ql (pu (prX I p h d) I L R)) := by
  refine Sp.of pnX6_priceOf rfl ?_
  show Rn G mtX6_priceOf _ 0 [(0, mr 19), (1, mi d)] [] shX I L R
  generalize hQ : (ql (pu (prX I p h d) I L R)) = Q
  have a1 : 0 ≤ z_and (z_and d (I h 4)) (z_xor (I (p + 1) (I 19 11)) (-1)) ∧ z_and (z_and d (I h 4)) (z_xor (I (p + 1) (I 19 11)) (-1)) < 2 ^ 8 := z_and_nn (by omega) (by rw [z_and_cm]; exact z_and_nn (by omega) hb)
  have a2 : 0 ≤ z_and (I (p + 1) (I 19 11)) (z_xor d (-1)) ∧ z_and (I (p + 1) (I 19 11)) (z_xor d (-1)) < 2 ^ 8 := z_and_nn (by omega) hs
  have h1 : 0 ≤ msX I p h d ∧ msX I p h d ≤ 32 := pc_r _
  have h2 : 0 ≤ slX I p d ∧ slX I p d ≤ 32 := pc_r _
  have h3 := mul_32 h1 hm
  have h4 := mul_32 h2 hf
  unfold msX at h1 h3
  unfold slX at h2 h4
  refine x_aload_n dX6_priceOf_0 0 rfl rfl ?_
  refine x_getR dX6_priceOf_1 flX6_54 rfl rfl hW.2.2.1 ?_
  refine x_getR dX6_priceOf_4 flX6_192 (shP0 hW.2.1) rfl hW.2.1.2.1 ?_
  refine x_aload_n dX6_priceOf_7 0 rfl rfl ?_
  refine x_getI dX6_priceOf_8 flX6_175 rfl rfl ?_
  refine x_iald dX6_priceOf_11 (shP1 hW.2.1) (by omega) ?_
  refine x_istore_n (lv' := [(0, _), (1, _), (2, _)]) dX6_priceOf_12 rfl rfl rfl ?_
  refine x_iload_n dX6_priceOf_13 1 rfl rfl ?_
  refine x_aload_n dX6_priceOf_14 0 rfl rfl ?_
  refine x_getR dX6_priceOf_15 flX6_54 rfl rfl hW.2.2.1 ?_
  refine x_getR dX6_priceOf_18 flX6_58 (shP0 hW.2.1) rfl hph ?_
  refine x_getI dX6_priceOf_21 flX6_219 (shH0 hh) rfl ?_
  refine x_iand dX6_priceOf_24 ?_
  refine x_iload_n dX6_priceOf_25 2 rfl rfl ?_
  refine x_iconst dX6_priceOf_26 ?_
  refine x_ixor dX6_priceOf_27 ?_
  refine x_iand dX6_priceOf_28 ?_
  refine x_callSi (as := [_]) dX6_priceOf_29 lvX6_147 rfl rfl rfl rfl ⟨rfl, rfl⟩ (s_J6_bitCount (by omega)) (fun z29 I29 L29 R29 hq29 => ?_)
  obtain ⟨rfl, rfl, rfl, rfl⟩ := hq29
  refine x_istore_n (lv' := [(0, _), (1, _), (2, _), (3, _)]) dX6_priceOf_32 rfl rfl rfl ?_
  refine x_iload_n dX6_priceOf_33 2 rfl rfl ?_
  refine x_iload_n dX6_priceOf_34 1 rfl rfl ?_
  refine x_iconst dX6_priceOf_35 ?_
  refine x_ixor dX6_priceOf_36 ?_
  refine x_iand dX6_priceOf_37 ?_
  refine x_callSi (as := [_]) dX6_priceOf_38 lvX6_147 rfl rfl rfl rfl ⟨rfl, rfl⟩ (s_J6_bitCount (by omega)) (fun z38 I38 L38 R38 hq38 => ?_)
  obtain ⟨rfl, rfl, rfl, rfl⟩ := hq38
  refine x_istore (lv' := [(0, _), (1, _), (2, _), (3, _), (4, _)]) dX6_priceOf_41 rfl rfl ?_
  refine x_ldc2 (1024) dX6_priceOf_43 lkX6_222 ?_
  refine x_iload_n dX6_priceOf_46 3 rfl rfl ?_
  refine x_aload_n dX6_priceOf_47 0 rfl rfl ?_
  refine x_getI dX6_priceOf_48 flX6_126 rfl rfl ?_
  refine x_imul dX6_priceOf_51 ?_
  refine x_iload dX6_priceOf_52 4 rfl ?_
  refine x_aload_n dX6_priceOf_54 0 rfl rfl ?_
  refine x_getI dX6_priceOf_55 flX6_129 rfl rfl ?_
  refine x_imul dX6_priceOf_58 ?_
  refine x_iadd dX6_priceOf_59 ?_
  refine x_i2l dX6_priceOf_60 (by omega) ?_
  refine x_lmul dX6_priceOf_61 ?_
  refine x_iload_n dX6_priceOf_62 3 rfl rfl ?_
  refine x_i2l dX6_priceOf_63 (by omega) ?_
  refine x_ladd dX6_priceOf_64 ?_
  refine x_lret dX6_priceOf_65 rfl ?_
  rw [← hQ]
  exact ⟨_, rfl, rfl, rfl, rfl, rfl⟩
theorem s_capX {w : Int} (hw : 0 ≤ w ∧ w ≤ 9223372036854775807) : Sp G mtX7_capped [ml w] shX I L R (ql (pu (capX w) I L R)) := by
  unfold capX
  exact s_X7_capped hw
set_option maxHeartbeats 1000000 in
theorem s_X6_link {j k : Nat} {d0 d1 d2 : Int} (hW : isW R p na nb nk) (hph : R p 0 = some h) (hh : isH R h) (hj : j < 1728) (hk : k < 1728) (hmd : I 19 10 = 0 ∨ I 19 10 = 1 ∨ I 19 10 = 2 ∨ I 19 10 = 3 ∨ I 19 10 = 4 ∨ I 19 10 = 5) (hmn : 0 ≤ I 19 11 ∧ I 19 11 < 31) (hfo : rI (I 19 12)) (hd0 : rI d0) (hd1 : rI d1) (hd2 : rI d2) (hv : I 19 10 ≠ 1 → (0 ≤ L na (j : Int) ∧ L na (j : Int) ≤ 2305843009213693952) ∧ (0 ≤ L na (k : Int) ∧ L na (k : Int) ≤ 2305843009213693952) ∧ (0 ≤ L nb (j : Int) ∧ L nb (j : Int) ≤ 2305843009213693952) ∧ 0 ≤ L nb (k : Int) ∧ L nb (k : Int) ≤ 2305843009213693952) (hpr : I 19 10 = 2 → (0 ≤ I h 4 ∧ I h 4 < 256) ∧ (0 ≤ I (p + 1) (I 19 11) ∧ I (p + 1) (I 19 11) < 256) ∧ (0 ≤ I 19 13 ∧ I 19 13 ≤ 99) ∧ 0 ≤ I 19 14 ∧ I 19 14 ≤ 99) : Sp G mtX6_link [mr 19, mi ↑j, mi ↑k, mi d0, mi d1, mi d2] shX I L R (qv (fun I' L' R' => I' = lkI I L na k d0 d1 d2 ∧ L' = lkL I L p h na nb j k d0 d1 d2 ∧ R = R')) := by
  refine Sp.of pnX6_link rfl ?_
  show Rn G mtX6_link _ 0 [(0, mr 19), (1, mi ↑j), (2, mi ↑k), (3, mi d0), (4, mi d1), (5, mi d2)] [] shX I L R
  generalize hQ : (qv (fun I' L' R' => I' = lkI I L na k d0 d1 d2 ∧ L' = lkL I L p h na nb j k d0 d1 d2 ∧ R = R')) = Q
  have hna := hW.2.2.2.2.2.2.1
  have hnb := hW.2.2.2.2.2.2.2.1
  have hp1 := hW.2.1.1
  have f1 : ntX I 0 d0 19 11 = I 19 11 := rfl
  have f2 : ntX (ntX I 0 d0) 1 d1 19 11 = I 19 11 := rfl
  have f3 : ntX (ntX (ntX I 0 d0) 1 d1) 2 d2 19 11 = I 19 11 := rfl
  have hpx : I 19 10 = 2 → 0 ≤ prX I p h (z_or (z_or d0 d1) d2) ∧ prX I p h (z_or (z_or d0 d1) d2) ≤ 6488096 := fun q => prX_r (hpr q).2.2.1 (hpr q).2.2.2
  refine x_aload_n dX6_link_0 0 rfl rfl ?_
  refine x_getI dX6_link_1 flX6_79 rfl rfl ?_
  rcases hmd with sw4 | sw4 | sw4 | sw4 | sw4 | sw4
  · rw [sw4]
    refine x_tswIn (off := 36) (tgt := 40) dX6_link_4 (by decide) (by decide) rfl (by decide) ?_
    refine x_aload_n dX6_link_40 0 rfl rfl ?_
    refine x_getR dX6_link_41 flX6_38 rfl rfl hW.2.2.2.2.1 ?_
    have hv2 := hv (by omega)
    refine x_iload_n dX6_link_44 2 rfl rfl ?_
    refine x_aload_n dX6_link_45 0 rfl rfl ?_
    refine x_getR dX6_link_46 flX6_38 rfl rfl hW.2.2.2.2.1 ?_
    refine x_iload_n dX6_link_49 2 rfl rfl ?_
    refine x_lald dX6_link_50 (shW hW.2.2.2.2.2.2.2.1) (by omega) ?_
    refine x_aload_n dX6_link_51 0 rfl rfl ?_
    refine x_getR dX6_link_52 flX6_35 rfl rfl hW.2.2.2.1 ?_
    refine x_iload_n dX6_link_55 1 rfl rfl ?_
    refine x_lald dX6_link_56 (shW hW.2.2.2.2.2.2.1) (by omega) ?_
    refine x_ladd dX6_link_57 ?_
    refine x_callNl (as := [_]) dX6_link_58 lvX6_95 rfl rfl rfl rfl ⟨rfl, rfl⟩ (s_capX (by omega)) (fun z58 I58 L58 R58 hq58 => ?_)
    obtain ⟨rfl, rfl, rfl, rfl⟩ := hq58
    refine x_last dX6_link_61 (shW hW.2.2.2.2.2.2.2.1) (by omega) ?_
    refine x_goto (tgt := 277) dX6_link_62 (by decide) ?_
    refine x_vret dX6_link_277 rfl ?_
    rw [← hQ]
    refine ⟨rfl, ?_, ?_, rfl⟩
    · unfold lkI
      first
      | (rw [if_neg (by omega)]; done)
      | (rw [if_pos ⟨by assumption, by assumption⟩]; rfl)
      | (rw [if_neg (by rintro ⟨-, x2⟩; exact x2 (by assumption))])
    · unfold lkL
      first
      | (rw [if_pos sw4]; done)
      | (rw [if_neg (by omega), if_pos sw4]; unfold flX; first | (rw [if_pos (by assumption)]; done) | (rw [if_neg (by omega), if_pos (by assumption)]; done) | (rw [if_neg (by omega), if_neg (by omega)]; done))
      | (rw [if_neg (by omega), if_neg (by omega), if_pos sw4]; done)
      | (rw [if_neg (by omega), if_neg (by omega), if_neg (by omega), if_pos sw4]; done)
      | (rw [if_neg (by omega), if_neg (by omega), if_neg (by omega), if_neg (by omega), if_pos sw4]; done)
      | (rw [if_neg (by omega), if_neg (by omega), if_neg (by omega), if_neg (by omega), if_neg (by omega)]; first | (rw [if_pos (by assumption)]; done) | (rw [if_neg (by assumption)]))
  · rw [sw4]
    refine x_tswIn (off := 61) (tgt := 65) dX6_link_4 (by decide) (by decide) rfl (by decide) ?_
    refine x_aload_n dX6_link_65 0 rfl rfl ?_
    refine x_getR dX6_link_66 flX6_38 rfl rfl hW.2.2.2.2.1 ?_
    refine x_iload_n dX6_link_69 2 rfl rfl ?_
    refine x_dup2 dX6_link_70 rfl rfl ?_
    refine x_lald dX6_link_71 (shW hW.2.2.2.2.2.2.2.1) (by omega) ?_
    refine x_aload_n dX6_link_72 0 rfl rfl ?_
    refine x_aload_n dX6_link_73 0 rfl rfl ?_
    refine x_getR dX6_link_74 flX6_35 rfl rfl hW.2.2.2.1 ?_
    refine x_iload_n dX6_link_77 1 rfl rfl ?_
    refine x_lald dX6_link_78 (shW hW.2.2.2.2.2.2.1) (by omega) ?_
    refine x_aload_n dX6_link_79 0 rfl rfl ?_
    refine x_getI dX6_link_80 flX6_101 rfl rfl ?_
    refine x_if_ne (tgt := 90) dX6_link_83 (by decide) (by first | omega | exact z_and_r _ _ | exact z_or_r _ _ | exact z_xor_r _ _) (fun h83 => ?_) (fun h83 => ?_)
    · refine x_aload_n dX6_link_90 0 rfl rfl ?_
      refine x_getI dX6_link_91 flX6_101 rfl rfl ?_
      refine x_iconst dX6_link_94 ?_
      refine x_ic_ne (tgt := 103) dX6_link_95 (by decide) (by first | omega | exact z_and_r _ _ | exact z_or_r _ _ | exact z_xor_r _ _) (fun h95 => ?_) (fun h95 => ?_)
      · refine x_iload dX6_link_103 5 rfl ?_
        refine x_callVl (as := [_, _]) dX6_link_105 lvX6_208 rfl rfl rfl rfl rfl rfl rfl ⟨rfl, rfl⟩ (s_X6_stoodOn (by omega)) (fun z105 I105 L105 R105 hq105 => ?_)
        obtain ⟨rfl, rfl, rfl, rfl⟩ := hq105
        refine x_lor dX6_link_108 ?_
        refine x_last dX6_link_109 (shW hW.2.2.2.2.2.2.2.1) (by omega) ?_
        refine x_goto (tgt := 277) dX6_link_110 (by decide) ?_
        refine x_vret dX6_link_277 rfl ?_
        rw [← hQ]
        refine ⟨rfl, ?_, ?_, rfl⟩
        · unfold lkI
          first
          | (rw [if_neg (by omega)]; done)
          | (rw [if_pos ⟨by assumption, by assumption⟩]; rfl)
          | (rw [if_neg (by rintro ⟨-, x2⟩; exact x2 (by assumption))])
        · unfold lkL
          first
          | (rw [if_pos sw4]; done)
          | (rw [if_neg (by omega), if_pos sw4]; unfold flX; first | (rw [if_pos (by assumption)]; done) | (rw [if_neg (by omega), if_pos (by assumption)]; done) | (rw [if_neg (by omega), if_neg (by omega)]; done))
          | (rw [if_neg (by omega), if_neg (by omega), if_pos sw4]; done)
          | (rw [if_neg (by omega), if_neg (by omega), if_neg (by omega), if_pos sw4]; done)
          | (rw [if_neg (by omega), if_neg (by omega), if_neg (by omega), if_neg (by omega), if_pos sw4]; done)
          | (rw [if_neg (by omega), if_neg (by omega), if_neg (by omega), if_neg (by omega), if_neg (by omega)]; first | (rw [if_pos (by assumption)]; done) | (rw [if_neg (by assumption)]))
      · refine x_iload dX6_link_98 4 rfl ?_
        refine x_goto (tgt := 105) dX6_link_100 (by decide) ?_
        refine x_callVl (as := [_, _]) dX6_link_105 lvX6_208 rfl rfl rfl rfl rfl rfl rfl ⟨rfl, rfl⟩ (s_X6_stoodOn (by omega)) (fun z105 I105 L105 R105 hq105 => ?_)
        obtain ⟨rfl, rfl, rfl, rfl⟩ := hq105
        refine x_lor dX6_link_108 ?_
        refine x_last dX6_link_109 (shW hW.2.2.2.2.2.2.2.1) (by omega) ?_
        refine x_goto (tgt := 277) dX6_link_110 (by decide) ?_
        refine x_vret dX6_link_277 rfl ?_
        rw [← hQ]
        refine ⟨rfl, ?_, ?_, rfl⟩
        · unfold lkI
          first
          | (rw [if_neg (by omega)]; done)
          | (rw [if_pos ⟨by assumption, by assumption⟩]; rfl)
          | (rw [if_neg (by rintro ⟨-, x2⟩; exact x2 (by assumption))])
        · unfold lkL
          first
          | (rw [if_pos sw4]; done)
          | (rw [if_neg (by omega), if_pos sw4]; unfold flX; first | (rw [if_pos (by assumption)]; done) | (rw [if_neg (by omega), if_pos (by assumption)]; done) | (rw [if_neg (by omega), if_neg (by omega)]; done))
          | (rw [if_neg (by omega), if_neg (by omega), if_pos sw4]; done)
          | (rw [if_neg (by omega), if_neg (by omega), if_neg (by omega), if_pos sw4]; done)
          | (rw [if_neg (by omega), if_neg (by omega), if_neg (by omega), if_neg (by omega), if_pos sw4]; done)
          | (rw [if_neg (by omega), if_neg (by omega), if_neg (by omega), if_neg (by omega), if_neg (by omega)]; first | (rw [if_pos (by assumption)]; done) | (rw [if_neg (by assumption)]))
    · refine x_iload_n dX6_link_86 3 rfl rfl ?_
      refine x_goto (tgt := 105) dX6_link_87 (by decide) ?_
      refine x_callVl (as := [_, _]) dX6_link_105 lvX6_208 rfl rfl rfl rfl rfl rfl rfl ⟨rfl, rfl⟩ (s_X6_stoodOn (by omega)) (fun z105 I105 L105 R105 hq105 => ?_)
      obtain ⟨rfl, rfl, rfl, rfl⟩ := hq105
      refine x_lor dX6_link_108 ?_
      refine x_last dX6_link_109 (shW hW.2.2.2.2.2.2.2.1) (by omega) ?_
      refine x_goto (tgt := 277) dX6_link_110 (by decide) ?_
      refine x_vret dX6_link_277 rfl ?_
      rw [← hQ]
      refine ⟨rfl, ?_, ?_, rfl⟩
      · unfold lkI
        first
        | (rw [if_neg (by omega)]; done)
        | (rw [if_pos ⟨by assumption, by assumption⟩]; rfl)
        | (rw [if_neg (by rintro ⟨-, x2⟩; exact x2 (by assumption))])
      · unfold lkL
        first
        | (rw [if_pos sw4]; done)
        | (rw [if_neg (by omega), if_pos sw4]; unfold flX; first | (rw [if_pos (by assumption)]; done) | (rw [if_neg (by omega), if_pos (by assumption)]; done) | (rw [if_neg (by omega), if_neg (by omega)]; done))
        | (rw [if_neg (by omega), if_neg (by omega), if_pos sw4]; done)
        | (rw [if_neg (by omega), if_neg (by omega), if_neg (by omega), if_pos sw4]; done)
        | (rw [if_neg (by omega), if_neg (by omega), if_neg (by omega), if_neg (by omega), if_pos sw4]; done)
        | (rw [if_neg (by omega), if_neg (by omega), if_neg (by omega), if_neg (by omega), if_neg (by omega)]; first | (rw [if_pos (by assumption)]; done) | (rw [if_neg (by assumption)]))
  · rw [sw4]
    refine x_tswIn (off := 109) (tgt := 113) dX6_link_4 (by decide) (by decide) rfl (by decide) ?_
    have hv2 := hv (by omega)
    have hpx2 := hpx sw4
    refine x_aload_n dX6_link_113 0 rfl rfl ?_
    refine x_getR dX6_link_114 flX6_38 rfl rfl hW.2.2.2.2.1 ?_
    refine x_iload_n dX6_link_117 2 rfl rfl ?_
    refine x_aload_n dX6_link_118 0 rfl rfl ?_
    refine x_getR dX6_link_119 flX6_38 rfl rfl hW.2.2.2.2.1 ?_
    refine x_iload_n dX6_link_122 2 rfl rfl ?_
    refine x_lald dX6_link_123 (shW hW.2.2.2.2.2.2.2.1) (by omega) ?_
    refine x_aload_n dX6_link_124 0 rfl rfl ?_
    refine x_getR dX6_link_125 flX6_35 rfl rfl hW.2.2.2.1 ?_
    refine x_iload_n dX6_link_128 1 rfl rfl ?_
    refine x_lald dX6_link_129 (shW hW.2.2.2.2.2.2.1) (by omega) ?_
    refine x_aload_n dX6_link_130 0 rfl rfl ?_
    refine x_iload_n dX6_link_131 3 rfl rfl ?_
    refine x_iload dX6_link_132 4 rfl ?_
    refine x_ior dX6_link_134 ?_
    refine x_iload dX6_link_135 5 rfl ?_
    refine x_ior dX6_link_137 ?_
    refine x_callVl (as := [_]) dX6_link_138 lvX6_212 rfl rfl rfl rfl rfl rfl rfl ⟨rfl, rfl⟩ (s_X6_priceOf hW hph hh hmn (hpr sw4).1 (hpr sw4).2.1 (hpr sw4).2.2.1 (hpr sw4).2.2.2) (fun z138 I138 L138 R138 hq138 => ?_)
    obtain ⟨rfl, rfl, rfl, rfl⟩ := hq138
    refine x_ladd dX6_link_141 ?_
    refine x_callSl (as := [_, _]) dX6_link_142 lvX6_132 rfl rfl rfl rfl ⟨rfl, rfl⟩ (s_X6_lesser (by omega) (by omega)) (fun z142 I142 L142 R142 hq142 => ?_)
    obtain ⟨rfl, rfl, rfl, rfl⟩ := hq142
    refine x_last dX6_link_145 (shW hW.2.2.2.2.2.2.2.1) (by omega) ?_
    refine x_goto (tgt := 277) dX6_link_146 (by decide) ?_
    refine x_vret dX6_link_277 rfl ?_
    rw [← hQ]
    refine ⟨rfl, ?_, ?_, rfl⟩
    · unfold lkI
      first
      | (rw [if_neg (by omega)]; done)
      | (rw [if_pos ⟨by assumption, by assumption⟩]; rfl)
      | (rw [if_neg (by rintro ⟨-, x2⟩; exact x2 (by assumption))])
    · unfold lkL
      first
      | (rw [if_pos sw4]; done)
      | (rw [if_neg (by omega), if_pos sw4]; unfold flX; first | (rw [if_pos (by assumption)]; done) | (rw [if_neg (by omega), if_pos (by assumption)]; done) | (rw [if_neg (by omega), if_neg (by omega)]; done))
      | (rw [if_neg (by omega), if_neg (by omega), if_pos sw4]; done)
      | (rw [if_neg (by omega), if_neg (by omega), if_neg (by omega), if_pos sw4]; done)
      | (rw [if_neg (by omega), if_neg (by omega), if_neg (by omega), if_neg (by omega), if_pos sw4]; done)
      | (rw [if_neg (by omega), if_neg (by omega), if_neg (by omega), if_neg (by omega), if_neg (by omega)]; first | (rw [if_pos (by assumption)]; done) | (rw [if_neg (by assumption)]))
  · rw [sw4]
    refine x_tswIn (off := 145) (tgt := 149) dX6_link_4 (by decide) (by decide) rfl (by decide) ?_
    have hv2 := hv (by omega)
    refine x_aload_n dX6_link_149 0 rfl rfl ?_
    refine x_getR dX6_link_150 flX6_38 rfl rfl hW.2.2.2.2.1 ?_
    refine x_iload_n dX6_link_153 2 rfl rfl ?_
    refine x_aload_n dX6_link_154 0 rfl rfl ?_
    refine x_getR dX6_link_155 flX6_38 rfl rfl hW.2.2.2.2.1 ?_
    refine x_iload_n dX6_link_158 2 rfl rfl ?_
    refine x_lald dX6_link_159 (shW hW.2.2.2.2.2.2.2.1) (by omega) ?_
    refine x_aload_n dX6_link_160 0 rfl rfl ?_
    refine x_getR dX6_link_161 flX6_35 rfl rfl hW.2.2.2.1 ?_
    refine x_iload_n dX6_link_164 1 rfl rfl ?_
    refine x_lald dX6_link_165 (shW hW.2.2.2.2.2.2.1) (by omega) ?_
    refine x_lmax dX6_link_166 lvX6_142 rfl (by first | omega | exact z_and_r _ _ | exact z_or_r _ _ | exact z_xor_r _ _) ?_
    refine x_last dX6_link_169 (shW hW.2.2.2.2.2.2.2.1) (by omega) ?_
    refine x_goto (tgt := 277) dX6_link_170 (by decide) ?_
    refine x_vret dX6_link_277 rfl ?_
    rw [← hQ]
    refine ⟨rfl, ?_, ?_, rfl⟩
    · unfold lkI
      first
      | (rw [if_neg (by omega)]; done)
      | (rw [if_pos ⟨by assumption, by assumption⟩]; rfl)
      | (rw [if_neg (by rintro ⟨-, x2⟩; exact x2 (by assumption))])
    · unfold lkL
      first
      | (rw [if_pos sw4]; done)
      | (rw [if_neg (by omega), if_pos sw4]; unfold flX; first | (rw [if_pos (by assumption)]; done) | (rw [if_neg (by omega), if_pos (by assumption)]; done) | (rw [if_neg (by omega), if_neg (by omega)]; done))
      | (rw [if_neg (by omega), if_neg (by omega), if_pos sw4]; done)
      | (rw [if_neg (by omega), if_neg (by omega), if_neg (by omega), if_pos sw4]; done)
      | (rw [if_neg (by omega), if_neg (by omega), if_neg (by omega), if_neg (by omega), if_pos sw4]; done)
      | (rw [if_neg (by omega), if_neg (by omega), if_neg (by omega), if_neg (by omega), if_neg (by omega)]; first | (rw [if_pos (by assumption)]; done) | (rw [if_neg (by assumption)]))
  · rw [sw4]
    refine x_tswIn (off := 169) (tgt := 173) dX6_link_4 (by decide) (by decide) rfl (by decide) ?_
    have hv2 := hv (by omega)
    refine x_aload_n dX6_link_173 0 rfl rfl ?_
    refine x_getR dX6_link_174 flX6_38 rfl rfl hW.2.2.2.2.1 ?_
    refine x_iload_n dX6_link_177 1 rfl rfl ?_
    refine x_aload_n dX6_link_178 0 rfl rfl ?_
    refine x_getR dX6_link_179 flX6_38 rfl rfl hW.2.2.2.2.1 ?_
    refine x_iload_n dX6_link_182 1 rfl rfl ?_
    refine x_lald dX6_link_183 (shW hW.2.2.2.2.2.2.2.1) (by omega) ?_
    refine x_aload_n dX6_link_184 0 rfl rfl ?_
    refine x_getR dX6_link_185 flX6_35 rfl rfl hW.2.2.2.1 ?_
    refine x_iload_n dX6_link_188 2 rfl rfl ?_
    refine x_lald dX6_link_189 (shW hW.2.2.2.2.2.2.1) (by omega) ?_
    refine x_ladd dX6_link_190 ?_
    refine x_callNl (as := [_]) dX6_link_191 lvX6_95 rfl rfl rfl rfl ⟨rfl, rfl⟩ (s_capX (by omega)) (fun z191 I191 L191 R191 hq191 => ?_)
    obtain ⟨rfl, rfl, rfl, rfl⟩ := hq191
    refine x_last dX6_link_194 (shW hW.2.2.2.2.2.2.2.1) (by omega) ?_
    refine x_goto (tgt := 277) dX6_link_195 (by decide) ?_
    refine x_vret dX6_link_277 rfl ?_
    rw [← hQ]
    refine ⟨rfl, ?_, ?_, rfl⟩
    · unfold lkI
      first
      | (rw [if_neg (by omega)]; done)
      | (rw [if_pos ⟨by assumption, by assumption⟩]; rfl)
      | (rw [if_neg (by rintro ⟨-, x2⟩; exact x2 (by assumption))])
    · unfold lkL
      first
      | (rw [if_pos sw4]; done)
      | (rw [if_neg (by omega), if_pos sw4]; unfold flX; first | (rw [if_pos (by assumption)]; done) | (rw [if_neg (by omega), if_pos (by assumption)]; done) | (rw [if_neg (by omega), if_neg (by omega)]; done))
      | (rw [if_neg (by omega), if_neg (by omega), if_pos sw4]; done)
      | (rw [if_neg (by omega), if_neg (by omega), if_neg (by omega), if_pos sw4]; done)
      | (rw [if_neg (by omega), if_neg (by omega), if_neg (by omega), if_neg (by omega), if_pos sw4]; done)
      | (rw [if_neg (by omega), if_neg (by omega), if_neg (by omega), if_neg (by omega), if_neg (by omega)]; first | (rw [if_pos (by assumption)]; done) | (rw [if_neg (by assumption)]))
  · rw [sw4]
    refine x_tswOut (tgt := 198) dX6_link_4 (by decide) (by omega) (by decide) ?_
    have hv2 := hv (by omega)
    refine x_aload_n dX6_link_198 0 rfl rfl ?_
    refine x_getR dX6_link_199 flX6_35 rfl rfl hW.2.2.2.1 ?_
    refine x_iload_n dX6_link_202 2 rfl rfl ?_
    refine x_lald dX6_link_203 (shW hW.2.2.2.2.2.2.1) (by omega) ?_
    refine x_lconst 0 dX6_link_204 rfl ?_
    refine x_lc_ne (tgt := 212) dX6_link_205 dX6_link_206 (by decide) (by first | omega | exact z_and_r _ _ | exact z_or_r _ _ | exact z_xor_r _ _) (fun h205 => ?_) (fun h205 => ?_)
    · refine x_aload_n dX6_link_212 0 rfl rfl ?_
      refine x_getR dX6_link_213 flX6_38 rfl rfl hW.2.2.2.2.1 ?_
      refine x_iload_n dX6_link_216 1 rfl rfl ?_
      refine x_lconst 1 dX6_link_217 rfl ?_
      refine x_last dX6_link_218 (shW hW.2.2.2.2.2.2.2.1) (by omega) ?_
      refine x_aload_n dX6_link_219 0 rfl rfl ?_
      refine x_iconst dX6_link_220 ?_
      refine x_iload_n dX6_link_221 3 rfl rfl ?_
      refine x_callVv (as := [_, _]) dX6_link_222 lvX6_216 rfl rfl rfl rfl rfl rfl rfl ⟨rfl, rfl⟩ (s_X6_note hW (by omega) (by omega)) (fun I222 L222 R222 hq222 => ?_)
      obtain ⟨rfl, rfl, rfl⟩ := hq222
      refine x_aload_n dX6_link_225 0 rfl rfl ?_
      refine x_iconst dX6_link_226 ?_
      refine x_iload dX6_link_227 4 rfl ?_
      refine x_callVv (as := [_, _]) dX6_link_229 lvX6_216 rfl rfl rfl rfl rfl rfl rfl ⟨rfl, rfl⟩ (s_X6_note hW (by omega) (by omega)) (fun I229 L229 R229 hq229 => ?_)
      obtain ⟨rfl, rfl, rfl⟩ := hq229
      refine x_aload_n dX6_link_232 0 rfl rfl ?_
      refine x_iconst dX6_link_233 ?_
      refine x_iload dX6_link_234 5 rfl ?_
      refine x_callVv (as := [_, _]) dX6_link_236 lvX6_216 rfl rfl rfl rfl rfl rfl rfl ⟨rfl, rfl⟩ (s_X6_note hW (by omega) (by omega)) (fun I236 L236 R236 hq236 => ?_)
      obtain ⟨rfl, rfl, rfl⟩ := hq236
      refine x_aload_n dX6_link_239 0 rfl rfl ?_
      refine x_getR dX6_link_240 flX6_29 rfl rfl (hW.1 19 4 27 rfl) ?_
      refine x_aload_n dX6_link_243 0 rfl rfl ?_
      refine x_getI dX6_link_244 flX6_175 rfl rfl ?_
      refine x_dup2 dX6_link_247 rfl rfl ?_
      refine x_iald dX6_link_248 rfl (by omega) ?_
      refine x_iload_n dX6_link_249 3 rfl rfl ?_
      refine x_iload dX6_link_250 4 rfl ?_
      refine x_ior dX6_link_252 ?_
      refine x_iload dX6_link_253 5 rfl ?_
      refine x_ior dX6_link_255 ?_
      refine x_ior dX6_link_256 ?_
      refine x_iast dX6_link_257 rfl (by omega) ?_
      refine x_aload_n dX6_link_258 0 rfl rfl ?_
      refine x_getR dX6_link_259 flX6_32 rfl rfl (hW.1 19 5 28 rfl) ?_
      refine x_aload_n dX6_link_262 0 rfl rfl ?_
      refine y_getI dX6_link_263 flX6_175 rfl rfl (m_up_ne (by decide) _) ?_
      refine x_dup2 dX6_link_266 rfl rfl ?_
      refine y_iald dX6_link_267 rfl (by omega) (m_up_ne (by decide) _) ?_
      refine x_iload_n dX6_link_268 3 rfl rfl ?_
      refine x_iload dX6_link_269 4 rfl ?_
      refine x_ior dX6_link_271 ?_
      refine x_iload dX6_link_272 5 rfl ?_
      refine x_ior dX6_link_274 ?_
      refine x_iand dX6_link_275 ?_
      refine x_iast dX6_link_276 rfl (by omega) ?_
      refine x_vret dX6_link_277 rfl ?_
      rw [← hQ]
      refine ⟨rfl, ?_, ?_, rfl⟩
      · unfold lkI
        first
        | (rw [if_neg (by omega)]; done)
        | (rw [if_pos ⟨by assumption, by assumption⟩]; rfl)
        | (rw [if_neg (by rintro ⟨-, x2⟩; exact x2 (by assumption))])
      · unfold lkL
        first
        | (rw [if_pos sw4]; done)
        | (rw [if_neg (by omega), if_pos sw4]; unfold flX; first | (rw [if_pos (by assumption)]; done) | (rw [if_neg (by omega), if_pos (by assumption)]; done) | (rw [if_neg (by omega), if_neg (by omega)]; done))
        | (rw [if_neg (by omega), if_neg (by omega), if_pos sw4]; done)
        | (rw [if_neg (by omega), if_neg (by omega), if_neg (by omega), if_pos sw4]; done)
        | (rw [if_neg (by omega), if_neg (by omega), if_neg (by omega), if_neg (by omega), if_pos sw4]; done)
        | (rw [if_neg (by omega), if_neg (by omega), if_neg (by omega), if_neg (by omega), if_neg (by omega)]; first | (rw [if_pos (by assumption)]; done) | (rw [if_neg (by assumption)]))
    · refine x_goto (tgt := 277) dX6_link_209 (by decide) ?_
      refine x_vret dX6_link_277 rfl ?_
      rw [← hQ]
      refine ⟨rfl, ?_, ?_, rfl⟩
      · unfold lkI
        first
        | (rw [if_neg (by omega)]; done)
        | (rw [if_pos ⟨by assumption, by assumption⟩]; rfl)
        | (rw [if_neg (by rintro ⟨-, x2⟩; exact x2 (by assumption))])
      · unfold lkL
        first
        | (rw [if_pos sw4]; done)
        | (rw [if_neg (by omega), if_pos sw4]; unfold flX; first | (rw [if_pos (by assumption)]; done) | (rw [if_neg (by omega), if_pos (by assumption)]; done) | (rw [if_neg (by omega), if_neg (by omega)]; done))
        | (rw [if_neg (by omega), if_neg (by omega), if_pos sw4]; done)
        | (rw [if_neg (by omega), if_neg (by omega), if_neg (by omega), if_pos sw4]; done)
        | (rw [if_neg (by omega), if_neg (by omega), if_neg (by omega), if_neg (by omega), if_pos sw4]; done)
        | (rw [if_neg (by omega), if_neg (by omega), if_neg (by omega), if_neg (by omega), if_neg (by omega)]; first | (rw [if_pos (by assumption)]; done) | (rw [if_neg (by assumption)]))
end

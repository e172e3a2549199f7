/-! THE CLASS: the Walks: fewestIn, mostIn, firstMeeting, walkersThrough, minutesOf. -/
def ltA (I L : MI) (p t : Nat) (these : Int) : Nat → Int
  | 0 => 3
  | j + 1 => if inX L j t = true then min (ltA I L p t these j) (pc (z_and (I (p + 7) (j : Int)) these)) else ltA I L p t these j
def mtA (I L : MI) (p t : Nat) (these : Int) : Nat → Int
  | 0 => 0
  | j + 1 => if inX L j t = true then max (mtA I L p t these j) (pc (z_and (I (p + 7) (j : Int)) these)) else mtA I L p t these j
theorem ltA_r (I L : MI) (p t : Nat) (these : Int) : ∀ j, 0 ≤ ltA I L p t these j ∧ ltA I L p t these j ≤ 3
  | 0 => by unfold ltA; omega
  | j + 1 => by
    have := ltA_r I L p t these j
    have := pc_r (z_and (I (p + 7) (j : Int)) these)
    unfold ltA
    split <;> omega
theorem mtA_r (I L : MI) (p t : Nat) (these : Int) : ∀ j, 0 ≤ mtA I L p t these j ∧ mtA I L p t these j ≤ 32
  | 0 => by unfold mtA; omega
  | j + 1 => by
    have := mtA_r I L p t these j
    have := pc_r (z_and (I (p + 7) (j : Int)) these)
    unfold mtA
    split <;> omega
/-- whether a state that is in has the two together -/
def arX (I L : MI) (p t : Nat) (w o : Int) (m : Nat) : Prop := ∃ j, j < m ∧ inX L j t = true ∧ z_and (z_shr (I (p + 7) (j : Int)) (6 * w)) 63 = z_and (z_shr (I (p + 7) (j : Int)) (6 * o)) 63
theorem arF_iff {κ : MI} {w o t : Nat} : ∀ n, arF κ w o t n = true ↔ ∃ s, s < n ∧ alv κ t s = true ∧ rm s w = rm s o
  | 0 => ⟨fun q => Bool.noConfusion q, fun ⟨s, h, _⟩ => by omega⟩
  | n + 1 => by
    unfold arF
    rw [Bool.or_eq_true, arF_iff n, Bool.and_eq_true, beq_iff_eq]
    constructor
    · rintro (⟨s, h1, h2⟩ | h)
      · exact ⟨s, by omega, h2⟩
      · exact ⟨n, by omega, h⟩
    · rintro ⟨s, h1, h2⟩
      by_cases e : s = n
      · subst e; exact Or.inr h2
      · exact Or.inl ⟨s, by omega, h2⟩
/-- the minutes whose bit stands -/
def mnX (I : MI) (c : Nat) (d : Int) : Nat → Int := smi (fun t => z_and (z_shr (I c (t : Int)) d) 1)
theorem z_and_cap {x y : Int} (h : 0 ≤ y ∧ y ≤ 2147483647) : 0 ≤ z_and x y ∧ z_and x y ≤ 2147483647 := by
  have q := z_and_nn (x := y) (y := x) (n := 31) (by omega) (by omega)
  rw [z_and_cm] at q
  omega
theorem z_and_01 (x : Int) : 0 ≤ z_and x 1 ∧ z_and x 1 ≤ 1 := by
  have q := z_and_nn (x := 1) (y := x) (n := 1) (by omega) (by omega)
  rw [z_and_cm] at q
  omega
theorem mnX_r (I : MI) (c : Nat) (d : Int) : ∀ t : Nat, 0 ≤ mnX I c d t ∧ mnX I c d t ≤ t
  | 0 => by unfold mnX smi; omega
  | t + 1 => by
    have h := mnX_r I c d t
    have h1 := z_and_01 (z_shr (I c (t : Int)) d)
    unfold mnX at h ⊢
    unfold smi
    omega
section
variable {G : GT} {I L : MI} {R : MR} {p h na nb nk : Nat}

theorem s_X6_isIn2 {j t : Nat} (hR : okR R) (hj : j < 1728) (ht : t < 31) : Sp G mtX6_isIn [mr 19, mi ↑j, mi ↑t] shX I L R (qi (pu (b01 (inX L j t = true)) I L R)) := by
  refine Sp.of pnX6_isIn rfl ?_
  show Rn G mtX6_isIn _ 0 [(0, mr 19), (1, mi ↑j), (2, mi ↑t)] [] shX I L R
  generalize hQ : (qi (pu (b01 (inX L j t = true)) I L R)) = Q
  obtain ⟨d1, d2⟩ := z_div64 j hj
  have hix : (t : Int) * 27 + ((j / 64 : Nat) : Int) = ((27 * t + j / 64 : Nat) : Int) := by omega
  refine x_aload_n dX6_isIn_0 0 rfl rfl ?_
  refine x_getR dX6_isIn_1 flX6_18 rfl rfl (hR 19 1 24 rfl) ?_
  refine x_iload_n dX6_isIn_4 2 rfl rfl ?_
  refine x_bipush dX6_isIn_5 (by decide) ?_
  refine x_imul dX6_isIn_7 ?_
  refine x_iload_n dX6_isIn_8 1 rfl rfl ?_
  refine x_bipush dX6_isIn_9 (by decide) ?_
  refine x_ishr dX6_isIn_11 ?_
  rw [d1]
  refine x_iadd dX6_isIn_12 ?_
  rw [hix]
  refine x_lald dX6_isIn_13 rfl (by omega) ?_
  refine x_iload_n dX6_isIn_14 1 rfl rfl ?_
  refine x_bipush dX6_isIn_15 (by decide) ?_
  refine x_iand dX6_isIn_17 ?_
  rw [d2]
  refine x_lshr dX6_isIn_18 ?_
  refine x_lconst 1 dX6_isIn_19 rfl ?_
  refine x_land dX6_isIn_20 ?_
  rw [z_bitl (by omega), Int.toNat_natCast]
  have hbr := b01_r (inX L j t = true)
  show Rn G mtX6_isIn Q _ _ [ml (b01 (inX L j t = true))] shX I L R
  refine x_lconst 0 dX6_isIn_21 rfl ?_
  refine x_lc_eq (tgt := 30) dX6_isIn_22 dX6_isIn_23 (by decide) (by omega) (fun h22 => ?_) (fun h22 => ?_)
  · refine x_iconst dX6_isIn_30 ?_
    refine x_zret dX6_isIn_31 rfl (by omega) ?_
    rw [← hQ]
    refine ⟨_, rfl, ?_, rfl, rfl, rfl⟩
    first
    | exact b01_t (b01_ne.mp (by assumption))
    | exact b01_f (b01_eq.mp (by assumption))
  · refine x_iconst dX6_isIn_26 ?_
    refine x_goto (tgt := 31) dX6_isIn_27 (by decide) ?_
    refine x_zret dX6_isIn_31 rfl (by omega) ?_
    rw [← hQ]
    refine ⟨_, rfl, ?_, rfl, rfl, rfl⟩
    first
    | exact b01_t (b01_ne.mp (by assumption))
    | exact b01_f (b01_eq.mp (by assumption))
theorem s_X6_mayBe2 {n t : Nat} (hR : okR R) (hp : isP R p) (hn : I p 3 = (n : Int)) (hn2 : n ≤ 1728) (ht : t < 31) : Sp G mtX6_mayBe [mr 19, mr p, mi ↑t] shX I L R (qi (pu (mbF I L p t n) I L R)) := by
  refine Sp.of pnX6_mayBe rfl ?_
  show Rn G mtX6_mayBe _ 0 [(0, mr 19), (1, mr p), (2, mi ↑t)] [] shX I L R
  generalize hQ : (qi (pu (mbF I L p t n) I L R)) = Q
  have loop : ∀ j : Nat, j ≤ n → Rn G mtX6_mayBe Q 5 [(0, mr 19), (1, mr p), (2, mi (t : Int)), (3, mi (mbF I L p t j)), (4, mi (j : Int))] [] shX I L R := by
    refine lpn n (fun j hj ih => ?_) ?_
    · have hs : mbF I L p t (j + 1) = if inX L j t then z_or (mbF I L p t j) (I (p + 7) (j : Int)) else mbF I L p t j := rfl
      refine x_iload dX6_mayBe_5 4 rfl ?_
      refine x_aload_n dX6_mayBe_7 1 rfl rfl ?_
      refine x_getI dX6_mayBe_8 flX6_85 (shP0 hp) rfl ?_
      rw [hn]
      refine x_ic_ge (tgt := 40) dX6_mayBe_11 (by decide) (by first | omega | exact z_and_r _ _ | exact z_or_r _ _ | exact z_xor_r _ _) (fun h11 => ?_) (fun h11 => ?_)
      · exfalso; omega
      · refine x_aload_n dX6_mayBe_14 0 rfl rfl ?_
        refine x_iload dX6_mayBe_15 4 rfl ?_
        refine x_iload_n dX6_mayBe_17 2 rfl rfl ?_
        refine x_callVi (as := [_, _]) dX6_mayBe_18 lvX6_138 rfl rfl rfl rfl rfl rfl rfl ⟨rfl, rfl⟩ (s_X6_isIn2 hR (by omega) ht) (fun z18 I18 L18 R18 hq18 => ?_)
        obtain ⟨rfl, rfl, rfl, rfl⟩ := hq18
        refine y_ifb_eq (tgt := 34) dX6_mayBe_21 (by decide) (fun h21 => ?_) (fun h21 => ?_)
        · refine x_iinc (lv' := [(0, _), (1, _), (2, _), (3, _), (4, _)]) dX6_mayBe_34 4 rfl rfl rfl ?_
          refine x_goto (tgt := 5) dX6_mayBe_37 (by decide) ?_
          first
          | (have hb : inX L j t = true := h21
             rw [hs, if_pos hb] at ih
             exact ih)
          | (have hb : ¬ inX L j t = true := h21
             rw [hs, if_neg hb] at ih
             exact ih)
        · refine x_iload_n dX6_mayBe_24 3 rfl rfl ?_
          refine x_aload_n dX6_mayBe_25 1 rfl rfl ?_
          refine x_getR dX6_mayBe_26 flX6_88 (shP0 hp) rfl hp.2.2.2.2.2.2.2 ?_
          refine x_iload dX6_mayBe_29 4 rfl ?_
          refine x_iald dX6_mayBe_31 (shP7 hp) (by omega) ?_
          refine x_ior dX6_mayBe_32 ?_
          refine x_istore_n (lv' := [(0, _), (1, _), (2, _), (3, _), (4, _)]) dX6_mayBe_33 rfl rfl rfl ?_
          refine x_iinc (lv' := [(0, _), (1, _), (2, _), (3, _), (4, _)]) dX6_mayBe_34 4 rfl rfl rfl ?_
          refine x_goto (tgt := 5) dX6_mayBe_37 (by decide) ?_
          first
          | (have hb : inX L j t = true := h21
             rw [hs, if_pos hb] at ih
             exact ih)
          | (have hb : ¬ inX L j t = true := h21
             rw [hs, if_neg hb] at ih
             exact ih)
    · refine x_iload dX6_mayBe_5 4 rfl ?_
      refine x_aload_n dX6_mayBe_7 1 rfl rfl ?_
      refine x_getI dX6_mayBe_8 flX6_85 (shP0 hp) rfl ?_
      rw [hn]
      refine x_ic_ge (tgt := 40) dX6_mayBe_11 (by decide) (by first | omega | exact z_and_r _ _ | exact z_or_r _ _ | exact z_xor_r _ _) (fun h11 => ?_) (fun h11 => ?_)
      · refine x_iload_n dX6_mayBe_40 3 rfl rfl ?_
        refine x_iret dX6_mayBe_41 rfl ?_
        rw [← hQ]
        exact ⟨_, rfl, rfl, rfl, rfl, rfl⟩
      · exfalso; omega
  refine x_iconst dX6_mayBe_0 ?_
  refine x_istore_n (lv' := [(0, _), (1, _), (2, _), (3, _)]) dX6_mayBe_1 rfl rfl rfl ?_
  refine x_iconst dX6_mayBe_2 ?_
  refine x_istore (lv' := [(0, _), (1, _), (2, _), (3, _), (4, _)]) dX6_mayBe_3 rfl rfl ?_
  exact loop 0 (by omega)
theorem s_X6_mustBe2 {n t : Nat} (hR : okR R) (hp : isP R p) (hn : I p 3 = (n : Int)) (hn2 : n ≤ 1728) (ht : t < 31) : Sp G mtX6_mustBe [mr 19, mr p, mi ↑t] shX I L R (qi (pu (muF I L p t n) I L R)) := by
  refine Sp.of pnX6_mustBe rfl ?_
  show Rn G mtX6_mustBe _ 0 [(0, mr 19), (1, mr p), (2, mi ↑t)] [] shX I L R
  generalize hQ : (qi (pu (muF I L p t n) I L R)) = Q
  have loop : ∀ j : Nat, j ≤ n → Rn G mtX6_mustBe Q 5 [(0, mr 19), (1, mr p), (2, mi (t : Int)), (3, mi (muF I L p t j)), (4, mi (j : Int))] [] shX I L R := by
    refine lpn n (fun j hj ih => ?_) ?_
    · have hs : muF I L p t (j + 1) = if inX L j t then z_and (muF I L p t j) (I (p + 7) (j : Int)) else muF I L p t j := rfl
      refine x_iload dX6_mustBe_5 4 rfl ?_
      refine x_aload_n dX6_mustBe_7 1 rfl rfl ?_
      refine x_getI dX6_mustBe_8 flX6_85 (shP0 hp) rfl ?_
      rw [hn]
      refine x_ic_ge (tgt := 40) dX6_mustBe_11 (by decide) (by first | omega | exact z_and_r _ _ | exact z_or_r _ _ | exact z_xor_r _ _) (fun h11 => ?_) (fun h11 => ?_)
      · exfalso; omega
      · refine x_aload_n dX6_mustBe_14 0 rfl rfl ?_
        refine x_iload dX6_mustBe_15 4 rfl ?_
        refine x_iload_n dX6_mustBe_17 2 rfl rfl ?_
        refine x_callVi (as := [_, _]) dX6_mustBe_18 lvX6_138 rfl rfl rfl rfl rfl rfl rfl ⟨rfl, rfl⟩ (s_X6_isIn2 hR (by omega) ht) (fun z18 I18 L18 R18 hq18 => ?_)
        obtain ⟨rfl, rfl, rfl, rfl⟩ := hq18
        refine y_ifb_eq (tgt := 34) dX6_mustBe_21 (by decide) (fun h21 => ?_) (fun h21 => ?_)
        · refine x_iinc (lv' := [(0, _), (1, _), (2, _), (3, _), (4, _)]) dX6_mustBe_34 4 rfl rfl rfl ?_
          refine x_goto (tgt := 5) dX6_mustBe_37 (by decide) ?_
          first
          | (have hb : inX L j t = true := h21
             rw [hs, if_pos hb] at ih
             exact ih)
          | (have hb : ¬ inX L j t = true := h21
             rw [hs, if_neg hb] at ih
             exact ih)
        · refine x_iload_n dX6_mustBe_24 3 rfl rfl ?_
          refine x_aload_n dX6_mustBe_25 1 rfl rfl ?_
          refine x_getR dX6_mustBe_26 flX6_88 (shP0 hp) rfl hp.2.2.2.2.2.2.2 ?_
          refine x_iload dX6_mustBe_29 4 rfl ?_
          refine x_iald dX6_mustBe_31 (shP7 hp) (by omega) ?_
          refine x_iand dX6_mustBe_32 ?_
          refine x_istore_n (lv' := [(0, _), (1, _), (2, _), (3, _), (4, _)]) dX6_mustBe_33 rfl rfl rfl ?_
          refine x_iinc (lv' := [(0, _), (1, _), (2, _), (3, _), (4, _)]) dX6_mustBe_34 4 rfl rfl rfl ?_
          refine x_goto (tgt := 5) dX6_mustBe_37 (by decide) ?_
          first
          | (have hb : inX L j t = true := h21
             rw [hs, if_pos hb] at ih
             exact ih)
          | (have hb : ¬ inX L j t = true := h21
             rw [hs, if_neg hb] at ih
             exact ih)
    · refine x_iload dX6_mustBe_5 4 rfl ?_
      refine x_aload_n dX6_mustBe_7 1 rfl rfl ?_
      refine x_getI dX6_mustBe_8 flX6_85 (shP0 hp) rfl ?_
      rw [hn]
      refine x_ic_ge (tgt := 40) dX6_mustBe_11 (by decide) (by first | omega | exact z_and_r _ _ | exact z_or_r _ _ | exact z_xor_r _ _) (fun h11 => ?_) (fun h11 => ?_)
      · refine x_iload_n dX6_mustBe_40 3 rfl rfl ?_
        refine x_iret dX6_mustBe_41 rfl ?_
        rw [← hQ]
        exact ⟨_, rfl, rfl, rfl, rfl, rfl⟩
      · exfalso; omega
  refine x_iconst dX6_mustBe_0 ?_
  refine x_istore_n (lv' := [(0, _), (1, _), (2, _), (3, _)]) dX6_mustBe_1 rfl rfl rfl ?_
  refine x_iconst dX6_mustBe_2 ?_
  refine x_istore (lv' := [(0, _), (1, _), (2, _), (3, _), (4, _)]) dX6_mustBe_3 rfl rfl ?_
  exact loop 0 (by omega)
theorem s_X6_fewestIn {n t : Nat} {these : Int} (hR : okR R) (hp : isP R p) (hn : I p 3 = (n : Int)) (hn2 : n ≤ 1728) (ht : t < 31) (hth : 0 ≤ these ∧ these ≤ 2147483647) : Sp G mtX6_fewestIn [mr 19, mr p, mi ↑t, mi these] shX I L R (qi (pu (ltA I L p t these n) I L R)) := by
  refine Sp.of pnX6_fewestIn rfl ?_
  show Rn G mtX6_fewestIn _ 0 [(0, mr 19), (1, mr p), (2, mi ↑t), (3, mi these)] [] shX I L R
  generalize hQ : (qi (pu (ltA I L p t these n) I L R)) = Q
  have loop : ∀ j : Nat, j ≤ n → Rn G mtX6_fewestIn Q 6 [(0, mr 19), (1, mr p), (2, mi (t : Int)), (3, mi these), (4, mi (ltA I L p t these j)), (5, mi (j : Int))] [] shX I L R := by
    refine lpn n (fun j hj ih => ?_) ?_
    · have w1 := ltA_r I L p t these j
      have es : ltA I L p t these (j + 1) = if inX L j t = true then min (ltA I L p t these j) (pc (z_and (I (p + 7) (j : Int)) these)) else ltA I L p t these j := rfl
      have hbr := b01_r (inX L j t = true)
      have hz : 0 ≤ z_and (I (p + 7) (j : Int)) these ∧ z_and (I (p + 7) (j : Int)) these ≤ 2147483647 := by
        have := z_and_cap (x := I (p + 7) (j : Int)) hth
        omega
      have hpc := pc_r (z_and (I (p + 7) (j : Int)) these)
      refine x_iload dX6_fewestIn_6 5 rfl ?_
      refine x_aload_n dX6_fewestIn_8 1 rfl rfl ?_
      refine x_getI dX6_fewestIn_9 flX6_85 (shP0 hp) rfl ?_
      rw [hn]
      refine x_ic_ge (tgt := 50) dX6_fewestIn_12 (by decide) (by first | omega | exact z_and_r _ _) (fun h12 => ?_) (fun h12 => ?_)
      · exfalso; omega
      · refine x_aload_n dX6_fewestIn_15 0 rfl rfl ?_
        refine x_iload dX6_fewestIn_16 5 rfl ?_
        refine x_iload_n dX6_fewestIn_18 2 rfl rfl ?_
        refine x_callVi (as := [_, _]) dX6_fewestIn_19 lvX6_138 rfl rfl rfl rfl rfl rfl rfl ⟨rfl, rfl⟩ (s_X6_isIn2 hR (by omega) (by omega)) (fun z19 I19 L19 R19 hq19 => ?_)
        obtain ⟨rfl, rfl, rfl, rfl⟩ := hq19
        refine y_ifb_eq (tgt := 44) dX6_fewestIn_22 (by decide) (fun h22 => ?_) (fun h22 => ?_)
        · refine x_iinc (lv' := [(0, _), (1, _), (2, _), (3, _), (4, _), (5, _)]) dX6_fewestIn_44 5 rfl rfl rfl ?_
          refine x_goto (tgt := 6) dX6_fewestIn_47 (by decide) ?_
          first
          | (rw [if_pos (show inX L j t = true by assumption)] at es
             rw [es] at ih
             exact ih)
          | (rw [if_neg (show ¬ inX L j t = true by assumption)] at es
             rw [es] at ih
             exact ih)
        · refine x_iload dX6_fewestIn_25 4 rfl ?_
          refine x_aload_n dX6_fewestIn_27 1 rfl rfl ?_
          refine x_getR dX6_fewestIn_28 flX6_88 (shP0 hp) rfl hp.2.2.2.2.2.2.2 ?_
          refine x_iload dX6_fewestIn_31 5 rfl ?_
          refine x_iald dX6_fewestIn_33 (shP7 hp) (by omega) ?_
          refine x_iload_n dX6_fewestIn_34 3 rfl rfl ?_
          refine x_iand dX6_fewestIn_35 ?_
          refine x_callSi (as := [_]) dX6_fewestIn_36 lvX6_147 rfl rfl rfl rfl ⟨rfl, rfl⟩ (s_J6_bitCount hz) (fun z36 I36 L36 R36 hq36 => ?_)
          obtain ⟨rfl, rfl, rfl, rfl⟩ := hq36
          refine x_imin dX6_fewestIn_39 lvX6_152 rfl (by first | omega | exact z_and_r _ _) ?_
          refine x_istore (lv' := [(0, _), (1, _), (2, _), (3, _), (4, _), (5, _)]) dX6_fewestIn_42 rfl rfl ?_
          refine x_iinc (lv' := [(0, _), (1, _), (2, _), (3, _), (4, _), (5, _)]) dX6_fewestIn_44 5 rfl rfl rfl ?_
          refine x_goto (tgt := 6) dX6_fewestIn_47 (by decide) ?_
          first
          | (rw [if_pos (show inX L j t = true by assumption)] at es
             rw [es] at ih
             exact ih)
          | (rw [if_neg (show ¬ inX L j t = true by assumption)] at es
             rw [es] at ih
             exact ih)
    · refine x_iload dX6_fewestIn_6 5 rfl ?_
      refine x_aload_n dX6_fewestIn_8 1 rfl rfl ?_
      refine x_getI dX6_fewestIn_9 flX6_85 (shP0 hp) rfl ?_
      rw [hn]
      refine x_ic_ge (tgt := 50) dX6_fewestIn_12 (by decide) (by first | omega | exact z_and_r _ _) (fun h12 => ?_) (fun h12 => ?_)
      · refine x_iload dX6_fewestIn_50 4 rfl ?_
        refine x_iret dX6_fewestIn_52 rfl ?_
        rw [← hQ]
        exact ⟨_, rfl, rfl, rfl, rfl, rfl⟩
      · exfalso; omega
  refine x_iconst dX6_fewestIn_0 ?_
  refine x_istore (lv' := [(0, _), (1, _), (2, _), (3, _), (4, _)]) dX6_fewestIn_1 rfl rfl ?_
  refine x_iconst dX6_fewestIn_3 ?_
  refine x_istore (lv' := [(0, _), (1, _), (2, _), (3, _), (4, _), (5, _)]) dX6_fewestIn_4 rfl rfl ?_
  exact loop 0 (by omega)
theorem s_X6_mostIn {n t : Nat} {these : Int} (hR : okR R) (hp : isP R p) (hn : I p 3 = (n : Int)) (hn2 : n ≤ 1728) (ht : t < 31) (hth : 0 ≤ these ∧ these ≤ 2147483647) : Sp G mtX6_mostIn [mr 19, mr p, mi ↑t, mi these] shX I L R (qi (pu (mtA I L p t these n) I L R)) := by
  refine Sp.of pnX6_mostIn rfl ?_
  show Rn G mtX6_mostIn _ 0 [(0, mr 19), (1, mr p), (2, mi ↑t), (3, mi these)] [] shX I L R
  generalize hQ : (qi (pu (mtA I L p t these n) I L R)) = Q
  have loop : ∀ j : Nat, j ≤ n → Rn G mtX6_mostIn Q 6 [(0, mr 19), (1, mr p), (2, mi (t : Int)), (3, mi these), (4, mi (mtA I L p t these j)), (5, mi (j : Int))] [] shX I L R := by
    refine lpn n (fun j hj ih => ?_) ?_
    · have w1 := mtA_r I L p t these j
      have es : mtA I L p t these (j + 1) = if inX L j t = true then max (mtA I L p t these j) (pc (z_and (I (p + 7) (j : Int)) these)) else mtA I L p t these j := rfl
      have hbr := b01_r (inX L j t = true)
      have hz : 0 ≤ z_and (I (p + 7) (j : Int)) these ∧ z_and (I (p + 7) (j : Int)) these ≤ 2147483647 := by
        have := z_and_cap (x := I (p + 7) (j : Int)) hth
        omega
      have hpc := pc_r (z_and (I (p + 7) (j : Int)) these)
      refine x_iload dX6_mostIn_6 5 rfl ?_
      refine x_aload_n dX6_mostIn_8 1 rfl rfl ?_
      refine x_getI dX6_mostIn_9 flX6_85 (shP0 hp) rfl ?_
      rw [hn]
      refine x_ic_ge (tgt := 50) dX6_mostIn_12 (by decide) (by first | omega | exact z_and_r _ _) (fun h12 => ?_) (fun h12 => ?_)
      · exfalso; omega
      · refine x_aload_n dX6_mostIn_15 0 rfl rfl ?_
        refine x_iload dX6_mostIn_16 5 rfl ?_
        refine x_iload_n dX6_mostIn_18 2 rfl rfl ?_
        refine x_callVi (as := [_, _]) dX6_mostIn_19 lvX6_138 rfl rfl rfl rfl rfl rfl rfl ⟨rfl, rfl⟩ (s_X6_isIn2 hR (by omega) (by omega)) (fun z19 I19 L19 R19 hq19 => ?_)
        obtain ⟨rfl, rfl, rfl, rfl⟩ := hq19
        refine y_ifb_eq (tgt := 44) dX6_mostIn_22 (by decide) (fun h22 => ?_) (fun h22 => ?_)
        · refine x_iinc (lv' := [(0, _), (1, _), (2, _), (3, _), (4, _), (5, _)]) dX6_mostIn_44 5 rfl rfl rfl ?_
          refine x_goto (tgt := 6) dX6_mostIn_47 (by decide) ?_
          first
          | (rw [if_pos (show inX L j t = true by assumption)] at es
             rw [es] at ih
             exact ih)
          | (rw [if_neg (show ¬ inX L j t = true by assumption)] at es
             rw [es] at ih
             exact ih)
        · refine x_iload dX6_mostIn_25 4 rfl ?_
          refine x_aload_n dX6_mostIn_27 1 rfl rfl ?_
          refine x_getR dX6_mostIn_28 flX6_88 (shP0 hp) rfl hp.2.2.2.2.2.2.2 ?_
          refine x_iload dX6_mostIn_31 5 rfl ?_
          refine x_iald dX6_mostIn_33 (shP7 hp) (by omega) ?_
          refine x_iload_n dX6_mostIn_34 3 rfl rfl ?_
          refine x_iand dX6_mostIn_35 ?_
          refine x_callSi (as := [_]) dX6_mostIn_36 lvX6_147 rfl rfl rfl rfl ⟨rfl, rfl⟩ (s_J6_bitCount hz) (fun z36 I36 L36 R36 hq36 => ?_)
          obtain ⟨rfl, rfl, rfl, rfl⟩ := hq36
          refine x_imax dX6_mostIn_39 lvX6_155 rfl (by first | omega | exact z_and_r _ _) ?_
          refine x_istore (lv' := [(0, _), (1, _), (2, _), (3, _), (4, _), (5, _)]) dX6_mostIn_42 rfl rfl ?_
          refine x_iinc (lv' := [(0, _), (1, _), (2, _), (3, _), (4, _), (5, _)]) dX6_mostIn_44 5 rfl rfl rfl ?_
          refine x_goto (tgt := 6) dX6_mostIn_47 (by decide) ?_
          first
          | (rw [if_pos (show inX L j t = true by assumption)] at es
             rw [es] at ih
             exact ih)
          | (rw [if_neg (show ¬ inX L j t = true by assumption)] at es
             rw [es] at ih
             exact ih)
    · refine x_iload dX6_mostIn_6 5 rfl ?_
      refine x_aload_n dX6_mostIn_8 1 rfl rfl ?_
      refine x_getI dX6_mostIn_9 flX6_85 (shP0 hp) rfl ?_
      rw [hn]
      refine x_ic_ge (tgt := 50) dX6_mostIn_12 (by decide) (by first | omega | exact z_and_r _ _) (fun h12 => ?_) (fun h12 => ?_)
      · refine x_iload dX6_mostIn_50 4 rfl ?_
        refine x_iret dX6_mostIn_52 rfl ?_
        rw [← hQ]
        exact ⟨_, rfl, rfl, rfl, rfl, rfl⟩
      · exfalso; omega
  refine x_iconst dX6_mostIn_0 ?_
  refine x_istore (lv' := [(0, _), (1, _), (2, _), (3, _), (4, _)]) dX6_mostIn_1 rfl rfl ?_
  refine x_iconst dX6_mostIn_3 ?_
  refine x_istore (lv' := [(0, _), (1, _), (2, _), (3, _), (4, _), (5, _)]) dX6_mostIn_4 rfl rfl ?_
  exact loop 0 (by omega)
theorem s_X6_firstMeeting {κ : MI} {n w o : Nat} (hR : okR R) (tw : tW R na nb nk) (hp : isP R p) (hph : R p 0 = some h) (hh : isH R h) (k : PKR I p h n κ) (st : SETS κ I L p h n) (hw : w < us κ) (ho : o < us κ) : Sp G mtX6_firstMeeting [mr 19, mr p, mi ↑w, mi ↑o] shX I L R (qi (fun z I' L' R' => z = meF κ w o (lst κ + 1) 0 ∧ I' = I ∧ L' = L ∧ R' = m_up R 19 9 (some p))) := by
  refine Sp.of pnX6_firstMeeting rfl ?_
  show Rn G mtX6_firstMeeting _ 0 [(0, mr 19), (1, mr p), (2, mi ↑w), (3, mi ↑o)] [] shX I L R
  generalize hQ : (qi (fun z I' L' R' => z = meF κ w o (lst κ + 1) 0 ∧ I' = I ∧ L' = L ∧ R' = m_up R 19 9 (some p))) = Q
  have hp1 := hp.1
  have hh1 := hh.1
  have hlt := PK_last k.1
  have hn2 := (PQ_n k.1.1).2
  have hn3 : I p 3 = (n : Int) := k.1.1.2.2.2.2.1
  have hus := PK_us k.1
  obtain ⟨S, hS⟩ : ∃ S, S = m_up R 19 9 (some p) := ⟨_, rfl⟩
  have hW : isW S p na nb nk := by rw [hS]; exact tw.w hR hp1
  have r0 : RFw R S := by rw [hS]; exact (RFw.rf R).up (by omega) _
  have hph0 : S p 0 = some h := by rw [hS, m_up_ne (by omega)]; exact hph
  have hh0 : isH S h := r0.iH hh
  have hp2 := hW.2.1
  have hph2 := hph0
  have hh2 := hh0
  have tg : ∀ j : Nat, j < n → (z_and (z_shr (I (p + 7) (j : Int)) (6 * (w : Int))) 63 = z_and (z_shr (I (p + 7) (j : Int)) (6 * (o : Int))) 63 ↔ rm (sgX I p h j) w = rm (sgX I p h j) o) := fun j hj => by
    have h6 := k.1.1.2.1.1
    have r1 := rm_sg k.1 hj hw
    have r2 := rm_sg k.1 hj ho
    rw [sp_shl k.1 hj hw, sp_shl k.1 hj ho]
    exact z_sh_inj (by omega) (by omega)
  have arr : ∀ t : Nat, t ≤ lst κ → (arF κ w o t (nst κ) = true ↔ arX I L p t (w : Int) (o : Int) n) := fun t ht => by
    rw [arF_iff]
    constructor
    · rintro ⟨s, hs, ha, e⟩
      obtain ⟨j, hj, rfl⟩ := alv_cl k (by omega) hs ha
      exact ⟨j, hj, (st t ht j (by omega)).mpr ⟨hj, ha⟩, (tg j hj).mpr e⟩
    · rintro ⟨j, hj, h1, h2⟩
      have ha := ((st t ht j (by omega)).mp h1).2
      exact ⟨sgX I p h j, (sgX_lt k.1 hj).1, ha, (tg j hj).mp h2⟩
  have lp : ∀ t : Nat, t ≤ lst κ + 1 → meF κ w o (lst κ + 1 - t) t = meF κ w o (lst κ + 1) 0 → Rn G mtX6_firstMeeting Q 8 [(0, mr 19), (1, mr p), (2, mi (w : Int)), (3, mi (o : Int)), (4, mi (t : Int))] [] shX I L S := by
    refine lpn (lst κ + 1) (fun t ht ih => ?_) ?_
    · intro em
      have em2 : meF κ w o (lst κ + 1 - t) t = if arF κ w o t (nst κ) then (t : Int) else meF κ w o (lst κ + 1 - (t + 1)) (t + 1) := by
        rw [show lst κ + 1 - t = (lst κ + 1 - (t + 1)) + 1 by omega]
        rfl
      have inner : ∀ j : Nat, j ≤ n → ¬ arX I L p t (w : Int) (o : Int) j → Rn G mtX6_firstMeeting Q 26 [(0, mr 19), (1, mr p), (2, mi (w : Int)), (3, mi (o : Int)), (4, mi (t : Int)), (5, mi (j : Int))] [] shX I L S := by
        refine lpn n (fun j hj ihj => ?_) ?_
        · intro hno
          have hbr := b01_r (inX L j t = true)
          have hbr2 := b01_r (z_and (z_shr (I (p + 7) (j : Int)) (6 * (w : Int))) 63 = z_and (z_shr (I (p + 7) (j : Int)) (6 * (o : Int))) 63)
          have keep : ¬ (inX L j t = true ∧ z_and (z_shr (I (p + 7) (j : Int)) (6 * (w : Int))) 63 = z_and (z_shr (I (p + 7) (j : Int)) (6 * (o : Int))) 63) → ¬ arX I L p t (w : Int) (o : Int) (j + 1) := by
            rintro hn ⟨x, hx, h1, h2⟩
            by_cases e : x = j
            · subst e
              exact hn ⟨h1, h2⟩
            · exact hno ⟨x, by omega, h1, h2⟩
          refine x_iload dX6_firstMeeting_26 5 rfl ?_
          refine x_aload_n dX6_firstMeeting_28 0 rfl rfl ?_
          refine x_getR dX6_firstMeeting_29 flX6_54 rfl rfl hW.2.2.1 ?_
          refine x_getI dX6_firstMeeting_32 flX6_85 (shP0 hp2) rfl ?_
          rw [hn3]
          refine x_ic_ge (tgt := 69) dX6_firstMeeting_35 (by decide) (by omega) (fun h35 => ?_) (fun h35 => ?_)
          · exfalso; omega
          · refine x_aload_n dX6_firstMeeting_38 0 rfl rfl ?_
            refine x_iload dX6_firstMeeting_39 5 rfl ?_
            refine x_iload dX6_firstMeeting_41 4 rfl ?_
            refine x_callVi (as := [_, _]) dX6_firstMeeting_43 lvX6_138 rfl rfl rfl rfl rfl rfl rfl ⟨rfl, rfl⟩ (s_X6_isIn hW (by omega) (by omega)) (fun z43 I43 L43 R43 hq43 => ?_)
            obtain ⟨rfl, rfl, rfl, rfl⟩ := hq43
            refine y_ifb_eq (tgt := 63) dX6_firstMeeting_46 (by decide) (fun h46 => ?_) (fun h46 => ?_)
            · refine x_iinc (lv' := [(0, _), (1, _), (2, _), (3, _), (4, _), (5, _)]) dX6_firstMeeting_63 5 rfl rfl rfl ?_
              refine x_goto (tgt := 26) dX6_firstMeeting_66 (by decide) ?_
              first
              | exact ihj (keep (fun z => absurd z.1 (by assumption)))
              | exact ihj (keep (fun z => absurd z.2 (by assumption)))
            · refine x_aload_n dX6_firstMeeting_49 0 rfl rfl ?_
              refine x_iload dX6_firstMeeting_50 5 rfl ?_
              refine x_iload_n dX6_firstMeeting_52 2 rfl rfl ?_
              refine x_iload_n dX6_firstMeeting_53 3 rfl rfl ?_
              refine x_callVi (as := [_, _, _]) dX6_firstMeeting_54 lvX6_108 rfl rfl rfl rfl rfl rfl rfl ⟨rfl, rfl⟩ (s_X6_together hW (by omega)) (fun z54 I54 L54 R54 hq54 => ?_)
              obtain ⟨rfl, rfl, rfl, rfl⟩ := hq54
              refine y_ifb_eq (tgt := 63) dX6_firstMeeting_57 (by decide) (fun h57 => ?_) (fun h57 => ?_)
              · refine x_iinc (lv' := [(0, _), (1, _), (2, _), (3, _), (4, _), (5, _)]) dX6_firstMeeting_63 5 rfl rfl rfl ?_
                refine x_goto (tgt := 26) dX6_firstMeeting_66 (by decide) ?_
                first
                | exact ihj (keep (fun z => absurd z.1 (by assumption)))
                | exact ihj (keep (fun z => absurd z.2 (by assumption)))
              · refine x_iload dX6_firstMeeting_60 4 rfl ?_
                refine x_iret dX6_firstMeeting_62 rfl ?_
                rw [← hQ]
                refine ⟨_, rfl, ?_, rfl, rfl, hS⟩
                rw [if_pos ((arr t (by omega)).mpr ⟨j, hj, by assumption, by assumption⟩)] at em2
                rw [← em, em2]
        · intro hno
          refine x_iload dX6_firstMeeting_26 5 rfl ?_
          refine x_aload_n dX6_firstMeeting_28 0 rfl rfl ?_
          refine x_getR dX6_firstMeeting_29 flX6_54 rfl rfl hW.2.2.1 ?_
          refine x_getI dX6_firstMeeting_32 flX6_85 (shP0 hp2) rfl ?_
          rw [hn3]
          refine x_ic_ge (tgt := 69) dX6_firstMeeting_35 (by decide) (by omega) (fun h35 => ?_) (fun h35 => ?_)
          · refine x_iinc (lv' := [(0, _), (1, _), (2, _), (3, _), (4, _), (5, _)]) dX6_firstMeeting_69 4 rfl rfl rfl ?_
            refine x_goto (tgt := 8) dX6_firstMeeting_72 (by decide) ?_
            refine x_top (lv' := [(0, _), (1, _), (2, _), (3, _), (4, _)]) 5 rfl ?_
            rw [if_neg (fun z => hno ((arr t (by omega)).mp z))] at em2
            exact ih (em2.symm.trans em)
          · exfalso; omega
      refine x_iload dX6_firstMeeting_8 4 rfl ?_
      refine x_aload_n dX6_firstMeeting_10 0 rfl rfl ?_
      refine x_getR dX6_firstMeeting_11 flX6_54 rfl rfl hW.2.2.1 ?_
      refine x_getR dX6_firstMeeting_14 flX6_58 (shP0 hp2) rfl hph2 ?_
      refine x_getI dX6_firstMeeting_17 flX6_62 (shH0 hh2) rfl ?_
      refine x_ic_gt (tgt := 75) dX6_firstMeeting_20 (by decide) (by omega) (fun h20 => ?_) (fun h20 => ?_)
      · exfalso; omega
      · refine x_iconst dX6_firstMeeting_23 ?_
        refine x_istore (lv' := [(0, _), (1, _), (2, _), (3, _), (4, _), (5, _)]) dX6_firstMeeting_24 rfl rfl ?_
        exact inner 0 (by omega) (fun ⟨x, hx, _⟩ => by omega)
    · intro em
      refine x_iload dX6_firstMeeting_8 4 rfl ?_
      refine x_aload_n dX6_firstMeeting_10 0 rfl rfl ?_
      refine x_getR dX6_firstMeeting_11 flX6_54 rfl rfl hW.2.2.1 ?_
      refine x_getR dX6_firstMeeting_14 flX6_58 (shP0 hp2) rfl hph2 ?_
      refine x_getI dX6_firstMeeting_17 flX6_62 (shH0 hh2) rfl ?_
      refine x_ic_gt (tgt := 75) dX6_firstMeeting_20 (by decide) (by omega) (fun h20 => ?_) (fun h20 => ?_)
      · refine x_bipush dX6_firstMeeting_75 (by decide) ?_
        refine x_iret dX6_firstMeeting_77 rfl ?_
        rw [← hQ]
        refine ⟨_, rfl, ?_, rfl, rfl, hS⟩
        rw [← em, show lst κ + 1 - (lst κ + 1) = 0 by omega]
        rfl
      · exfalso; omega
  refine x_aload_n dX6_firstMeeting_0 0 rfl rfl ?_
  refine x_aload_n dX6_firstMeeting_1 1 rfl rfl ?_
  refine x_putR dX6_firstMeeting_2 flX6_54 rfl rfl rfl ?_
  refine x_iconst dX6_firstMeeting_5 ?_
  refine x_istore (lv' := [(0, _), (1, _), (2, _), (3, _), (4, _)]) dX6_firstMeeting_6 rfl rfl ?_
  rw [← hS]
  exact lp 0 (by omega) rfl
theorem s_X6_walkersThrough {c t : Nat} {d : Int} (hc : c = 25 ∨ c = 26) (ht : t < 31) (hd : rI d) : Sp G mtX6_walkersThrough [mr 19, mr c, mi d, mi ↑t] shX I L R (qi (pu (orf (fun w => z_shl (z_and (z_shr (I c (31 * (w : Int) + (t : Int))) d) 1) (w : Int)) 3) I L R)) := by
  refine Sp.of pnX6_walkersThrough rfl ?_
  show Rn G mtX6_walkersThrough _ 0 [(0, mr 19), (1, mr c), (2, mi d), (3, mi ↑t)] [] shX I L R
  generalize hQ : (qi (pu (orf (fun w => z_shl (z_and (z_shr (I c (31 * (w : Int) + (t : Int))) d) 1) (w : Int)) 3) I L R)) = Q
  have loop : ∀ w : Nat, w ≤ 3 → Rn G mtX6_walkersThrough Q 6 [(0, mr 19), (1, mr c), (2, mi d), (3, mi (t : Int)), (4, mi (orf (fun w => z_shl (z_and (z_shr (I c (31 * (w : Int) + (t : Int))) d) 1) (w : Int)) w)), (5, mi (w : Int))] [] shX I L R := by
    refine lpn 3 (fun w hw ih => ?_) ?_
    · refine x_iload dX6_walkersThrough_6 5 rfl ?_
      refine x_iconst dX6_walkersThrough_8 ?_
      refine x_ic_ge (tgt := 39) dX6_walkersThrough_9 (by decide) (by omega) (fun h9 => ?_) (fun h9 => ?_)
      · exfalso; omega
      · refine x_iload dX6_walkersThrough_12 4 rfl ?_
        refine x_aload_n dX6_walkersThrough_14 1 rfl rfl ?_
        refine x_iload dX6_walkersThrough_15 5 rfl ?_
        refine x_bipush dX6_walkersThrough_17 (by decide) ?_
        refine x_imul dX6_walkersThrough_19 ?_
        refine x_iload_n dX6_walkersThrough_20 3 rfl rfl ?_
        refine x_iadd dX6_walkersThrough_21 ?_
        rw [show (w : Int) * 31 + (t : Int) = 31 * (w : Int) + (t : Int) by omega]
        refine x_iald dX6_walkersThrough_22 (show shX[c]? = some (.inr (0, 93)) by rcases hc with rfl | rfl <;> rfl) (by omega) ?_
        refine x_iload_n dX6_walkersThrough_23 2 rfl rfl ?_
        refine x_ishr dX6_walkersThrough_24 ?_
        refine x_iconst dX6_walkersThrough_25 ?_
        refine x_iand dX6_walkersThrough_26 ?_
        refine x_iload dX6_walkersThrough_27 5 rfl ?_
        refine x_ishl dX6_walkersThrough_29 ?_
        refine x_ior dX6_walkersThrough_30 ?_
        refine x_istore (lv' := [(0, _), (1, _), (2, _), (3, _), (4, _), (5, _)]) dX6_walkersThrough_31 rfl rfl ?_
        refine x_iinc (lv' := [(0, _), (1, _), (2, _), (3, _), (4, _), (5, _)]) dX6_walkersThrough_33 5 rfl rfl rfl ?_
        refine x_goto (tgt := 6) dX6_walkersThrough_36 (by decide) ?_
        exact ih
    · refine x_iload dX6_walkersThrough_6 5 rfl ?_
      refine x_iconst dX6_walkersThrough_8 ?_
      refine x_ic_ge (tgt := 39) dX6_walkersThrough_9 (by decide) (by omega) (fun h9 => ?_) (fun h9 => ?_)
      · refine x_iload dX6_walkersThrough_39 4 rfl ?_
        refine x_iret dX6_walkersThrough_41 rfl ?_
        rw [← hQ]
        exact ⟨_, rfl, rfl, rfl, rfl, rfl⟩
      · exfalso; omega
  refine x_iconst dX6_walkersThrough_0 ?_
  refine x_istore (lv' := [(0, _), (1, _), (2, _), (3, _), (4, _)]) dX6_walkersThrough_1 rfl rfl ?_
  refine x_iconst dX6_walkersThrough_3 ?_
  refine x_istore (lv' := [(0, _), (1, _), (2, _), (3, _), (4, _), (5, _)]) dX6_walkersThrough_4 rfl rfl ?_
  exact loop 0 (by omega)
theorem s_X6_minutesOf {c n : Nat} {d : Int} (hc : c = 27 ∨ c = 28) (hn : n < 31) (hd : rI d) : Sp G mtX6_minutesOf [mr 19, mr c, mi d, mi ↑n] shX I L R (qi (pu (mnX I c d n) I L R)) := by
  refine Sp.of pnX6_minutesOf rfl ?_
  show Rn G mtX6_minutesOf _ 0 [(0, mr 19), (1, mr c), (2, mi d), (3, mi ↑n)] [] shX I L R
  generalize hQ : (qi (pu (mnX I c d n) I L R)) = Q
  have loop : ∀ t : Nat, t ≤ n → Rn G mtX6_minutesOf Q 6 [(0, mr 19), (1, mr c), (2, mi d), (3, mi (n : Int)), (4, mi (mnX I c d t)), (5, mi (t : Int))] [] shX I L R := by
    refine lpn n (fun t ht ih => ?_) ?_
    · have w1 := mnX_r I c d t
      have w2 := z_and_01 (z_shr (I c (t : Int)) d)
      have es : mnX I c d (t + 1) = mnX I c d t + z_and (z_shr (I c (t : Int)) d) 1 := rfl
      rw [es] at ih
      refine x_iload dX6_minutesOf_6 5 rfl ?_
      refine x_iload_n dX6_minutesOf_8 3 rfl rfl ?_
      refine x_ic_ge (tgt := 31) dX6_minutesOf_9 (by decide) (by omega) (fun h9 => ?_) (fun h9 => ?_)
      · exfalso; omega
      · refine x_iload dX6_minutesOf_12 4 rfl ?_
        refine x_aload_n dX6_minutesOf_14 1 rfl rfl ?_
        refine x_iload dX6_minutesOf_15 5 rfl ?_
        refine x_iald dX6_minutesOf_17 (show shX[c]? = some (.inr (0, 31)) by rcases hc with rfl | rfl <;> rfl) (by omega) ?_
        refine x_iload_n dX6_minutesOf_18 2 rfl rfl ?_
        refine x_ishr dX6_minutesOf_19 ?_
        refine x_iconst dX6_minutesOf_20 ?_
        refine x_iand dX6_minutesOf_21 ?_
        refine x_iadd dX6_minutesOf_22 ?_
        refine x_istore (lv' := [(0, _), (1, _), (2, _), (3, _), (4, _), (5, _)]) dX6_minutesOf_23 rfl rfl ?_
        refine x_iinc (lv' := [(0, _), (1, _), (2, _), (3, _), (4, _), (5, _)]) dX6_minutesOf_25 5 rfl rfl rfl ?_
        refine x_goto (tgt := 6) dX6_minutesOf_28 (by decide) ?_
        exact ih
    · refine x_iload dX6_minutesOf_6 5 rfl ?_
      refine x_iload_n dX6_minutesOf_8 3 rfl rfl ?_
      refine x_ic_ge (tgt := 31) dX6_minutesOf_9 (by decide) (by omega) (fun h9 => ?_) (fun h9 => ?_)
      · refine x_iload dX6_minutesOf_31 4 rfl ?_
        refine x_iret dX6_minutesOf_33 rfl ?_
        rw [← hQ]
        exact ⟨_, rfl, rfl, rfl, rfl, rfl⟩
      · exfalso; omega
  refine x_iconst dX6_minutesOf_0 ?_
  refine x_istore (lv' := [(0, _), (1, _), (2, _), (3, _), (4, _)]) dX6_minutesOf_1 rfl rfl ?_
  refine x_iconst dX6_minutesOf_3 ?_
  refine x_istore (lv' := [(0, _), (1, _), (2, _), (3, _), (4, _), (5, _)]) dX6_minutesOf_4 rfl rfl ?_
  exact loop 0 (by omega)
end

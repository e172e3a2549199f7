/-! THE REFERENCE: rows, texts, what is told. -/
/-- a finding is met; a number is told -/
def a_mt (I : MI) (f : Int) : MI := m_up (m_up I 0 0 f) 1 f (I 1 f + 1)
def a_tl (I : MI) (v : Int) : MI := m_up I 0 2 v
/-- places lo to hi of a cell are v -/
def m_fil (f : MI) (a : Nat) (lo hi v : Int) : MI := fun c j => if c = a ∧ lo ≤ j ∧ j < hi then v else f c j
theorem m_fil_0 (f : MI) (a : Nat) (lo v : Int) : m_fil f a lo lo v = f := by
  funext c j
  unfold m_fil
  rw [if_neg (by omega)]
theorem m_fil_s {f : MI} {a : Nat} {lo i v : Int} (h : lo ≤ i) : m_up (m_fil f a lo i v) a i v = m_fil f a lo (i + 1) v := by
  funext c j
  unfold m_up m_fil
  by_cases h1 : c = a ∧ j = i
  · rw [if_pos h1, if_pos (by omega)]
  · rw [if_neg h1]
    by_cases h2 : c = a ∧ lo ≤ j ∧ j < i
    · rw [if_pos h2, if_pos (by omega)]
    · rw [if_neg h2, if_neg (by omega)]
theorem m_fil_ne {f : MI} {a c : Nat} {lo hi v : Int} (h : c ≠ a) (j : Int) : m_fil f a lo hi v c j = f c j := by unfold m_fil; rw [if_neg (by omega)]
/-- which places of the reference's memory last from call to call -/
def per (c : Nat) (j : Int) : Prop := c = 1 ∨ c = 2 ∨ c = 3 ∨ c = 5 ∨ c = 6 ∨ c = 7 ∨ c = 8 ∨ c = 11 ∨ (c = 0 ∧ (j = 0 ∨ j = 2 ∨ j = 11 ∨ j = 12 ∨ j = 13 ∨ j = 14 ∨ j = 25))
def Pe (I I' : MI) : Prop := ∀ c j, per c j → I' c j = I c j
def PeL (L L' : MI) : Prop := ∀ j, j = 3 ∨ j = 4 ∨ j = 5 → L' 0 j = L 0 j
theorem Pe.rf (I : MI) : Pe I I := fun _ _ _ => rfl
theorem Pe.tr {I J K : MI} (h : Pe I J) (k : Pe J K) : Pe I K := fun c j q => (k c j q).trans (h c j q)
theorem PeL.rf (L : MI) : PeL L L := fun _ _ => rfl
theorem PeL.tr {I J K : MI} (h : PeL I J) (k : PeL J K) : PeL I K := fun j q => (k j q).trans (h j q)
theorem Pe.up {I I' : MI} {c : Nat} {j v : Int} (h : Pe I I') (hn : ¬ per c j) : Pe I (m_up I' c j v) := fun a i q => by
  unfold m_up
  by_cases e : a = c ∧ i = j
  · obtain ⟨rfl, rfl⟩ := e; exact absurd q hn
  · rw [if_neg e]; exact h a i q
def s_row (r n : Int) (I : MI) : Int × MI := if r < 0 ∨ 5 < r ∨ 40 < n then (-1, I) else if n < 0 then (-3, a_mt I 5) else (n, m_fil (m_up I 2 r n) 3 (40 * r) (40 * r + 40) 0)
def s_lay (r i v : Int) (I : MI) : Int × MI := if r < 0 ∨ 5 < r then (-1, I) else if I 2 r < 0 then (-3, a_mt I 1) else if i < 0 ∨ I 2 r ≤ i then (-3, a_mt I 2) else (1, a_tl (m_up I 3 (40 * r + i) v) (I 3 (40 * r + i)))
def s_at (r i : Int) (I : MI) : Int × MI := if r < 0 ∨ 5 < r then (-1, I) else if I 2 r < 0 then (-3, a_mt I 1) else if i < 0 ∨ I 2 r ≤ i then (-3, a_mt I 2) else (1, a_tl I (I 3 (40 * r + i)))
def s_tear (r : Int) (I : MI) : Int × MI := if r < 0 ∨ 5 < r then (-1, I) else if I 2 r < 0 then (-3, a_mt I 1) else (1, m_up I 2 r (-1))
def s_copy (r i to j n : Int) (I : MI) : Int × MI := if r < 0 ∨ 5 < r ∨ to < 0 ∨ 5 < to then (-1, I) else if n < 0 then (-3, a_mt I 5) else if I 2 r < 0 ∨ I 2 to < 0 then (-3, a_mt I 1) else if i < 0 ∨ j < 0 ∨ I 2 r < i + n ∨ I 2 to < j + n then (-3, a_mt I 2)
  else (1, fun c k => if c = 3 ∧ 40 * to + j ≤ k ∧ k < 40 * to + j + n then I 3 (40 * r + i + (k - (40 * to + j))) else I c k)
def a_sum (f : Int → Int) : Nat → Int
  | 0 => 0
  | n + 1 => a_sum f n + f n
def s_mean (r : Int) (I : MI) : Int × MI := if r < 0 ∨ 5 < r then (-1, I) else if I 2 r < 0 then (-3, a_mt I 1) else if I 2 r = 0 then (-3, a_mt I 4) else (1, a_tl I ((a_sum (fun k => I 3 (40 * r + k)) (I 2 r).toNat).tdiv (I 2 r)))
def s_text (t n : Int) (I : MI) : Int × MI := if t < 0 ∨ 3 < t ∨ 80 < n then (-1, I) else if n < 0 then (-3, a_mt I 5) else (n, m_fil (m_up I 5 t n) 6 (80 * t) (80 * t + 80) 32)
def s_put (t i v : Int) (I : MI) : Int × MI := if t < 0 ∨ 3 < t then (-1, I) else if I 5 t < 0 then (-3, a_mt I 1) else if i < 0 ∨ I 5 t ≤ i then (-3, a_mt I 2) else (1000 + I 6 (80 * t + i), m_up I 6 (80 * t + i) (z_b v))
/-- what holds of rows and texts -/
def iRows (I : MI) : Prop := (∀ r, 0 ≤ r → r ≤ 5 → -1 ≤ I 2 r ∧ I 2 r ≤ 40) ∧ ∀ k, 0 ≤ k → k < 240 → rI (I 3 k)
def iTexts (I : MI) : Prop := (∀ t, 0 ≤ t → t ≤ 3 → -1 ≤ I 5 t ∧ I 5 t ≤ 80) ∧ ∀ k, 0 ≤ k → k < 320 → -128 ≤ I 6 k ∧ I 6 k ≤ 127
theorem z_b_r (x : Int) : -128 ≤ z_b x ∧ z_b x ≤ 127 := by
  unfold z_b
  rw [Int8.toInt_toInt32]
  have h1 := Int8.minValue_le_toInt (Int32.ofInt x).toInt8
  have h2 := Int8.toInt_le (Int32.ofInt x).toInt8
  have : Int8.minValue.toInt = -128 := by decide
  have : Int8.maxValue.toInt = 127 := by decide
  omega
theorem a_sum_r {f : Int → Int} : ∀ n : Nat, (∀ k : Nat, k < n → rI (f k)) → -2147483648 * (n : Int) ≤ a_sum f n ∧ a_sum f n ≤ 2147483647 * n
  | 0, _ => by simp [a_sum]
  | n + 1, h => by
    have := a_sum_r n (fun k hk => h k (by omega))
    have := h n (by omega)
    unfold a_sum
    omega
/-- the loop over i from i0 on to n -/
theorem lp_up {P : Int → Prop} (n : Int) (hs : ∀ i, i < n → P (i + 1) → P i) (hx : P n) : ∀ i, i ≤ n → P i := by
  intro i hi
  obtain ⟨k, hk⟩ : ∃ k : Nat, n - i = k := ⟨(n - i).toNat, by omega⟩
  induction k generalizing i with
  | zero => have : i = n := by omega
            rw [this]; exact hx
  | succ k ih => exact hs i (by omega) (ih (i + 1) (by omega) (by omega))
section
variable {G : GT} {sh : MS} {I L : MI} {R : MR}
theorem s_X8_has {x k : Int} (h : 0 ≤ k ∧ k < 32) : Sp G mtX8_has [mi x, mi k] sh I L R (qi (pu (b01 (tb x k.toNat = true)) I L R)) := by
  refine Sp.of pnX8_has rfl ?_
  show Rn G mtX8_has _ 0 [(0, mi x), (1, mi k)] [] sh I L R
  refine x_iload_n dX8_has_0 0 rfl rfl ?_
  refine x_iload_n dX8_has_1 1 rfl rfl ?_
  refine x_ishr dX8_has_2 ?_
  refine x_iconst dX8_has_3 ?_
  refine x_iand dX8_has_4 ?_
  refine x_iconst dX8_has_5 ?_
  refine x_ic_ne (tgt := 13) dX8_has_6 (by decide) (by rw [z_bit h]; have := b01_r (tb x k.toNat = true); omega) (fun h6 => ?_) (fun h6 => ?_)
  · rw [z_bit h] at h6
    refine x_iconst dX8_has_13 ?_
    refine x_zret dX8_has_14 rfl (by decide) ?_
    first | exact ⟨_, rfl, b01_t (b01_1.mp (by assumption)), rfl, rfl, rfl⟩ | exact ⟨_, rfl, b01_f (fun q => absurd (b01_1.mpr q) (by assumption)), rfl, rfl, rfl⟩
  · rw [z_bit h] at h6
    refine x_iconst dX8_has_9 ?_
    refine x_goto (tgt := 14) dX8_has_10 (by decide) ?_
    refine x_zret dX8_has_14 rfl (by decide) ?_
    first | exact ⟨_, rfl, b01_t (b01_1.mp (by assumption)), rfl, rfl, rfl⟩ | exact ⟨_, rfl, b01_f (fun q => absurd (b01_1.mpr q) (by assumption)), rfl, rfl, rfl⟩
theorem s_X8_bits {x : Int} (h : 0 ≤ x ∧ x ≤ 2147483647) : Sp G mtX8_bits [mi x] sh I L R (qi (pu (pc x) I L R)) := by
  refine Sp.of pnX8_bits rfl ?_
  show Rn G mtX8_bits _ 0 [(0, mi x)] [] sh I L R
  have loop : ∀ (k : Nat) (s n : Int), 0 ≤ s → s ≤ 2147483647 → s.toNat = k → 0 ≤ n → n + pc s = pc x → Rn G mtX8_bits (qi (pu (pc x) I L R)) 4 [(0, mi x), (1, mi n), (2, mi s)] [] sh I L R := by
    intro k
    induction k using Nat.strongRecOn with
    | _ k ih =>
    intro s n h1 h2 hk hn hp
    refine x_iload_n dX8_bits_4 2 rfl rfl ?_
    refine x_if_eq (tgt := 20) dX8_bits_5 (by decide) (by omega) (fun h5 => ?_) (fun h5 => ?_)
    · refine x_iload_n dX8_bits_20 1 rfl rfl ?_
      refine x_iret dX8_bits_21 rfl ?_
      subst h5
      rw [pc_0] at hp
      exact ⟨_, rfl, by omega, rfl, rfl, rfl⟩
    · refine x_iinc (lv' := [(0, _), (1, _), (2, _)]) dX8_bits_8 1 rfl rfl rfl ?_
      refine x_iload_n dX8_bits_11 2 rfl rfl ?_
      refine x_iload_n dX8_bits_12 2 rfl rfl ?_
      refine x_iconst dX8_bits_13 ?_
      refine x_isub dX8_bits_14 ?_
      refine x_iand dX8_bits_15 ?_
      refine x_istore_n (lv' := [(0, _), (1, _), (2, _)]) dX8_bits_16 rfl rfl rfl ?_
      refine x_goto (tgt := 4) dX8_bits_17 (by decide) ?_
      have hq := pc_low (x := s) (by omega)
      exact ih _ (by omega) _ _ (by omega) (by omega) rfl (by omega) (by omega)
  refine x_iconst dX8_bits_0 ?_
  refine x_istore_n (lv' := [(0, _), (1, _)]) dX8_bits_1 rfl rfl rfl ?_
  refine x_iload_n dX8_bits_2 0 rfl rfl ?_
  refine x_istore_n (lv' := [(0, _), (1, _), (2, _)]) dX8_bits_3 rfl rfl rfl ?_
  exact loop _ _ _ h.1 h.2 rfl (by omega) (by omega)
theorem s_X8_tells {v a : Int} : Sp G mtX8_tells [mr 0, mi v, mi a] shM I L rM (qi (fun z I' L' R' => z = a ∧ I' = a_tl I v ∧ L = L' ∧ R' = rM)) := by
  refine Sp.of pnX8_tells rfl ?_
  show Rn G mtX8_tells _ 0 [(0, mr 0), (1, mi v), (2, mi a)] [] shM I L rM
  refine x_aload_n dX8_tells_0 0 rfl rfl ?_
  refine x_iload_n dX8_tells_1 1 rfl rfl ?_
  refine x_putI dX8_tells_2 flX8_109 rfl rfl rfl ?_
  refine x_iload_n dX8_tells_5 2 rfl rfl ?_
  refine x_iret dX8_tells_6 rfl ?_
  exact ⟨_, rfl, rfl, rfl, rfl, rfl⟩
theorem s_X8_isRow {r : Int} (h : rI r) : Sp G mtX8_isRow [mi r] sh I L R (qi (pu (b01 (0 ≤ r ∧ r ≤ 5)) I L R)) := by
  refine Sp.of pnX8_isRow rfl ?_
  show Rn G mtX8_isRow _ 0 [(0, mi r)] [] sh I L R
  refine x_iload_n dX8_isRow_0 0 rfl rfl ?_
  refine x_iconst dX8_isRow_1 ?_
  refine x_iconst dX8_isRow_2 ?_
  refine x_callSi (as := [_, _, _]) dX8_isRow_3 lvX8_105 rfl rfl rfl rfl ⟨rfl, rfl⟩ (s_X8_in h (by omega) (by omega)) (fun z3 I3 L3 R3 hq3 => ?_)
  obtain ⟨rfl, rfl, rfl, rfl⟩ := hq3
  refine x_zret dX8_isRow_6 rfl (b01_z _) ?_
  exact ⟨_, rfl, rfl, rfl, rfl, rfl⟩
theorem s_X8_isText {r : Int} (h : rI r) : Sp G mtX8_isText [mi r] sh I L R (qi (pu (b01 (0 ≤ r ∧ r ≤ 3)) I L R)) := by
  refine Sp.of pnX8_isText rfl ?_
  show Rn G mtX8_isText _ 0 [(0, mi r)] [] sh I L R
  refine x_iload_n dX8_isText_0 0 rfl rfl ?_
  refine x_iconst dX8_isText_1 ?_
  refine x_iconst dX8_isText_2 ?_
  refine x_callSi (as := [_, _, _]) dX8_isText_3 lvX8_105 rfl rfl rfl rfl ⟨rfl, rfl⟩ (s_X8_in h (by omega) (by omega)) (fun z3 I3 L3 R3 hq3 => ?_)
  obtain ⟨rfl, rfl, rfl, rfl⟩ := hq3
  refine x_zret dX8_isText_6 rfl (b01_z _) ?_
  exact ⟨_, rfl, rfl, rfl, rfl, rfl⟩
theorem s_X8_rowAt {r i : Int} (h : 0 ≤ 40 * r + i ∧ 40 * r + i < 240) : Sp G mtX8_rowAt [mr 0, mi r, mi i] shM I L rM (qi (pu (I 3 (40 * r + i)) I L rM)) := by
  refine Sp.of pnX8_rowAt rfl ?_
  show Rn G mtX8_rowAt _ 0 [(0, mr 0), (1, mi r), (2, mi i)] [] shM I L rM
  refine x_aload_n dX8_rowAt_0 0 rfl rfl ?_
  refine x_getR dX8_rowAt_1 flX8_16 rfl rfl rfl ?_
  refine x_bipush dX8_rowAt_4 (by decide) ?_
  refine x_iload_n dX8_rowAt_6 1 rfl rfl ?_
  refine x_imul dX8_rowAt_7 ?_
  refine x_iload_n dX8_rowAt_8 2 rfl rfl ?_
  refine x_iadd dX8_rowAt_9 ?_
  refine x_iald dX8_rowAt_10 rfl (by omega) ?_
  refine x_iret dX8_rowAt_11 rfl ?_
  exact ⟨_, rfl, rfl, rfl, rfl, rfl⟩
theorem s_X8_row {r n : Int} (h1 : rI r) (h2 : rI n) : Sp G mtX8_row [mr 0, mi r, mi n] shM I L rM (qi (fun z I' L' R' => z = (s_row r n I).1 ∧ I' = (s_row r n I).2 ∧ L = L' ∧ R' = rM)) := by
  refine Sp.of pnX8_row rfl ?_
  show Rn G mtX8_row _ 0 [(0, mr 0), (1, mi r), (2, mi n)] [] shM I L rM
  refine x_iload_n dX8_row_0 1 rfl rfl ?_
  refine x_callSi (as := [_]) dX8_row_1 lvX8_118 rfl rfl rfl rfl ⟨rfl, rfl⟩ (s_X8_isRow (by omega)) (fun z1 I1 L1 R1 hq1 => ?_)
  obtain ⟨rfl, rfl, rfl, rfl⟩ := hq1
  refine y_ifb_eq (tgt := 13) dX8_row_4 (by decide) (fun h4 => ?_) (fun h4 => ?_)
  · refine x_iconst dX8_row_13 ?_
    refine x_iret dX8_row_14 rfl ?_
    refine ⟨_, rfl, ?_⟩
    unfold s_row
    (repeat' split) <;> first | (exfalso; omega) | exact ⟨rfl, rfl, rfl, rfl⟩
  · refine x_iload_n dX8_row_7 2 rfl rfl ?_
    refine x_bipush dX8_row_8 (by decide) ?_
    refine x_ic_le (tgt := 15) dX8_row_10 (by decide) (by omega) (fun h10 => ?_) (fun h10 => ?_)
    · refine x_iload_n dX8_row_15 2 rfl rfl ?_
      refine x_if_ge (tgt := 25) dX8_row_16 (by decide) (by omega) (fun h16 => ?_) (fun h16 => ?_)
      · refine x_aload_n dX8_row_25 0 rfl rfl ?_
        refine x_getR dX8_row_26 flX8_13 rfl rfl rfl ?_
        refine x_iload_n dX8_row_29 1 rfl rfl ?_
        refine x_iload_n dX8_row_30 2 rfl rfl ?_
        refine x_iast dX8_row_31 rfl (by omega) ?_
        refine x_iconst dX8_row_32 ?_
        refine x_istore_n (lv' := [(0, _), (1, _), (2, _), (3, _)]) dX8_row_33 rfl rfl rfl ?_
        have loop : ∀ i, i ≤ 40 → 0 ≤ i → Rn G mtX8_row (qi (fun z I' L' R' => z = (s_row r n I).1 ∧ I' = (s_row r n I).2 ∧ L = L' ∧ R' = rM)) 34 [(0, mr 0), (1, mi r), (2, mi n), (3, mi i)] [] shM (m_fil (m_up I 2 r n) 3 (40 * r) (40 * r + i) 0) L rM := by
          refine lp_up 40 (fun i hi ih => ?_) ?_
          · intro hi0
            refine x_iload_n dX8_row_34 3 rfl rfl ?_
            refine x_bipush dX8_row_35 (by decide) ?_
            refine x_ic_ge (tgt := 58) dX8_row_37 (by decide) (by omega) (fun h37 => ?_) (fun h37 => ?_)
            · refine x_iload_n dX8_row_58 2 rfl rfl ?_
              refine x_iret dX8_row_59 rfl ?_
              exfalso; omega
            · refine x_aload_n dX8_row_40 0 rfl rfl ?_
              refine x_getR dX8_row_41 flX8_16 rfl rfl rfl ?_
              refine x_bipush dX8_row_44 (by decide) ?_
              refine x_iload_n dX8_row_46 1 rfl rfl ?_
              refine x_imul dX8_row_47 ?_
              refine x_iload_n dX8_row_48 3 rfl rfl ?_
              refine x_iadd dX8_row_49 ?_
              refine x_iconst dX8_row_50 ?_
              refine x_iast dX8_row_51 rfl (by omega) ?_
              refine x_iinc (lv' := [(0, _), (1, _), (2, _), (3, _)]) dX8_row_52 3 rfl rfl rfl ?_
              refine x_goto (tgt := 34) dX8_row_55 (by decide) ?_
              rw [m_fil_s (by omega)]
              have h1 := ih (by omega)
              rw [show 40 * r + (i + 1) = 40 * r + i + 1 by omega] at h1
              exact h1
          · intro hi0
            refine x_iload_n dX8_row_34 3 rfl rfl ?_
            refine x_bipush dX8_row_35 (by decide) ?_
            refine x_ic_ge (tgt := 58) dX8_row_37 (by decide) (by omega) (fun h37 => ?_) (fun h37 => ?_)
            · refine x_iload_n dX8_row_58 2 rfl rfl ?_
              refine x_iret dX8_row_59 rfl ?_
              refine ⟨_, rfl, ?_⟩
              unfold s_row
              (repeat' split) <;> first | (exfalso; omega) | exact ⟨rfl, rfl, rfl, rfl⟩
            · exfalso; omega
        have h0 := loop 0 (by omega) (by omega)
        rw [show 40 * r + 0 = 40 * r by omega, m_fil_0] at h0
        exact h0
      · refine x_aload_n dX8_row_19 0 rfl rfl ?_
        refine x_iconst dX8_row_20 ?_
        refine x_callVi (as := [_]) dX8_row_21 lvX8_122 rfl rfl rfl rfl rfl rfl rfl ⟨rfl, rfl⟩ (s_X8_meets (by omega)) (fun z21 I21 L21 R21 hq21 => ?_)
        obtain ⟨rfl, rfl, rfl, rfl⟩ := hq21
        refine x_iret dX8_row_24 rfl ?_
        refine ⟨_, rfl, ?_⟩
        unfold s_row
        (repeat' split) <;> first | (exfalso; omega) | exact ⟨rfl, rfl, rfl, rfl⟩
    · refine x_iconst dX8_row_13 ?_
      refine x_iret dX8_row_14 rfl ?_
      refine ⟨_, rfl, ?_⟩
      unfold s_row
      (repeat' split) <;> first | (exfalso; omega) | exact ⟨rfl, rfl, rfl, rfl⟩
theorem s_X8_lay {r i v : Int} (hI : iRows I) (h1 : rI r) (h2 : rI i) : Sp G mtX8_lay [mr 0, mi r, mi i, mi v] shM I L rM (qi (fun z I' L' R' => z = (s_lay r i v I).1 ∧ I' = (s_lay r i v I).2 ∧ L = L' ∧ R' = rM)) := by
  refine Sp.of pnX8_lay rfl ?_
  show Rn G mtX8_lay _ 0 [(0, mr 0), (1, mi r), (2, mi i), (3, mi v)] [] shM I L rM
  refine x_iload_n dX8_lay_0 1 rfl rfl ?_
  refine x_callSi (as := [_]) dX8_lay_1 lvX8_118 rfl rfl rfl rfl ⟨rfl, rfl⟩ (s_X8_isRow (by omega)) (fun z1 I1 L1 R1 hq1 => ?_)
  obtain ⟨rfl, rfl, rfl, rfl⟩ := hq1
  refine y_ifb_ne (tgt := 9) dX8_lay_4 (by decide) (fun h4 => ?_) (fun h4 => ?_)
  · have hs := hI.1 r h4.1 h4.2
    refine x_aload_n dX8_lay_9 0 rfl rfl ?_
    refine x_getR dX8_lay_10 flX8_13 rfl rfl rfl ?_
    refine x_iload_n dX8_lay_13 1 rfl rfl ?_
    refine x_iald dX8_lay_14 rfl (by omega) ?_
    refine x_if_ge (tgt := 24) dX8_lay_15 (by decide) (by omega) (fun h15 => ?_) (fun h15 => ?_)
    · refine x_iload_n dX8_lay_24 2 rfl rfl ?_
      refine x_iconst dX8_lay_25 ?_
      refine x_aload_n dX8_lay_26 0 rfl rfl ?_
      refine x_getR dX8_lay_27 flX8_13 rfl rfl rfl ?_
      refine x_iload_n dX8_lay_30 1 rfl rfl ?_
      refine x_iald dX8_lay_31 rfl (by omega) ?_
      refine x_iconst dX8_lay_32 ?_
      refine x_isub dX8_lay_33 ?_
      refine x_callSi (as := [_, _, _]) dX8_lay_34 lvX8_105 rfl rfl rfl rfl ⟨rfl, rfl⟩ (s_X8_in (by omega) (by omega) (by omega)) (fun z34 I34 L34 R34 hq34 => ?_)
      obtain ⟨rfl, rfl, rfl, rfl⟩ := hq34
      refine y_ifb_ne (tgt := 46) dX8_lay_37 (by decide) (fun h37 => ?_) (fun h37 => ?_)
      · refine x_aload_n dX8_lay_46 0 rfl rfl ?_
        refine x_iload_n dX8_lay_47 1 rfl rfl ?_
        refine x_iload_n dX8_lay_48 2 rfl rfl ?_
        refine x_callVi (as := [_, _]) dX8_lay_49 lvX8_126 rfl rfl rfl rfl rfl rfl rfl ⟨rfl, rfl⟩ (s_X8_rowAt (by omega)) (fun z49 I49 L49 R49 hq49 => ?_)
        obtain ⟨rfl, rfl, rfl, rfl⟩ := hq49
        refine x_istore (lv' := [(0, _), (1, _), (2, _), (3, _), (4, _)]) dX8_lay_52 rfl rfl ?_
        refine x_aload_n dX8_lay_54 0 rfl rfl ?_
        refine x_getR dX8_lay_55 flX8_16 rfl rfl rfl ?_
        refine x_bipush dX8_lay_58 (by decide) ?_
        refine x_iload_n dX8_lay_60 1 rfl rfl ?_
        refine x_imul dX8_lay_61 ?_
        refine x_iload_n dX8_lay_62 2 rfl rfl ?_
        refine x_iadd dX8_lay_63 ?_
        refine x_iload_n dX8_lay_64 3 rfl rfl ?_
        refine x_iast dX8_lay_65 rfl (by omega) ?_
        refine x_aload_n dX8_lay_66 0 rfl rfl ?_
        refine x_iload dX8_lay_67 4 rfl ?_
        refine x_iconst dX8_lay_69 ?_
        refine x_callVi (as := [_, _]) dX8_lay_70 lvX8_130 rfl rfl rfl rfl rfl rfl rfl ⟨rfl, rfl⟩ (s_X8_tells) (fun z70 I70 L70 R70 hq70 => ?_)
        obtain ⟨rfl, rfl, rfl, rfl⟩ := hq70
        refine x_iret dX8_lay_73 rfl ?_
        refine ⟨_, rfl, ?_⟩
        unfold s_lay
        (repeat' split) <;> first | (exfalso; omega) | exact ⟨rfl, rfl, rfl, rfl⟩
      · refine x_aload_n dX8_lay_40 0 rfl rfl ?_
        refine x_iconst dX8_lay_41 ?_
        refine x_callVi (as := [_]) dX8_lay_42 lvX8_122 rfl rfl rfl rfl rfl rfl rfl ⟨rfl, rfl⟩ (s_X8_meets (by omega)) (fun z42 I42 L42 R42 hq42 => ?_)
        obtain ⟨rfl, rfl, rfl, rfl⟩ := hq42
        refine x_iret dX8_lay_45 rfl ?_
        refine ⟨_, rfl, ?_⟩
        unfold s_lay
        (repeat' split) <;> first | (exfalso; omega) | exact ⟨rfl, rfl, rfl, rfl⟩
    · refine x_aload_n dX8_lay_18 0 rfl rfl ?_
      refine x_iconst dX8_lay_19 ?_
      refine x_callVi (as := [_]) dX8_lay_20 lvX8_122 rfl rfl rfl rfl rfl rfl rfl ⟨rfl, rfl⟩ (s_X8_meets (by omega)) (fun z20 I20 L20 R20 hq20 => ?_)
      obtain ⟨rfl, rfl, rfl, rfl⟩ := hq20
      refine x_iret dX8_lay_23 rfl ?_
      refine ⟨_, rfl, ?_⟩
      unfold s_lay
      (repeat' split) <;> first | (exfalso; omega) | exact ⟨rfl, rfl, rfl, rfl⟩
  · refine x_iconst dX8_lay_7 ?_
    refine x_iret dX8_lay_8 rfl ?_
    refine ⟨_, rfl, ?_⟩
    unfold s_lay
    (repeat' split) <;> first | (exfalso; omega) | exact ⟨rfl, rfl, rfl, rfl⟩
theorem s_X8_at {r i : Int} (hI : iRows I) (h1 : rI r) (h2 : rI i) : Sp G mtX8_at [mr 0, mi r, mi i] shM I L rM (qi (fun z I' L' R' => z = (s_at r i I).1 ∧ I' = (s_at r i I).2 ∧ L = L' ∧ R' = rM)) := by
  refine Sp.of pnX8_at rfl ?_
  show Rn G mtX8_at _ 0 [(0, mr 0), (1, mi r), (2, mi i)] [] shM I L rM
  refine x_iload_n dX8_at_0 1 rfl rfl ?_
  refine x_callSi (as := [_]) dX8_at_1 lvX8_118 rfl rfl rfl rfl ⟨rfl, rfl⟩ (s_X8_isRow (by omega)) (fun z1 I1 L1 R1 hq1 => ?_)
  obtain ⟨rfl, rfl, rfl, rfl⟩ := hq1
  refine y_ifb_ne (tgt := 9) dX8_at_4 (by decide) (fun h4 => ?_) (fun h4 => ?_)
  · have hs := hI.1 r h4.1 h4.2
    refine x_aload_n dX8_at_9 0 rfl rfl ?_
    refine x_getR dX8_at_10 flX8_13 rfl rfl rfl ?_
    refine x_iload_n dX8_at_13 1 rfl rfl ?_
    refine x_iald dX8_at_14 rfl (by omega) ?_
    refine x_if_ge (tgt := 24) dX8_at_15 (by decide) (by omega) (fun h15 => ?_) (fun h15 => ?_)
    · refine x_iload_n dX8_at_24 2 rfl rfl ?_
      refine x_iconst dX8_at_25 ?_
      refine x_aload_n dX8_at_26 0 rfl rfl ?_
      refine x_getR dX8_at_27 flX8_13 rfl rfl rfl ?_
      refine x_iload_n dX8_at_30 1 rfl rfl ?_
      refine x_iald dX8_at_31 rfl (by omega) ?_
      refine x_iconst dX8_at_32 ?_
      refine x_isub dX8_at_33 ?_
      refine x_callSi (as := [_, _, _]) dX8_at_34 lvX8_105 rfl rfl rfl rfl ⟨rfl, rfl⟩ (s_X8_in (by omega) (by omega) (by omega)) (fun z34 I34 L34 R34 hq34 => ?_)
      obtain ⟨rfl, rfl, rfl, rfl⟩ := hq34
      refine y_ifb_eq (tgt := 54) dX8_at_37 (by decide) (fun h37 => ?_) (fun h37 => ?_)
      · refine x_aload_n dX8_at_54 0 rfl rfl ?_
        refine x_iconst dX8_at_55 ?_
        refine x_callVi (as := [_]) dX8_at_56 lvX8_122 rfl rfl rfl rfl rfl rfl rfl ⟨rfl, rfl⟩ (s_X8_meets (by omega)) (fun z56 I56 L56 R56 hq56 => ?_)
        obtain ⟨rfl, rfl, rfl, rfl⟩ := hq56
        refine x_iret dX8_at_59 rfl ?_
        refine ⟨_, rfl, ?_⟩
        unfold s_at
        (repeat' split) <;> first | (exfalso; omega) | exact ⟨rfl, rfl, rfl, rfl⟩
      · refine x_aload_n dX8_at_40 0 rfl rfl ?_
        refine x_aload_n dX8_at_41 0 rfl rfl ?_
        refine x_iload_n dX8_at_42 1 rfl rfl ?_
        refine x_iload_n dX8_at_43 2 rfl rfl ?_
        refine x_callVi (as := [_, _]) dX8_at_44 lvX8_126 rfl rfl rfl rfl rfl rfl rfl ⟨rfl, rfl⟩ (s_X8_rowAt (by omega)) (fun z44 I44 L44 R44 hq44 => ?_)
        obtain ⟨rfl, rfl, rfl, rfl⟩ := hq44
        refine x_iconst dX8_at_47 ?_
        refine x_callVi (as := [_, _]) dX8_at_48 lvX8_130 rfl rfl rfl rfl rfl rfl rfl ⟨rfl, rfl⟩ (s_X8_tells) (fun z48 I48 L48 R48 hq48 => ?_)
        obtain ⟨rfl, rfl, rfl, rfl⟩ := hq48
        refine x_goto (tgt := 59) dX8_at_51 (by decide) ?_
        refine x_iret dX8_at_59 rfl ?_
        refine ⟨_, rfl, ?_⟩
        unfold s_at
        (repeat' split) <;> first | (exfalso; omega) | exact ⟨rfl, rfl, rfl, rfl⟩
    · refine x_aload_n dX8_at_18 0 rfl rfl ?_
      refine x_iconst dX8_at_19 ?_
      refine x_callVi (as := [_]) dX8_at_20 lvX8_122 rfl rfl rfl rfl rfl rfl rfl ⟨rfl, rfl⟩ (s_X8_meets (by omega)) (fun z20 I20 L20 R20 hq20 => ?_)
      obtain ⟨rfl, rfl, rfl, rfl⟩ := hq20
      refine x_iret dX8_at_23 rfl ?_
      refine ⟨_, rfl, ?_⟩
      unfold s_at
      (repeat' split) <;> first | (exfalso; omega) | exact ⟨rfl, rfl, rfl, rfl⟩
  · refine x_iconst dX8_at_7 ?_
    refine x_iret dX8_at_8 rfl ?_
    refine ⟨_, rfl, ?_⟩
    unfold s_at
    (repeat' split) <;> first | (exfalso; omega) | exact ⟨rfl, rfl, rfl, rfl⟩
theorem s_X8_tear {r : Int} (hI : iRows I) (h1 : rI r) : Sp G mtX8_tear [mr 0, mi r] shM I L rM (qi (fun z I' L' R' => z = (s_tear r I).1 ∧ I' = (s_tear r I).2 ∧ L = L' ∧ R' = rM)) := by
  refine Sp.of pnX8_tear rfl ?_
  show Rn G mtX8_tear _ 0 [(0, mr 0), (1, mi r)] [] shM I L rM
  refine x_iload_n dX8_tear_0 1 rfl rfl ?_
  refine x_callSi (as := [_]) dX8_tear_1 lvX8_118 rfl rfl rfl rfl ⟨rfl, rfl⟩ (s_X8_isRow (by omega)) (fun z1 I1 L1 R1 hq1 => ?_)
  obtain ⟨rfl, rfl, rfl, rfl⟩ := hq1
  refine y_ifb_ne (tgt := 9) dX8_tear_4 (by decide) (fun h4 => ?_) (fun h4 => ?_)
  · have hs := hI.1 r h4.1 h4.2
    refine x_aload_n dX8_tear_9 0 rfl rfl ?_
    refine x_getR dX8_tear_10 flX8_13 rfl rfl rfl ?_
    refine x_iload_n dX8_tear_13 1 rfl rfl ?_
    refine x_iald dX8_tear_14 rfl (by omega) ?_
    refine x_if_ge (tgt := 24) dX8_tear_15 (by decide) (by omega) (fun h15 => ?_) (fun h15 => ?_)
    · refine x_aload_n dX8_tear_24 0 rfl rfl ?_
      refine x_getR dX8_tear_25 flX8_13 rfl rfl rfl ?_
      refine x_iload_n dX8_tear_28 1 rfl rfl ?_
      refine x_iconst dX8_tear_29 ?_
      refine x_iast dX8_tear_30 rfl (by omega) ?_
      refine x_iconst dX8_tear_31 ?_
      refine x_iret dX8_tear_32 rfl ?_
      refine ⟨_, rfl, ?_⟩
      unfold s_tear
      (repeat' split) <;> first | (exfalso; omega) | exact ⟨rfl, rfl, rfl, rfl⟩
    · refine x_aload_n dX8_tear_18 0 rfl rfl ?_
      refine x_iconst dX8_tear_19 ?_
      refine x_callVi (as := [_]) dX8_tear_20 lvX8_122 rfl rfl rfl rfl rfl rfl rfl ⟨rfl, rfl⟩ (s_X8_meets (by omega)) (fun z20 I20 L20 R20 hq20 => ?_)
      obtain ⟨rfl, rfl, rfl, rfl⟩ := hq20
      refine x_iret dX8_tear_23 rfl ?_
      refine ⟨_, rfl, ?_⟩
      unfold s_tear
      (repeat' split) <;> first | (exfalso; omega) | exact ⟨rfl, rfl, rfl, rfl⟩
  · refine x_iconst dX8_tear_7 ?_
    refine x_iret dX8_tear_8 rfl ?_
    refine ⟨_, rfl, ?_⟩
    unfold s_tear
    (repeat' split) <;> first | (exfalso; omega) | exact ⟨rfl, rfl, rfl, rfl⟩
theorem s_X8_text {r n : Int} (h1 : rI r) (h2 : rI n) : Sp G mtX8_text [mr 0, mi r, mi n] shM I L rM (qi (fun z I' L' R' => z = (s_text r n I).1 ∧ I' = (s_text r n I).2 ∧ L = L' ∧ R' = rM)) := by
  refine Sp.of pnX8_text rfl ?_
  show Rn G mtX8_text _ 0 [(0, mr 0), (1, mi r), (2, mi n)] [] shM I L rM
  refine x_iload_n dX8_text_0 1 rfl rfl ?_
  refine x_callSi (as := [_]) dX8_text_1 lvX8_133 rfl rfl rfl rfl ⟨rfl, rfl⟩ (s_X8_isText (by omega)) (fun z1 I1 L1 R1 hq1 => ?_)
  obtain ⟨rfl, rfl, rfl, rfl⟩ := hq1
  refine y_ifb_eq (tgt := 13) dX8_text_4 (by decide) (fun h4 => ?_) (fun h4 => ?_)
  · refine x_iconst dX8_text_13 ?_
    refine x_iret dX8_text_14 rfl ?_
    refine ⟨_, rfl, ?_⟩
    unfold s_text
    (repeat' split) <;> first | (exfalso; omega) | exact ⟨rfl, rfl, rfl, rfl⟩
  · refine x_iload_n dX8_text_7 2 rfl rfl ?_
    refine x_bipush dX8_text_8 (by decide) ?_
    refine x_ic_le (tgt := 15) dX8_text_10 (by decide) (by omega) (fun h10 => ?_) (fun h10 => ?_)
    · refine x_iload_n dX8_text_15 2 rfl rfl ?_
      refine x_if_ge (tgt := 25) dX8_text_16 (by decide) (by omega) (fun h16 => ?_) (fun h16 => ?_)
      · refine x_aload_n dX8_text_25 0 rfl rfl ?_
        refine x_getR dX8_text_26 flX8_22 rfl rfl rfl ?_
        refine x_iload_n dX8_text_29 1 rfl rfl ?_
        refine x_iload_n dX8_text_30 2 rfl rfl ?_
        refine x_iast dX8_text_31 rfl (by omega) ?_
        refine x_iconst dX8_text_32 ?_
        refine x_istore_n (lv' := [(0, _), (1, _), (2, _), (3, _)]) dX8_text_33 rfl rfl rfl ?_
        have loop : ∀ i, i ≤ 80 → 0 ≤ i → Rn G mtX8_text (qi (fun z I' L' R' => z = (s_text r n I).1 ∧ I' = (s_text r n I).2 ∧ L = L' ∧ R' = rM)) 34 [(0, mr 0), (1, mi r), (2, mi n), (3, mi i)] [] shM (m_fil (m_up I 5 r n) 6 (80 * r) (80 * r + i) 32) L rM := by
          refine lp_up 80 (fun i hi ih => ?_) ?_
          · intro hi0
            refine x_iload_n dX8_text_34 3 rfl rfl ?_
            refine x_bipush dX8_text_35 (by decide) ?_
            refine x_ic_ge (tgt := 59) dX8_text_37 (by decide) (by omega) (fun h37 => ?_) (fun h37 => ?_)
            · refine x_iload_n dX8_text_59 2 rfl rfl ?_
              refine x_iret dX8_text_60 rfl ?_
              exfalso; omega
            · refine x_aload_n dX8_text_40 0 rfl rfl ?_
              refine x_getR dX8_text_41 flX8_25 rfl rfl rfl ?_
              refine x_bipush dX8_text_44 (by decide) ?_
              refine x_iload_n dX8_text_46 1 rfl rfl ?_
              refine x_imul dX8_text_47 ?_
              refine x_iload_n dX8_text_48 3 rfl rfl ?_
              refine x_iadd dX8_text_49 ?_
              refine x_bipush dX8_text_50 (by decide) ?_
              refine x_bast dX8_text_52 rfl (by omega) (by omega) ?_
              refine x_iinc (lv' := [(0, _), (1, _), (2, _), (3, _)]) dX8_text_53 3 rfl rfl rfl ?_
              refine x_goto (tgt := 34) dX8_text_56 (by decide) ?_
              rw [m_fil_s (by omega)]
              have h1 := ih (by omega)
              rw [show 80 * r + (i + 1) = 80 * r + i + 1 by omega] at h1
              exact h1
          · intro hi0
            refine x_iload_n dX8_text_34 3 rfl rfl ?_
            refine x_bipush dX8_text_35 (by decide) ?_
            refine x_ic_ge (tgt := 59) dX8_text_37 (by decide) (by omega) (fun h37 => ?_) (fun h37 => ?_)
            · refine x_iload_n dX8_text_59 2 rfl rfl ?_
              refine x_iret dX8_text_60 rfl ?_
              refine ⟨_, rfl, ?_⟩
              unfold s_text
              (repeat' split) <;> first | (exfalso; omega) | exact ⟨rfl, rfl, rfl, rfl⟩
            · exfalso; omega
        have h0 := loop 0 (by omega) (by omega)
        rw [show 80 * r + 0 = 80 * r by omega, m_fil_0] at h0
        exact h0
      · refine x_aload_n dX8_text_19 0 rfl rfl ?_
        refine x_iconst dX8_text_20 ?_
        refine x_callVi (as := [_]) dX8_text_21 lvX8_122 rfl rfl rfl rfl rfl rfl rfl ⟨rfl, rfl⟩ (s_X8_meets (by omega)) (fun z21 I21 L21 R21 hq21 => ?_)
        obtain ⟨rfl, rfl, rfl, rfl⟩ := hq21
        refine x_iret dX8_text_24 rfl ?_
        refine ⟨_, rfl, ?_⟩
        unfold s_text
        (repeat' split) <;> first | (exfalso; omega) | exact ⟨rfl, rfl, rfl, rfl⟩
    · refine x_iconst dX8_text_13 ?_
      refine x_iret dX8_text_14 rfl ?_
      refine ⟨_, rfl, ?_⟩
      unfold s_text
      (repeat' split) <;> first | (exfalso; omega) | exact ⟨rfl, rfl, rfl, rfl⟩
theorem s_X8_put {r i v : Int} (hI : iTexts I) (h1 : rI r) (h2 : rI i) : Sp G mtX8_put [mr 0, mi r, mi i, mi v] shM I L rM (qi (fun z I' L' R' => z = (s_put r i v I).1 ∧ I' = (s_put r i v I).2 ∧ L = L' ∧ R' = rM)) := by
  refine Sp.of pnX8_put rfl ?_
  show Rn G mtX8_put _ 0 [(0, mr 0), (1, mi r), (2, mi i), (3, mi v)] [] shM I L rM
  refine x_iload_n dX8_put_0 1 rfl rfl ?_
  refine x_callSi (as := [_]) dX8_put_1 lvX8_133 rfl rfl rfl rfl ⟨rfl, rfl⟩ (s_X8_isText (by omega)) (fun z1 I1 L1 R1 hq1 => ?_)
  obtain ⟨rfl, rfl, rfl, rfl⟩ := hq1
  refine y_ifb_ne (tgt := 9) dX8_put_4 (by decide) (fun h4 => ?_) (fun h4 => ?_)
  · have hs := hI.1 r h4.1 h4.2
    refine x_aload_n dX8_put_9 0 rfl rfl ?_
    refine x_getR dX8_put_10 flX8_22 rfl rfl rfl ?_
    refine x_iload_n dX8_put_13 1 rfl rfl ?_
    refine x_iald dX8_put_14 rfl (by omega) ?_
    refine x_if_ge (tgt := 24) dX8_put_15 (by decide) (by first | omega | exact z_b_r _) (fun h15 => ?_) (fun h15 => ?_)
    · refine x_iload_n dX8_put_24 2 rfl rfl ?_
      refine x_iconst dX8_put_25 ?_
      refine x_aload_n dX8_put_26 0 rfl rfl ?_
      refine x_getR dX8_put_27 flX8_22 rfl rfl rfl ?_
      refine x_iload_n dX8_put_30 1 rfl rfl ?_
      refine x_iald dX8_put_31 rfl (by omega) ?_
      refine x_iconst dX8_put_32 ?_
      refine x_isub dX8_put_33 ?_
      refine x_callSi (as := [_, _, _]) dX8_put_34 lvX8_105 rfl rfl rfl rfl ⟨rfl, rfl⟩ (s_X8_in (by omega) (by omega) (by omega)) (fun z34 I34 L34 R34 hq34 => ?_)
      obtain ⟨rfl, rfl, rfl, rfl⟩ := hq34
      refine y_ifb_ne (tgt := 46) dX8_put_37 (by decide) (fun h37 => ?_) (fun h37 => ?_)
      · refine x_aload_n dX8_put_46 0 rfl rfl ?_
        refine x_getR dX8_put_47 flX8_25 rfl rfl rfl ?_
        refine x_bipush dX8_put_50 (by decide) ?_
        refine x_iload_n dX8_put_52 1 rfl rfl ?_
        refine x_imul dX8_put_53 ?_
        refine x_iload_n dX8_put_54 2 rfl rfl ?_
        refine x_iadd dX8_put_55 ?_
        refine x_bald dX8_put_56 rfl (by omega) ?_
        refine x_istore (lv' := [(0, _), (1, _), (2, _), (3, _), (4, _)]) dX8_put_57 rfl rfl ?_
        refine x_aload_n dX8_put_59 0 rfl rfl ?_
        refine x_getR dX8_put_60 flX8_25 rfl rfl rfl ?_
        refine x_bipush dX8_put_63 (by decide) ?_
        refine x_iload_n dX8_put_65 1 rfl rfl ?_
        refine x_imul dX8_put_66 ?_
        refine x_iload_n dX8_put_67 2 rfl rfl ?_
        refine x_iadd dX8_put_68 ?_
        refine x_iload_n dX8_put_69 3 rfl rfl ?_
        refine x_i2b dX8_put_70 ?_
        refine x_bast dX8_put_71 rfl (by omega) (by first | omega | exact z_b_r _) ?_
        refine x_sipush dX8_put_72 (by decide) ?_
        refine x_iload dX8_put_75 4 rfl ?_
        refine x_iadd dX8_put_77 ?_
        refine x_iret dX8_put_78 rfl ?_
        refine ⟨_, rfl, ?_⟩
        unfold s_put
        (repeat' split) <;> first | (exfalso; omega) | exact ⟨rfl, rfl, rfl, rfl⟩
      · refine x_aload_n dX8_put_40 0 rfl rfl ?_
        refine x_iconst dX8_put_41 ?_
        refine x_callVi (as := [_]) dX8_put_42 lvX8_122 rfl rfl rfl rfl rfl rfl rfl ⟨rfl, rfl⟩ (s_X8_meets (by omega)) (fun z42 I42 L42 R42 hq42 => ?_)
        obtain ⟨rfl, rfl, rfl, rfl⟩ := hq42
        refine x_iret dX8_put_45 rfl ?_
        refine ⟨_, rfl, ?_⟩
        unfold s_put
        (repeat' split) <;> first | (exfalso; omega) | exact ⟨rfl, rfl, rfl, rfl⟩
    · refine x_aload_n dX8_put_18 0 rfl rfl ?_
      refine x_iconst dX8_put_19 ?_
      refine x_callVi (as := [_]) dX8_put_20 lvX8_122 rfl rfl rfl rfl rfl rfl rfl ⟨rfl, rfl⟩ (s_X8_meets (by omega)) (fun z20 I20 L20 R20 hq20 => ?_)
      obtain ⟨rfl, rfl, rfl, rfl⟩ := hq20
      refine x_iret dX8_put_23 rfl ?_
      refine ⟨_, rfl, ?_⟩
      unfold s_put
      (repeat' split) <;> first | (exfalso; omega) | exact ⟨rfl, rfl, rfl, rfl⟩
  · refine x_iconst dX8_put_7 ?_
    refine x_iret dX8_put_8 rfl ?_
    refine ⟨_, rfl, ?_⟩
    unfold s_put
    (repeat' split) <;> first | (exfalso; omega) | exact ⟨rfl, rfl, rfl, rfl⟩
/-- byte i of a text; 0 behind it -/
def a_by (I : MI) (t i : Int) : Int := if i < I 5 t then I 6 (80 * t + i) else 0
theorem s_X8_byteAt {t i : Int} (hI : iTexts I) (h1 : 0 ≤ t ∧ t ≤ 3) (h2 : 0 ≤ i ∧ i ≤ 2000000) : Sp G mtX8_byteAt [mr 0, mi t, mi i] shM I L rM (qi (pu (a_by I t i) I L rM)) := by
  refine Sp.of pnX8_byteAt rfl ?_
  show Rn G mtX8_byteAt _ 0 [(0, mr 0), (1, mi t), (2, mi i)] [] shM I L rM
  have hs := hI.1 t h1.1 h1.2
  refine x_iload_n dX8_byteAt_0 2 rfl rfl ?_
  refine x_aload_n dX8_byteAt_1 0 rfl rfl ?_
  refine x_getR dX8_byteAt_2 flX8_22 rfl rfl rfl ?_
  refine x_iload_n dX8_byteAt_5 1 rfl rfl ?_
  refine x_iald dX8_byteAt_6 rfl (by omega) ?_
  refine x_ic_ge (tgt := 24) dX8_byteAt_7 (by decide) (by omega) (fun h7 => ?_) (fun h7 => ?_)
  · refine x_iconst dX8_byteAt_24 ?_
    refine x_iret dX8_byteAt_25 rfl ?_
    first | exact ⟨_, rfl, (if_pos (by omega)).symm, rfl, rfl, rfl⟩ | exact ⟨_, rfl, (if_neg (by omega)).symm, rfl, rfl, rfl⟩
  · refine x_aload_n dX8_byteAt_10 0 rfl rfl ?_
    refine x_getR dX8_byteAt_11 flX8_25 rfl rfl rfl ?_
    refine x_bipush dX8_byteAt_14 (by decide) ?_
    refine x_iload_n dX8_byteAt_16 1 rfl rfl ?_
    refine x_imul dX8_byteAt_17 ?_
    refine x_iload_n dX8_byteAt_18 2 rfl rfl ?_
    refine x_iadd dX8_byteAt_19 ?_
    refine x_bald dX8_byteAt_20 rfl (by omega) ?_
    refine x_goto (tgt := 25) dX8_byteAt_21 (by decide) ?_
    refine x_iret dX8_byteAt_25 rfl ?_
    first | exact ⟨_, rfl, (if_pos (by omega)).symm, rfl, rfl, rfl⟩ | exact ⟨_, rfl, (if_neg (by omega)).symm, rfl, rfl, rfl⟩
theorem s_X8_mean {r : Int} (hI : iRows I) (h1 : rI r) : Sp G mtX8_mean [mr 0, mi r] shM I L rM (qi (fun z I' L' R' => z = (s_mean r I).1 ∧ I' = (s_mean r I).2 ∧ L = L' ∧ R' = rM)) := by
  refine Sp.of pnX8_mean rfl ?_
  show Rn G mtX8_mean _ 0 [(0, mr 0), (1, mi r)] [] shM I L rM
  refine x_iload_n dX8_mean_0 1 rfl rfl ?_
  refine x_callSi (as := [_]) dX8_mean_1 lvX8_118 rfl rfl rfl rfl ⟨rfl, rfl⟩ (s_X8_isRow (by omega)) (fun z1 I1 L1 R1 hq1 => ?_)
  obtain ⟨rfl, rfl, rfl, rfl⟩ := hq1
  refine y_ifb_ne (tgt := 9) dX8_mean_4 (by decide) (fun h4 => ?_) (fun h4 => ?_)
  · have hs := hI.1 r h4.1 h4.2
    refine x_aload_n dX8_mean_9 0 rfl rfl ?_
    refine x_getR dX8_mean_10 flX8_13 rfl rfl rfl ?_
    refine x_iload_n dX8_mean_13 1 rfl rfl ?_
    refine x_iald dX8_mean_14 rfl (by omega) ?_
    refine x_if_ge (tgt := 24) dX8_mean_15 (by decide) (by omega) (fun h15 => ?_) (fun h15 => ?_)
    · refine x_aload_n dX8_mean_24 0 rfl rfl ?_
      refine x_getR dX8_mean_25 flX8_13 rfl rfl rfl ?_
      refine x_iload_n dX8_mean_28 1 rfl rfl ?_
      refine x_iald dX8_mean_29 rfl (by omega) ?_
      refine x_if_ne (tgt := 39) dX8_mean_30 (by decide) (by omega) (fun h30 => ?_) (fun h30 => ?_)
      · refine x_lconst 0 dX8_mean_39 rfl ?_
        refine x_lstore_n (lv' := [(0, _), (1, _), (2, _)]) dX8_mean_40 rfl rfl rfl ?_
        refine x_iconst dX8_mean_41 ?_
        refine x_istore (lv' := [(0, _), (1, _), (2, _), (4, _)]) dX8_mean_42 rfl rfl ?_
        have hsum : ∀ i : Int, 0 ≤ i → i ≤ I 2 r → -2147483648 * i ≤ a_sum (fun k => I 3 (40 * r + k)) i.toNat ∧ a_sum (fun k => I 3 (40 * r + k)) i.toNat ≤ 2147483647 * i := fun i h5 h6 => by
          have h7 := a_sum_r (f := fun k => I 3 (40 * r + k)) i.toNat (fun k hk => hI.2 _ (by omega) (by omega))
          rw [show ((i.toNat : Nat) : Int) = i by omega] at h7
          exact h7
        have loop : ∀ i, i ≤ I 2 r → 0 ≤ i → Rn G mtX8_mean (qi (fun z I' L' R' => z = (s_mean r I).1 ∧ I' = (s_mean r I).2 ∧ L = L' ∧ R' = rM)) 44 [(0, mr 0), (1, mi r), (2, ml (a_sum (fun k => I 3 (40 * r + k)) i.toNat)), (4, mi i)] [] shM I L rM := by
          refine lp_up (I 2 r) (fun i hi ih => ?_) ?_
          · intro hi0
            have h8 := hsum i hi0 (by omega)
            have h9 := hI.2 (40 * r + i) (by omega) (by omega)
            refine x_iload dX8_mean_44 3 rfl ?_
            refine x_aload_n dX8_mean_46 0 rfl rfl ?_
            refine x_getR dX8_mean_47 flX8_13 rfl rfl rfl ?_
            refine x_iload_n dX8_mean_50 1 rfl rfl ?_
            refine x_iald dX8_mean_51 rfl (by omega) ?_
            refine x_ic_ge (tgt := 72) dX8_mean_52 (by decide) (by omega) (fun h52 => ?_) (fun h52 => ?_)
            · exfalso; omega
            · refine x_lload_n dX8_mean_55 2 rfl rfl ?_
              refine x_aload_n dX8_mean_56 0 rfl rfl ?_
              refine x_iload_n dX8_mean_57 1 rfl rfl ?_
              refine x_iload dX8_mean_58 3 rfl ?_
              refine x_callVi (as := [_, _]) dX8_mean_60 lvX8_126 rfl rfl rfl rfl rfl rfl rfl ⟨rfl, rfl⟩ (s_X8_rowAt (by omega)) (fun z60 I60 L60 R60 hq60 => ?_)
              obtain ⟨rfl, rfl, rfl, rfl⟩ := hq60
              refine x_i2l dX8_mean_63 (by omega) ?_
              refine x_ladd dX8_mean_64 ?_
              refine x_lstore_n (lv' := [(0, _), (1, _), (2, _), (4, _)]) dX8_mean_65 rfl rfl rfl ?_
              refine x_iinc (lv' := [(0, _), (1, _), (2, _), (4, _)]) dX8_mean_66 3 rfl rfl rfl ?_
              refine x_goto (tgt := 44) dX8_mean_69 (by decide) ?_
              have h10 := ih (by omega)
              rw [show (i + 1).toNat = i.toNat + 1 by omega] at h10
              simp only [a_sum] at h10
              rw [show ((i.toNat : Nat) : Int) = i by omega] at h10
              exact h10
          · intro hi0
            have h8 := hsum (I 2 r) hi0 (by omega)
            refine x_iload dX8_mean_44 3 rfl ?_
            refine x_aload_n dX8_mean_46 0 rfl rfl ?_
            refine x_getR dX8_mean_47 flX8_13 rfl rfl rfl ?_
            refine x_iload_n dX8_mean_50 1 rfl rfl ?_
            refine x_iald dX8_mean_51 rfl (by omega) ?_
            refine x_ic_ge (tgt := 72) dX8_mean_52 (by decide) (by omega) (fun h52 => ?_) (fun h52 => ?_)
            · refine x_aload_n dX8_mean_72 0 rfl rfl ?_
              refine x_lload_n dX8_mean_73 2 rfl rfl ?_
              refine x_aload_n dX8_mean_74 0 rfl rfl ?_
              refine x_getR dX8_mean_75 flX8_13 rfl rfl rfl ?_
              refine x_iload_n dX8_mean_78 1 rfl rfl ?_
              refine x_iald dX8_mean_79 rfl (by omega) ?_
              refine x_i2l dX8_mean_80 (by omega) ?_
              refine x_ldiv dX8_mean_81 (by omega) (by omega) ?_
              refine x_l2i dX8_mean_82 ?_
              refine x_iconst dX8_mean_83 ?_
              refine x_callVi (as := [_, _]) dX8_mean_84 lvX8_130 rfl rfl rfl rfl rfl rfl rfl ⟨rfl, rfl⟩ (s_X8_tells) (fun z84 I84 L84 R84 hq84 => ?_)
              obtain ⟨rfl, rfl, rfl, rfl⟩ := hq84
              refine x_iret dX8_mean_87 rfl ?_
              refine ⟨_, rfl, ?_⟩
              unfold s_mean
              (repeat' split) <;> first | (exfalso; omega) | exact ⟨rfl, rfl, rfl, rfl⟩
            · exfalso; omega
        exact loop 0 (by omega) (by omega)
      · refine x_aload_n dX8_mean_33 0 rfl rfl ?_
        refine x_iconst dX8_mean_34 ?_
        refine x_callVi (as := [_]) dX8_mean_35 lvX8_122 rfl rfl rfl rfl rfl rfl rfl ⟨rfl, rfl⟩ (s_X8_meets (by omega)) (fun z35 I35 L35 R35 hq35 => ?_)
        obtain ⟨rfl, rfl, rfl, rfl⟩ := hq35
        refine x_iret dX8_mean_38 rfl ?_
        refine ⟨_, rfl, ?_⟩
        unfold s_mean
        (repeat' split) <;> first | (exfalso; omega) | exact ⟨rfl, rfl, rfl, rfl⟩
    · refine x_aload_n dX8_mean_18 0 rfl rfl ?_
      refine x_iconst dX8_mean_19 ?_
      refine x_callVi (as := [_]) dX8_mean_20 lvX8_122 rfl rfl rfl rfl rfl rfl rfl ⟨rfl, rfl⟩ (s_X8_meets (by omega)) (fun z20 I20 L20 R20 hq20 => ?_)
      obtain ⟨rfl, rfl, rfl, rfl⟩ := hq20
      refine x_iret dX8_mean_23 rfl ?_
      refine ⟨_, rfl, ?_⟩
      unfold s_mean
      (repeat' split) <;> first | (exfalso; omega) | exact ⟨rfl, rfl, rfl, rfl⟩
  · refine x_iconst dX8_mean_7 ?_
    refine x_iret dX8_mean_8 rfl ?_
    refine ⟨_, rfl, ?_⟩
    unfold s_mean
    (repeat' split) <;> first | (exfalso; omega) | exact ⟨rfl, rfl, rfl, rfl⟩
theorem s_X8_copy {r i to j n : Int} (hI : iRows I) (h1 : rI r) (h2 : rI i) (h3 : rI to) (h4' : rI j) (h5 : rI n) : Sp G mtX8_copy [mr 0, mi r, mi i, mi to, mi j, mi n] shM I L rM (qi (fun z I' L' R' => z = (s_copy r i to j n I).1 ∧ Pe (s_copy r i to j n I).2 I' ∧ L = L' ∧ R' = rM)) := by
  refine Sp.of pnX8_copy rfl ?_
  show Rn G mtX8_copy _ 0 [(0, mr 0), (1, mi r), (2, mi i), (3, mi to), (4, mi j), (5, mi n)] [] shM I L rM
  refine x_iload_n dX8_copy_0 1 rfl rfl ?_
  refine x_callSi (as := [_]) dX8_copy_1 lvX8_118 rfl rfl rfl rfl ⟨rfl, rfl⟩ (s_X8_isRow (by omega)) (fun z1 I1 L1 R1 hq1 => ?_)
  obtain ⟨rfl, rfl, rfl, rfl⟩ := hq1
  refine y_ifb_eq (tgt := 14) dX8_copy_4 (by decide) (fun h4 => ?_) (fun h4 => ?_)
  · refine x_iconst dX8_copy_14 ?_
    refine x_iret dX8_copy_15 rfl ?_
    refine ⟨_, rfl, ?_⟩
    unfold s_copy
    (repeat' split) <;> first | (exfalso; omega) | exact ⟨rfl, Pe.rf _, rfl, rfl⟩
  · refine x_iload_n dX8_copy_7 3 rfl rfl ?_
    refine x_callSi (as := [_]) dX8_copy_8 lvX8_118 rfl rfl rfl rfl ⟨rfl, rfl⟩ (s_X8_isRow (by omega)) (fun z8 I8 L8 R8 hq8 => ?_)
    obtain ⟨rfl, rfl, rfl, rfl⟩ := hq8
    refine y_ifb_ne (tgt := 16) dX8_copy_11 (by decide) (fun h11 => ?_) (fun h11 => ?_)
    · refine x_iload dX8_copy_16 5 rfl ?_
      refine x_if_ge (tgt := 27) dX8_copy_18 (by decide) (by omega) (fun h18 => ?_) (fun h18 => ?_)
      · have hs := hI.1 r (by omega) (by omega)
        have ht := hI.1 to (by omega) (by omega)
        refine x_aload_n dX8_copy_27 0 rfl rfl ?_
        refine x_getR dX8_copy_28 flX8_13 rfl rfl rfl ?_
        refine x_iload_n dX8_copy_31 1 rfl rfl ?_
        refine x_iald dX8_copy_32 rfl (by omega) ?_
        refine x_if_lt (tgt := 45) dX8_copy_33 (by decide) (by omega) (fun h33 => ?_) (fun h33 => ?_)
        · refine x_aload_n dX8_copy_45 0 rfl rfl ?_
          refine x_iconst dX8_copy_46 ?_
          refine x_callVi (as := [_]) dX8_copy_47 lvX8_122 rfl rfl rfl rfl rfl rfl rfl ⟨rfl, rfl⟩ (s_X8_meets (by omega)) (fun z47 I47 L47 R47 hq47 => ?_)
          obtain ⟨rfl, rfl, rfl, rfl⟩ := hq47
          refine x_iret dX8_copy_50 rfl ?_
          refine ⟨_, rfl, ?_⟩
          unfold s_copy
          (repeat' split) <;> first | (exfalso; omega) | exact ⟨rfl, Pe.rf _, rfl, rfl⟩
        · refine x_aload_n dX8_copy_36 0 rfl rfl ?_
          refine x_getR dX8_copy_37 flX8_13 rfl rfl rfl ?_
          refine x_iload_n dX8_copy_40 3 rfl rfl ?_
          refine x_iald dX8_copy_41 rfl (by omega) ?_
          refine x_if_ge (tgt := 51) dX8_copy_42 (by decide) (by omega) (fun h42 => ?_) (fun h42 => ?_)
          · refine x_iload_n dX8_copy_51 2 rfl rfl ?_
            refine x_if_lt (tgt := 95) dX8_copy_52 (by decide) (by omega) (fun h52 => ?_) (fun h52 => ?_)
            · refine x_aload_n dX8_copy_95 0 rfl rfl ?_
              refine x_iconst dX8_copy_96 ?_
              refine x_callVi (as := [_]) dX8_copy_97 lvX8_122 rfl rfl rfl rfl rfl rfl rfl ⟨rfl, rfl⟩ (s_X8_meets (by omega)) (fun z97 I97 L97 R97 hq97 => ?_)
              obtain ⟨rfl, rfl, rfl, rfl⟩ := hq97
              refine x_iret dX8_copy_100 rfl ?_
              refine ⟨_, rfl, ?_⟩
              unfold s_copy
              (repeat' split) <;> first | (exfalso; omega) | exact ⟨rfl, Pe.rf _, rfl, rfl⟩
            · refine x_iload dX8_copy_55 4 rfl ?_
              refine x_if_lt (tgt := 95) dX8_copy_57 (by decide) (by omega) (fun h57 => ?_) (fun h57 => ?_)
              · refine x_aload_n dX8_copy_95 0 rfl rfl ?_
                refine x_iconst dX8_copy_96 ?_
                refine x_callVi (as := [_]) dX8_copy_97 lvX8_122 rfl rfl rfl rfl rfl rfl rfl ⟨rfl, rfl⟩ (s_X8_meets (by omega)) (fun z97 I97 L97 R97 hq97 => ?_)
                obtain ⟨rfl, rfl, rfl, rfl⟩ := hq97
                refine x_iret dX8_copy_100 rfl ?_
                refine ⟨_, rfl, ?_⟩
                unfold s_copy
                (repeat' split) <;> first | (exfalso; omega) | exact ⟨rfl, Pe.rf _, rfl, rfl⟩
              · refine x_iload_n dX8_copy_60 2 rfl rfl ?_
                refine x_i2l dX8_copy_61 (by omega) ?_
                refine x_iload dX8_copy_62 5 rfl ?_
                refine x_i2l dX8_copy_64 (by omega) ?_
                refine x_ladd dX8_copy_65 ?_
                refine x_aload_n dX8_copy_66 0 rfl rfl ?_
                refine x_getR dX8_copy_67 flX8_13 rfl rfl rfl ?_
                refine x_iload_n dX8_copy_70 1 rfl rfl ?_
                refine x_iald dX8_copy_71 rfl (by omega) ?_
                refine x_i2l dX8_copy_72 (by omega) ?_
                refine x_lc_gt (tgt := 95) dX8_copy_73 dX8_copy_74 (by decide) (by omega) (fun h73 => ?_) (fun h73 => ?_)
                · refine x_aload_n dX8_copy_95 0 rfl rfl ?_
                  refine x_iconst dX8_copy_96 ?_
                  refine x_callVi (as := [_]) dX8_copy_97 lvX8_122 rfl rfl rfl rfl rfl rfl rfl ⟨rfl, rfl⟩ (s_X8_meets (by omega)) (fun z97 I97 L97 R97 hq97 => ?_)
                  obtain ⟨rfl, rfl, rfl, rfl⟩ := hq97
                  refine x_iret dX8_copy_100 rfl ?_
                  refine ⟨_, rfl, ?_⟩
                  unfold s_copy
                  (repeat' split) <;> first | (exfalso; omega) | exact ⟨rfl, Pe.rf _, rfl, rfl⟩
                · refine x_iload dX8_copy_77 4 rfl ?_
                  refine x_i2l dX8_copy_79 (by omega) ?_
                  refine x_iload dX8_copy_80 5 rfl ?_
                  refine x_i2l dX8_copy_82 (by omega) ?_
                  refine x_ladd dX8_copy_83 ?_
                  refine x_aload_n dX8_copy_84 0 rfl rfl ?_
                  refine x_getR dX8_copy_85 flX8_13 rfl rfl rfl ?_
                  refine x_iload_n dX8_copy_88 3 rfl rfl ?_
                  refine x_iald dX8_copy_89 rfl (by omega) ?_
                  refine x_i2l dX8_copy_90 (by omega) ?_
                  refine x_lc_le (tgt := 101) dX8_copy_91 dX8_copy_92 (by decide) (by omega) (fun h91 => ?_) (fun h91 => ?_)
                  · refine x_iconst dX8_copy_101 ?_
                    refine x_istore (lv' := [(0, _), (1, _), (2, _), (3, _), (4, _), (5, _), (6, _)]) dX8_copy_102 rfl rfl ?_
                    have loop1 : ∀ k, k ≤ n → 0 ≤ k → Rn G mtX8_copy (qi (fun z I' L' R' => z = (s_copy r i to j n I).1 ∧ Pe (s_copy r i to j n I).2 I' ∧ L = L' ∧ R' = rM)) 104 [(0, mr 0), (1, mi r), (2, mi i), (3, mi to), (4, mi j), (5, mi n), (6, mi k)] [] shM (fun c q => if c = 4 ∧ 0 ≤ q ∧ q < k then I 3 (40 * r + i + q) else I c q) L rM := by
                      refine lp_up n (fun k hk ih => ?_) ?_
                      · intro hk0
                        refine x_iload dX8_copy_104 6 rfl ?_
                        refine x_iload dX8_copy_106 5 rfl ?_
                        refine x_ic_ge (tgt := 133) dX8_copy_108 (by decide) (by omega) (fun h108 => ?_) (fun h108 => ?_)
                        · exfalso; omega
                        · refine x_aload_n dX8_copy_111 0 rfl rfl ?_
                          refine x_getR dX8_copy_112 flX8_19 rfl rfl rfl ?_
                          refine x_iload dX8_copy_115 6 rfl ?_
                          refine x_aload_n dX8_copy_117 0 rfl rfl ?_
                          refine x_iload_n dX8_copy_118 1 rfl rfl ?_
                          refine x_iload_n dX8_copy_119 2 rfl rfl ?_
                          refine x_iload dX8_copy_120 6 rfl ?_
                          refine x_iadd dX8_copy_122 ?_
                          refine x_callVi (as := [_, _]) dX8_copy_123 lvX8_126 rfl rfl rfl rfl rfl rfl rfl ⟨rfl, rfl⟩ (s_X8_rowAt (by omega)) (fun z123 I123 L123 R123 hq123 => ?_)
                          obtain ⟨rfl, rfl, rfl, rfl⟩ := hq123
                          rw [if_neg (show ¬ ((3 : Nat) = 4 ∧ _) by omega)]
                          refine x_iast dX8_copy_126 rfl (by omega) ?_
                          refine x_iinc (lv' := [(0, _), (1, _), (2, _), (3, _), (4, _), (5, _), (6, _)]) dX8_copy_127 6 rfl rfl rfl ?_
                          refine x_goto (tgt := 104) dX8_copy_130 (by decide) ?_
                          have h9 := ih (by omega)
                          refine Eq.mp (congrArg (fun J => Rn G mtX8_copy _ 104 _ _ shM J L rM) ?_) h9
                          funext c q
                          dsimp only [m_up]
                          by_cases e1 : c = 4 ∧ q = k
                          · obtain ⟨rfl, rfl⟩ := e1
                            rw [if_pos (by omega), if_pos (by omega), show 40 * r + (i + q) = 40 * r + i + q by omega]
                          · rw [if_neg e1]
                            by_cases e2 : c = 4 ∧ 0 ≤ q ∧ q < k
                            · rw [if_pos e2, if_pos (by omega)]
                            · rw [if_neg e2, if_neg (by omega)]
                      · intro hk0
                        refine x_iload dX8_copy_104 6 rfl ?_
                        refine x_iload dX8_copy_106 5 rfl ?_
                        refine x_ic_ge (tgt := 133) dX8_copy_108 (by decide) (by omega) (fun h108 => ?_) (fun h108 => ?_)
                        · refine x_iconst dX8_copy_133 ?_
                          refine x_istore (lv' := [(0, _), (1, _), (2, _), (3, _), (4, _), (5, _), (6, _)]) dX8_copy_134 rfl rfl ?_
                          have loop2 : ∀ k, k ≤ n → 0 ≤ k → Rn G mtX8_copy (qi (fun z I' L' R' => z = (s_copy r i to j n I).1 ∧ Pe (s_copy r i to j n I).2 I' ∧ L = L' ∧ R' = rM)) 136 [(0, mr 0), (1, mi r), (2, mi i), (3, mi to), (4, mi j), (5, mi n), (6, mi k)] [] shM (fun c q => if c = 4 ∧ 0 ≤ q ∧ q < n then I 3 (40 * r + i + q) else if c = 3 ∧ 40 * to + j ≤ q ∧ q < 40 * to + j + k then I 3 (40 * r + i + (q - (40 * to + j))) else I c q) L rM := by
                            refine lp_up n (fun k hk ih => ?_) ?_
                            · intro hk0
                              refine x_iload dX8_copy_136 6 rfl ?_
                              refine x_iload dX8_copy_138 5 rfl ?_
                              refine x_ic_ge (tgt := 171) dX8_copy_140 (by decide) (by omega) (fun h140 => ?_) (fun h140 => ?_)
                              · exfalso; omega
                              · refine x_aload_n dX8_copy_143 0 rfl rfl ?_
                                refine x_getR dX8_copy_144 flX8_16 rfl rfl rfl ?_
                                refine x_bipush dX8_copy_147 (by decide) ?_
                                refine x_iload_n dX8_copy_149 3 rfl rfl ?_
                                refine x_imul dX8_copy_150 ?_
                                refine x_iload dX8_copy_151 4 rfl ?_
                                refine x_iadd dX8_copy_153 ?_
                                refine x_iload dX8_copy_154 6 rfl ?_
                                refine x_iadd dX8_copy_156 ?_
                                refine x_aload_n dX8_copy_157 0 rfl rfl ?_
                                refine x_getR dX8_copy_158 flX8_19 rfl rfl rfl ?_
                                refine x_iload dX8_copy_161 6 rfl ?_
                                refine x_iald dX8_copy_163 rfl (by omega) ?_
                                rw [if_pos (show (4 : Nat) = 4 ∧ 0 ≤ k ∧ k < n by omega)]
                                refine x_iast dX8_copy_164 rfl (by omega) ?_
                                refine x_iinc (lv' := [(0, _), (1, _), (2, _), (3, _), (4, _), (5, _), (6, _)]) dX8_copy_165 6 rfl rfl rfl ?_
                                refine x_goto (tgt := 136) dX8_copy_168 (by decide) ?_
                                have h9 := ih (by omega)
                                refine Eq.mp (congrArg (fun J => Rn G mtX8_copy _ 136 _ _ shM J L rM) ?_) h9
                                funext c q
                                dsimp only [m_up]
                                by_cases e1 : c = 3 ∧ q = 40 * to + j + k
                                · obtain ⟨rfl, rfl⟩ := e1
                                  rw [if_neg (by omega), if_pos (by omega), if_pos ⟨rfl, rfl⟩]
                                  congr 1
                                  omega
                                · rw [if_neg e1]
                                  by_cases e3 : c = 4 ∧ 0 ≤ q ∧ q < n
                                  · rw [if_pos e3, if_pos e3]
                                  · rw [if_neg e3, if_neg e3]
                                    by_cases e2 : c = 3 ∧ 40 * to + j ≤ q ∧ q < 40 * to + j + k
                                    · rw [if_pos e2, if_pos (by omega)]
                                    · rw [if_neg e2, if_neg (by omega)]
                            · intro hk0
                              refine x_iload dX8_copy_136 6 rfl ?_
                              refine x_iload dX8_copy_138 5 rfl ?_
                              refine x_ic_ge (tgt := 171) dX8_copy_140 (by decide) (by omega) (fun h140 => ?_) (fun h140 => ?_)
                              · refine x_iconst dX8_copy_171 ?_
                                refine x_iret dX8_copy_172 rfl ?_
                                refine ⟨_, rfl, ?_⟩
                                unfold s_copy
                                rw [if_neg (by omega), if_neg (by omega), if_neg (by omega), if_neg (by omega)]
                                refine ⟨rfl, fun c q hp => ?_, rfl, rfl⟩
                                have hc : c ≠ 4 := by unfold per at hp; omega
                                dsimp only
                                rw [if_neg (by omega)]
                              · exfalso; omega
                          have h0 := loop2 0 (by omega) (by omega)
                          rw [show (fun (c : Nat) (q : Int) => if c = 4 ∧ 0 ≤ q ∧ q < n then I 3 (40 * r + i + q) else if c = 3 ∧ 40 * to + j ≤ q ∧ q < 40 * to + j + 0 then I 3 (40 * r + i + (q - (40 * to + j))) else I c q) = (fun c q => if c = 4 ∧ 0 ≤ q ∧ q < n then I 3 (40 * r + i + q) else I c q) by funext c q; split; rfl; rw [if_neg (by omega)]] at h0
                          exact h0
                        · exfalso; omega
                    have h0 := loop1 0 (by omega) (by omega)
                    rw [show (fun (c : Nat) (q : Int) => if c = 4 ∧ 0 ≤ q ∧ q < 0 then I 3 (40 * r + i + q) else I c q) = I by funext c q; rw [if_neg (by omega)]] at h0
                    exact h0
                  · refine x_aload_n dX8_copy_95 0 rfl rfl ?_
                    refine x_iconst dX8_copy_96 ?_
                    refine x_callVi (as := [_]) dX8_copy_97 lvX8_122 rfl rfl rfl rfl rfl rfl rfl ⟨rfl, rfl⟩ (s_X8_meets (by omega)) (fun z97 I97 L97 R97 hq97 => ?_)
                    obtain ⟨rfl, rfl, rfl, rfl⟩ := hq97
                    refine x_iret dX8_copy_100 rfl ?_
                    refine ⟨_, rfl, ?_⟩
                    unfold s_copy
                    (repeat' split) <;> first | (exfalso; omega) | exact ⟨rfl, Pe.rf _, rfl, rfl⟩
          · refine x_aload_n dX8_copy_45 0 rfl rfl ?_
            refine x_iconst dX8_copy_46 ?_
            refine x_callVi (as := [_]) dX8_copy_47 lvX8_122 rfl rfl rfl rfl rfl rfl rfl ⟨rfl, rfl⟩ (s_X8_meets (by omega)) (fun z47 I47 L47 R47 hq47 => ?_)
            obtain ⟨rfl, rfl, rfl, rfl⟩ := hq47
            refine x_iret dX8_copy_50 rfl ?_
            refine ⟨_, rfl, ?_⟩
            unfold s_copy
            (repeat' split) <;> first | (exfalso; omega) | exact ⟨rfl, Pe.rf _, rfl, rfl⟩
      · refine x_aload_n dX8_copy_21 0 rfl rfl ?_
        refine x_iconst dX8_copy_22 ?_
        refine x_callVi (as := [_]) dX8_copy_23 lvX8_122 rfl rfl rfl rfl rfl rfl rfl ⟨rfl, rfl⟩ (s_X8_meets (by omega)) (fun z23 I23 L23 R23 hq23 => ?_)
        obtain ⟨rfl, rfl, rfl, rfl⟩ := hq23
        refine x_iret dX8_copy_26 rfl ?_
        refine ⟨_, rfl, ?_⟩
        unfold s_copy
        (repeat' split) <;> first | (exfalso; omega) | exact ⟨rfl, Pe.rf _, rfl, rfl⟩
    · refine x_iconst dX8_copy_14 ?_
      refine x_iret dX8_copy_15 rfl ?_
      refine ⟨_, rfl, ?_⟩
      unfold s_copy
      (repeat' split) <;> first | (exfalso; omega) | exact ⟨rfl, Pe.rf _, rfl, rfl⟩
def a_gcd (u l : Int) : Int := ((Nat.gcd u.toNat l.toNat : Nat) : Int)
theorem a_gcd_step {a b : Int} (h : 0 ≤ a ∧ 0 < b) : a_gcd b (a.tmod b) = a_gcd a b := by
  unfold a_gcd
  rw [Int.tmod_eq_emod_of_nonneg h.1, Nat.gcd_comm a.toNat b.toNat, Nat.gcd_rec b.toNat a.toNat, Nat.gcd_comm]
  rw [Int.toNat_emod h.1 (by omega)]
theorem a_gcd_0 {a : Int} (h : 0 ≤ a) : a_gcd a 0 = a := by unfold a_gcd; simp; omega
theorem s_X8_fraction {u l a : Int} (h1 : 0 ≤ u ∧ u ≤ 9223372036854775807) (h2 : 0 < l ∧ l ≤ 9223372036854775807) : Sp G mtX8_fraction [mr 0, ml u, ml l, mi a] shM I L rM (qi (fun z I' L' R' => z = a ∧ I = I' ∧ L' = m_up (m_up L 0 4 (u.tdiv (a_gcd u l))) 0 5 (l.tdiv (a_gcd u l)) ∧ R' = rM)) := by
  refine Sp.of pnX8_fraction rfl ?_
  show Rn G mtX8_fraction _ 0 [(0, mr 0), (1, ml u), (3, ml l), (5, mi a)] [] shM I L rM
  refine x_lload_n dX8_fraction_0 1 rfl rfl ?_
  refine x_lstore (lv' := [(0, _), (1, _), (3, _), (5, _), (6, _)]) dX8_fraction_1 rfl rfl ?_
  refine x_lload_n dX8_fraction_3 2 rfl rfl ?_
  refine x_lstore (lv' := [(0, _), (1, _), (3, _), (5, _), (6, _), (8, _)]) dX8_fraction_4 rfl rfl ?_
  have loop : ∀ (k : Nat) (x y : Int), y.toNat = k → 0 ≤ x → x ≤ 9223372036854775807 → 0 ≤ y → y ≤ 9223372036854775807 → 0 < x + y → a_gcd x y = a_gcd u l → ∀ lv8, (lv8 = [(0, mr 0), (1, ml u), (3, ml l), (5, mi a), (6, ml x), (8, ml y)] ∨ ∃ w, lv8 = [(0, mr 0), (1, ml u), (3, ml l), (5, mi a), (6, ml x), (8, ml y), (10, ml w)]) → Rn G mtX8_fraction (qi (fun z I' L' R' => z = a ∧ I = I' ∧ L' = m_up (m_up L 0 4 (u.tdiv (a_gcd u l))) 0 5 (l.tdiv (a_gcd u l)) ∧ R' = rM)) 6 lv8 [] shM I L rM := by
    intro k
    induction k using Nat.strongRecOn with
    | _ k ih =>
    intro x y hk hx hx2 hy hy2 hs hg lv8 hlv
    have hm : 0 < y → 0 ≤ x.tmod y ∧ x.tmod y < y := fun h => ⟨Int.tmod_nonneg y hx, by have := Int.tmod_lt_of_pos x h; omega⟩
    rcases hlv with rfl | ⟨w, rfl⟩
    · refine x_lload dX8_fraction_6 5 rfl ?_
      refine x_lconst 0 dX8_fraction_8 rfl ?_
      refine x_lc_eq (tgt := 31) dX8_fraction_9 dX8_fraction_10 (by decide) (by omega) (fun h9 => ?_) (fun h9 => ?_)
      · subst h9
        rw [a_gcd_0 hx] at hg
        subst hg
        refine x_aload_n dX8_fraction_31 0 rfl rfl ?_
        refine x_lload_n dX8_fraction_32 1 rfl rfl ?_
        refine x_lload dX8_fraction_33 4 rfl ?_
        refine x_ldiv dX8_fraction_35 (by omega) (by omega) ?_
        refine x_putL dX8_fraction_36 flX8_115 rfl rfl rfl ?_
        refine x_aload_n dX8_fraction_39 0 rfl rfl ?_
        refine x_lload_n dX8_fraction_40 2 rfl rfl ?_
        refine x_lload dX8_fraction_41 4 rfl ?_
        refine x_ldiv dX8_fraction_43 (by omega) (by omega) ?_
        refine x_putL dX8_fraction_44 flX8_91 rfl rfl rfl ?_
        refine x_iload dX8_fraction_47 3 rfl ?_
        refine x_iret dX8_fraction_49 rfl ?_
        exact ⟨_, rfl, rfl, rfl, rfl, rfl⟩
      · refine x_lload dX8_fraction_13 4 rfl ?_
        refine x_lload dX8_fraction_15 5 rfl ?_
        refine x_lrem dX8_fraction_17 (by omega) (by omega) ?_
        refine x_lstore (lv' := [(0, _), (1, _), (3, _), (5, _), (6, _), (8, _), (10, _)]) dX8_fraction_18 rfl rfl ?_
        refine x_lload dX8_fraction_20 5 rfl ?_
        refine x_lstore (lv' := [(0, _), (1, _), (3, _), (5, _), (6, _), (8, _), (10, _)]) dX8_fraction_22 rfl rfl ?_
        refine x_lload dX8_fraction_24 6 rfl ?_
        refine x_lstore (lv' := [(0, _), (1, _), (3, _), (5, _), (6, _), (8, _), (10, _)]) dX8_fraction_26 rfl rfl ?_
        refine x_goto (tgt := 6) dX8_fraction_28 (by decide) ?_
        have hm2 := hm (by omega)
        exact ih _ (by omega) _ _ rfl (by omega) (by omega) (by omega) (by omega) (by omega) (by rw [a_gcd_step (by omega)]; exact hg) _ (Or.inr ⟨_, rfl⟩)
    · refine x_lload dX8_fraction_6 5 rfl ?_
      refine x_lconst 0 dX8_fraction_8 rfl ?_
      refine x_lc_eq (tgt := 31) dX8_fraction_9 dX8_fraction_10 (by decide) (by omega) (fun h9 => ?_) (fun h9 => ?_)
      · subst h9
        rw [a_gcd_0 hx] at hg
        subst hg
        refine x_aload_n dX8_fraction_31 0 rfl rfl ?_
        refine x_lload_n dX8_fraction_32 1 rfl rfl ?_
        refine x_lload dX8_fraction_33 4 rfl ?_
        refine x_ldiv dX8_fraction_35 (by omega) (by omega) ?_
        refine x_putL dX8_fraction_36 flX8_115 rfl rfl rfl ?_
        refine x_aload_n dX8_fraction_39 0 rfl rfl ?_
        refine x_lload_n dX8_fraction_40 2 rfl rfl ?_
        refine x_lload dX8_fraction_41 4 rfl ?_
        refine x_ldiv dX8_fraction_43 (by omega) (by omega) ?_
        refine x_putL dX8_fraction_44 flX8_91 rfl rfl rfl ?_
        refine x_iload dX8_fraction_47 3 rfl ?_
        refine x_iret dX8_fraction_49 rfl ?_
        exact ⟨_, rfl, rfl, rfl, rfl, rfl⟩
      · refine x_lload dX8_fraction_13 4 rfl ?_
        refine x_lload dX8_fraction_15 5 rfl ?_
        refine x_lrem dX8_fraction_17 (by omega) (by omega) ?_
        refine x_lstore (lv' := [(0, _), (1, _), (3, _), (5, _), (6, _), (8, _), (10, _)]) dX8_fraction_18 rfl rfl ?_
        refine x_lload dX8_fraction_20 5 rfl ?_
        refine x_lstore (lv' := [(0, _), (1, _), (3, _), (5, _), (6, _), (8, _), (10, _)]) dX8_fraction_22 rfl rfl ?_
        refine x_lload dX8_fraction_24 6 rfl ?_
        refine x_lstore (lv' := [(0, _), (1, _), (3, _), (5, _), (6, _), (8, _), (10, _)]) dX8_fraction_26 rfl rfl ?_
        refine x_goto (tgt := 6) dX8_fraction_28 (by decide) ?_
        have hm2 := hm (by omega)
        exact ih _ (by omega) _ _ rfl (by omega) (by omega) (by omega) (by omega) (by omega) (by rw [a_gcd_step (by omega)]; exact hg) _ (Or.inr ⟨_, rfl⟩)
  exact loop _ u l rfl h1.1 h1.2 (by omega) h2.2 (by omega) rfl _ (Or.inl rfl)
theorem s_X8_finding : Sp G mtX8_finding [mr 0] shM I L rM (qi (pu (I 0 0) I L rM)) := by
  refine Sp.of pnX8_finding rfl ?_
  show Rn G mtX8_finding _ 0 [(0, mr 0)] [] shM I L rM
  refine x_aload_n dX8_finding_0 0 rfl rfl ?_
  refine x_getI dX8_finding_1 flX8_102 rfl rfl ?_
  refine x_iret dX8_finding_4 rfl ?_
  exact ⟨_, rfl, rfl, rfl, rfl, rfl⟩
theorem s_X8_asked : Sp G mtX8_asked [mr 0] shM I L rM (qi (pu (I 0 2) I L rM)) := by
  refine Sp.of pnX8_asked rfl ?_
  show Rn G mtX8_asked _ 0 [(0, mr 0)] [] shM I L rM
  refine x_aload_n dX8_asked_0 0 rfl rfl ?_
  refine x_getI dX8_asked_1 flX8_109 rfl rfl ?_
  refine x_iret dX8_asked_4 rfl ?_
  exact ⟨_, rfl, rfl, rfl, rfl, rfl⟩
theorem s_X8_many : Sp G mtX8_many [mr 0] shM I L rM (ql (pu (L 0 3) I L rM)) := by
  refine Sp.of pnX8_many rfl ?_
  show Rn G mtX8_many _ 0 [(0, mr 0)] [] shM I L rM
  refine x_aload_n dX8_many_0 0 rfl rfl ?_
  refine x_getL dX8_many_1 flX8_112 rfl rfl ?_
  refine x_lret dX8_many_4 rfl ?_
  exact ⟨_, rfl, rfl, rfl, rfl, rfl⟩
theorem s_X8_upper : Sp G mtX8_upper [mr 0] shM I L rM (ql (pu (L 0 4) I L rM)) := by
  refine Sp.of pnX8_upper rfl ?_
  show Rn G mtX8_upper _ 0 [(0, mr 0)] [] shM I L rM
  refine x_aload_n dX8_upper_0 0 rfl rfl ?_
  refine x_getL dX8_upper_1 flX8_115 rfl rfl ?_
  refine x_lret dX8_upper_4 rfl ?_
  exact ⟨_, rfl, rfl, rfl, rfl, rfl⟩
theorem s_X8_lower : Sp G mtX8_lower [mr 0] shM I L rM (ql (pu (L 0 5) I L rM)) := by
  refine Sp.of pnX8_lower rfl ?_
  show Rn G mtX8_lower _ 0 [(0, mr 0)] [] shM I L rM
  refine x_aload_n dX8_lower_0 0 rfl rfl ?_
  refine x_getL dX8_lower_1 flX8_91 rfl rfl ?_
  refine x_lret dX8_lower_4 rfl ?_
  exact ⟨_, rfl, rfl, rfl, rfl, rfl⟩
def s_findings (f : Int) (I : MI) : Int := if f < 1 ∨ 5 < f then -1 else I 1 f
theorem s_X8_findings {f : Int} (h : rI f) : Sp G mtX8_findings [mr 0, mi f] shM I L rM (qi (pu (s_findings f I) I L rM)) := by
  refine Sp.of pnX8_findings rfl ?_
  show Rn G mtX8_findings _ 0 [(0, mr 0), (1, mi f)] [] shM I L rM
  refine x_iload_n dX8_findings_0 1 rfl rfl ?_
  refine x_iconst dX8_findings_1 ?_
  refine x_iconst dX8_findings_2 ?_
  refine x_callSi (as := [_, _, _]) dX8_findings_3 lvX8_105 rfl rfl rfl rfl ⟨rfl, rfl⟩ (s_X8_in (by omega) (by omega) (by omega)) (fun z3 I3 L3 R3 hq3 => ?_)
  obtain ⟨rfl, rfl, rfl, rfl⟩ := hq3
  refine y_ifb_eq (tgt := 18) dX8_findings_6 (by decide) (fun h6 => ?_) (fun h6 => ?_)
  · refine x_iconst dX8_findings_18 ?_
    refine x_iret dX8_findings_19 rfl ?_
    first | exact ⟨_, rfl, (if_neg (by omega)).symm, rfl, rfl, rfl⟩ | exact ⟨_, rfl, (if_pos (by omega)).symm, rfl, rfl, rfl⟩
  · refine x_aload_n dX8_findings_9 0 rfl rfl ?_
    refine x_getR dX8_findings_10 flX8_7 rfl rfl rfl ?_
    refine x_iload_n dX8_findings_13 1 rfl rfl ?_
    refine x_iald dX8_findings_14 rfl (by omega) ?_
    refine x_goto (tgt := 19) dX8_findings_15 (by decide) ?_
    refine x_iret dX8_findings_19 rfl ?_
    first | exact ⟨_, rfl, (if_neg (by omega)).symm, rfl, rfl, rfl⟩ | exact ⟨_, rfl, (if_pos (by omega)).symm, rfl, rfl, rfl⟩
end

/-! THE CLASS: how many bits (the JDK's count), as the sum of the bits. -/
theorem tb_ushr {x : Int} {d : Nat} (hd : d < 32) (k : Nat) : tb (z_ushr x (d : Int)) k = tb x (d + k) := by
  have e : ∀ d : Nat, d < 32 → (((Int32.ofInt (d : Int)).toUInt32 &&& Int32.toUInt32 31).toBitVec % 32).toNat = d := by decide
  have e2 := e d hd
  simp only [tb, z_ushr, z_oi]
  show (((Int32.ofInt x).toUInt32 >>> ((Int32.ofInt (d : Int)).toUInt32 &&& Int32.toUInt32 31)).toBitVec).getLsbD k = _
  rw [UInt32.toBitVec_shiftRight, BitVec.ushiftRight_eq', e2, BitVec.getLsbD_ushiftRight]
  rfl
theorem z_ushr_nat {n d : Nat} (h : n < 2147483648) (hd : d < 32) : z_ushr (n : Int) (d : Int) = ((n / 2 ^ d : Nat) : Int) := by
  have h2 : n / 2 ^ d ≤ n := Nat.div_le_self _ _
  obtain ⟨m, hm⟩ : ∃ m, m = n / 2 ^ d := ⟨_, rfl⟩
  rw [← hm] at h2 ⊢
  apply tb_ext (z_ushr_r _ _) (by omega)
  intro k hk
  rw [tb_ushr hd, tb_nat h, tb_nat (by omega), hm, Nat.testBit_div_two_pow, Nat.add_comm]
theorem and_step {k a b : Nat} (ha : a < 2 ^ k) (hb : b < 2 ^ k) (x y : Nat) : (a + 2 ^ k * x) &&& (b + 2 ^ k * y) = (a &&& b) + 2 ^ k * (x &&& y) := by
  have hp : 0 < 2 ^ k := Nat.two_pow_pos k
  have h1 : ((a + 2 ^ k * x) &&& (b + 2 ^ k * y)) % 2 ^ k = a &&& b := by
    rw [Nat.and_mod_two_pow, Nat.add_mul_mod_self_left, Nat.add_mul_mod_self_left, Nat.mod_eq_of_lt ha, Nat.mod_eq_of_lt hb]
  have h2 : ((a + 2 ^ k * x) &&& (b + 2 ^ k * y)) / 2 ^ k = x &&& y := by
    rw [Nat.and_div_two_pow, Nat.add_mul_div_left _ _ hp, Nat.add_mul_div_left _ _ hp, Nat.div_eq_of_lt ha, Nat.div_eq_of_lt hb, Nat.zero_add, Nat.zero_add]
  have h3 := Nat.div_add_mod ((a + 2 ^ k * x) &&& (b + 2 ^ k * y)) (2 ^ k)
  rw [h1, h2] at h3
  exact h3.symm.trans (Nat.add_comm _ _)
def wp (w : Nat) : Nat → Nat → Nat
  | 0, _ => 0
  | k + 1, n => pcN w n + 2 ^ w * wp w k (n / 2 ^ w)
def wm (w v : Nat) : Nat → Nat
  | 0 => 0
  | k + 1 => v + 2 ^ w * wm w v k
theorem pcN_2 (n : Nat) : pcN 2 n = n % 2 + n / 2 % 2 := by
  show n % 2 + (n / 2 % 2 + 0) = _
  omega
theorem pcN_add : ∀ a b n, pcN (a + b) n = pcN a n + pcN b (n / 2 ^ a)
  | 0, b, n => by
    show pcN (0 + b) n = 0 + pcN b (n / 1)
    rw [Nat.zero_add, Nat.zero_add, Nat.div_one]
  | a + 1, b, n => by
    rw [show a + 1 + b = (a + b) + 1 by omega]
    show n % 2 + pcN (a + b) (n / 2) = (n % 2 + pcN a (n / 2)) + pcN b (n / 2 ^ (a + 1))
    rw [pcN_add a b (n / 2), Nat.div_div_eq_div_mul, Nat.pow_succ, Nat.mul_comm 2]
    omega
theorem sw1 : ∀ k n, n < 4 ^ k → n - (n / 2 &&& wm 2 1 k) = wp 2 k n ∧ (n / 2 &&& wm 2 1 k) ≤ n
  | 0, n, h => by
    have : n = 0 := by simpa using h
    subst this
    exact ⟨rfl, Nat.le_refl _⟩
  | k + 1, n, h => by
    have hm : n / 4 < 4 ^ k := by rw [Nat.pow_succ] at h; omega
    obtain ⟨i1, i2⟩ := sw1 k (n / 4) hm
    have e := and_step (k := 2) (a := n / 2 % 4) (b := 1) (by omega) (by omega) (n / 4 / 2) (wm 2 1 k)
    have e1 : n / 2 % 4 &&& 1 = n / 2 % 2 := by rw [Nat.and_one_is_mod]; omega
    have e2 : n / 2 % 4 + 2 ^ 2 * (n / 4 / 2) = n / 2 := by omega
    rw [e1, e2] at e
    have d1 : wm 2 1 (k + 1) = 1 + 2 ^ 2 * wm 2 1 k := rfl
    have d2 : wp 2 (k + 1) n = pcN 2 n + 2 ^ 2 * wp 2 k (n / 2 ^ 2) := rfl
    have p := pcN_2 n
    rw [d1, d2, e, p, show (2 : Nat) ^ 2 = 4 from rfl]
    omega
theorem sw2 : ∀ k n, (wp 2 (2 * k) n &&& wm 4 3 k) + (wp 2 (2 * k) n / 4 &&& wm 4 3 k) = wp 4 k n
  | 0, n => by simp [wp, wm]
  | k + 1, n => by
    have ih := sw2 k (n / 16)
    have d0 : wp 2 (2 * (k + 1)) n = pcN 2 n + 4 * (pcN 2 (n / 4) + 4 * wp 2 (2 * k) (n / 4 / 4)) := rfl
    rw [show n / 4 / 4 = n / 16 by omega] at d0
    have p1 := pcN_le 2 n
    have p2 := pcN_le 2 (n / 4)
    have d1 : wm 4 3 (k + 1) = 3 + 2 ^ 4 * wm 4 3 k := rfl
    have d2 : wp 4 (k + 1) n = pcN 4 n + 2 ^ 4 * wp 4 k (n / 2 ^ 4) := rfl
    have p3 : pcN 4 n = pcN 2 n + pcN 2 (n / 2 ^ 2) := pcN_add 2 2 n
    rw [show n / 2 ^ 2 = n / 4 from rfl] at p3
    rw [show n / 2 ^ 4 = n / 16 from rfl] at d2
    obtain ⟨a, ha⟩ : ∃ a, a = pcN 2 n := ⟨_, rfl⟩
    obtain ⟨b, hb⟩ : ∃ b, b = pcN 2 (n / 4) := ⟨_, rfl⟩
    obtain ⟨Y, hY⟩ : ∃ Y, Y = wp 2 (2 * k) (n / 16) := ⟨_, rfl⟩
    rw [← ha] at p1 p3 d0
    rw [← hb] at p2 p3 d0
    rw [← hY] at d0 ih
    have e1 := and_step (k := 4) (a := a + 4 * b) (b := 3) (by omega) (by omega) Y (wm 4 3 k)
    have e2 := and_step (k := 4) (a := b + 4 * (Y % 4)) (b := 3) (by omega) (by omega) (Y / 4) (wm 4 3 k)
    have f1 : (a + 4 * b) &&& 3 = a := by
      rw [show (3 : Nat) = 2 ^ 2 - 1 from rfl, Nat.and_two_pow_sub_one_eq_mod]
      omega
    have f2 : (b + 4 * (Y % 4)) &&& 3 = b := by
      rw [show (3 : Nat) = 2 ^ 2 - 1 from rfl, Nat.and_two_pow_sub_one_eq_mod]
      omega
    rw [f1] at e1
    rw [f2] at e2
    rw [d1, d2, p3, d0, show a + 4 * (b + 4 * Y) = a + 4 * b + 2 ^ 4 * Y by omega, e1, show (a + 4 * b + 2 ^ 4 * Y) / 4 = b + 4 * (Y % 4) + 2 ^ 4 * (Y / 4) by omega, e2, ← ih]
    omega
theorem wp4_m (k n : Nat) : wp 4 k n % 16 ≤ 4 := by
  cases k with
  | zero => exact Nat.zero_le _
  | succ k =>
    have d2 : wp 4 (k + 1) n = pcN 4 n + 2 ^ 4 * wp 4 k (n / 2 ^ 4) := rfl
    have := pcN_le 4 n
    omega
theorem sw3 : ∀ k n, (wp 4 (2 * k) n + wp 4 (2 * k) n / 16) &&& wm 8 15 k = wp 8 k n
  | 0, n => Nat.and_zero _
  | k + 1, n => by
    have ih := sw3 k (n / 256)
    have d0 : wp 4 (2 * (k + 1)) n = pcN 4 n + 16 * (pcN 4 (n / 16) + 16 * wp 4 (2 * k) (n / 16 / 16)) := rfl
    rw [show n / 16 / 16 = n / 256 by omega] at d0
    have p1 := pcN_le 4 n
    have p2 := pcN_le 4 (n / 16)
    have p4 := wp4_m (2 * k) (n / 256)
    have d1 : wm 8 15 (k + 1) = 15 + 2 ^ 8 * wm 8 15 k := rfl
    have d2 : wp 8 (k + 1) n = pcN 8 n + 2 ^ 8 * wp 8 k (n / 2 ^ 8) := rfl
    have p3 : pcN 8 n = pcN 4 n + pcN 4 (n / 2 ^ 4) := pcN_add 4 4 n
    rw [show n / 2 ^ 4 = n / 16 from rfl] at p3
    rw [show n / 2 ^ 8 = n / 256 from rfl] at d2
    obtain ⟨a, ha⟩ : ∃ a, a = pcN 4 n := ⟨_, rfl⟩
    obtain ⟨b, hb⟩ : ∃ b, b = pcN 4 (n / 16) := ⟨_, rfl⟩
    obtain ⟨Y, hY⟩ : ∃ Y, Y = wp 4 (2 * k) (n / 256) := ⟨_, rfl⟩
    rw [← ha] at p1 p3 d0
    rw [← hb] at p2 p3 d0
    rw [← hY] at d0 ih p4
    have e1 := and_step (k := 8) (a := a + b + 16 * (b + Y % 16)) (b := 15) (by omega) (by omega) (Y + Y / 16) (wm 8 15 k)
    have f1 : (a + b + 16 * (b + Y % 16)) &&& 15 = a + b := by
      rw [show (15 : Nat) = 2 ^ 4 - 1 from rfl, Nat.and_two_pow_sub_one_eq_mod]
      omega
    rw [f1] at e1
    rw [d1, d2, p3, d0, show a + 16 * (b + 16 * Y) + (a + 16 * (b + 16 * Y)) / 16 = a + b + 16 * (b + Y % 16) + 2 ^ 8 * (Y + Y / 16) by omega, e1, ← ih]
theorem swar {n : Nat} (h : n < 4294967296) : ∀ y1 y2 y3 y4 y5, y1 = n - (n / 2 &&& 1431655765) → y2 = (y1 &&& 858993459) + (y1 / 4 &&& 858993459) → y3 = (y2 + y2 / 16) &&& 252645135 → y4 = y3 + y3 / 256 → y5 = y4 + y4 / 65536 →
    y5 &&& 63 = pcN 32 n ∧ (n / 2 &&& 1431655765) ≤ n ∧ y2 < 1145324613 ∧ y3 < 134744073 := by
  intro y1 y2 y3 y4 y5 h1 h2 h3 h4 h5
  have a1 := sw1 16 n (by omega)
  rw [show wm 2 1 16 = 1431655765 by decide] at a1
  rw [a1.1] at h1
  have a2 := sw2 8 n
  rw [show wm 4 3 8 = 858993459 by decide] at a2
  rw [h1] at h2
  rw [show (16 : Nat) = 2 * 8 from rfl, a2] at h2
  have a3 := sw3 4 n
  rw [show wm 8 15 4 = 252645135 by decide] at a3
  rw [h2] at h3
  rw [show (8 : Nat) = 2 * 4 from rfl, a3] at h3
  have d3 : wp 8 4 n = pcN 8 n + 256 * (pcN 8 (n / 256) + 256 * (pcN 8 (n / 256 / 256) + 256 * (pcN 8 (n / 256 / 256 / 256) + 256 * 0))) := rfl
  have q : pcN 32 n = pcN 8 n + (pcN 8 (n / 256) + (pcN 8 (n / 256 / 256) + pcN 8 (n / 256 / 256 / 256))) := by
    rw [pcN_add 8 24 n, show n / 2 ^ 8 = n / 256 from rfl, pcN_add 8 16 (n / 256), show n / 256 / 2 ^ 8 = n / 256 / 256 from rfl, pcN_add 8 8 (n / 256 / 256)]
  have p0 := pcN_le 8 n
  have p1 := pcN_le 8 (n / 256)
  have p2 := pcN_le 8 (n / 256 / 256)
  have p3 := pcN_le 8 (n / 256 / 256 / 256)
  have b2 : ∀ k n, wp 4 k n * 15 ≤ 4 * (16 ^ k - 1) := by
    intro k
    induction k with
    | zero => intro n; exact Nat.le_refl _
    | succ k ih =>
      intro n
      have d2 : wp 4 (k + 1) n = pcN 4 n + 16 * wp 4 k (n / 16) := rfl
      have := ih (n / 16)
      have := pcN_le 4 n
      have := Nat.pow_pos (n := k) (a := 16) (by decide)
      rw [Nat.pow_succ]
      omega
  have b3 := b2 8 n
  refine ⟨?_, a1.2, ?_, ?_⟩
  · rw [show (63 : Nat) = 2 ^ 6 - 1 from rfl, Nat.and_two_pow_sub_one_eq_mod, q]
    clear a1 a2 b3 b2 h1 h2 a3 q
    rw [d3] at h3
    generalize pcN 8 n = r0 at *
    generalize pcN 8 (n / 256) = r1 at *
    generalize pcN 8 (n / 256 / 256) = r2 at *
    generalize pcN 8 (n / 256 / 256 / 256) = r3 at *
    have f1 : y3 / 256 = r1 + 256 * r2 + 65536 * r3 := by omega
    have f2 : y4 = r0 + r1 + 256 * (r1 + r2) + 65536 * (r2 + r3 + 256 * r3) := by omega
    have f3 : y4 / 65536 = r2 + r3 + 256 * r3 := by omega
    have f4 : y5 = (r0 + r1 + r2 + r3) + 64 * (4 * (r1 + r2) + 1024 * (r2 + r3 + 256 * r3) + 4 * r3) := by omega
    omega
  · rw [h2]
    have : (16 : Nat) ^ 8 = 4294967296 := by decide
    omega
  · omega
theorem swarI {x : Int} (h : 0 ≤ x ∧ x ≤ 2147483647) : ∀ y1 y2 y3 y4 y5, y1 = x - z_and (z_ushr x 1) 1431655765 → y2 = z_and y1 858993459 + z_and (z_ushr y1 2) 858993459 → y3 = z_and (y2 + z_ushr y2 4) 252645135 → y4 = y3 + z_ushr y3 8 → y5 = y4 + z_ushr y4 16 → z_and y5 63 = pc x := by
  intro y1 y2 y3 y4 y5 h1 h2 h3 h4 h5
  obtain ⟨n, rfl⟩ : ∃ n : Nat, x = (n : Int) := ⟨x.toNat, by omega⟩
  obtain ⟨s1, s2, s3, s4⟩ := swar (n := n) (by omega) _ _ _ _ _ rfl rfl rfl rfl rfl
  have c : ∀ a b : Nat, a < 2147483648 → b < 2147483648 → z_and (a : Int) (b : Int) = ((a &&& b : Nat) : Int) := fun a b ha hb => by
    rw [z_and_nat (by omega) (by omega)]
    rfl
  have m1 := Nat.and_le_left (n := n / 2) (m := 1431655765)
  have u1 := z_ushr_nat (n := n) (d := 1) (by omega) (by omega)
  rw [show ((1 : Nat) : Int) = 1 from rfl, show (2 : Nat) ^ 1 = 2 from rfl] at u1
  rw [u1, show (1431655765 : Int) = ((1431655765 : Nat) : Int) from rfl, c _ _ (by omega) (by omega)] at h1
  obtain ⟨w1, hw1⟩ : ∃ w, w = n - (n / 2 &&& 1431655765) := ⟨_, rfl⟩
  have e1 : y1 = (w1 : Int) := by omega
  rw [← hw1] at s1 s3 s4
  have u2 := z_ushr_nat (n := w1) (d := 2) (by omega) (by omega)
  rw [show ((2 : Nat) : Int) = 2 from rfl, show (2 : Nat) ^ 2 = 4 from rfl] at u2
  rw [e1, u2, show (858993459 : Int) = ((858993459 : Nat) : Int) from rfl, c _ _ (by omega) (by omega), c _ _ (by omega) (by omega)] at h2
  obtain ⟨w2, hw2⟩ : ∃ w, w = (w1 &&& 858993459) + (w1 / 4 &&& 858993459) := ⟨_, rfl⟩
  have e2 : y2 = (w2 : Int) := by omega
  rw [← hw2] at s1 s3 s4
  have u3 := z_ushr_nat (n := w2) (d := 4) (by omega) (by omega)
  rw [show ((4 : Nat) : Int) = 4 from rfl, show (2 : Nat) ^ 4 = 16 from rfl] at u3
  rw [e2, u3, show (252645135 : Int) = ((252645135 : Nat) : Int) from rfl, show (w2 : Int) + ((w2 / 16 : Nat) : Int) = ((w2 + w2 / 16 : Nat) : Int) by omega, c _ _ (by omega) (by omega)] at h3
  obtain ⟨w3, hw3⟩ : ∃ w, w = (w2 + w2 / 16) &&& 252645135 := ⟨_, rfl⟩
  rw [← hw3] at s1 s4 h3
  have u4 := z_ushr_nat (n := w3) (d := 8) (by omega) (by omega)
  rw [show ((8 : Nat) : Int) = 8 from rfl, show (2 : Nat) ^ 8 = 256 from rfl] at u4
  rw [h3, u4] at h4
  obtain ⟨w4, hw4⟩ : ∃ w, w = w3 + w3 / 256 := ⟨_, rfl⟩
  rw [← hw4] at s1
  have e4 : y4 = (w4 : Int) := by omega
  have u5 := z_ushr_nat (n := w4) (d := 16) (by omega) (by omega)
  rw [show ((16 : Nat) : Int) = 16 from rfl, show (2 : Nat) ^ 16 = 65536 from rfl] at u5
  rw [e4, u5, show (w4 : Int) + ((w4 / 65536 : Nat) : Int) = ((w4 + w4 / 65536 : Nat) : Int) by omega] at h5
  rw [h5, show (63 : Int) = ((63 : Nat) : Int) from rfl, c _ _ (by omega) (by omega), s1]
  rfl
section
variable {G : GT} {I L : MI} {R : MR} {p h na nb nk : Nat}

theorem s_J6_bitCount {x : Int} (h : 0 ≤ x ∧ x ≤ 2147483647) : Sp G mtJ6_bitCount_0f7a4 [mi x] shX I L R (qi (pu (pc x) I L R)) := by
  refine Sp.of pnJ6_bitCount_0f7a4 rfl ?_
  show Rn G mtJ6_bitCount_0f7a4 _ 0 [(0, mi x)] [] shX I L R
  generalize hQ : (qi (pu (pc x) I L R)) = Q
  refine x_iload_n dJ6_bitCount_0f7a4_0 0 rfl rfl ?_
  refine x_iload_n dJ6_bitCount_0f7a4_1 0 rfl rfl ?_
  refine x_iconst dJ6_bitCount_0f7a4_2 ?_
  refine x_iushr dJ6_bitCount_0f7a4_3 ?_
  refine x_ldcw (1431655765) dJ6_bitCount_0f7a4_4 lkJ6_265 ?_
  refine x_iand dJ6_bitCount_0f7a4_7 ?_
  refine x_isub dJ6_bitCount_0f7a4_8 ?_
  refine x_istore_n (lv' := [(0, _)]) dJ6_bitCount_0f7a4_9 rfl rfl rfl ?_
  refine x_iload_n dJ6_bitCount_0f7a4_10 0 rfl rfl ?_
  refine x_ldcw (858993459) dJ6_bitCount_0f7a4_11 lkJ6_266 ?_
  refine x_iand dJ6_bitCount_0f7a4_14 ?_
  refine x_iload_n dJ6_bitCount_0f7a4_15 0 rfl rfl ?_
  refine x_iconst dJ6_bitCount_0f7a4_16 ?_
  refine x_iushr dJ6_bitCount_0f7a4_17 ?_
  refine x_ldcw (858993459) dJ6_bitCount_0f7a4_18 lkJ6_266 ?_
  refine x_iand dJ6_bitCount_0f7a4_21 ?_
  refine x_iadd dJ6_bitCount_0f7a4_22 ?_
  refine x_istore_n (lv' := [(0, _)]) dJ6_bitCount_0f7a4_23 rfl rfl rfl ?_
  refine x_iload_n dJ6_bitCount_0f7a4_24 0 rfl rfl ?_
  refine x_iload_n dJ6_bitCount_0f7a4_25 0 rfl rfl ?_
  refine x_iconst dJ6_bitCount_0f7a4_26 ?_
  refine x_iushr dJ6_bitCount_0f7a4_27 ?_
  refine x_iadd dJ6_bitCount_0f7a4_28 ?_
  refine x_ldcw (252645135) dJ6_bitCount_0f7a4_29 lkJ6_267 ?_
  refine x_iand dJ6_bitCount_0f7a4_32 ?_
  refine x_istore_n (lv' := [(0, _)]) dJ6_bitCount_0f7a4_33 rfl rfl rfl ?_
  refine x_iload_n dJ6_bitCount_0f7a4_34 0 rfl rfl ?_
  refine x_iload_n dJ6_bitCount_0f7a4_35 0 rfl rfl ?_
  refine x_bipush dJ6_bitCount_0f7a4_36 (by decide) ?_
  refine x_iushr dJ6_bitCount_0f7a4_38 ?_
  refine x_iadd dJ6_bitCount_0f7a4_39 ?_
  refine x_istore_n (lv' := [(0, _)]) dJ6_bitCount_0f7a4_40 rfl rfl rfl ?_
  refine x_iload_n dJ6_bitCount_0f7a4_41 0 rfl rfl ?_
  refine x_iload_n dJ6_bitCount_0f7a4_42 0 rfl rfl ?_
  refine x_bipush dJ6_bitCount_0f7a4_43 (by decide) ?_
  refine x_iushr dJ6_bitCount_0f7a4_45 ?_
  refine x_iadd dJ6_bitCount_0f7a4_46 ?_
  refine x_istore_n (lv' := [(0, _)]) dJ6_bitCount_0f7a4_47 rfl rfl rfl ?_
  refine x_iload_n dJ6_bitCount_0f7a4_48 0 rfl rfl ?_
  refine x_bipush dJ6_bitCount_0f7a4_49 (by decide) ?_
  refine x_iand dJ6_bitCount_0f7a4_51 ?_
  refine x_iret dJ6_bitCount_0f7a4_52 rfl ?_
  rw [← hQ]
  exact ⟨_, rfl, swarI h _ _ _ _ _ rfl rfl rfl rfl rfl, rfl, rfl, rfl⟩
end

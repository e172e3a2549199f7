/-! BITS of whole numbers that stand for 32 bits. -/
def tb (x : Int) (k : Nat) : Bool := (Int32.ofInt x).toBitVec.getLsbD k
theorem z_rng (x : Int32) : rI x.toInt := by
  have h1 := Int32.minValue_le_toInt x
  have h2 := Int32.toInt_le x
  constructor
  · have : Int32.minValue.toInt = -2147483648 := by decide
    omega
  · have : Int32.maxValue.toInt = 2147483647 := by decide
    omega
theorem z_and_r (x y : Int) : rI (z_and x y) := z_rng _
theorem z_or_r (x y : Int) : rI (z_or x y) := z_rng _
theorem z_xor_r (x y : Int) : rI (z_xor x y) := z_rng _
theorem z_shl_r (x y : Int) : rI (z_shl x y) := z_rng _
theorem z_shr_r (x y : Int) : rI (z_shr x y) := z_rng _
theorem z_ushr_r (x y : Int) : rI (z_ushr x y) := z_rng _
theorem tb_and (x y : Int) (k : Nat) : tb (z_and x y) k = (tb x k && tb y k) := by simp [tb, z_and, z_oi]
theorem tb_or (x y : Int) (k : Nat) : tb (z_or x y) k = (tb x k || tb y k) := by simp [tb, z_or, z_oi]
theorem tb_xor (x y : Int) (k : Nat) : tb (z_xor x y) k = (tb x k ^^ tb y k) := by simp [tb, z_xor, z_oi]
theorem tb_ext {x y : Int} (hx : rI x) (hy : rI y) (h : ∀ k, k < 32 → tb x k = tb y k) : x = y := by
  have e : Int32.ofInt x = Int32.ofInt y := by
    apply Int32.toBitVec_inj.mp
    apply BitVec.eq_of_getLsbD_eq
    intro k hk
    exact h k hk
  exact (z_eq hx hy).mp e
theorem tb_big (x : Int) {k : Nat} (h : 32 ≤ k) : tb x k = false := by simp [tb, h]
theorem z_sh32 : ∀ n : Nat, n < 32 → ((Int32.ofInt (n : Int) &&& 31).toBitVec.smod 32).toNat = n := by decide
theorem tb_shl {x d : Int} (hd : 0 ≤ d ∧ d < 32) {k : Nat} (hk : k < 32) : tb (z_shl x d) k = (decide (d.toNat ≤ k) && tb x (k - d.toNat)) := by
  have e := z_sh32 d.toNat (by omega)
  rw [show ((d.toNat : Nat) : Int) = d by omega] at e
  simp only [tb, z_shl, z_oi, Int32.toBitVec_shiftLeft]
  rw [BitVec.shiftLeft_eq', e, BitVec.getLsbD_shiftLeft]
  by_cases h : d.toNat ≤ k
  · simp [hk, h, Nat.not_lt.mpr h]
  · simp [hk, h, Nat.not_le.mp h]
theorem tb_shr {x d : Int} (hd : 0 ≤ d ∧ d < 32) {k : Nat} (hk : k + d.toNat < 32) : tb (z_shr x d) k = tb x (k + d.toNat) := by
  have e := z_sh32 d.toNat (by omega)
  rw [show ((d.toNat : Nat) : Int) = d by omega] at e
  simp only [tb, z_shr, z_oi, Int32.toBitVec_shiftRight]
  rw [BitVec.sshiftRight_eq', e, BitVec.getLsbD_sshiftRight]
  simp [Nat.add_comm, show ¬ 32 ≤ k by omega, hk]
theorem tb_nat {n : Nat} (h : n < 2147483648) (k : Nat) : tb (n : Int) k = n.testBit k := by
  simp only [tb, Int32.toBitVec_ofInt, BitVec.getLsbD, BitVec.toNat_ofInt]
  rw [show ((n : Int) % ((2 ^ 32 : Nat) : Int)).toNat = n by omega]
theorem tb_int {x : Int} (h : 0 ≤ x ∧ x ≤ 2147483647) (k : Nat) : tb x k = x.toNat.testBit k := by
  have := tb_nat (n := x.toNat) (by omega) k
  rw [show ((x.toNat : Nat) : Int) = x by omega] at this
  exact this
theorem tb_0 (k : Nat) : tb 0 k = false := by rw [tb_int (by omega)]; simp
theorem tb_1 (k : Nat) : tb 1 k = decide (k = 0) := by
  rw [tb_int (by omega)]
  cases k <;> simp [Nat.testBit_succ]
theorem tb_m1 {k : Nat} (h : k < 32) : tb (-1) k = true := by
  have : ∀ k, k < 32 → tb (-1) k = true := by decide
  exact this k h
theorem tb_sh1 {d : Int} (hd : 0 ≤ d ∧ d < 32) {k : Nat} (hk : k < 32) : tb (z_shl 1 d) k = decide (k = d.toNat) := by
  rw [tb_shl hd hk, tb_1]
  by_cases h : k = d.toNat
  · simp [h]
  · by_cases h2 : d.toNat ≤ k
    · simp [h, h2]; omega
    · simp [h, h2]
/-- nothing below the sign -/
theorem tb_nn {x : Int} (h : rI x) : 0 ≤ x ↔ tb x 31 = false := by
  rcases Int.lt_or_le x 0 with q | q
  · have : tb x 31 = true := by
      simp only [tb, Int32.toBitVec_ofInt, BitVec.getLsbD, BitVec.toNat_ofInt]
      rw [show (x % ((2 ^ 32 : Nat) : Int)).toNat = (x + 4294967296).toNat by omega]
      rw [Nat.testBit_eq_decide_div_mod_eq]
      simp
      omega
    simp [this, Int.not_le.mpr q]
  · rw [tb_int (by omega)]
    simp [q]
    apply Nat.testBit_lt_two_pow
    omega
theorem tb_up {x : Int} (h : rI x) (n : Nat) (hn : n ≤ 31) : (0 ≤ x ∧ x < 2 ^ n) ↔ ∀ k, n ≤ k → k < 32 → tb x k = false := by
  constructor
  · intro h1 k hk _
    have hp : (2 : Int) ^ n ≤ 2 ^ 31 := by
      have : (2 : Nat) ^ n ≤ 2 ^ 31 := Nat.pow_le_pow_right (by omega) hn
      exact_mod_cast this
    rw [tb_int (by omega)]
    apply Nat.testBit_lt_two_pow
    have h2 : x.toNat < 2 ^ n := by
      have : ((2 ^ n : Nat) : Int) = (2 : Int) ^ n := by norm_cast
      omega
    exact Nat.lt_of_lt_of_le h2 (Nat.pow_le_pow_right (by omega) hk)
  · intro h1
    have h0 : 0 ≤ x := (tb_nn h).mpr (h1 31 hn (by omega))
    refine ⟨h0, ?_⟩
    have h2 : x.toNat < 2 ^ n := by
      apply Nat.lt_pow_two_of_testBit
      intro k hk
      by_cases hk2 : k < 32
      · rw [← tb_int (by omega)]; exact h1 k hk hk2
      · rw [← tb_int (by omega)]; exact tb_big _ (by omega)
    have : ((2 ^ n : Nat) : Int) = (2 : Int) ^ n := by norm_cast
    omega
theorem z_bit {x d : Int} (hd : 0 ≤ d ∧ d < 32) : z_and (z_shr x d) 1 = b01 (tb x d.toNat = true) := by
  apply tb_ext (z_and_r _ _) (by have := b01_r (tb x d.toNat = true); omega)
  intro k hk
  rw [tb_and, tb_1]
  by_cases h : k = 0
  · subst h
    rw [tb_shr hd (by omega)]
    cases hx : tb x (0 + d.toNat)
    · simp [b01, show tb x d.toNat = false by simpa using hx, tb_0]
    · simp [b01, show tb x d.toNat = true by simpa using hx, tb_1]
  · simp [h]
    unfold b01
    split
    · rw [tb_1]; simp [h]
    · rw [tb_0]
theorem z_and_0 (x : Int) : z_and x 0 = 0 := tb_ext (z_and_r _ _) (by omega) (fun k hk => by rw [tb_and, tb_0]; simp)
theorem z_or_0 {x : Int} (h : rI x) : z_or x 0 = x := tb_ext (z_or_r _ _) h (fun k hk => by rw [tb_or, tb_0]; simp)
theorem z_0_or {x : Int} (h : rI x) : z_or 0 x = x := tb_ext (z_or_r _ _) h (fun k hk => by rw [tb_or, tb_0]; simp)
/-- how many bits are set, of the first n -/
def pcN : Nat → Nat → Nat
  | 0, _ => 0
  | n + 1, x => x % 2 + pcN n (x / 2)
def pc (x : Int) : Int := pcN 32 x.toNat
theorem pcN_le : ∀ n x, pcN n x ≤ n
  | 0, _ => Nat.le_refl _
  | n + 1, x => by
    have := pcN_le n (x / 2)
    unfold pcN
    omega
theorem pcN_0 : ∀ n, pcN n 0 = 0
  | 0 => rfl
  | n + 1 => by unfold pcN; simp [pcN_0 n]
theorem z_and_nat {x y : Int} (hx : 0 ≤ x ∧ x ≤ 2147483647) (hy : 0 ≤ y ∧ y ≤ 2147483647) : z_and x y = ((x.toNat &&& y.toNat : Nat) : Int) := by
  have hl : x.toNat &&& y.toNat ≤ x.toNat := Nat.and_le_left
  apply tb_ext (z_and_r _ _) (by omega)
  intro k hk
  rw [tb_and, tb_int hx, tb_int hy, tb_nat (by omega), Nat.testBit_and]
theorem pc_r (x : Int) : 0 ≤ pc x ∧ pc x ≤ 32 := by
  have := pcN_le 32 x.toNat
  unfold pc
  omega


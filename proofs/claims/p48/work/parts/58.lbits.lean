/-! BITS of whole numbers that stand for 64 bits. -/
def tbl (x : Int) (k : Nat) : Bool := (Int64.ofInt x).toBitVec.getLsbD k
abbrev rL (x : Int) : Prop := -9223372036854775808 ≤ x ∧ x ≤ 9223372036854775807
theorem z_rngl (x : Int64) : rL x.toInt := by
  have h1 := Int64.minValue_le_toInt x
  have h2 := Int64.toInt_le x
  constructor
  · have : Int64.minValue.toInt = -9223372036854775808 := by decide
    omega
  · have : Int64.maxValue.toInt = 9223372036854775807 := by decide
    omega
theorem z_oil (x : Int64) : Int64.ofInt x.toInt = x := Int64.ofInt_toInt x
theorem z_landl_r (x y : Int) : rL (z_landl x y) := z_rngl _
theorem z_lorl_r (x y : Int) : rL (z_lorl x y) := z_rngl _
theorem z_shll_r (x y : Int) : rL (z_shll x y) := z_rngl _
theorem tbl_and (x y : Int) (k : Nat) : tbl (z_landl x y) k = (tbl x k && tbl y k) := by simp [tbl, z_landl, z_oil]
theorem tbl_or (x y : Int) (k : Nat) : tbl (z_lorl x y) k = (tbl x k || tbl y k) := by simp [tbl, z_lorl, z_oil]
theorem tbl_xor (x y : Int) (k : Nat) : tbl (z_lxorl x y) k = (tbl x k ^^ tbl y k) := by simp [tbl, z_lxorl, z_oil]
theorem tbl_ext {x y : Int} (hx : rL x) (hy : rL y) (h : ∀ k, k < 64 → tbl x k = tbl y k) : x = y := by
  have e : Int64.ofInt x = Int64.ofInt y := by
    apply Int64.toBitVec_inj.mp
    apply BitVec.eq_of_getLsbD_eq
    intro k hk
    exact h k hk
  have h1 : (Int64.ofInt x).toInt = x := Int64.toInt_ofInt_of_le hx.1 (by omega)
  have h2 : (Int64.ofInt y).toInt = y := Int64.toInt_ofInt_of_le hy.1 (by omega)
  rw [← h1, ← h2, e]
theorem z_sh64 : ∀ n : Nat, n < 64 → (((Int32.ofInt (n : Int)).toInt64 &&& 63).toBitVec.smod 64).toNat = n := by decide
theorem tbl_shl {x d : Int} (hd : 0 ≤ d ∧ d < 64) {k : Nat} (hk : k < 64) : tbl (z_shll x d) k = (decide (d.toNat ≤ k) && tbl x (k - d.toNat)) := by
  have e := z_sh64 d.toNat (by omega)
  rw [show ((d.toNat : Nat) : Int) = d by omega] at e
  simp only [tbl, z_shll, z_oil, Int64.toBitVec_shiftLeft]
  rw [BitVec.shiftLeft_eq', e, BitVec.getLsbD_shiftLeft]
  by_cases h : d.toNat ≤ k
  · simp [hk, h, Nat.not_lt.mpr h]
  · simp [hk, h, Nat.not_le.mp h]
theorem tbl_shr {x d : Int} (hd : 0 ≤ d ∧ d < 64) {k : Nat} (hk : k + d.toNat < 64) : tbl (z_shrl x d) k = tbl x (k + d.toNat) := by
  have e := z_sh64 d.toNat (by omega)
  rw [show ((d.toNat : Nat) : Int) = d by omega] at e
  simp only [tbl, z_shrl, z_oil, Int64.toBitVec_shiftRight]
  rw [BitVec.sshiftRight_eq', e, BitVec.getLsbD_sshiftRight]
  simp [Nat.add_comm, show ¬ 64 ≤ k by omega, hk]
theorem tbl_nat {n : Nat} (h : n < 9223372036854775808) (k : Nat) : tbl (n : Int) k = n.testBit k := by
  simp only [tbl, Int64.toBitVec_ofInt, BitVec.getLsbD, BitVec.toNat_ofInt]
  rw [show ((n : Int) % ((2 ^ 64 : Nat) : Int)).toNat = n by omega]
theorem tbl_int {x : Int} (h : 0 ≤ x ∧ x ≤ 9223372036854775807) (k : Nat) : tbl x k = x.toNat.testBit k := by
  have := tbl_nat (n := x.toNat) (by omega) k
  rw [show ((x.toNat : Nat) : Int) = x by omega] at this
  exact this
theorem tbl_0 (k : Nat) : tbl 0 k = false := by rw [tbl_int (by omega)]; simp
theorem tbl_1 (k : Nat) : tbl 1 k = decide (k = 0) := by
  rw [tbl_int (by omega)]
  cases k <;> simp [Nat.testBit_succ]
theorem tbl_sh1 {d : Int} (hd : 0 ≤ d ∧ d < 64) {k : Nat} (hk : k < 64) : tbl (z_shll 1 d) k = decide (k = d.toNat) := by
  rw [tbl_shl hd hk, tbl_1]
  by_cases h : k = d.toNat
  · simp [h]
  · by_cases h2 : d.toNat ≤ k
    · simp [h, h2]; omega
    · simp [h, h2]
theorem z_bitl {x d : Int} (hd : 0 ≤ d ∧ d < 64) : z_landl (z_shrl x d) 1 = b01 (tbl x d.toNat = true) := by
  apply tbl_ext (z_landl_r _ _) (by have := b01_r (tbl x d.toNat = true); omega)
  intro k hk
  rw [tbl_and, tbl_1]
  by_cases h : k = 0
  · subst h
    rw [tbl_shr hd (by omega)]
    cases hx : tbl x (0 + d.toNat)
    · simp [b01, show tbl x d.toNat = false by simpa using hx, tbl_0]
    · simp [b01, show tbl x d.toNat = true by simpa using hx, tbl_1]
  · simp [h]
    unfold b01
    split
    · rw [tbl_1]; simp [h]
    · rw [tbl_0]
theorem tb_shr0 {x d : Int} (hx : 0 ≤ x ∧ x ≤ 2147483647) (hd : 0 ≤ d ∧ d < 32) {k : Nat} (hk : k < 32) : tb (z_shr x d) k = tb x (k + d.toNat) := by
  by_cases h : k + d.toNat < 32
  · exact tb_shr hd h
  · rw [tb_big x (by omega)]
    have hm : tb x 31 = false := (tb_nn (by omega)).mp hx.1
    have e := z_sh32 d.toNat (by omega)
    rw [show ((d.toNat : Nat) : Int) = d by omega] at e
    simp only [tb, z_shr, z_oi, Int32.toBitVec_shiftRight] at hm ⊢
    rw [BitVec.sshiftRight_eq', e, BitVec.getLsbD_sshiftRight, if_neg (by omega), BitVec.msb_eq_getLsbD_last]
    rw [show (32 - 1 : Nat) = 31 from rfl, hm, Bool.and_false]
theorem z_div64 (n : Nat) (hn : n < 1728) : z_shr (n : Int) 6 = ((n / 64 : Nat) : Int) ∧ z_and (n : Int) 63 = ((n % 64 : Nat) : Int) := by
  constructor
  · apply tb_ext (z_shr_r _ _) (by omega)
    intro k hk
    rw [tb_shr0 (by omega) (by omega) hk, tb_nat (by omega), tb_nat (by omega), show (64 : Nat) = 2 ^ 6 from rfl, ← Nat.shiftRight_eq_div_pow, Nat.testBit_shiftRight, Nat.add_comm]
    rfl
  · rw [z_and_nat (by omega) (by omega)]
    rw [show (63 : Int).toNat = 2 ^ 6 - 1 from rfl, Int.toNat_natCast, Nat.and_two_pow_sub_one_eq_mod]



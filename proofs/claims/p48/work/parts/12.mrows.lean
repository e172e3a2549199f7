/-! THE REFERENCE: rows, texts, what is told. -/
/-- a finding is met; a number is told -/
def a_mt (I : MI) (f : Int) : MI := m_up (m_up I 0 0 f) 1 f (I 1 f + 1)
def a_tl (I : MI) (v : Int) : MI := m_up I 0 2 v
/-- places lo to hi of a cell are v -/
def m_fil (f : MI) (a : Nat) (lo hi v : Int) : MI := fun c j => if c = a ∧ lo ≤ j ∧ j < hi then v else f c j
theorem m_fil_0 (f : MI) (a : Nat) (lo v : Int) : m_fil f a lo lo v = f := by
  funext c j
  unfold m_fil
  rw [if_neg (by omega)]
theorem m_fil_s {f : MI} {a : Nat} {lo i v : Int} (h : lo ≤ i) : m_up (m_fil f a lo i v) a i v = m_fil f a lo (i + 1) v := by
  funext c j
  unfold m_up m_fil
  by_cases h1 : c = a ∧ j = i
  · rw [if_pos h1, if_pos (by omega)]
  · rw [if_neg h1]
    by_cases h2 : c = a ∧ lo ≤ j ∧ j < i
    · rw [if_pos h2, if_pos (by omega)]
    · rw [if_neg h2, if_neg (by omega)]
theorem m_fil_ne {f : MI} {a c : Nat} {lo hi v : Int} (h : c ≠ a) (j : Int) : m_fil f a lo hi v c j = f c j := by unfold m_fil; rw [if_neg (by omega)]
/-- which places of the reference's memory last from call to call -/
def per (c : Nat) (j : Int) : Prop := c = 1 ∨ c = 2 ∨ c = 3 ∨ c = 5 ∨ c = 6 ∨ c = 7 ∨ c = 8 ∨ c = 11 ∨ (c = 0 ∧ (j = 0 ∨ j = 2 ∨ j = 11 ∨ j = 12 ∨ j = 13 ∨ j = 14 ∨ j = 25))
def Pe (I I' : MI) : Prop := ∀ c j, per c j → I' c j = I c j
def PeL (L L' : MI) : Prop := ∀ j, j = 3 ∨ j = 4 ∨ j = 5 → L' 0 j = L 0 j
theorem Pe.rf (I : MI) : Pe I I := fun _ _ _ => rfl
theorem Pe.tr {I J K : MI} (h : Pe I J) (k : Pe J K) : Pe I K := fun c j q => (k c j q).trans (h c j q)
theorem PeL.rf (L : MI) : PeL L L := fun _ _ => rfl
theorem PeL.tr {I J K : MI} (h : PeL I J) (k : PeL J K) : PeL I K := fun j q => (k j q).trans (h j q)
theorem Pe.up {I I' : MI} {c : Nat} {j v : Int} (h : Pe I I') (hn : ¬ per c j) : Pe I (m_up I' c j v) := fun a i q => by
  unfold m_up
  by_cases e : a = c ∧ i = j
  · obtain ⟨rfl, rfl⟩ := e; exact absurd q hn
  · rw [if_neg e]; exact h a i q
def s_text (t n : Int) (I : MI) : Int × MI := if t < 0 ∨ 3 < t ∨ 80 < n then (-1, I) else if n < 0 then (-3, a_mt I 5) else (n, m_fil (m_up I 5 t n) 6 (80 * t) (80 * t + 80) 32)
def s_put (t i v : Int) (I : MI) : Int × MI := if t < 0 ∨ 3 < t then (-1, I) else if I 5 t < 0 then (-3, a_mt I 1) else if i < 0 ∨ I 5 t ≤ i then (-3, a_mt I 2) else (1000 + I 6 (80 * t + i), m_up I 6 (80 * t + i) (z_b v))
/-- what holds of rows and texts -/
def iRows (I : MI) : Prop := (∀ r, 0 ≤ r → r ≤ 5 → -1 ≤ I 2 r ∧ I 2 r ≤ 40) ∧ ∀ k, 0 ≤ k → k < 240 → rI (I 3 k)
def iTexts (I : MI) : Prop := (∀ t, 0 ≤ t → t ≤ 3 → -1 ≤ I 5 t ∧ I 5 t ≤ 80) ∧ ∀ k, 0 ≤ k → k < 320 → -128 ≤ I 6 k ∧ I 6 k ≤ 127
theorem z_b_r (x : Int) : -128 ≤ z_b x ∧ z_b x ≤ 127 := by
  unfold z_b
  rw [Int8.toInt_toInt32]
  have h1 := Int8.minValue_le_toInt (Int32.ofInt x).toInt8
  have h2 := Int8.toInt_le (Int32.ofInt x).toInt8
  have : Int8.minValue.toInt = -128 := by decide
  have : Int8.maxValue.toInt = 127 := by decide
  omega
section
variable {G : GT} {sh : MS} {I L : MI} {R : MR}
/-- byte i of a text; 0 behind it -/
def a_by (I : MI) (t i : Int) : Int := if i < I 5 t then I 6 (80 * t + i) else 0
def a_gcd (u l : Int) : Int := ((Nat.gcd u.toNat l.toNat : Nat) : Int)
theorem a_gcd_step {a b : Int} (h : 0 ≤ a ∧ 0 < b) : a_gcd b (a.tmod b) = a_gcd a b := by
  unfold a_gcd
  rw [Int.tmod_eq_emod_of_nonneg h.1, Nat.gcd_comm a.toNat b.toNat, Nat.gcd_rec b.toNat a.toNat, Nat.gcd_comm]
  rw [Int.toNat_emod h.1 (by omega)]
theorem a_gcd_0 {a : Int} (h : 0 ≤ a) : a_gcd a 0 = a := by unfold a_gcd; simp; omega
end

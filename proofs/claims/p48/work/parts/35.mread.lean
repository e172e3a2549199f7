/-! THE REFERENCE: houses, nights, events. -/
noncomputable def BY (I : MI) (t : Int) : Nat → Int := fun i => a_by I t (i : Int)
noncomputable def s_fault (t nb : Int) (I : MI) : Int × MI := if t < 0 ∨ 3 < t then (-1, I) else if I 5 t < 0 then (-3, a_mt I 1) else (if nb ≠ 0 then (nigF (BY I t) I (I 5 t).toNat).1 else (houF (BY I t) (I 5 t).toNat).1, I)
/-- a house taken over -/
def hsI (I : MI) (R : Int) (σ : HS) (I' : MI) : Prop := I' 0 11 = R ∧ I' 0 12 = (σ.2.1.length : Int) ∧ I' 0 13 = (σ.2.2.1.length : Int) ∧ I' 0 14 = σ.2.2.2 ∧ (∀ (i : Nat) q, σ.2.1[i]? = some q → I' 7 (3 * (i : Int)) = q.1 ∧ I' 7 (3 * (i : Int) + 1) = q.2.1 ∧ I' 7 (3 * (i : Int) + 2) = q.2.2) ∧ (∀ (i : Nat) q, σ.2.2.1[i]? = some q → I' 8 (2 * (i : Int)) = q.1 ∧ I' 8 (2 * (i : Int) + 1) = q.2) ∧ I' 0 25 = 0 ∧
  (∀ c j, per c j → c ≠ 7 → c ≠ 8 → ¬ (c = 0 ∧ (j = 11 ∨ j = 12 ∨ j = 13 ∨ j = 14 ∨ j = 25)) → I' c j = I c j) ∧ σ.2.1.length ≤ 8 ∧ σ.2.2.1.length ≤ 3
def okH (t : Int) (I : MI) : Prop := (0 ≤ t ∧ t ≤ 3) ∧ 0 ≤ I 5 t ∧ (houF (BY I t) (I 5 t).toNat).1 = -9
def s_house1 (t : Int) (I : MI) : Int × MI := if t < 0 ∨ 3 < t then (-1, I) else if I 5 t < 0 then (-3, a_mt I 1) else (-4, I)
def etQ (I : MI) (k a b t : Int) : Bool :=
  if k = 1 then decide (((0 ≤ a ∧ a ≤ I 0 12 - 1) ∧ I 7 (3 * a + 2) = 1) ∧ 0 ≤ t ∧ t ≤ I 0 14 - 1) else if k = 2 then decide ((0 ≤ a ∧ a ≤ I 0 11 - 1) ∧ 0 ≤ t ∧ t ≤ I 0 14)
  else if k = 3 then decide (((0 ≤ a ∧ a ≤ I 0 11 - 1) ∧ 0 ≤ b ∧ b ≤ I 0 13 - 1) ∧ 0 ≤ t ∧ t ≤ I 0 14) else if k = 4 then decide ((0 ≤ a ∧ a ≤ I 0 11 - 1) ∧ 0 ≤ t ∧ t ≤ I 0 14)
  else if k = 5 then decide (((0 ≤ a ∧ a ≤ I 0 12 - 1) ∧ 0 ≤ t ∧ t ≤ I 0 14 - 1) ∧ t ≤ b ∧ b ≤ I 0 14 - 1) else false
/-- an event comes -/
def cmE (I : MI) (k a b t : Int) : MI := m_up (m_up (m_up (m_up (m_up I 11 (4 * I 0 25) k) 11 (4 * I 0 25 + 1) a) 11 (4 * I 0 25 + 2) b) 11 (4 * I 0 25 + 3) t) 0 25 (I 0 25 + 1)
def s_event (k a b t : Int) (I : MI) : Int × MI := if etQ I k a b t = false then (-1, I) else if I 0 25 = 24 then (-2, I) else (I 0 25, cmE I k a (if k = 3 ∨ k = 5 then b else 0) t)
def s_mark (e k : Int) (I : MI) : Int × MI := if e < 0 ∨ I 0 25 ≤ e ∨ k < 1 ∨ 5 < k then (-1, I) else if ¬ (I 11 (4 * e + 0) = k ∨ k = 2 ∧ I 11 (4 * e + 0) = 3) then (-3, a_mt I 3)
  else if k = 3 then (I 11 (4 * e + 2), I) else if k = 5 then (I 11 (4 * e + 2) - I 11 (4 * e + 3) + 1, I) else (I 11 (4 * e + 1), I)
theorem skF_le (B : Nat → Int) : ∀ n p, skF B n p ≤ p + n
  | 0, p => Nat.le_refl _
  | n + 1, p => by
    unfold skF
    split
    · have := skF_le B n (p + 1); omega
    · omega
theorem houL_r {B : Nat → Int} {R : Int} {n : Nat} : ∀ (k : Nat) (σ : HS), -9 ≤ (houL B R n k σ).1 ∧ (houL B R n k σ).1 ≤ (σ.1 : Int) + 200 * k
  | 0, σ => by unfold houL; simp only; omega
  | k + 1, σ => by
    have h1 := itmP_r B R σ
    unfold houL
    split
    · simp only; omega
    · split
      · have h4 : skp B (itmP B R σ).2.1 ≤ (itmP B R σ).2.1 + 100 := skF_le B 100 _
        have h5 := houL_r (B := B) (R := R) (n := n) k (skp B (itmP B R σ).2.1, (itmP B R σ).2.2)
        simp only at h5
        omega
      · simp only; omega
theorem houF_r (B : Nat → Int) (n : Nat) : rI (houF B n).1 := by
  have h4 : skp B 0 ≤ 0 + 100 := skF_le B 100 _
  have h5 : skp B (skp B 0 + 2) ≤ (skp B 0 + 2) + 100 := skF_le B 100 _
  have h6 := houL_r (B := B) (R := B (skp B 0 + 1) - 48) (n := n) 81 (skp B (skp B 0 + 2), [], [], 12)
  unfold houF
  repeat' split
  all_goals (simp only at h6 ⊢; omega)
theorem nigL_r {B : Nat → Int} {κ : MI} {n : Nat} : ∀ (k : Nat) (σ : Nat × List EV), -9 ≤ (nigL B κ n k σ).1 ∧ (nigL B κ n k σ).1 ≤ (σ.1 : Int) + 200 * k
  | 0, σ => by unfold nigL; simp only; omega
  | k + 1, σ => by
    have h1 := evP_r B κ σ.1
    unfold nigL
    split
    · simp only; omega
    · split
      · have h4 : skp B (evP B κ σ.1).2.1 ≤ (evP B κ σ.1).2.1 + 100 := skF_le B 100 _
        have h5 := nigL_r (B := B) (κ := κ) (n := n) k (skp B (evP B κ σ.1).2.1, σ.2 ++ [(evP B κ σ.1).2.2])
        simp only at h5
        omega
      · simp only; omega
theorem nigF_r (B : Nat → Int) (κ : MI) (n : Nat) : rI (nigF B κ n).1 := by
  have h4 : skp B 0 ≤ 0 + 100 := skF_le B 100 _
  have h6 := nigL_r (B := B) (κ := κ) (n := n) 81 (skp B 0, [])
  unfold nigF
  simp only at h6
  omega
section
variable {G : GT} {sh : MS} {I L : MI} {R : MR} {κ : MI} {t : Int} {B : Nat → Int}
end

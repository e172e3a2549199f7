def evK (B : Nat → Int) (p : Nat) : Int := if B p = 115 then 1 else if B p = 121 then 2 else if B p = 110 then 4 else if B p = 120 then 5 else 0
def abQ (κ : MI) (k v : Int) : Bool := if k = 1 then decide (0 ≤ v ∧ v ≤ κ 0 12 - 1) && decide (κ 7 (3 * v + 2) = 1) else if k = 5 then decide (0 ≤ v ∧ v ≤ κ 0 12 - 1) else decide (0 ≤ v ∧ v ≤ κ 0 11 - 1)
abbrev EV : Type := Int × Int × Int × Int
def evT (B : Nat → Int) (κ : MI) (k a b : Int) (q : Nat) : Bool × Nat × EV :=
  if B q ≠ 64 then (false, q, 0, 0, 0, 0) else if mnQ B 0 (if k = 1 ∨ k = 5 then κ 0 14 - 1 else κ 0 14) (q + 1) = false then (false, mnP B (q + 1), 0, 0, 0, 0)
  else if k = 5 then (if B (mnP B (q + 1)) ≠ 45 then (false, mnP B (q + 1), 0, 0, 0, 0) else if mnQ B (mnV B (q + 1)) (κ 0 14 - 1) (mnP B (q + 1) + 1) = false then (false, mnP B (mnP B (q + 1) + 1), 0, 0, 0, 0)
    else (true, mnP B (mnP B (q + 1) + 1), k, a, mnV B (mnP B (q + 1) + 1), mnV B (q + 1)))
  else (true, mnP B (q + 1), k, a, b, mnV B (q + 1))
def evP (B : Nat → Int) (κ : MI) (p : Nat) : Bool × Nat × EV :=
  if evK B p = 0 then (false, p, 0, 0, 0, 0) else if abQ κ (evK B p) (B (p + 1) - 48) = false then (false, p + 1, 0, 0, 0, 0)
  else if evK B p = 2 ∧ B (p + 2) = 47 then (if fgQ B 0 (κ 0 13 - 1) (p + 3) = false then (false, p + 3, 0, 0, 0, 0) else evT B κ 3 (B (p + 1) - 48) (B (p + 3) - 48) (p + 4))
  else evT B κ (evK B p) (B (p + 1) - 48) 0 (p + 2)
def nigL (B : Nat → Int) (κ : MI) (n : Nat) : Nat → Nat × List EV → Int × Nat × List EV
  | 0, σ => (-9, σ)
  | k + 1, σ => if n ≤ σ.1 then (-9, σ) else if (evP B κ σ.1).1 then nigL B κ n k (skp B (evP B κ σ.1).2.1, σ.2 ++ [(evP B κ σ.1).2.2]) else (((evP B κ σ.1).2.1 : Int), (evP B κ σ.1).2.1, σ.2)
def nigF (B : Nat → Int) (κ : MI) (n : Nat) : Int × Nat × List EV := nigL B κ n 81 (skp B 0, [])
theorem evT_r (B : Nat → Int) (κ : MI) (k a b : Int) (q : Nat) : q ≤ (evT B κ k a b q).2.1 ∧ (evT B κ k a b q).2.1 ≤ q + 6 ∧ ((evT B κ k a b q).1 = true → q + 2 ≤ (evT B κ k a b q).2.1) := by
  have h1 := mnP_r B (q + 1)
  have h2 := mnP_r B (mnP B (q + 1) + 1)
  have h3 : ∀ lo hi, mnQ B lo hi (q + 1) = true → q + 2 ≤ mnP B (q + 1) := by
    intro lo hi h
    unfold mnQ at h
    rw [Bool.and_eq_true] at h
    unfold mnP
    rw [if_pos h.1]
    split <;> omega
  unfold evT
  repeat' split
  all_goals (simp only)
  all_goals (try (refine ⟨by omega, by omega, fun q => by simp at q⟩))
  all_goals (rename_i x1 x2 x3; rw [Bool.not_eq_false] at *; refine ⟨?_, ?_, fun _ => ?_⟩)
  all_goals (first | omega | (have := h3 _ _ (by assumption); omega))
theorem evP_r (B : Nat → Int) (κ : MI) (p : Nat) : p ≤ (evP B κ p).2.1 ∧ (evP B κ p).2.1 ≤ p + 10 ∧ ((evP B κ p).1 = true → p + 4 ≤ (evP B κ p).2.1) := by
  have h1 := evT_r B κ 3 (B (p + 1) - 48) (B (p + 3) - 48) (p + 4)
  have h2 := evT_r B κ (evK B p) (B (p + 1) - 48) 0 (p + 2)
  unfold evP
  repeat' split
  all_goals (first | (refine ⟨by simp only; omega, by simp only; omega, fun q => by simp at q⟩) | (refine ⟨by omega, by omega, fun q => ?_⟩))
  · have := h1.2.2 q; omega
  · have := h2.2.2 q; omega
theorem evK_r (B : Nat → Int) (p : Nat) : evK B p = 0 ∨ evK B p = 1 ∨ evK B p = 2 ∨ evK B p = 4 ∨ evK B p = 5 := by
  unfold evK
  repeat' split
  all_goals omega
theorem nigL_e {B : Nat → Int} {κ : MI} {n k : Nat} {σ : Nat × List EV} (h : n ≤ σ.1) : nigL B κ n (k + 1) σ = (-9, σ) := if_pos h
theorem nigL_t {B : Nat → Int} {κ : MI} {n k : Nat} {σ : Nat × List EV} (h : ¬ n ≤ σ.1) (h2 : (evP B κ σ.1).1 = true) : nigL B κ n (k + 1) σ = nigL B κ n k (skp B (evP B κ σ.1).2.1, σ.2 ++ [(evP B κ σ.1).2.2]) := by
  show (if n ≤ σ.1 then _ else if (evP B κ σ.1).1 then _ else _) = _
  rw [if_neg h, if_pos h2]
theorem nigL_f {B : Nat → Int} {κ : MI} {n k : Nat} {σ : Nat × List EV} (h : ¬ n ≤ σ.1) (h2 : ¬ (evP B κ σ.1).1 = true) : nigL B κ n (k + 1) σ = (((evP B κ σ.1).2.1 : Int), (evP B κ σ.1).2.1, σ.2) := by
  show (if n ≤ σ.1 then _ else if (evP B κ σ.1).1 then _ else _) = _
  rw [if_neg h, if_neg h2]
section
variable {G : GT} {sh : MS} {I L : MI} {R : MR} {κ : MI} {t : Int} {B : Nat → Int}
end

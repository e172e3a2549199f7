/-! THE REFERENCE READS A HOUSE. -/
def RS (I I' : MI) : Prop := ∀ c j, ¬ (c = 0 ∧ (j = 17 ∨ j = 18)) → I' c j = I c j
theorem RS.rf (I : MI) : RS I I := fun _ _ _ => rfl
theorem RS.tr {I J K : MI} (h : RS I J) (k : RS J K) : RS I K := fun c j q => (k c j q).trans (h c j q)
theorem shl_R {R : Int} (h : 1 ≤ R ∧ R ≤ 6) : 1 ≤ z_shl 1 R - 1 ∧ z_shl 1 R - 1 ≤ 63 := by
  have : R = 1 ∨ R = 2 ∨ R = 3 ∨ R = 4 ∨ R = 5 ∨ R = 6 := by omega
  rcases this with e | e | e | e | e | e <;> subst e <;> decide
section
variable {G : GT} {sh : MS} {I L : MI} {R : MR} {κ : MI} {t : Int} {B : Nat → Int}
end

/-- only the digest's number changes -/
def LH (L L' : MI) : Prop := ∀ a j, ¬ (a = 0 ∧ j = 58) → L' a j = L a j
theorem LH.rf (L : MI) : LH L L := fun _ _ _ => rfl
theorem LH.tr {I J K : MI} (h : LH I J) (k : LH J K) : LH I K := fun c j q => (k c j q).trans (h c j q)
section
variable {G : GT} {sh : MS} {I L : MI} {R : MR} {κ : MI} {t : Int} {B : Nat → Int}
end

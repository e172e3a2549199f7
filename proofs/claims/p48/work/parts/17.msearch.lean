section
variable {G : GT} {sh : MS} {I L : MI} {R : MR} {κ : MI}
/-- one event's mark on what is laid by minutes -/
def ntM (k a b t : Int) (J : MI) : MI := fun c j =>
  if c = 13 then (if k = 1 ∧ j = t then z_or (J 13 j) (z_shl 1 a) else J 13 j)
  else if c = 14 then (if k = 5 ∧ t ≤ j ∧ j ≤ b then z_or (J 14 j) (z_shl 1 a) else J 14 j)
  else if c = 15 then (if k = 2 ∧ j = t then z_or (J 15 j) (z_shl 1 a) else J 15 j)
  else if c = 16 then (if k = 4 ∧ j = t then z_or (J 16 j) (z_shl 1 a) else J 16 j)
  else if c = 17 then (if k = 3 ∧ j = 3 * t + b then (if J 17 j = -1 ∨ J 17 j = a then a else -2) else J 17 j)
  else J c j
/-- what holds of an event -/
def iEv (I : MI) (e : Int) : Prop := (I 11 (4 * e + 0) = 1 ∨ I 11 (4 * e + 0) = 2 ∨ I 11 (4 * e + 0) = 3 ∨ I 11 (4 * e + 0) = 4 ∨ I 11 (4 * e + 0) = 5) ∧ (0 ≤ I 11 (4 * e + 1) ∧ I 11 (4 * e + 1) ≤ 7) ∧ (0 ≤ I 11 (4 * e + 3) ∧ I 11 (4 * e + 3) ≤ 30) ∧ (0 ≤ I 11 (4 * e + 2) ∧ I 11 (4 * e + 2) ≤ 30) ∧ (I 11 (4 * e + 0) = 3 → I 11 (4 * e + 2) < 3) ∧ (I 11 (4 * e + 0) = 5 → I 11 (4 * e + 3) ≤ I 11 (4 * e + 2))
def noteM (e : Int) (J : MI) : MI := ntM (J 11 (4 * e + 0)) (J 11 (4 * e + 1)) (J 11 (4 * e + 2)) (J 11 (4 * e + 3)) J
end

section
variable {G : GT} {μ : MT} {Q : Option MV → MI → MI → MR → Prop} {pc : Nat} {lv : List (Nat × MV)} {st : List MV} {sh : MS} {I L : MI} {R : MR}
theorem y_getI {idx c k a : Nat} {j z : Int} (hd : decode μ.cc pc = .ok (.getfield idx, 3)) (hf : m_FL μ.y.cls idx c k j) (hc : sh[a]? = some (.inl c)) (hty : m_isI (m_fty c k) = true) (hv : I a j = z) (kk : Rn G μ Q (pc + 3) lv (mi z :: st) sh I L R) : Rn G μ Q pc lv (mr a :: st) sh I L R := x_getI hd hf hc hty (by rw [hv]; exact kk)
theorem y_iald {a n : Nat} {i z : Int} (hd : decode μ.cc pc = .ok (.iaload, 1)) (hc : sh[a]? = some (.inr (0, n))) (hi : 0 ≤ i ∧ i < n ∧ i ≤ 2147483647) (hv : I a i = z) (kk : Rn G μ Q (pc + 1) lv (mi z :: st) sh I L R) : Rn G μ Q pc lv (mi i :: mr a :: st) sh I L R := x_iald hd hc hi (by rw [hv]; exact kk)
end
/-- a pure answer -/
abbrev pu (e : Int) (I L : MI) (R : MR) : Int → MI → MI → MR → Prop := fun z I' L' R' => z = e ∧ I = I' ∧ L = L' ∧ R = R'
abbrev rI (x : Int) : Prop := -2147483648 ≤ x ∧ x ≤ 2147483647
def b01 (c : Prop) [Decidable c] : Int := if c then 1 else 0
theorem b01_t {c : Prop} [Decidable c] (h : c) : 1 = b01 c := by unfold b01; rw [if_pos h]
theorem b01_f {c : Prop} [Decidable c] (h : ¬ c) : 0 = b01 c := by unfold b01; rw [if_neg h]
theorem b01_eq {c : Prop} [Decidable c] : b01 c = 0 ↔ ¬ c := by unfold b01; split <;> simp [*]
theorem b01_ne {c : Prop} [Decidable c] : b01 c ≠ 0 ↔ c := by unfold b01; split <;> simp [*]
theorem b01_r (c : Prop) [Decidable c] : 0 ≤ b01 c ∧ b01 c ≤ 1 := by unfold b01; split <;> omega
theorem b01_rI (c : Prop) [Decidable c] : rI (b01 c) := by have := b01_r c; omega
section
variable {G : GT} {μ : MT} {Q : Option MV → MI → MI → MR → Prop} {pc : Nat} {lv : List (Nat × MV)} {st : List MV} {sh : MS} {I L : MI} {R : MR}
theorem y_ifb_eq {c : Prop} [Decidable c] {off : Int} {tgt : Nat} (hd : decode μ.cc pc = .ok (.ifCond .eq off, 3)) (ht : (pc : Int) + off = (tgt : Int)) (kt : ¬ c → Rn G μ Q tgt lv st sh I L R) (kf : c → Rn G μ Q (pc + 3) lv st sh I L R) : Rn G μ Q pc lv (mi (b01 c) :: st) sh I L R :=
  x_if_eq hd ht (b01_rI c) (fun h => kt (b01_eq.mp h)) (fun h => kf (Classical.byContradiction fun q => h (b01_eq.mpr q)))
theorem y_ifb_ne {c : Prop} [Decidable c] {off : Int} {tgt : Nat} (hd : decode μ.cc pc = .ok (.ifCond .ne off, 3)) (ht : (pc : Int) + off = (tgt : Int)) (kt : c → Rn G μ Q tgt lv st sh I L R) (kf : ¬ c → Rn G μ Q (pc + 3) lv st sh I L R) : Rn G μ Q pc lv (mi (b01 c) :: st) sh I L R :=
  x_if_ne hd ht (b01_rI c) (fun h => kt (b01_ne.mp h)) (fun h => kf (b01_eq.mp h))
end
section
variable {G : GT} {sh : MS} {I L : MI} {R : MR}
end

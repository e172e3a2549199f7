/-! WHAT BOTH SIDES STAND ON: reads behind writes; the reference's cells; its small methods. -/
section
variable {G : GT} {μ : MT} {Q : Option MV → MI → MI → MR → Prop} {pc : Nat} {lv : List (Nat × MV)} {st : List MV} {sh : MS} {I L : MI} {R : MR}
theorem y_getI {idx c k a : Nat} {j z : Int} (hd : decode μ.cc pc = .ok (.getfield idx, 3)) (hf : m_FL μ.y.cls idx c k j) (hc : sh[a]? = some (.inl c)) (hty : m_isI (m_fty c k) = true) (hv : I a j = z) (kk : Rn G μ Q (pc + 3) lv (mi z :: st) sh I L R) : Rn G μ Q pc lv (mr a :: st) sh I L R := x_getI hd hf hc hty (by rw [hv]; exact kk)
theorem y_getL {idx c k a : Nat} {j z : Int} (hd : decode μ.cc pc = .ok (.getfield idx, 3)) (hf : m_FL μ.y.cls idx c k j) (hc : sh[a]? = some (.inl c)) (hty : m_fty c k = .long) (hv : L a j = z) (kk : Rn G μ Q (pc + 3) lv (ml z :: st) sh I L R) : Rn G μ Q pc lv (mr a :: st) sh I L R := x_getL hd hf hc hty (by rw [hv]; exact kk)
theorem y_iald {a n : Nat} {i z : Int} (hd : decode μ.cc pc = .ok (.iaload, 1)) (hc : sh[a]? = some (.inr (0, n))) (hi : 0 ≤ i ∧ i < n ∧ i ≤ 2147483647) (hv : I a i = z) (kk : Rn G μ Q (pc + 1) lv (mi z :: st) sh I L R) : Rn G μ Q pc lv (mi i :: mr a :: st) sh I L R := x_iald hd hc hi (by rw [hv]; exact kk)
theorem y_bald {a n : Nat} {i z : Int} (hd : decode μ.cc pc = .ok (.baload, 1)) (hc : sh[a]? = some (.inr (2, n))) (hi : 0 ≤ i ∧ i < n ∧ i ≤ 2147483647) (hv : I a i = z) (kk : Rn G μ Q (pc + 1) lv (mi z :: st) sh I L R) : Rn G μ Q pc lv (mi i :: mr a :: st) sh I L R := x_bald hd hc hi (by rw [hv]; exact kk)
theorem y_lald {a n : Nat} {i z : Int} (hd : decode μ.cc pc = .ok (.laload, 1)) (hc : sh[a]? = some (.inr (1, n))) (hi : 0 ≤ i ∧ i < n ∧ i ≤ 2147483647) (hv : L a i = z) (kk : Rn G μ Q (pc + 1) lv (ml z :: st) sh I L R) : Rn G μ Q pc lv (mi i :: mr a :: st) sh I L R := x_lald hd hc hi (by rw [hv]; exact kk)
end
/-- a pure answer -/
abbrev pu (e : Int) (I L : MI) (R : MR) : Int → MI → MI → MR → Prop := fun z I' L' R' => z = e ∧ I = I' ∧ L = L' ∧ R = R'
abbrev rI (x : Int) : Prop := -2147483648 ≤ x ∧ x ≤ 2147483647
def b01 (c : Prop) [Decidable c] : Int := if c then 1 else 0
theorem b01_t {c : Prop} [Decidable c] (h : c) : 1 = b01 c := by unfold b01; rw [if_pos h]
theorem b01_f {c : Prop} [Decidable c] (h : ¬ c) : 0 = b01 c := by unfold b01; rw [if_neg h]
theorem b01_eq {c : Prop} [Decidable c] : b01 c = 0 ↔ ¬ c := by unfold b01; split <;> simp [*]
theorem b01_ne {c : Prop} [Decidable c] : b01 c ≠ 0 ↔ c := by unfold b01; split <;> simp [*]
theorem b01_1 {c : Prop} [Decidable c] : b01 c = 1 ↔ c := by unfold b01; split <;> simp [*]
theorem b01_r (c : Prop) [Decidable c] : 0 ≤ b01 c ∧ b01 c ≤ 1 := by unfold b01; split <;> omega
theorem b01_z (c : Prop) [Decidable c] : b01 c = 0 ∨ b01 c = 1 := by unfold b01; split <;> omega
theorem b01_rI (c : Prop) [Decidable c] : rI (b01 c) := by have := b01_r c; omega
section
variable {G : GT} {μ : MT} {Q : Option MV → MI → MI → MR → Prop} {pc : Nat} {lv : List (Nat × MV)} {st : List MV} {sh : MS} {I L : MI} {R : MR}
theorem y_ifb_eq {c : Prop} [Decidable c] {off : Int} {tgt : Nat} (hd : decode μ.cc pc = .ok (.ifCond .eq off, 3)) (ht : (pc : Int) + off = (tgt : Int)) (kt : ¬ c → Rn G μ Q tgt lv st sh I L R) (kf : c → Rn G μ Q (pc + 3) lv st sh I L R) : Rn G μ Q pc lv (mi (b01 c) :: st) sh I L R :=
  x_if_eq hd ht (b01_rI c) (fun h => kt (b01_eq.mp h)) (fun h => kf (Classical.byContradiction fun q => h (b01_eq.mpr q)))
theorem y_ifb_ne {c : Prop} [Decidable c] {off : Int} {tgt : Nat} (hd : decode μ.cc pc = .ok (.ifCond .ne off, 3)) (ht : (pc : Int) + off = (tgt : Int)) (kt : c → Rn G μ Q tgt lv st sh I L R) (kf : ¬ c → Rn G μ Q (pc + 3) lv st sh I L R) : Rn G μ Q pc lv (mi (b01 c) :: st) sh I L R :=
  x_if_ne hd ht (b01_rI c) (fun h => kt (b01_ne.mp h)) (fun h => kf (b01_eq.mp h))
end
/-- the reference's cells -/
def shM : MS := [.inl 8, .inr (0, 6), .inr (0, 6), .inr (0, 240), .inr (0, 40), .inr (0, 4), .inr (2, 320), .inr (0, 24), .inr (0, 6), .inr (0, 24), .inr (0, 6), .inr (0, 96), .inr (0, 320), .inr (0, 31), .inr (0, 31), .inr (0, 31), .inr (0, 31), .inr (0, 93), .inr (0, 3), .inr (0, 27), .inr (0, 27), .inr (0, 3), .inr (1, 53568), .inr (1, 53568), .inr (0, 1728), .inr (0, 1728), .inr (1, 6)]
def rM : MR := fun a j => if a = 0 then (match j with
  | .ofNat 1 => some 1 | .ofNat 6 => some 2 | .ofNat 7 => some 3 | .ofNat 8 => some 4 | .ofNat 9 => some 5 | .ofNat 10 => some 6 | .ofNat 15 => some 7 | .ofNat 16 => some 8 | .ofNat 23 => some 9 | .ofNat 24 => some 10 | .ofNat 26 => some 11 | .ofNat 28 => some 12 | .ofNat 29 => some 13 | .ofNat 30 => some 14 | .ofNat 31 => some 15 | .ofNat 32 => some 16 | .ofNat 33 => some 17 | .ofNat 38 => some 18 | .ofNat 39 => some 19 | .ofNat 40 => some 20 | .ofNat 44 => some 21 | .ofNat 45 => some 22 | .ofNat 46 => some 23 | .ofNat 49 => some 24 | .ofNat 50 => some 25 | .ofNat 57 => some 26 | _ => none) else none
section
variable {G : GT} {sh : MS} {I L : MI} {R : MR}
set_option maxRecDepth 20000 in
theorem s_X8_in {v low high : Int} (h0 : rI v) (h1 : rI low) (h2 : rI high) : Sp G mtX8_in [mi v, mi low, mi high] sh I L R (qi (pu (b01 (low ≤ v ∧ v ≤ high)) I L R)) := by
  refine Sp.of pnX8_in rfl ?_
  show Rn G mtX8_in _ 0 [(0, mi v), (1, mi low), (2, mi high)] [] sh I L R
  refine x_iload_n dX8_in_0 0 rfl rfl ?_
  refine x_iload_n dX8_in_1 1 rfl rfl ?_
  refine x_ic_lt (tgt := 14) dX8_in_2 (by decide) (by omega) (fun h2 => ?_) (fun h2 => ?_)
  · refine x_iconst dX8_in_14 ?_
    refine x_zret dX8_in_15 rfl (by decide) ?_
    first | exact ⟨_, rfl, b01_t (by omega), rfl, rfl, rfl⟩ | exact ⟨_, rfl, b01_f (by omega), rfl, rfl, rfl⟩
  · refine x_iload_n dX8_in_5 0 rfl rfl ?_
    refine x_iload_n dX8_in_6 2 rfl rfl ?_
    refine x_ic_gt (tgt := 14) dX8_in_7 (by decide) (by omega) (fun h7 => ?_) (fun h7 => ?_)
    · refine x_iconst dX8_in_14 ?_
      refine x_zret dX8_in_15 rfl (by decide) ?_
      first | exact ⟨_, rfl, b01_t (by omega), rfl, rfl, rfl⟩ | exact ⟨_, rfl, b01_f (by omega), rfl, rfl, rfl⟩
    · refine x_iconst dX8_in_10 ?_
      refine x_goto (tgt := 15) dX8_in_11 (by decide) ?_
      refine x_zret dX8_in_15 rfl (by decide) ?_
      first | exact ⟨_, rfl, b01_t (by omega), rfl, rfl, rfl⟩ | exact ⟨_, rfl, b01_f (by omega), rfl, rfl, rfl⟩
theorem s_X8_meets {f : Int} (h : 1 ≤ f ∧ f ≤ 5) : Sp G mtX8_meets [mr 0, mi f] shM I L rM (qi (fun z I' L' R' => z = -3 ∧ I' = m_up (m_up I 0 0 f) 1 f (I 1 f + 1) ∧ L = L' ∧ R' = rM)) := by
  refine Sp.of pnX8_meets rfl ?_
  show Rn G mtX8_meets _ 0 [(0, mr 0), (1, mi f)] [] shM I L rM
  refine x_aload_n dX8_meets_0 0 rfl rfl ?_
  refine x_iload_n dX8_meets_1 1 rfl rfl ?_
  refine x_putI dX8_meets_2 flX8_102 rfl rfl rfl ?_
  refine x_aload_n dX8_meets_5 0 rfl rfl ?_
  refine x_getR dX8_meets_6 flX8_7 rfl rfl rfl ?_
  refine x_iload_n dX8_meets_9 1 rfl rfl ?_
  refine x_dup2 dX8_meets_10 rfl rfl ?_
  refine y_iald dX8_meets_11 rfl (by omega) (m_up_ne (by decide) _) ?_
  refine x_iconst dX8_meets_12 ?_
  refine x_iadd dX8_meets_13 ?_
  refine x_iast dX8_meets_14 rfl (by omega) ?_
  refine x_bipush dX8_meets_15 (by decide) ?_
  refine x_iret dX8_meets_17 rfl ?_
  exact ⟨_, rfl, rfl, rfl, rfl, rfl⟩
end

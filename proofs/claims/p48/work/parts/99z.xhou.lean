/-! WHAT A HOUSE'S TEXT TELLS. -/
theorem dor_v {B : Nat → Int} {R : Int} {nd p : Nat} (h : (dorP B R nd p).1 = true) : 0 ≤ (dorP B R nd p).2.2.1 ∧ (dorP B R nd p).2.2.1 < (dorP B R nd p).2.2.2 ∧ (dorP B R nd p).2.2.2 < R := by
  unfold dorP at h ⊢
  by_cases c1 : nd = 8
  · rw [if_pos c1] at h; exact Bool.noConfusion h
  · rw [if_neg c1] at h ⊢
    by_cases c2 : fgQ B 0 (R - 1) (p + 1) = false
    · rw [if_pos c2] at h; exact Bool.noConfusion h
    · rw [if_neg c2] at h ⊢
      by_cases c3 : B (p + 2) ≠ 45
      · rw [if_pos c3] at h; exact Bool.noConfusion h
      · rw [if_neg c3] at h ⊢
        by_cases c4 : B (p + 3) = B (p + 1) ∨ fgQ B 0 (R - 1) (p + 3) = false
        · rw [if_pos c4] at h; exact Bool.noConfusion h
        · rw [if_neg c4]
          have f1 := fgQ_r (show fgQ B 0 (R - 1) (p + 1) = true by cases y : fgQ B 0 (R - 1) (p + 1); exact absurd y c2; rfl)
          have f3 := fgQ_r (show fgQ B 0 (R - 1) (p + 3) = true by cases y : fgQ B 0 (R - 1) (p + 3); exact absurd (Or.inr y) c4; rfl)
          have ne : B (p + 3) ≠ B (p + 1) := fun y => c4 (Or.inl y)
          by_cases lt : B (p + 1) < B (p + 3)
          · simp only [if_pos lt]
            omega
          · simp only [if_neg lt]
            omega
theorem ris_v {B : Nat → Int} {R : Int} (hR : R ≤ 6) : ∀ (n p : Nat) (set low : Int), 0 ≤ low → (0 ≤ set ∧ set < 64) → 0 ≤ (risP B R n p set low).2.2 ∧ (risP B R n p set low).2.2 < 64
  | 0, p, set, low, _, h => h
  | n + 1, p, set, low, hl, h => by
    unfold risP
    split
    · split
      · rename_i c
        have f := fgQ_r c
        refine ris_v hR n (p + 1) _ _ (by omega) ?_
        have sm : ∀ x : Int, rI x → (∀ k, 6 ≤ k → k < 32 → tb x k = false) → 0 ≤ x ∧ x < 64 := fun x hx q => (tb_up hx 6 (by omega)).mpr q
        refine sm _ (z_or_r _ _) (fun k h6 hk => ?_)
        rw [tb_or, tb_64 h h6 hk, tb_sh1 (by omega) hk, Bool.false_or, decide_eq_false_iff_not]
        omega
      · exact h
    · exact h
theorem wlk_v {B : Nat → Int} {R : Int} {nw p : Nat} (hR : 1 ≤ R ∧ R ≤ 6) (h : (wlkP B R nw p).1 = true) : ((wlkP B R nw p).2.2.1 = 1 ∨ (wlkP B R nw p).2.2.1 = 2) ∧ 0 < (wlkP B R nw p).2.2.2 ∧ (wlkP B R nw p).2.2.2 < 64 := by
  unfold wlkP at h ⊢
  by_cases c1 : nw = 3
  · rw [if_pos c1] at h; exact Bool.noConfusion h
  · rw [if_neg c1] at h ⊢
    by_cases c2 : fgQ B 1 2 (p + 1) = false
    · rw [if_pos c2] at h; exact Bool.noConfusion h
    · rw [if_neg c2] at h ⊢
      have f1 := fgQ_r (show fgQ B 1 2 (p + 1) = true by cases y : fgQ B 1 2 (p + 1); exact absurd y c2; rfl)
      by_cases c3 : B (p + 2) ≠ 58
      · rw [if_pos c3] at h; exact Bool.noConfusion h
      · rw [if_neg c3] at h ⊢
        by_cases c4 : B (p + 3) = 42
        · rw [if_pos c4]
          have := shl_R hR
          simp only
          omega
        · rw [if_neg c4] at h ⊢
          have z := ris_v (B := B) hR.2 8 (p + 3) 0 0 (by omega) (by omega)
          rw [Bool.and_eq_true, decide_eq_true_eq] at h
          simp only
          omega
def hoV (R : Int) (σ : HS) : Prop := (∀ q, q ∈ σ.2.1 → 0 ≤ q.1 ∧ q.1 < q.2.1 ∧ q.2.1 < R ∧ (q.2.2 = 0 ∨ q.2.2 = 1)) ∧ (∀ q, q ∈ σ.2.2.1 → (q.1 = 1 ∨ q.1 = 2) ∧ 0 < q.2 ∧ q.2 < 64) ∧ 1 ≤ σ.2.2.2 ∧ σ.2.2.2 ≤ 30
theorem itm_v {B : Nat → Int} {R : Int} {σ : HS} (hR : 1 ≤ R ∧ R ≤ 6) (k : hoV R σ) (h : (itmP B R σ).1 = true) : hoV R (itmP B R σ).2 := by
  unfold itmP at h ⊢
  by_cases c1 : B σ.1 = 100 ∨ B σ.1 = 68
  · rw [if_pos c1] at h ⊢
    have hd : (dorP B R σ.2.1.length σ.1).1 = true := h
    have d := dor_v hd
    refine ⟨fun q hq => ?_, k.2.1, k.2.2⟩
    have hq2 : q ∈ (if (dorP B R σ.2.1.length σ.1).1 = true then σ.2.1 ++ [((dorP B R σ.2.1.length σ.1).2.2.1, (dorP B R σ.2.1.length σ.1).2.2.2, if B σ.1 = 68 then 1 else 0)] else σ.2.1) := hq
    rw [if_pos hd] at hq2
    rcases List.mem_append.mp hq2 with y | y
    · exact k.1 q y
    · rw [List.mem_singleton.mp y]
      refine ⟨d.1, d.2.1, d.2.2, ?_⟩
      show (if B σ.1 = 68 then (1 : Int) else 0) = 0 ∨ (if B σ.1 = 68 then (1 : Int) else 0) = 1
      split <;> omega
  · rw [if_neg c1] at h ⊢
    by_cases c2 : B σ.1 = 109
    · rw [if_pos c2] at h ⊢
      have hm : mnQ B 1 30 (σ.1 + 1) = true := h
      have m := mn_lo (B := B) (lo := 1) (hi := 30) (p := σ.1 + 1) (fun y => by rw [hm] at y; exact Bool.noConfusion y)
      exact ⟨k.1, k.2.1, m⟩
    · rw [if_neg c2] at h ⊢
      by_cases c3 : B σ.1 = 119
      · rw [if_pos c3] at h ⊢
        have hd : (wlkP B R σ.2.2.1.length σ.1).1 = true := h
        have d := wlk_v hR hd
        refine ⟨k.1, fun q hq => ?_, k.2.2⟩
        have hq2 : q ∈ (if (wlkP B R σ.2.2.1.length σ.1).1 = true then σ.2.2.1 ++ [((wlkP B R σ.2.2.1.length σ.1).2.2.1, (wlkP B R σ.2.2.1.length σ.1).2.2.2)] else σ.2.2.1) := hq
        rw [if_pos hd] at hq2
        rcases List.mem_append.mp hq2 with y | y
        · exact k.2.1 q y
        · rw [List.mem_singleton.mp y]
          exact d
      · rw [if_neg c3] at h; exact Bool.noConfusion h
theorem houL_v {B : Nat → Int} {R : Int} {n : Nat} (hR : 1 ≤ R ∧ R ≤ 6) : ∀ (k : Nat) (σ : HS), hoV R σ → (houL B R n k σ).1 = -9 → hoV R (houL B R n k σ).2
  | 0, σ, h, _ => h
  | k + 1, σ, h, h9 => by
    unfold houL at h9 ⊢
    by_cases c1 : n ≤ σ.1
    · rw [if_pos c1]; exact h
    · rw [if_neg c1] at h9 ⊢
      by_cases c2 : (itmP B R σ).1 = true
      · rw [if_pos c2] at h9 ⊢
        have z := itm_v hR h c2
        exact houL_v hR k _ ⟨z.1, z.2.1, z.2.2⟩ h9
      · rw [if_neg c2] at h9
        have : (((itmP B R σ).2.1 : Nat) : Int) = -9 := h9
        omega
theorem houF_v {B : Nat → Int} {n : Nat} (h : (houF B n).1 = -9) : (1 ≤ (houF B n).2.1 ∧ (houF B n).2.1 ≤ 6) ∧ hoV (houF B n).2.1 (houF B n).2.2 := by
  unfold houF at h ⊢
  by_cases c1 : B (skp B 0) ≠ 114
  · rw [if_pos c1] at h
    have : ((skp B 0 : Nat) : Int) = -9 := h
    omega
  · rw [if_neg c1] at h ⊢
    by_cases c2 : fgQ B 1 6 (skp B 0 + 1) = false
    · rw [if_pos c2] at h
      have : ((skp B 0 + 1 : Nat) : Int) = -9 := h
      omega
    · rw [if_neg c2] at h ⊢
      have f1 := fgQ_r (show fgQ B 1 6 (skp B 0 + 1) = true by cases y : fgQ B 1 6 (skp B 0 + 1); exact absurd y c2; rfl)
      have hR : 1 ≤ B (skp B 0 + 1) - 48 ∧ B (skp B 0 + 1) - 48 ≤ 6 := by omega
      refine ⟨hR, houL_v hR 81 _ ⟨fun q hq => absurd hq (List.not_mem_nil), fun q hq => absurd hq (List.not_mem_nil), (show (1 : Int) ≤ 12 by decide), (show (12 : Int) ≤ 30 by decide)⟩ h⟩


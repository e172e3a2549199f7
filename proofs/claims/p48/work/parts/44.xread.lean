section
variable {G : GT} {I L : MI} {R : MR} {tx n p : Nat} {B : Nat → Int} {f : Int}

set_option maxHeartbeats 1500000 in
theorem s_X4_readMinute {lo hi : Int} (hX : XT tx B n I R) (hp : I 17 2 = (p : Int)) (hf : I 17 3 = f) (hf2 : f = 0 ∨ f = 1) (hp2 : p ≤ 990) (hlo : 0 ≤ lo ∧ lo ≤ 100) (hhi : rI hi) : Sp G mtX4_readMinute [mr 17, mi lo, mi hi] shX I L R (qi (fun z I' L' R' => z = (if f = 0 ∧ mnQ B lo hi p = true then mnV B p else 0) ∧ I' 17 2 = (if f = 0 then (mnP B p : Int) else p) ∧ I' 17 3 = (if f = 0 ∧ mnQ B lo hi p = true then 0 else 1) ∧ XS I I' ∧ L = L' ∧ R = R')) := by
  refine Sp.of pnX4_readMinute rfl ?_
  show Rn G mtX4_readMinute _ 0 [(0, mr 17), (1, mi lo), (2, mi hi)] [] shX I L R
  generalize hQ : (qi (fun z I' L' R' => z = (if f = 0 ∧ mnQ B lo hi p = true then mnV B p else 0) ∧ I' 17 2 = (if f = 0 then (mnP B p : Int) else p) ∧ I' 17 3 = (if f = 0 ∧ mnQ B lo hi p = true then 0 else 1) ∧ XS I I' ∧ L = L' ∧ R = R')) = Q
  obtain ⟨x1, x2, x3, x4, x5, x6, x7⟩ := id hX
  have hb := x7 p
  have hz : n ≤ p → B p = 0 := x6 p
  have hin : (p : Int) < I 17 1 → I tx (I 17 2) = B p := fun q => by rw [hp]; exact x5 p (by omega)
  have hb1 := x7 (p + 1)
  have d0 : dgt B p = true ↔ 48 ≤ B p ∧ B p ≤ 57 := by unfold dgt; rw [decide_eq_true_eq]
  have d1 : dgt B (p + 1) = true ↔ 48 ≤ B (p + 1) ∧ B (p + 1) ≤ 57 := by unfold dgt; rw [decide_eq_true_eq]
  have kf : ∀ q, fgK B 1023 q = dgt B q := fun q => by
    unfold fgK
    cases hq : dgt B q
    · rfl
    · have hq2 : 48 ≤ B q ∧ B q ≤ 57 := by have := hq; unfold dgt at this; rw [decide_eq_true_eq] at this; exact this
      rw [tb_1023 _ (by omega)]
      rfl
  have hmv0 : dgt B p = false → mnV B p = 0 ∧ mnP B p = p ∧ mnQ B lo hi p = false := fun q => by
    unfold mnQ mnV mnP
    rw [q]
    exact ⟨rfl, rfl, rfl⟩
  have hmv1 : dgt B p = true → dgt B (p + 1) = false → mnV B p = B p - 48 ∧ mnP B p = p + 1 := fun q q2 => by
    unfold mnV mnP
    rw [if_pos q, if_pos q, if_neg (by rw [q2]; decide), if_neg (by rw [q2]; decide)]
    exact ⟨rfl, rfl⟩
  have hmv2 : dgt B p = true → dgt B (p + 1) = true → mnV B p = 10 * (B p - 48) + (B (p + 1) - 48) ∧ mnP B p = p + 2 := fun q q2 => by
    unfold mnV mnP
    rw [if_pos q, if_pos q, if_pos q2, if_pos q2]
    exact ⟨rfl, rfl⟩
  have hmq : ∀ v, mnV B p = v → dgt B p = true → (mnQ B lo hi p = true ↔ lo ≤ v ∧ v ≤ hi) := fun v q q2 => by
    unfold mnQ
    rw [q2, Bool.true_and, decide_eq_true_eq, q]
  have fin : ∀ (v f2 : Int) (q : Nat) (J : MI), (f = 0 → (dgt B p = true → f2 = 0 ∧ mnV B p = v ∧ mnP B p = q) ∧ (dgt B p = false → f2 = 1 ∧ v = 0 ∧ q = p)) → (f = 1 → f2 = 1 ∧ q = p) → (f2 = 0 ∨ f2 = 1) → rI v → J 17 2 = (q : Int) → J 17 3 = f2 → XS I J → ∀ lv8, lv8 = [(0, mr 17), (1, mi lo), (2, mi hi), (3, mi v)] → Rn G mtX4_readMinute Q 28 lv8 [] shX J L R := by
    intro v f2 q J h0 h1 h01 hv hq hf3 hJ lv8 hlv
    subst hlv
    have hb : dgt B p = true ∨ dgt B p = false := by cases dgt B p <;> simp
    have jn : ∀ (J2 : MI) (f4 : Int), J2 17 2 = (q : Int) → J2 17 3 = f4 → XS I J2 → (f4 = 0 ↔ f2 = 0 ∧ lo ≤ v ∧ v ≤ hi) → (f4 = 0 ∨ f4 = 1) → Rn G mtX4_readMinute Q 43 [(0, mr 17), (1, mi lo), (2, mi hi), (3, mi v)] [] shX J2 L R := by
      intro J2 f4 g1 g2 g3 g4 g5
      have hmm : f4 = 0 ↔ f = 0 ∧ mnQ B lo hi p = true := by
        rw [g4]
        constructor
        · rintro ⟨q1, q2⟩
          have hff : f = 0 := by
            rcases hf2 with q3 | q3
            · exact q3
            · have := (h1 q3).1; omega
          refine ⟨hff, ?_⟩
          have h00 := h0 hff
          rcases hb with hb | hb
          · exact (hmq v (h00.1 hb).2.1 hb).mpr q2
          · have := (h00.2 hb).1; omega
        · rintro ⟨q1, q2⟩
          have h00 := h0 q1
          rcases hb with hb | hb
          · exact ⟨(h00.1 hb).1, (hmq v (h00.1 hb).2.1 hb).mp q2⟩
          · rw [(hmv0 hb).2.2] at q2; exact absurd q2 (by decide)
      have hpl : (if f = 0 then (mnP B p : Int) else p) = (q : Int) := by
        split
        · rename_i q1
          have h00 := h0 q1
          rcases hb with hb | hb
          · rw [(h00.1 hb).2.2]
          · rw [(hmv0 hb).2.1, (h00.2 hb).2.2]
        · have := h1 (by omega)
          rw [this.2]
      have hvv : f = 0 ∧ mnQ B lo hi p = true → mnV B p = v := by
        rintro ⟨q1, q2⟩
        rcases hb with hb | hb
        · exact ((h0 q1).1 hb).2.1
        · rw [(hmv0 hb).2.2] at q2; exact absurd q2 (by decide)
      refine x_aload_n dX4_readMinute_43 0 rfl rfl ?_
      refine x_getI dX4_readMinute_44 flX4_28 rfl rfl ?_
      rw [g2]
      refine x_if_eq (tgt := 54) dX4_readMinute_47 (by decide) (by omega) (fun h47 => ?_) (fun h47 => ?_)
      · refine x_iload_n dX4_readMinute_54 3 rfl rfl ?_
        refine x_iret dX4_readMinute_55 rfl ?_
        rw [← hQ]
        first
        | (have hc := hmm.mp (by assumption)
           rw [if_pos hc, if_pos hc, hpl, hvv hc]
           exact ⟨_, rfl, rfl, g1, by omega, g3, rfl, rfl⟩)
        | (have hc : ¬ (f = 0 ∧ mnQ B lo hi p = true) := fun q => absurd (hmm.mpr q) (by omega)
           rw [if_neg hc, if_neg hc, hpl]
           exact ⟨_, rfl, rfl, g1, by omega, g3, rfl, rfl⟩)
      · refine x_iconst dX4_readMinute_50 ?_
        refine x_goto (tgt := 55) dX4_readMinute_51 (by decide) ?_
        refine x_iret dX4_readMinute_55 rfl ?_
        rw [← hQ]
        first
        | (have hc := hmm.mp (by assumption)
           rw [if_pos hc, if_pos hc, hpl, hvv hc]
           exact ⟨_, rfl, rfl, g1, by omega, g3, rfl, rfl⟩)
        | (have hc : ¬ (f = 0 ∧ mnQ B lo hi p = true) := fun q => absurd (hmm.mpr q) (by omega)
           rw [if_neg hc, if_neg hc, hpl]
           exact ⟨_, rfl, rfl, g1, by omega, g3, rfl, rfl⟩)
    refine x_iload_n dX4_readMinute_28 3 rfl rfl ?_
    refine x_iload_n dX4_readMinute_29 1 rfl rfl ?_
    refine x_ic_lt (tgt := 38) dX4_readMinute_30 (by decide) (by omega) (fun h30 => ?_) (fun h30 => ?_)
    · refine x_aload_n dX4_readMinute_38 0 rfl rfl ?_
      refine x_iconst dX4_readMinute_39 ?_
      refine x_putZ dX4_readMinute_40 flX4_28 rfl rfl rfl (by omega) ?_
      first
      | exact jn _ 1 (by rw [m_up_nj (by decide)]; exact hq) m_up_eq (hJ.up (Or.inr rfl) _) (by omega) (by omega)
      | exact jn _ f2 hq hf3 hJ (by omega) h01
    · refine x_iload_n dX4_readMinute_33 3 rfl rfl ?_
      refine x_iload_n dX4_readMinute_34 2 rfl rfl ?_
      refine x_ic_le (tgt := 43) dX4_readMinute_35 (by decide) (by omega) (fun h35 => ?_) (fun h35 => ?_)
      · first
        | exact jn _ 1 (by rw [m_up_nj (by decide)]; exact hq) m_up_eq (hJ.up (Or.inr rfl) _) (by omega) (by omega)
        | exact jn _ f2 hq hf3 hJ (by omega) h01
      · refine x_aload_n dX4_readMinute_38 0 rfl rfl ?_
        refine x_iconst dX4_readMinute_39 ?_
        refine x_putZ dX4_readMinute_40 flX4_28 rfl rfl rfl (by omega) ?_
        first
        | exact jn _ 1 (by rw [m_up_nj (by decide)]; exact hq) m_up_eq (hJ.up (Or.inr rfl) _) (by omega) (by omega)
        | exact jn _ f2 hq hf3 hJ (by omega) h01
  refine x_aload_n dX4_readMinute_0 0 rfl rfl ?_
  refine x_sipush dX4_readMinute_1 (by decide) ?_
  refine x_callVi (as := [_]) dX4_readMinute_4 lvX4_45 rfl rfl rfl rfl rfl rfl rfl ⟨rfl, rfl⟩ (s_X4_figure hX hp hf hf2 (by omega)) (fun z4 I4 L4 R4 hq4 => ?_)
  obtain ⟨rfl, a4, b4, c4, rfl, rfl⟩ := hq4
  simp only [kf] at a4 b4 ⊢
  refine x_istore_n (lv' := [(0, _), (1, _), (2, _), (3, _)]) dX4_readMinute_7 rfl rfl rfl ?_
  have hb : dgt B p = true ∨ dgt B p = false := by cases dgt B p <;> simp
  have hbb : dgt B (p + 1) = true ∨ dgt B (p + 1) = false := by cases dgt B (p + 1) <;> simp
  have hX4 : XT tx B n I4 R := c4.xt hX
  by_cases hc : f = 0 ∧ dgt B p = true
  · rw [if_pos hc] at a4 b4 ⊢
    have e0 := d0.mp hc.2
    have a4b : I4 17 2 = ((p + 1 : Nat) : Int) := a4
    refine x_aload_n dX4_readMinute_8 0 rfl rfl ?_
    refine x_callVi (as := []) dX4_readMinute_9 lvX4_102 rfl rfl rfl rfl rfl rfl rfl ⟨rfl, rfl⟩ (s_X4_figureAhead (p := p + 1) hX4 a4b b4 (Or.inl rfl) (by omega)) (fun z9 I9 L9 R9 hq9 => ?_)
    obtain ⟨rfl, rfl, rfl, rfl⟩ := hq9
    refine y_ifb_eq (tgt := 28) dX4_readMinute_12 (by decide) (fun h12 => ?_) (fun h12 => ?_)
    · first
      | (have hd1 : dgt B (p + 1) = true := (show (0 : Int) = 0 ∧ dgt B (p + 1) = true by assumption).2
         exact fin _ 0 (p + 2) _ (fun _ => ⟨fun _ => ⟨rfl, (hmv2 hc.2 hd1).1, (hmv2 hc.2 hd1).2⟩, fun q => by rw [hc.2] at q; exact absurd q (by decide)⟩) (fun q => by omega) (Or.inl rfl) (by have := d1.mp hd1; omega) a23 b23 (c4.tr c23) _ rfl)
      | (have hd1 : dgt B (p + 1) = false := by
           rcases hbb with q | q
           · exact absurd ⟨rfl, q⟩ (show ¬ ((0 : Int) = 0 ∧ dgt B (p + 1) = true) by assumption)
           · exact q
         exact fin _ 0 (p + 1) _ (fun _ => ⟨fun _ => ⟨rfl, (hmv1 hc.2 hd1).1, (hmv1 hc.2 hd1).2⟩, fun q => by rw [hc.2] at q; exact absurd q (by decide)⟩) (fun q => by omega) (Or.inl rfl) (by omega) a4b b4 c4 _ rfl)
    · refine x_bipush dX4_readMinute_15 (by decide) ?_
      refine x_iload_n dX4_readMinute_17 3 rfl rfl ?_
      refine x_imul dX4_readMinute_18 ?_
      refine x_aload_n dX4_readMinute_19 0 rfl rfl ?_
      refine x_sipush dX4_readMinute_20 (by decide) ?_
      refine x_callVi (as := [_]) dX4_readMinute_23 lvX4_45 rfl rfl rfl rfl rfl rfl rfl ⟨rfl, rfl⟩ (s_X4_figure (p := p + 1) hX4 a4b b4 (Or.inl rfl) (by omega)) (fun z23 I23 L23 R23 hq23 => ?_)
      obtain ⟨rfl, a23, b23, c23, rfl, rfl⟩ := hq23
      simp only [kf] at a23 b23 ⊢
      have hd1 : dgt B (p + 1) = true := (show (0 : Int) = 0 ∧ dgt B (p + 1) = true by assumption).2
      rw [if_pos ⟨trivial, hd1⟩] at a23 b23 ⊢
      have e1 := d1.mp hd1
      refine x_iadd dX4_readMinute_26 ?_
      refine x_istore_n (lv' := [(0, _), (1, _), (2, _), (3, _)]) dX4_readMinute_27 rfl rfl rfl ?_
      first
      | (have hd1 : dgt B (p + 1) = true := (show (0 : Int) = 0 ∧ dgt B (p + 1) = true by assumption).2
         exact fin _ 0 (p + 2) _ (fun _ => ⟨fun _ => ⟨rfl, (hmv2 hc.2 hd1).1, (hmv2 hc.2 hd1).2⟩, fun q => by rw [hc.2] at q; exact absurd q (by decide)⟩) (fun q => by omega) (Or.inl rfl) (by have := d1.mp hd1; omega) a23 b23 (c4.tr c23) _ rfl)
      | (have hd1 : dgt B (p + 1) = false := by
           rcases hbb with q | q
           · exact absurd ⟨rfl, q⟩ (show ¬ ((0 : Int) = 0 ∧ dgt B (p + 1) = true) by assumption)
           · exact q
         exact fin _ 0 (p + 1) _ (fun _ => ⟨fun _ => ⟨rfl, (hmv1 hc.2 hd1).1, (hmv1 hc.2 hd1).2⟩, fun q => by rw [hc.2] at q; exact absurd q (by decide)⟩) (fun q => by omega) (Or.inl rfl) (by omega) a4b b4 c4 _ rfl)
  · rw [if_neg hc] at a4 b4 ⊢
    have fin9 := fin 0 1 p I4 (fun q => ⟨fun q2 => absurd ⟨q, q2⟩ hc, fun _ => ⟨rfl, rfl, rfl⟩⟩) (fun _ => ⟨rfl, rfl⟩) (Or.inr rfl) (by omega) a4 b4 c4 _ rfl
    refine x_aload_n dX4_readMinute_8 0 rfl rfl ?_
    refine x_callVi (as := []) dX4_readMinute_9 lvX4_102 rfl rfl rfl rfl rfl rfl rfl ⟨rfl, rfl⟩ (s_X4_figureAhead (p := p) hX4 a4 b4 (Or.inr rfl) (by omega)) (fun z9 I9 L9 R9 hq9 => ?_)
    obtain ⟨rfl, rfl, rfl, rfl⟩ := hq9
    refine y_ifb_eq (tgt := 28) dX4_readMinute_12 (by decide) (fun h12 => ?_) (fun h12 => ?_)
    · exact fin9
    · exfalso
      have := (show (1 : Int) = 0 ∧ dgt B p = true by assumption).1
      omega
theorem s_X4_findItem  (hX : XT tx B n I R) (hp : I 17 2 = (p : Int)) (hf : I 17 3 = f) (hf2 : f = 0 ∨ f = 1) (hp2 : p ≤ 800) : Sp G mtX4_findItem [mr 17] shX I L R (qi (fun z I' L' R' => z = b01 (f = 0 ∧ skp B p < n) ∧ I' 17 2 = (if f = 0 then (skp B p : Int) else p) ∧ I' 17 3 = f ∧ XS I I' ∧ L = L' ∧ R = R')) := by
  refine Sp.of pnX4_findItem rfl ?_
  show Rn G mtX4_findItem _ 0 [(0, mr 17)] [] shX I L R
  generalize hQ : (qi (fun z I' L' R' => z = b01 (f = 0 ∧ skp B p < n) ∧ I' 17 2 = (if f = 0 then (skp B p : Int) else p) ∧ I' 17 3 = f ∧ XS I I' ∧ L = L' ∧ R = R')) = Q
  obtain ⟨x1, x2, x3, x4, x5, x6, x7⟩ := id hX
  have hb := x7 p
  have hz : n ≤ p → B p = 0 := x6 p
  have hin : (p : Int) < I 17 1 → I tx (I 17 2) = B p := fun q => by rw [hp]; exact x5 p (by omega)
  have ex : ∀ (J : MI) (q : Nat), J 17 2 = (q : Int) → J 17 3 = f → XS I J → (f = 0 → skp B p = q) → (f = 1 → q = p) → q ≤ 900 → ∀ i, Rn G mtX4_findItem Q 33 [(0, mr 17), (1, mi i)] [] shX J L R := by
    intro J q g1 g2 g3 g4 g5 g6 i
    have hX3 : XT tx B n J R := g3.xt hX
    have j1 : J 17 1 = (n : Int) := hX3.2.2.1
    have hpl : (if f = 0 then (skp B p : Int) else p) = (q : Int) := by
      split
      · rename_i q1; rw [g4 q1]
      · rw [g5 (by omega)]
    refine x_aload_n dX4_findItem_33 0 rfl rfl ?_
    refine x_getI dX4_findItem_34 flX4_28 rfl rfl ?_
    rw [g2]
    refine x_if_ne (tgt := 55) dX4_findItem_37 (by decide) (by omega) (fun h37 => ?_) (fun h37 => ?_)
    · refine x_iconst dX4_findItem_55 ?_
      refine x_zret dX4_findItem_56 rfl (by omega) ?_
      rw [← hQ, hpl]
      first
      | exact ⟨_, rfl, b01_t ⟨by omega, by have := g4 (by omega); omega⟩, g1, g2, g3, rfl, rfl⟩
      | exact ⟨_, rfl, b01_f (fun q => by have := g4 q.1; omega), g1, g2, g3, rfl, rfl⟩
    · refine x_aload_n dX4_findItem_40 0 rfl rfl ?_
      refine x_getI dX4_findItem_41 flX4_25 rfl rfl ?_
      refine x_aload_n dX4_findItem_44 0 rfl rfl ?_
      refine x_getI dX4_findItem_45 flX4_21 rfl rfl ?_
      refine x_ic_ge (tgt := 55) dX4_findItem_48 (by decide) (by omega) (fun h48 => ?_) (fun h48 => ?_)
      · refine x_iconst dX4_findItem_55 ?_
        refine x_zret dX4_findItem_56 rfl (by omega) ?_
        rw [← hQ, hpl]
        first
        | exact ⟨_, rfl, b01_t ⟨by omega, by have := g4 (by omega); omega⟩, g1, g2, g3, rfl, rfl⟩
        | exact ⟨_, rfl, b01_f (fun q => by have := g4 q.1; omega), g1, g2, g3, rfl, rfl⟩
      · refine x_iconst dX4_findItem_51 ?_
        refine x_goto (tgt := 56) dX4_findItem_52 (by decide) ?_
        refine x_zret dX4_findItem_56 rfl (by omega) ?_
        rw [← hQ, hpl]
        first
        | exact ⟨_, rfl, b01_t ⟨by omega, by have := g4 (by omega); omega⟩, g1, g2, g3, rfl, rfl⟩
        | exact ⟨_, rfl, b01_f (fun q => by have := g4 q.1; omega), g1, g2, g3, rfl, rfl⟩
  have loop : ∀ i : Nat, i ≤ 80 → ∀ J : MI, f = 0 → J 17 2 = ((p + i : Nat) : Int) → J 17 3 = f → XS I J → skF B (100 - i) (p + i) = skp B p → Rn G mtX4_findItem Q 2 [(0, mr 17), (1, mi (i : Int))] [] shX J L R := by
    refine lpn 80 (fun i hi ih => ?_) ?_
    · intro J hf0 g1 g2 g3 g4
      have hX3 : XT tx B n J R := g3.xt hX
      rw [show 100 - i = (100 - (i + 1)) + 1 by omega] at g4
      unfold skF at g4
      refine x_iload_n dX4_findItem_2 1 rfl rfl ?_
      refine x_bipush dX4_findItem_3 (by decide) ?_
      refine x_ic_ge (tgt := 33) dX4_findItem_5 (by decide) (by omega) (fun h5 => ?_) (fun h5 => ?_)
      · first
        | (exfalso; omega)
        | (have hnb : ¬ B (p + i) = 32 := fun q => absurd (⟨hf0, q⟩ : f = 0 ∧ B (p + i) = 32) (by assumption)
           rw [if_neg hnb] at g4
           exact ex J (p + i) g1 g2 g3 (fun _ => g4.symm) (fun q => by omega) (by omega) _)
      · refine x_aload_n dX4_findItem_8 0 rfl rfl ?_
        refine x_bipush dX4_findItem_9 (by decide) ?_
        refine x_callVi (as := [_]) dX4_findItem_11 lvX4_65 rfl rfl rfl rfl rfl rfl rfl ⟨rfl, rfl⟩ (s_X4_ahead (p := p + i) hX3 g1 g2 hf2 (by omega) (by omega)) (fun z11 I11 L11 R11 hq11 => ?_)
        obtain ⟨rfl, rfl, rfl, rfl⟩ := hq11
        refine y_ifb_eq (tgt := 33) dX4_findItem_14 (by decide) (fun h14 => ?_) (fun h14 => ?_)
        · first
          | (exfalso; omega)
          | (have hnb : ¬ B (p + i) = 32 := fun q => absurd (⟨hf0, q⟩ : f = 0 ∧ B (p + i) = 32) (by assumption)
             rw [if_neg hnb] at g4
             exact ex J (p + i) g1 g2 g3 (fun _ => g4.symm) (fun q => by omega) (by omega) _)
        · refine x_aload_n dX4_findItem_17 0 rfl rfl ?_
          refine x_dup dX4_findItem_18 rfl ?_
          refine x_getI dX4_findItem_19 flX4_25 rfl rfl ?_
          rw [g1]
          refine x_iconst dX4_findItem_22 ?_
          refine x_iadd dX4_findItem_23 ?_
          refine x_putI dX4_findItem_24 flX4_25 rfl rfl rfl ?_
          refine x_iinc (lv' := [(0, _), (1, _)]) dX4_findItem_27 1 rfl rfl rfl ?_
          refine x_goto (tgt := 2) dX4_findItem_30 (by decide) ?_
          have hyb : B (p + i) = 32 := (show f = 0 ∧ B (p + i) = 32 by assumption).2
          rw [if_pos hyb] at g4
          exact ih _ hf0 m_up_eq (by rw [m_up_nj (by decide)]; exact g2) (g3.up (Or.inl rfl) _) g4
    · intro J hf0 g1 g2 g3 g4
      have hz80 : B (p + 80) = 0 := x6 (p + 80) (by omega)
      have hs : skp B p = p + 80 := by
        rw [← g4]
        show skF B (19 + 1) (p + 80) = _
        unfold skF
        rw [if_neg (by omega)]
      refine x_iload_n dX4_findItem_2 1 rfl rfl ?_
      refine x_bipush dX4_findItem_3 (by decide) ?_
      refine x_ic_ge (tgt := 33) dX4_findItem_5 (by decide) (by omega) (fun h5 => ?_) (fun h5 => ?_)
      · exact ex J (p + 80) g1 g2 g3 (fun _ => hs) (fun q => by omega) (by omega) _
      · exfalso; omega
  have l1 : f = 1 → Rn G mtX4_findItem Q 2 [(0, mr 17), (1, mi 0)] [] shX I L R := by
    intro hf1
    refine x_iload_n dX4_findItem_2 1 rfl rfl ?_
    refine x_bipush dX4_findItem_3 (by decide) ?_
    refine x_ic_ge (tgt := 33) dX4_findItem_5 (by decide) (by omega) (fun h5 => ?_) (fun h5 => ?_)
    · first
      | (exfalso; omega)
      | exact ex I p hp hf (XS.rf I) (fun q => by omega) (fun _ => rfl) (by omega) _
    · refine x_aload_n dX4_findItem_8 0 rfl rfl ?_
      refine x_bipush dX4_findItem_9 (by decide) ?_
      refine x_callVi (as := [_]) dX4_findItem_11 lvX4_65 rfl rfl rfl rfl rfl rfl rfl ⟨rfl, rfl⟩ (s_X4_ahead hX hp hf hf2 (by omega) (by omega)) (fun z11 I11 L11 R11 hq11 => ?_)
      obtain ⟨rfl, rfl, rfl, rfl⟩ := hq11
      refine y_ifb_eq (tgt := 33) dX4_findItem_14 (by decide) (fun h14 => ?_) (fun h14 => ?_)
      · first
        | (exfalso; omega)
        | exact ex I p hp hf (XS.rf I) (fun q => by omega) (fun _ => rfl) (by omega) _
      · exfalso
        have := (show f = 0 ∧ B p = 32 by assumption).1
        omega
  refine x_iconst dX4_findItem_0 ?_
  refine x_istore_n (lv' := [(0, _), (1, _)]) dX4_findItem_1 rfl rfl rfl ?_
  rcases hf2 with q | q
  · exact loop 0 (by omega) I q hp hf (XS.rf I) rfl
  · exact l1 q
theorem s_X4_kindAhead  (hX : XT tx B n I R) (hp : I 17 2 = (p : Int)) (hf : I 17 3 = f) (hf2 : f = 0 ∨ f = 1) (hp2 : p ≤ 1000) : Sp G mtX4_kindAhead [mr 17] shX I L R (qi (pu (if f = 0 then evK B p else 0) I L R)) := by
  refine Sp.of pnX4_kindAhead rfl ?_
  show Rn G mtX4_kindAhead _ 0 [(0, mr 17)] [] shX I L R
  generalize hQ : (qi (pu (if f = 0 then evK B p else 0) I L R)) = Q
  obtain ⟨x1, x2, x3, x4, x5, x6, x7⟩ := id hX
  have hb := x7 p
  have hz : n ≤ p → B p = 0 := x6 p
  have hin : (p : Int) < I 17 1 → I tx (I 17 2) = B p := fun q => by rw [hp]; exact x5 p (by omega)
  refine x_aload_n dX4_kindAhead_0 0 rfl rfl ?_
  refine x_bipush dX4_kindAhead_1 (by decide) ?_
  refine x_callVi (as := [_]) dX4_kindAhead_3 lvX4_65 rfl rfl rfl rfl rfl rfl rfl ⟨rfl, rfl⟩ (s_X4_ahead hX hp hf hf2 (by omega) (by omega)) (fun z3 I3 L3 R3 hq3 => ?_)
  obtain ⟨rfl, rfl, rfl, rfl⟩ := hq3
  refine y_ifb_eq (tgt := 11) dX4_kindAhead_6 (by decide) (fun h6 => ?_) (fun h6 => ?_)
  · refine x_aload_n dX4_kindAhead_11 0 rfl rfl ?_
    refine x_bipush dX4_kindAhead_12 (by decide) ?_
    refine x_callVi (as := [_]) dX4_kindAhead_14 lvX4_65 rfl rfl rfl rfl rfl rfl rfl ⟨rfl, rfl⟩ (s_X4_ahead hX hp hf hf2 (by omega) (by omega)) (fun z14 I14 L14 R14 hq14 => ?_)
    obtain ⟨rfl, rfl, rfl, rfl⟩ := hq14
    refine y_ifb_eq (tgt := 22) dX4_kindAhead_17 (by decide) (fun h17 => ?_) (fun h17 => ?_)
    · refine x_aload_n dX4_kindAhead_22 0 rfl rfl ?_
      refine x_bipush dX4_kindAhead_23 (by decide) ?_
      refine x_callVi (as := [_]) dX4_kindAhead_25 lvX4_65 rfl rfl rfl rfl rfl rfl rfl ⟨rfl, rfl⟩ (s_X4_ahead hX hp hf hf2 (by omega) (by omega)) (fun z25 I25 L25 R25 hq25 => ?_)
      obtain ⟨rfl, rfl, rfl, rfl⟩ := hq25
      refine y_ifb_eq (tgt := 33) dX4_kindAhead_28 (by decide) (fun h28 => ?_) (fun h28 => ?_)
      · refine x_aload_n dX4_kindAhead_33 0 rfl rfl ?_
        refine x_bipush dX4_kindAhead_34 (by decide) ?_
        refine x_callVi (as := [_]) dX4_kindAhead_36 lvX4_65 rfl rfl rfl rfl rfl rfl rfl ⟨rfl, rfl⟩ (s_X4_ahead hX hp hf hf2 (by omega) (by omega)) (fun z36 I36 L36 R36 hq36 => ?_)
        obtain ⟨rfl, rfl, rfl, rfl⟩ := hq36
        refine y_ifb_eq (tgt := 46) dX4_kindAhead_39 (by decide) (fun h39 => ?_) (fun h39 => ?_)
        · refine x_iconst dX4_kindAhead_46 ?_
          refine x_iret dX4_kindAhead_47 rfl ?_
          rw [← hQ]
          refine ⟨_, rfl, ?_, rfl, rfl, rfl⟩
          rcases hf2 with q | q
          · rw [if_pos q]
            unfold evK
            first
            | (rw [if_pos (by omega)])
            | (rw [if_neg (by omega), if_pos (by omega)])
            | (rw [if_neg (by omega), if_neg (by omega), if_pos (by omega)])
            | (rw [if_neg (by omega), if_neg (by omega), if_neg (by omega), if_pos (by omega)])
            | (rw [if_neg (by omega), if_neg (by omega), if_neg (by omega), if_neg (by omega)])
          · first
            | (exfalso; omega)
            | (rw [if_neg (by omega)])
        · refine x_iconst dX4_kindAhead_42 ?_
          refine x_goto (tgt := 47) dX4_kindAhead_43 (by decide) ?_
          refine x_iret dX4_kindAhead_47 rfl ?_
          rw [← hQ]
          refine ⟨_, rfl, ?_, rfl, rfl, rfl⟩
          rcases hf2 with q | q
          · rw [if_pos q]
            unfold evK
            first
            | (rw [if_pos (by omega)])
            | (rw [if_neg (by omega), if_pos (by omega)])
            | (rw [if_neg (by omega), if_neg (by omega), if_pos (by omega)])
            | (rw [if_neg (by omega), if_neg (by omega), if_neg (by omega), if_pos (by omega)])
            | (rw [if_neg (by omega), if_neg (by omega), if_neg (by omega), if_neg (by omega)])
          · first
            | (exfalso; omega)
            | (rw [if_neg (by omega)])
      · refine x_iconst dX4_kindAhead_31 ?_
        refine x_iret dX4_kindAhead_32 rfl ?_
        rw [← hQ]
        refine ⟨_, rfl, ?_, rfl, rfl, rfl⟩
        rcases hf2 with q | q
        · rw [if_pos q]
          unfold evK
          first
          | (rw [if_pos (by omega)])
          | (rw [if_neg (by omega), if_pos (by omega)])
          | (rw [if_neg (by omega), if_neg (by omega), if_pos (by omega)])
          | (rw [if_neg (by omega), if_neg (by omega), if_neg (by omega), if_pos (by omega)])
          | (rw [if_neg (by omega), if_neg (by omega), if_neg (by omega), if_neg (by omega)])
        · first
          | (exfalso; omega)
          | (rw [if_neg (by omega)])
    · refine x_iconst dX4_kindAhead_20 ?_
      refine x_iret dX4_kindAhead_21 rfl ?_
      rw [← hQ]
      refine ⟨_, rfl, ?_, rfl, rfl, rfl⟩
      rcases hf2 with q | q
      · rw [if_pos q]
        unfold evK
        first
        | (rw [if_pos (by omega)])
        | (rw [if_neg (by omega), if_pos (by omega)])
        | (rw [if_neg (by omega), if_neg (by omega), if_pos (by omega)])
        | (rw [if_neg (by omega), if_neg (by omega), if_neg (by omega), if_pos (by omega)])
        | (rw [if_neg (by omega), if_neg (by omega), if_neg (by omega), if_neg (by omega)])
      · first
        | (exfalso; omega)
        | (rw [if_neg (by omega)])
  · refine x_iconst dX4_kindAhead_9 ?_
    refine x_iret dX4_kindAhead_10 rfl ?_
    rw [← hQ]
    refine ⟨_, rfl, ?_, rfl, rfl, rfl⟩
    rcases hf2 with q | q
    · rw [if_pos q]
      unfold evK
      first
      | (rw [if_pos (by omega)])
      | (rw [if_neg (by omega), if_pos (by omega)])
      | (rw [if_neg (by omega), if_neg (by omega), if_pos (by omega)])
      | (rw [if_neg (by omega), if_neg (by omega), if_neg (by omega), if_pos (by omega)])
      | (rw [if_neg (by omega), if_neg (by omega), if_neg (by omega), if_neg (by omega)])
    · first
      | (exfalso; omega)
      | (rw [if_neg (by omega)])
end

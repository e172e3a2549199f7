/-! THE CLASS: Reader, an event. -/
def HK (h : Nat) (I κ : MI) : Prop := I h 0 = κ 0 11 ∧ I h 1 = κ 0 12 ∧ I h 2 = κ 0 13 ∧ I h 3 = κ 0 14 ∧ ∀ v : Nat, v < 10 → (tb (I h 4) v = true ↔ (v : Int) < κ 0 12 ∧ κ 7 (3 * (v : Int) + 2) = 1)
theorem HK.xs {h : Nat} {I J κ : MI} {R : MR} (hh : isH R h) (k : HK h I κ) (a : XS I J) : HK h J κ := by
  have := hh.1
  have e : ∀ j, J h j = I h j := fun j => a h j (by omega)
  exact ⟨by rw [e]; exact k.1, by rw [e]; exact k.2.1, by rw [e]; exact k.2.2.1, by rw [e]; exact k.2.2.2.1, by rw [e]; exact k.2.2.2.2⟩
theorem ab_1 {B : Nat → Int} {κ : MI} {m : Int} {q : Nat} (hH : iHs κ) (h : ∀ v : Nat, v < 10 → (tb m v = true ↔ (v : Int) < κ 0 12 ∧ κ 7 (3 * (v : Int) + 2) = 1)) : fgK B m q = abQ κ 1 (B q - 48) := by
  have h12 := hH.2.1
  unfold fgK abQ dgt
  rw [if_pos rfl]
  by_cases hd : 48 ≤ B q ∧ B q ≤ 57
  · rw [decide_eq_true hd, Bool.true_and]
    have h1 := h (B q - 48).toNat (by omega)
    rw [show (((B q - 48).toNat : Nat) : Int) = B q - 48 by omega] at h1
    apply Bool.eq_iff_iff.mpr
    rw [h1, Bool.and_eq_true, decide_eq_true_eq, decide_eq_true_eq]
    omega
  · rw [decide_eq_false hd, Bool.false_and, decide_eq_false (by omega), Bool.false_and]
theorem ab_5 {B : Nat → Int} {κ : MI} {m : Int} {q : Nat} (hH : iHs κ) (h : m = z_shl 1 (κ 0 12) - 1) : fgK B m q = abQ κ 5 (B q - 48) := by
  have h12 := hH.2.1
  rw [h, fgK_q (mkB_low (by omega))]
  unfold fgQ abQ
  rw [if_neg (by decide), if_pos rfl]
  congr 1
  exact propext ⟨fun q => by omega, fun q => by omega⟩
theorem ab_r {B : Nat → Int} {κ : MI} {m k : Int} {q : Nat} (hH : iHs κ) (hk : k ≠ 1) (hk5 : k ≠ 5) (h : m = z_shl 1 (κ 0 11) - 1) : fgK B m q = abQ κ k (B q - 48) := by
  have h12 := hH.1
  rw [h, fgK_q (mkB_low (by omega))]
  unfold fgQ abQ
  rw [if_neg hk, if_neg hk5]
  congr 1
  exact propext ⟨fun q => by omega, fun q => by omega⟩
theorem min_o {f z lo hi : Int} {B : Nat → Int} {p : Nat} {J : MI} (h0 : z = if f = 0 ∧ mnQ B lo hi p = true then mnV B p else 0) (h1 : J 17 2 = (if f = 0 then (mnP B p : Int) else p)) (h2 : J 17 3 = (if f = 0 ∧ mnQ B lo hi p = true then 0 else 1)) : ∃ (q : Nat) (g : Int), J 17 2 = (q : Int) ∧ J 17 3 = g ∧ (g = 0 ∨ g = 1) ∧ (p ≤ q ∧ q ≤ p + 2) ∧ (f = 0 ∧ mnQ B lo hi p = true ∧ z = mnV B p ∧ g = 0 ∧ q = mnP B p ∨ f = 0 ∧ mnQ B lo hi p = false ∧ z = 0 ∧ g = 1 ∧ q = mnP B p ∨ f ≠ 0 ∧ z = 0 ∧ g = 1 ∧ q = p) := by
  have hr := mnP_r B p
  by_cases hf : f = 0
  · rw [if_pos hf] at h1
    cases hm : mnQ B lo hi p
    · rw [if_neg (fun q => by rw [hm] at q; exact Bool.noConfusion q.2)] at h0 h2
      exact ⟨mnP B p, 1, h1, h2, Or.inr rfl, hr, Or.inr (Or.inl ⟨hf, rfl, h0, rfl, rfl⟩)⟩
    · rw [if_pos ⟨hf, hm⟩] at h0 h2
      exact ⟨mnP B p, 0, h1, h2, Or.inl rfl, hr, Or.inl ⟨hf, rfl, h0, rfl, rfl⟩⟩
  · rw [if_neg hf] at h1
    rw [if_neg (fun q => hf q.1)] at h0 h2
    exact ⟨p, 1, h1, h2, Or.inr rfl, by omega, Or.inr (Or.inr ⟨hf, h0, rfl, rfl⟩)⟩
theorem evp_o {B : Nat → Int} {κ : MI} {k z f : Int} {p q : Nat} (hk : evK B p = k) (hk0 : k ≠ 0)
  (e : ((0 : Int) = 0 ∧ abQ κ k (B (p + 1) - 48) = true) ∧ z = B (p + 1) - 48 ∧ f = 0 ∧ q = p + 1 + 1 ∨ ¬ ((0 : Int) = 0 ∧ abQ κ k (B (p + 1) - 48) = true) ∧ z = 0 ∧ f = 1 ∧ q = p + 1) :
  (f = 1 → (evP B κ p).1 = false ∧ (evP B κ p).2.1 = q) ∧ (f = 0 → q = p + 2 ∧ (¬ (k = 2 ∧ B q = 47) → evP B κ p = evT B κ k z 0 q) ∧ (k = 2 ∧ B q = 47 → (fgQ B 0 (κ 0 13 - 1) (q + 1) = false → (evP B κ p).1 = false ∧ (evP B κ p).2.1 = q + 1) ∧ (fgQ B 0 (κ 0 13 - 1) (q + 1) = true → evP B κ p = evT B κ 3 z (B (q + 1) - 48) (q + 2)))) := by
  unfold evP
  rw [hk, if_neg hk0]
  rcases e with ⟨⟨_, a1⟩, a2, a3, a4⟩ | ⟨a1, a2, a3, a4⟩
  · rw [if_neg (by rw [a1]; decide)]
    subst a4
    refine ⟨fun q => by omega, fun _ => ⟨rfl, fun c => ?_, fun c => ⟨fun d => ?_, fun d => ?_⟩⟩⟩
    · rw [if_neg (show ¬ (k = 2 ∧ B (p + 2) = 47) from c), a2]
    · rw [if_pos (show k = 2 ∧ B (p + 2) = 47 from c), if_pos (show fgQ B 0 (κ 0 13 - 1) (p + 3) = false from d)]
      exact ⟨rfl, rfl⟩
    · rw [if_pos (show k = 2 ∧ B (p + 2) = 47 from c), if_neg (by rw [show fgQ B 0 (κ 0 13 - 1) (p + 3) = true from d]; decide), a2]
  · have hb : abQ κ k (B (p + 1) - 48) = false := by
      cases hq : abQ κ k (B (p + 1) - 48)
      · rfl
      · exact absurd ⟨rfl, hq⟩ a1
    rw [if_pos hb]
    exact ⟨fun _ => ⟨rfl, a4.symm⟩, fun q => by omega⟩
theorem evt_o {B : Nat → Int} {κ : MI} {k a b hi f2 f3 z3 : Int} {q q2 q3 : Nat} (hhi : hi = if k = 1 ∨ k = 5 then κ 0 14 - 1 else κ 0 14)
  (e2 : ((0 : Int) = 0 ∧ B q = 64) ∧ f2 = 0 ∧ q2 = q + 1 ∨ ¬ ((0 : Int) = 0 ∧ B q = 64) ∧ f2 = 1 ∧ q2 = q)
  (e3 : f2 = 0 ∧ mnQ B 0 hi q2 = true ∧ z3 = mnV B q2 ∧ f3 = 0 ∧ q3 = mnP B q2 ∨ f2 = 0 ∧ mnQ B 0 hi q2 = false ∧ z3 = 0 ∧ f3 = 1 ∧ q3 = mnP B q2 ∨ f2 ≠ 0 ∧ z3 = 0 ∧ f3 = 1 ∧ q3 = q2) :
  (f3 = 1 → (evT B κ k a b q).1 = false ∧ (evT B κ k a b q).2.1 = q3) ∧ (f3 = 0 → z3 = mnV B (q + 1) ∧ (k ≠ 5 → evT B κ k a b q = (true, q3, k, a, b, z3)) ∧ (k = 5 → (B q3 ≠ 45 → (evT B κ k a b q).1 = false ∧ (evT B κ k a b q).2.1 = q3) ∧ (B q3 = 45 → (mnQ B z3 (κ 0 14 - 1) (q3 + 1) = false → (evT B κ k a b q).1 = false ∧ (evT B κ k a b q).2.1 = mnP B (q3 + 1)) ∧ (mnQ B z3 (κ 0 14 - 1) (q3 + 1) = true → evT B κ k a b q = (true, mnP B (q3 + 1), k, a, mnV B (q3 + 1), z3))))) := by
  unfold evT
  rcases e2 with ⟨⟨_, a1⟩, a2, a3⟩ | ⟨a1, a2, a3⟩
  · rw [if_neg (by omega)]
    subst a3
    rw [hhi] at e3
    rcases e3 with ⟨_, b1, b2, b3, b4⟩ | ⟨_, b1, b2, b3, b4⟩ | ⟨c, _⟩
    · rw [if_neg (by rw [b1]; decide), ← b4]
      refine ⟨fun q => by omega, fun _ => ⟨b2, fun c => ?_, fun c => ⟨fun d => ?_, fun d => ⟨fun d2 => ?_, fun d2 => ?_⟩⟩⟩⟩
      · rw [if_neg c, b2]
      · rw [if_pos c, if_pos d]; exact ⟨rfl, rfl⟩
      · rw [b2] at d2; rw [if_pos c, if_neg (by omega), if_pos d2]; exact ⟨rfl, rfl⟩
      · rw [b2] at d2 ⊢; rw [if_pos c, if_neg (by omega), if_neg (by rw [d2]; decide)]
    · rw [if_pos b1]
      exact ⟨fun _ => ⟨rfl, b4.symm⟩, fun q => by omega⟩
    · omega
  · have hb : B q ≠ 64 := fun c => a1 ⟨rfl, c⟩
    rw [if_pos hb]
    rcases e3 with ⟨c, _⟩ | ⟨c, _⟩ | ⟨_, b2, b3, b4⟩
    · omega
    · omega
    · exact ⟨fun _ => ⟨rfl, by show q = q3; omega⟩, fun q => by omega⟩
theorem evt_o2 {W : Bool × Nat × EV} {g : Int} {B : Nat → Int} {κ : MI} {k a b hi f2 f3 z3 : Int} {q q2 q3 : Nat} (hg : g = 0 ∨ g = 1) (h6 : g = 0 → W = evT B κ k a b q) (h7 : g = 1 → W.1 = false ∧ W.2.1 = q) (hhi : hi = if k = 1 ∨ k = 5 then κ 0 14 - 1 else κ 0 14)
  (e2 : (g = 0 ∧ B q = 64) ∧ f2 = 0 ∧ q2 = q + 1 ∨ ¬ (g = 0 ∧ B q = 64) ∧ f2 = 1 ∧ q2 = q)
  (e3 : f2 = 0 ∧ mnQ B 0 hi q2 = true ∧ z3 = mnV B q2 ∧ f3 = 0 ∧ q3 = mnP B q2 ∨ f2 = 0 ∧ mnQ B 0 hi q2 = false ∧ z3 = 0 ∧ f3 = 1 ∧ q3 = mnP B q2 ∨ f2 ≠ 0 ∧ z3 = 0 ∧ f3 = 1 ∧ q3 = q2) :
  (f3 = 1 → W.1 = false ∧ W.2.1 = q3) ∧ (f3 = 0 → z3 = mnV B (q + 1) ∧ (k ≠ 5 → W = (true, q3, k, a, b, z3)) ∧ (k = 5 → (B q3 ≠ 45 → W.1 = false ∧ W.2.1 = q3) ∧ (B q3 = 45 → (mnQ B z3 (κ 0 14 - 1) (q3 + 1) = false → W.1 = false ∧ W.2.1 = mnP B (q3 + 1)) ∧ (mnQ B z3 (κ 0 14 - 1) (q3 + 1) = true → W = (true, mnP B (q3 + 1), k, a, mnV B (q3 + 1), z3))))) := by
  rcases hg with rfl | rfl
  · rw [h6 rfl]
    exact evt_o hhi e2 e3
  · obtain ⟨h8, h9⟩ := h7 rfl
    rcases e2 with ⟨⟨c, _⟩, _⟩ | ⟨_, c2, c3⟩
    · omega
    · rcases e3 with ⟨c, _⟩ | ⟨c, _⟩ | ⟨_, b2, b3, b4⟩
      · omega
      · omega
      · exact ⟨fun _ => ⟨h8, by omega⟩, fun q => by omega⟩
theorem mnV_r (B : Nat → Int) (p : Nat) : 0 ≤ mnV B p ∧ mnV B p ≤ 99 := by
  unfold mnV dgt
  simp only [decide_eq_true_eq]
  split
  · split <;> omega
  · omega
theorem evt_o5 {W : Bool × Nat × EV} {B : Nat → Int} {κ : MI} {k a z3 z5 f4 f5 : Int} {q3 q4 q5 : Nat}
  (t : (B q3 ≠ 45 → W.1 = false ∧ W.2.1 = q3) ∧ (B q3 = 45 → (mnQ B z3 (κ 0 14 - 1) (q3 + 1) = false → W.1 = false ∧ W.2.1 = mnP B (q3 + 1)) ∧ (mnQ B z3 (κ 0 14 - 1) (q3 + 1) = true → W = (true, mnP B (q3 + 1), k, a, mnV B (q3 + 1), z3))))
  (e4 : ((0 : Int) = 0 ∧ B q3 = 45) ∧ f4 = 0 ∧ q4 = q3 + 1 ∨ ¬ ((0 : Int) = 0 ∧ B q3 = 45) ∧ f4 = 1 ∧ q4 = q3)
  (e5 : f4 = 0 ∧ mnQ B z3 (κ 0 14 - 1) q4 = true ∧ z5 = mnV B q4 ∧ f5 = 0 ∧ q5 = mnP B q4 ∨ f4 = 0 ∧ mnQ B z3 (κ 0 14 - 1) q4 = false ∧ z5 = 0 ∧ f5 = 1 ∧ q5 = mnP B q4 ∨ f4 ≠ 0 ∧ z5 = 0 ∧ f5 = 1 ∧ q5 = q4) :
  (f5 = 0 → W = (true, q5, k, a, z5, z3)) ∧ (f5 = 1 → W.1 = false ∧ W.2.1 = q5) := by
  rcases e4 with ⟨⟨_, a1⟩, a2, a3⟩ | ⟨a1, a2, a3⟩
  · subst a3
    rcases e5 with ⟨_, b1, b2, b3, b4⟩ | ⟨_, b1, b2, b3, b4⟩ | ⟨c, _⟩
    · exact ⟨fun _ => by rw [(t.2 a1).2 b1, b2, b4], fun q => by omega⟩
    · exact ⟨fun q => by omega, fun _ => by rw [b4]; exact (t.2 a1).1 b1⟩
    · omega
  · have hb : B q3 ≠ 45 := fun c => a1 ⟨rfl, c⟩
    rcases e5 with ⟨c, _⟩ | ⟨c, _⟩ | ⟨_, b2, b3, b4⟩
    · omega
    · omega
    · exact ⟨fun q => by omega, fun _ => by rw [b4, a3]; exact t.1 hb⟩
section
variable {G : GT} {I L κ : MI} {R : MR} {tx n p h nn : Nat} {B : Nat → Int} {f R0 : Int}

set_option maxHeartbeats 1500000 in
theorem s_X4_readEvent  (hX : XT tx B n I R) (hh : isH R h) (hnn : isN R nn) (hK : HK h I κ) (hH : iHs κ) (hp : I 17 2 = (p : Int)) (hf : I 17 3 = 0) (hp2 : p ≤ 900) (hn : 0 ≤ I nn 0 ∧ I nn 0 < 24) : Sp G mtX4_readEvent [mr 17, mr h, mr nn] shX I L R (qv (fun I' L' R' => ∃ J, XS I J ∧ J 17 2 = ((evP B κ p).2.1 : Int) ∧ J 17 3 = (if (evP B κ p).1 then 0 else 1) ∧ I' = (if (evP B κ p).1 then adN J nn (evP B κ p).2.2.1 (evP B κ p).2.2.2.1 (evP B κ p).2.2.2.2.1 (evP B κ p).2.2.2.2.2 else J) ∧ L = L' ∧ R = R')) := by
  refine Sp.of pnX4_readEvent rfl ?_
  show Rn G mtX4_readEvent _ 0 [(0, mr 17), (1, mr h), (2, mr nn)] [] shX I L R
  generalize hQ : (qv (fun I' L' R' => ∃ J, XS I J ∧ J 17 2 = ((evP B κ p).2.1 : Int) ∧ J 17 3 = (if (evP B κ p).1 then 0 else 1) ∧ I' = (if (evP B κ p).1 then adN J nn (evP B κ p).2.2.1 (evP B κ p).2.2.2.1 (evP B κ p).2.2.2.2.1 (evP B κ p).2.2.2.2.2 else J) ∧ L = L' ∧ R = R')) = Q
  obtain ⟨x1, x2, x3, x4, x5, x6, x7⟩ := id hX
  have hb := x7 p
  have hz : n ≤ p → B p = 0 := x6 p
  have hin : (p : Int) < I 17 1 → I tx (I 17 2) = B p := fun q => by rw [hp]; exact x5 p (by omega)
  have hh1 := hh.1
  have hn1 := hnn.1
  have hf2 : (0 : Int) = 0 ∨ (0 : Int) = 1 := Or.inl rfl
  have hkr := evK_r B p
  obtain ⟨hH1, hH2, hH3, hH4, _⟩ := id hH
  obtain ⟨y1, y2, y3, y4, y5⟩ := id hK
  have ex : ∀ (J : MI) (q : Nat) (g k a b t : Int), J 17 2 = (q : Int) → J 17 3 = g → (g = 0 ∨ g = 1) → XS I J → (g = 0 → evP B κ p = (true, q, k, a, b, t)) → (g = 1 → (evP B κ p).1 = false ∧ (evP B κ p).2.1 = q) → ∀ i4 i5 i8, Rn G mtX4_readEvent Q 175 [(0, mr 17), (1, mr h), (2, mr nn), (3, mi k), (4, mi i4), (5, mi i5), (6, mi a), (7, mi b), (8, mi i8), (9, mi t)] [] shX J L R := by
    intro J q g k a b t g1 g2 g3 g4 g5 g6 i4 i5 i8
    have hJn : J nn 0 = I nn 0 := g4 nn 0 (by omega)
    refine x_aload_n dX4_readEvent_175 0 rfl rfl ?_
    refine x_getI dX4_readEvent_176 flX4_28 rfl rfl ?_
    rw [g2]
    refine x_if_ne (tgt := 193) dX4_readEvent_179 (by decide) (by first | omega | exact z_and_r _ _ | exact z_or_r _ _ | exact z_xor_r _ _) (fun h179 => ?_) (fun h179 => ?_)
    · refine x_vret dX4_readEvent_193 rfl ?_
      rw [← hQ]
      first
      | (have hg : g = 0 := by assumption
         rw [g5 hg]
         exact ⟨rfl, J, g4, g1, by rw [g2]; exact hg, rfl, rfl, rfl⟩)
      | (have hg : ¬ g = 0 := by assumption
         obtain ⟨d1, d2⟩ := g6 (by omega)
         rw [d1, d2]
         exact ⟨rfl, J, g4, g1, by rw [g2]; exact (by omega : g = 1), rfl, rfl, rfl⟩)
    · refine x_aload_n dX4_readEvent_182 2 rfl rfl ?_
      refine x_iload_n dX4_readEvent_183 3 rfl rfl ?_
      refine x_iload dX4_readEvent_184 6 rfl ?_
      refine x_iload dX4_readEvent_186 7 rfl ?_
      refine x_iload dX4_readEvent_188 9 rfl ?_
      refine x_callVv (as := [_, _, _, _]) dX4_readEvent_190 lvX4_117 rfl (shN0 hnn) rfl rfl rfl rfl rfl ⟨rfl, rfl⟩ (s_X2_add hnn (by omega)) (fun I190 L190 R190 hq190 => ?_)
      obtain ⟨rfl, rfl, rfl⟩ := hq190
      refine x_vret dX4_readEvent_193 rfl ?_
      rw [← hQ]
      first
      | (have hg : g = 0 := by assumption
         rw [g5 hg]
         exact ⟨rfl, J, g4, g1, by rw [g2]; exact hg, rfl, rfl, rfl⟩)
      | (have hg : ¬ g = 0 := by assumption
         obtain ⟨d1, d2⟩ := g6 (by omega)
         rw [d1, d2]
         exact ⟨rfl, J, g4, g1, by rw [g2]; exact (by omega : g = 1), rfl, rfl, rfl⟩)
  have jn : ∀ (J : MI) (q : Nat) (g k a b : Int), J 17 2 = (q : Int) → J 17 3 = g → (g = 0 ∨ g = 1) → XS I J → q ≤ p + 10 → (1 ≤ k ∧ k ≤ 5) → (g = 0 → evP B κ p = evT B κ k a b q) → (g = 1 → (evP B κ p).1 = false ∧ (evP B κ p).2.1 = q) → ∀ i4 i5, ((k = 1 ∨ k = 5) ∧ i5 = 1 ∨ ¬ (k = 1 ∨ k = 5) ∧ i5 = 0) → Rn G mtX4_readEvent Q 119 [(0, mr 17), (1, mr h), (2, mr nn), (3, mi k), (4, mi i4), (5, mi i5), (6, mi a), (7, mi b)] [] shX J L R := by
    intro J q g k a b g1 g2 g3 g4 g5 gk g6 g7 i4 i5 hi5
    have hXJ := g4.xt hX
    have j2 : ∀ (J : MI) (q2 : Nat) (g2 hi : Int), J 17 2 = (q2 : Int) → J 17 3 = g2 → (g2 = 0 ∨ g2 = 1) → XS I J → q2 ≤ p + 12 → hi = (if k = 1 ∨ k = 5 then κ 0 14 - 1 else κ 0 14) → ((g = 0 ∧ B q = 64) ∧ g2 = 0 ∧ q2 = q + 1 ∨ ¬ (g = 0 ∧ B q = 64) ∧ g2 = 1 ∧ q2 = q) → Rn G mtX4_readEvent Q 143 [(0, mr 17), (1, mr h), (2, mr nn), (3, mi k), (4, mi i4), (5, mi i5), (6, mi a), (7, mi b)] [mi hi] shX J L R := by
      intro J q2 g2 hi m1 m2 m3 m4 m5 m6 m7
      have hXJ := m4.xt hX
      have hhr : -1 ≤ hi ∧ hi ≤ 31 := by rw [m6]; split <;> omega
      refine x_istore (lv' := [(0, _), (1, _), (2, _), (3, _), (4, _), (5, _), (6, _), (7, _), (8, _)]) dX4_readEvent_143 rfl rfl ?_
      refine x_aload_n dX4_readEvent_145 0 rfl rfl ?_
      refine x_iconst dX4_readEvent_146 ?_
      refine x_iload dX4_readEvent_147 8 rfl ?_
      refine x_callVi (as := [_, _]) dX4_readEvent_149 lvX4_81 rfl rfl rfl rfl rfl rfl rfl ⟨rfl, rfl⟩ (s_X4_readMinute hXJ m1 m2 m3 (by omega) (by omega) (by omega)) (fun z149 I149 L149 R149 hq149 => ?_)
      obtain ⟨zz149, a149, b149, c149, rfl, rfl⟩ := hq149
      obtain ⟨q149, f149, a149, b149, g149, r149, e149⟩ := min_o zz149 a149 b149
      have x149 := m4.tr c149
      have hX149 := x149.xt hX
      have T := evt_o2 g3 g6 g7 m6 m7 e149
      have hz3 : 0 ≤ z149 ∧ z149 ≤ 99 := by have := mnV_r B q2; omega
      refine x_istore (lv' := [(0, _), (1, _), (2, _), (3, _), (4, _), (5, _), (6, _), (7, _), (8, _), (9, _)]) dX4_readEvent_152 rfl rfl ?_
      refine x_iload_n dX4_readEvent_154 3 rfl rfl ?_
      refine x_iconst dX4_readEvent_155 ?_
      refine x_ic_ne (tgt := 175) dX4_readEvent_156 (by decide) (by first | omega | exact z_and_r _ _ | exact z_or_r _ _ | exact z_xor_r _ _) (fun h156 => ?_) (fun h156 => ?_)
      · first
        | (have x9 := x170
           have hk5 : k = 5 := by assumption
           have hhi : hi = κ 0 14 - 1 := by rw [m6, if_pos (Or.inr hk5)]
           rw [hhi] at e170
           rcases g149 with q9 | q9
           · rw [q9] at e162
             obtain ⟨u1, u2⟩ := evt_o5 (((T.2 q9).2.2) hk5) e162 e170
             exact ex I170 q170 f170 _ _ _ _ a170 b170 g170 x9 u1 u2 _ _ _
           · obtain ⟨u1, u2⟩ := T.1 q9
             have q162e : f162 = 1 ∧ q162 = q149 := by omega
             have q170e : f170 = 1 ∧ q170 = q162 := by omega
             exact ex I170 q170 f170 _ _ _ _ a170 b170 g170 x9 (fun q => by omega) (fun _ => ⟨u1, by omega⟩) _ _ _)
        | (have hk5 : ¬ k = 5 := by assumption
           exact ex I149 q149 f149 _ _ _ _ a149 b149 g149 x149 (fun q => (T.2 q).2.1 hk5) T.1 _ _ _)
      · refine x_aload_n dX4_readEvent_159 0 rfl rfl ?_
        refine x_bipush dX4_readEvent_160 (by decide) ?_
        refine x_callVv (as := [_]) dX4_readEvent_162 lvX4_41 rfl rfl rfl rfl rfl rfl rfl ⟨rfl, rfl⟩ (s_X4_expect hX149 a149 b149 g149 (by omega) (by omega)) (fun I162 L162 R162 hq162 => ?_)
        obtain ⟨a162, b162, c162, rfl, rfl⟩ := hq162
        obtain ⟨q162, f162, a162, b162, g162, r162, e162⟩ := exp_o a162 b162
        have x162 := x149.tr c162
        have hX162 := x162.xt hX
        refine x_aload_n dX4_readEvent_165 0 rfl rfl ?_
        refine x_iload dX4_readEvent_166 9 rfl ?_
        refine x_iload dX4_readEvent_168 8 rfl ?_
        refine x_callVi (as := [_, _]) dX4_readEvent_170 lvX4_81 rfl rfl rfl rfl rfl rfl rfl ⟨rfl, rfl⟩ (s_X4_readMinute hX162 a162 b162 g162 (by omega) (by omega) (by omega)) (fun z170 I170 L170 R170 hq170 => ?_)
        obtain ⟨zz170, a170, b170, c170, rfl, rfl⟩ := hq170
        obtain ⟨q170, f170, a170, b170, g170, r170, e170⟩ := min_o zz170 a170 b170
        have x170 := x162.tr c170
        refine x_istore (lv' := [(0, _), (1, _), (2, _), (3, _), (4, _), (5, _), (6, _), (7, _), (8, _), (9, _)]) dX4_readEvent_173 rfl rfl ?_
        first
        | (have x9 := x170
           have hk5 : k = 5 := by assumption
           have hhi : hi = κ 0 14 - 1 := by rw [m6, if_pos (Or.inr hk5)]
           rw [hhi] at e170
           rcases g149 with q9 | q9
           · rw [q9] at e162
             obtain ⟨u1, u2⟩ := evt_o5 (((T.2 q9).2.2) hk5) e162 e170
             exact ex I170 q170 f170 _ _ _ _ a170 b170 g170 x9 u1 u2 _ _ _
           · obtain ⟨u1, u2⟩ := T.1 q9
             have q162e : f162 = 1 ∧ q162 = q149 := by omega
             have q170e : f170 = 1 ∧ q170 = q162 := by omega
             exact ex I170 q170 f170 _ _ _ _ a170 b170 g170 x9 (fun q => by omega) (fun _ => ⟨u1, by omega⟩) _ _ _)
        | (have hk5 : ¬ k = 5 := by assumption
           exact ex I149 q149 f149 _ _ _ _ a149 b149 g149 x149 (fun q => (T.2 q).2.1 hk5) T.1 _ _ _)
    refine x_aload_n dX4_readEvent_119 0 rfl rfl ?_
    refine x_bipush dX4_readEvent_120 (by decide) ?_
    refine x_callVv (as := [_]) dX4_readEvent_122 lvX4_41 rfl rfl rfl rfl rfl rfl rfl ⟨rfl, rfl⟩ (s_X4_expect hXJ g1 g2 g3 (by omega) (by omega)) (fun I122 L122 R122 hq122 => ?_)
    obtain ⟨a122, b122, c122, rfl, rfl⟩ := hq122
    obtain ⟨q122, f122, a122, b122, g122, r122, e122⟩ := exp_o a122 b122
    refine x_iload dX4_readEvent_125 5 rfl ?_
    refine x_if_eq (tgt := 139) dX4_readEvent_127 (by decide) (by first | omega | exact z_and_r _ _ | exact z_or_r _ _ | exact z_xor_r _ _) (fun h127 => ?_) (fun h127 => ?_)
    · refine x_aload_n dX4_readEvent_139 1 rfl rfl ?_
      refine x_getI dX4_readEvent_140 flX4_84 (shH0 hh) rfl ?_
      have x122 := g4.tr c122
      have hK122 := hK.xs hh x122
      exact j2 I122 q122 f122 _ a122 b122 g122 x122 (by omega) (by first | (rw [if_pos (by omega), hK122.2.2.2.1]) | (rw [if_neg (by omega), hK122.2.2.2.1])) e122
    · refine x_aload_n dX4_readEvent_130 1 rfl rfl ?_
      refine x_getI dX4_readEvent_131 flX4_84 (shH0 hh) rfl ?_
      refine x_iconst dX4_readEvent_134 ?_
      refine x_isub dX4_readEvent_135 ?_
      refine x_goto (tgt := 143) dX4_readEvent_136 (by decide) ?_
      have x122 := g4.tr c122
      have hK122 := hK.xs hh x122
      exact j2 I122 q122 f122 _ a122 b122 g122 x122 (by omega) (by first | (rw [if_pos (by omega), hK122.2.2.2.1]) | (rw [if_neg (by omega), hK122.2.2.2.1])) e122
  refine x_aload_n dX4_readEvent_0 0 rfl rfl ?_
  refine x_callVi (as := []) dX4_readEvent_1 lvX4_105 rfl rfl rfl rfl rfl rfl rfl ⟨rfl, rfl⟩ (s_X4_kindAhead hX hp hf hf2 (by omega)) (fun z1 I1 L1 R1 hq1 => ?_)
  obtain ⟨rfl, rfl, rfl, rfl⟩ := hq1
  rw [if_pos rfl]
  refine x_istore_n (lv' := [(0, _), (1, _), (2, _), (3, _)]) dX4_readEvent_4 rfl rfl rfl ?_
  refine x_iload_n dX4_readEvent_5 3 rfl rfl ?_
  refine x_if_ne (tgt := 15) dX4_readEvent_6 (by decide) (by first | omega | exact z_and_r _ _ | exact z_or_r _ _ | exact z_xor_r _ _) (fun h6 => ?_) (fun h6 => ?_)
  · rcases hkr with hk | hk | hk | hk | hk
    · exact absurd hk (by assumption)
    · rw [hk]
      refine x_aload_n dX4_readEvent_15 0 rfl rfl ?_
      refine x_dup dX4_readEvent_16 rfl ?_
      refine x_getI dX4_readEvent_17 flX4_25 rfl rfl ?_
      rw [hp]
      refine x_iconst dX4_readEvent_20 ?_
      refine x_iadd dX4_readEvent_21 ?_
      refine x_putI dX4_readEvent_22 flX4_25 rfl rfl rfl ?_
      refine x_iload_n dX4_readEvent_25 3 rfl rfl ?_
      refine x_iconst dX4_readEvent_26 ?_
      refine x_ic_ne (tgt := 37) dX4_readEvent_27 (by decide) (by first | omega | exact z_and_r _ _ | exact z_or_r _ _ | exact z_xor_r _ _) (fun h27 => ?_) (fun h27 => ?_)
      · exfalso; omega
      · refine x_aload_n dX4_readEvent_30 1 rfl rfl ?_
        refine y_getI dX4_readEvent_31 flX4_108 (shH0 hh) rfl (m_up_ne (by omega) _) ?_
        refine x_goto (tgt := 41) dX4_readEvent_34 (by decide) ?_
        refine x_istore (lv' := [(0, _), (1, _), (2, _), (3, _), (4, _)]) dX4_readEvent_41 rfl rfl ?_
        refine x_iload_n dX4_readEvent_43 3 rfl rfl ?_
        refine x_iconst dX4_readEvent_44 ?_
        refine x_ic_eq (tgt := 53) dX4_readEvent_45 (by decide) (by first | omega | exact z_and_r _ _ | exact z_or_r _ _ | exact z_xor_r _ _) (fun h45 => ?_) (fun h45 => ?_)
        · refine x_iconst dX4_readEvent_53 ?_
          refine x_goto (tgt := 58) dX4_readEvent_54 (by decide) ?_
          refine x_istore (lv' := [(0, _), (1, _), (2, _), (3, _), (4, _), (5, _)]) dX4_readEvent_58 rfl rfl ?_
          refine x_aload_n dX4_readEvent_60 0 rfl rfl ?_
          refine x_iload dX4_readEvent_61 5 rfl ?_
          refine x_if_eq (tgt := 71) dX4_readEvent_63 (by decide) (by first | omega | exact z_and_r _ _ | exact z_or_r _ _ | exact z_xor_r _ _) (fun h63 => ?_) (fun h63 => ?_)
          · exfalso; omega
          · refine x_iload dX4_readEvent_66 4 rfl ?_
            refine x_goto (tgt := 75) dX4_readEvent_68 (by decide) ?_
            refine x_callVi (as := [_]) dX4_readEvent_75 lvX4_45 rfl rfl rfl rfl rfl rfl rfl ⟨rfl, rfl⟩ (s_X4_figure (I := m_up I 17 2 ((p : Int) + 1)) (p := p + 1) (((XS.rf I).up (Or.inl rfl) _).xt hX) m_up_eq ((m_up_nj (by decide)).trans hf) (Or.inl rfl) (by omega)) (fun z75 I75 L75 R75 hq75 => ?_)
            obtain ⟨zz75, a75, b75, c75, rfl, rfl⟩ := hq75
            obtain ⟨q75, f75, a75, b75, g75, r75, e75⟩ := fig_o zz75 a75 b75
            rw [ab_1 (m := I h 4) hH y5] at e75
            have x75 := (((XS.rf I).up (Or.inl rfl) _).tr c75 : XS I I75)
            have hX75 := x75.xt hX
            have hK75 := hK.xs hh x75
            obtain ⟨ev1, ev2⟩ := evp_o hk (by decide) e75
            refine x_istore (lv' := [(0, _), (1, _), (2, _), (3, _), (4, _), (5, _), (6, _)]) dX4_readEvent_78 rfl rfl ?_
            refine x_iconst dX4_readEvent_80 ?_
            refine x_istore (lv' := [(0, _), (1, _), (2, _), (3, _), (4, _), (5, _), (6, _), (7, _)]) dX4_readEvent_81 rfl rfl ?_
            refine x_iload_n dX4_readEvent_83 3 rfl rfl ?_
            refine x_iconst dX4_readEvent_84 ?_
            refine x_ic_ne (tgt := 119) dX4_readEvent_85 (by decide) (by first | omega | exact z_and_r _ _ | exact z_or_r _ _ | exact z_xor_r _ _) (fun h85 => ?_) (fun h85 => ?_)
            · exact jn I75 q75 f75 _ z75 0 a75 b75 g75 x75 (by omega) (by omega) (fun q => (ev2 q).2.1 (fun c => absurd c.1 (by decide))) ev1 _ _ (by omega)
            · exfalso; omega
        · exfalso; omega
    · rw [hk]
      refine x_aload_n dX4_readEvent_15 0 rfl rfl ?_
      refine x_dup dX4_readEvent_16 rfl ?_
      refine x_getI dX4_readEvent_17 flX4_25 rfl rfl ?_
      rw [hp]
      refine x_iconst dX4_readEvent_20 ?_
      refine x_iadd dX4_readEvent_21 ?_
      refine x_putI dX4_readEvent_22 flX4_25 rfl rfl rfl ?_
      refine x_iload_n dX4_readEvent_25 3 rfl rfl ?_
      refine x_iconst dX4_readEvent_26 ?_
      refine x_ic_ne (tgt := 37) dX4_readEvent_27 (by decide) (by first | omega | exact z_and_r _ _ | exact z_or_r _ _ | exact z_xor_r _ _) (fun h27 => ?_) (fun h27 => ?_)
      · refine x_aload_n dX4_readEvent_37 1 rfl rfl ?_
        refine x_callVi (as := []) dX4_readEvent_38 lvX4_111 rfl (shH0 hh) rfl rfl rfl rfl rfl ⟨rfl, rfl⟩ (s_X0_doorBits hh) (fun z38 I38 L38 R38 hq38 => ?_)
        obtain ⟨rfl, rfl, rfl, rfl⟩ := hq38
        refine x_istore (lv' := [(0, _), (1, _), (2, _), (3, _), (4, _)]) dX4_readEvent_41 rfl rfl ?_
        refine x_iload_n dX4_readEvent_43 3 rfl rfl ?_
        refine x_iconst dX4_readEvent_44 ?_
        refine x_ic_eq (tgt := 53) dX4_readEvent_45 (by decide) (by first | omega | exact z_and_r _ _ | exact z_or_r _ _ | exact z_xor_r _ _) (fun h45 => ?_) (fun h45 => ?_)
        · exfalso; omega
        · refine x_iload_n dX4_readEvent_48 3 rfl rfl ?_
          refine x_iconst dX4_readEvent_49 ?_
          refine x_ic_ne (tgt := 57) dX4_readEvent_50 (by decide) (by first | omega | exact z_and_r _ _ | exact z_or_r _ _ | exact z_xor_r _ _) (fun h50 => ?_) (fun h50 => ?_)
          · refine x_iconst dX4_readEvent_57 ?_
            refine x_istore (lv' := [(0, _), (1, _), (2, _), (3, _), (4, _), (5, _)]) dX4_readEvent_58 rfl rfl ?_
            refine x_aload_n dX4_readEvent_60 0 rfl rfl ?_
            refine x_iload dX4_readEvent_61 5 rfl ?_
            refine x_if_eq (tgt := 71) dX4_readEvent_63 (by decide) (by first | omega | exact z_and_r _ _ | exact z_or_r _ _ | exact z_xor_r _ _) (fun h63 => ?_) (fun h63 => ?_)
            · refine x_aload_n dX4_readEvent_71 1 rfl rfl ?_
              refine x_callVi (as := []) dX4_readEvent_72 lvX4_87 rfl (shH0 hh) rfl rfl rfl rfl rfl ⟨rfl, rfl⟩ (s_X0_roomBits hh) (fun z72 I72 L72 R72 hq72 => ?_)
              obtain ⟨rfl, rfl, rfl, rfl⟩ := hq72
              refine x_callVi (as := [_]) dX4_readEvent_75 lvX4_45 rfl rfl rfl rfl rfl rfl rfl ⟨rfl, rfl⟩ (s_X4_figure (I := m_up I 17 2 ((p : Int) + 1)) (p := p + 1) (((XS.rf I).up (Or.inl rfl) _).xt hX) m_up_eq ((m_up_nj (by decide)).trans hf) (Or.inl rfl) (by omega)) (fun z75 I75 L75 R75 hq75 => ?_)
              obtain ⟨zz75, a75, b75, c75, rfl, rfl⟩ := hq75
              obtain ⟨q75, f75, a75, b75, g75, r75, e75⟩ := fig_o zz75 a75 b75
              rw [ab_r (k := 2) (m := z_shl 1 (m_up I 17 2 ((p : Int) + 1) h 0) - 1) hH (by decide) (by decide) (by rw [m_up_ne (by omega), y1])] at e75
              have x75 := (((XS.rf I).up (Or.inl rfl) _).tr c75 : XS I I75)
              have hX75 := x75.xt hX
              have hK75 := hK.xs hh x75
              obtain ⟨ev1, ev2⟩ := evp_o hk (by decide) e75
              refine x_istore (lv' := [(0, _), (1, _), (2, _), (3, _), (4, _), (5, _), (6, _)]) dX4_readEvent_78 rfl rfl ?_
              refine x_iconst dX4_readEvent_80 ?_
              refine x_istore (lv' := [(0, _), (1, _), (2, _), (3, _), (4, _), (5, _), (6, _), (7, _)]) dX4_readEvent_81 rfl rfl ?_
              refine x_iload_n dX4_readEvent_83 3 rfl rfl ?_
              refine x_iconst dX4_readEvent_84 ?_
              refine x_ic_ne (tgt := 119) dX4_readEvent_85 (by decide) (by first | omega | exact z_and_r _ _ | exact z_or_r _ _ | exact z_xor_r _ _) (fun h85 => ?_) (fun h85 => ?_)
              · exfalso; omega
              · refine x_aload_n dX4_readEvent_88 0 rfl rfl ?_
                refine x_bipush dX4_readEvent_89 (by decide) ?_
                refine x_callVi (as := [_]) dX4_readEvent_91 lvX4_65 rfl rfl rfl rfl rfl rfl rfl ⟨rfl, rfl⟩ (s_X4_ahead hX75 a75 b75 g75 (by omega) (by omega)) (fun z91 I91 L91 R91 hq91 => ?_)
                obtain ⟨rfl, rfl, rfl, rfl⟩ := hq91
                refine y_ifb_eq (tgt := 119) dX4_readEvent_94 (by decide) (fun h94 => ?_) (fun h94 => ?_)
                · first
                  | (have x114 := (x75.up (Or.inl rfl) _).tr c114
                     have hc : f75 = 0 ∧ B q75 = 47 := by assumption
                     have hv := (ev2 hc.1).2.2 ⟨rfl, hc.2⟩
                     refine jn I114 q114 f114 3 z75 z114 a114 b114 g114 x114 (by omega) (by omega) (fun q => ?_) (fun q => ?_) _ _ (by omega)
                     · rcases e114 with ⟨⟨_, c1⟩, c2, c3, c4⟩ | ⟨c1, c2, c3, c4⟩
                       · rw [hv.2 c1, c2, c4]
                       · omega
                     · rcases e114 with ⟨⟨_, c1⟩, c2, c3, c4⟩ | ⟨c1, c2, c3, c4⟩
                       · omega
                       · have c5 : fgQ B 0 (κ 0 13 - 1) (q75 + 1) = false := by
                           cases hq : fgQ B 0 (κ 0 13 - 1) (q75 + 1)
                           · rfl
                           · exact absurd ⟨hc.1, hq⟩ c1
                         rw [c4]
                         exact hv.1 c5)
                  | exact jn I75 q75 f75 _ z75 0 a75 b75 g75 x75 (by omega) (by omega) (fun q => (ev2 q).2.1 (fun c => absurd (⟨q, c.2⟩ : f75 = 0 ∧ B q75 = 47) (by assumption))) ev1 _ _ (by omega)
                · refine x_aload_n dX4_readEvent_97 0 rfl rfl ?_
                  refine x_dup dX4_readEvent_98 rfl ?_
                  refine x_getI dX4_readEvent_99 flX4_25 rfl rfl ?_
                  rw [a75]
                  refine x_iconst dX4_readEvent_102 ?_
                  refine x_iadd dX4_readEvent_103 ?_
                  refine x_putI dX4_readEvent_104 flX4_25 rfl rfl rfl ?_
                  refine x_iconst dX4_readEvent_107 ?_
                  refine x_istore_n (lv' := [(0, _), (1, _), (2, _), (3, _), (4, _), (5, _), (6, _), (7, _)]) dX4_readEvent_108 rfl rfl rfl ?_
                  refine x_aload_n dX4_readEvent_109 0 rfl rfl ?_
                  refine x_aload_n dX4_readEvent_110 1 rfl rfl ?_
                  refine x_callVi (as := []) dX4_readEvent_111 lvX4_114 rfl (shH0 hh) rfl rfl rfl rfl rfl ⟨rfl, rfl⟩ (s_X0_walkerBits hh) (fun z111 I111 L111 R111 hq111 => ?_)
                  obtain ⟨rfl, rfl, rfl, rfl⟩ := hq111
                  refine x_callVi (as := [_]) dX4_readEvent_114 lvX4_45 rfl rfl rfl rfl rfl rfl rfl ⟨rfl, rfl⟩ (s_X4_figure (I := m_up I75 17 2 ((q75 : Int) + 1)) (p := q75 + 1) (((XS.rf I75).up (Or.inl rfl) _).xt hX75) m_up_eq ((m_up_nj (by decide)).trans b75) g75 (by omega)) (fun z114 I114 L114 R114 hq114 => ?_)
                  obtain ⟨zz114, a114, b114, c114, rfl, rfl⟩ := hq114
                  obtain ⟨q114, f114, a114, b114, g114, r114, e114⟩ := fig_o zz114 a114 b114
                  rw [show m_up I75 17 2 ((q75 : Int) + 1) h 2 = κ 0 13 by rw [m_up_ne (by omega)]; exact hK75.2.2.1, fgK_q (mkB_low (by omega))] at e114
                  refine x_istore (lv' := [(0, _), (1, _), (2, _), (3, _), (4, _), (5, _), (6, _), (7, _)]) dX4_readEvent_117 rfl rfl ?_
                  first
                  | (have x114 := (x75.up (Or.inl rfl) _).tr c114
                     have hc : f75 = 0 ∧ B q75 = 47 := by assumption
                     have hv := (ev2 hc.1).2.2 ⟨rfl, hc.2⟩
                     refine jn I114 q114 f114 3 z75 z114 a114 b114 g114 x114 (by omega) (by omega) (fun q => ?_) (fun q => ?_) _ _ (by omega)
                     · rcases e114 with ⟨⟨_, c1⟩, c2, c3, c4⟩ | ⟨c1, c2, c3, c4⟩
                       · rw [hv.2 c1, c2, c4]
                       · omega
                     · rcases e114 with ⟨⟨_, c1⟩, c2, c3, c4⟩ | ⟨c1, c2, c3, c4⟩
                       · omega
                       · have c5 : fgQ B 0 (κ 0 13 - 1) (q75 + 1) = false := by
                           cases hq : fgQ B 0 (κ 0 13 - 1) (q75 + 1)
                           · rfl
                           · exact absurd ⟨hc.1, hq⟩ c1
                         rw [c4]
                         exact hv.1 c5)
                  | exact jn I75 q75 f75 _ z75 0 a75 b75 g75 x75 (by omega) (by omega) (fun q => (ev2 q).2.1 (fun c => absurd (⟨q, c.2⟩ : f75 = 0 ∧ B q75 = 47) (by assumption))) ev1 _ _ (by omega)
            · exfalso; omega
          · exfalso; omega
      · exfalso; omega
    · rw [hk]
      refine x_aload_n dX4_readEvent_15 0 rfl rfl ?_
      refine x_dup dX4_readEvent_16 rfl ?_
      refine x_getI dX4_readEvent_17 flX4_25 rfl rfl ?_
      rw [hp]
      refine x_iconst dX4_readEvent_20 ?_
      refine x_iadd dX4_readEvent_21 ?_
      refine x_putI dX4_readEvent_22 flX4_25 rfl rfl rfl ?_
      refine x_iload_n dX4_readEvent_25 3 rfl rfl ?_
      refine x_iconst dX4_readEvent_26 ?_
      refine x_ic_ne (tgt := 37) dX4_readEvent_27 (by decide) (by first | omega | exact z_and_r _ _ | exact z_or_r _ _ | exact z_xor_r _ _) (fun h27 => ?_) (fun h27 => ?_)
      · refine x_aload_n dX4_readEvent_37 1 rfl rfl ?_
        refine x_callVi (as := []) dX4_readEvent_38 lvX4_111 rfl (shH0 hh) rfl rfl rfl rfl rfl ⟨rfl, rfl⟩ (s_X0_doorBits hh) (fun z38 I38 L38 R38 hq38 => ?_)
        obtain ⟨rfl, rfl, rfl, rfl⟩ := hq38
        refine x_istore (lv' := [(0, _), (1, _), (2, _), (3, _), (4, _)]) dX4_readEvent_41 rfl rfl ?_
        refine x_iload_n dX4_readEvent_43 3 rfl rfl ?_
        refine x_iconst dX4_readEvent_44 ?_
        refine x_ic_eq (tgt := 53) dX4_readEvent_45 (by decide) (by first | omega | exact z_and_r _ _ | exact z_or_r _ _ | exact z_xor_r _ _) (fun h45 => ?_) (fun h45 => ?_)
        · exfalso; omega
        · refine x_iload_n dX4_readEvent_48 3 rfl rfl ?_
          refine x_iconst dX4_readEvent_49 ?_
          refine x_ic_ne (tgt := 57) dX4_readEvent_50 (by decide) (by first | omega | exact z_and_r _ _ | exact z_or_r _ _ | exact z_xor_r _ _) (fun h50 => ?_) (fun h50 => ?_)
          · refine x_iconst dX4_readEvent_57 ?_
            refine x_istore (lv' := [(0, _), (1, _), (2, _), (3, _), (4, _), (5, _)]) dX4_readEvent_58 rfl rfl ?_
            refine x_aload_n dX4_readEvent_60 0 rfl rfl ?_
            refine x_iload dX4_readEvent_61 5 rfl ?_
            refine x_if_eq (tgt := 71) dX4_readEvent_63 (by decide) (by first | omega | exact z_and_r _ _ | exact z_or_r _ _ | exact z_xor_r _ _) (fun h63 => ?_) (fun h63 => ?_)
            · refine x_aload_n dX4_readEvent_71 1 rfl rfl ?_
              refine x_callVi (as := []) dX4_readEvent_72 lvX4_87 rfl (shH0 hh) rfl rfl rfl rfl rfl ⟨rfl, rfl⟩ (s_X0_roomBits hh) (fun z72 I72 L72 R72 hq72 => ?_)
              obtain ⟨rfl, rfl, rfl, rfl⟩ := hq72
              refine x_callVi (as := [_]) dX4_readEvent_75 lvX4_45 rfl rfl rfl rfl rfl rfl rfl ⟨rfl, rfl⟩ (s_X4_figure (I := m_up I 17 2 ((p : Int) + 1)) (p := p + 1) (((XS.rf I).up (Or.inl rfl) _).xt hX) m_up_eq ((m_up_nj (by decide)).trans hf) (Or.inl rfl) (by omega)) (fun z75 I75 L75 R75 hq75 => ?_)
              obtain ⟨zz75, a75, b75, c75, rfl, rfl⟩ := hq75
              obtain ⟨q75, f75, a75, b75, g75, r75, e75⟩ := fig_o zz75 a75 b75
              rw [ab_r (k := 4) (m := z_shl 1 (m_up I 17 2 ((p : Int) + 1) h 0) - 1) hH (by decide) (by decide) (by rw [m_up_ne (by omega), y1])] at e75
              have x75 := (((XS.rf I).up (Or.inl rfl) _).tr c75 : XS I I75)
              have hX75 := x75.xt hX
              have hK75 := hK.xs hh x75
              obtain ⟨ev1, ev2⟩ := evp_o hk (by decide) e75
              refine x_istore (lv' := [(0, _), (1, _), (2, _), (3, _), (4, _), (5, _), (6, _)]) dX4_readEvent_78 rfl rfl ?_
              refine x_iconst dX4_readEvent_80 ?_
              refine x_istore (lv' := [(0, _), (1, _), (2, _), (3, _), (4, _), (5, _), (6, _), (7, _)]) dX4_readEvent_81 rfl rfl ?_
              refine x_iload_n dX4_readEvent_83 3 rfl rfl ?_
              refine x_iconst dX4_readEvent_84 ?_
              refine x_ic_ne (tgt := 119) dX4_readEvent_85 (by decide) (by first | omega | exact z_and_r _ _ | exact z_or_r _ _ | exact z_xor_r _ _) (fun h85 => ?_) (fun h85 => ?_)
              · exact jn I75 q75 f75 _ z75 0 a75 b75 g75 x75 (by omega) (by omega) (fun q => (ev2 q).2.1 (fun c => absurd c.1 (by decide))) ev1 _ _ (by omega)
              · exfalso; omega
            · exfalso; omega
          · exfalso; omega
      · exfalso; omega
    · rw [hk]
      refine x_aload_n dX4_readEvent_15 0 rfl rfl ?_
      refine x_dup dX4_readEvent_16 rfl ?_
      refine x_getI dX4_readEvent_17 flX4_25 rfl rfl ?_
      rw [hp]
      refine x_iconst dX4_readEvent_20 ?_
      refine x_iadd dX4_readEvent_21 ?_
      refine x_putI dX4_readEvent_22 flX4_25 rfl rfl rfl ?_
      refine x_iload_n dX4_readEvent_25 3 rfl rfl ?_
      refine x_iconst dX4_readEvent_26 ?_
      refine x_ic_ne (tgt := 37) dX4_readEvent_27 (by decide) (by first | omega | exact z_and_r _ _ | exact z_or_r _ _ | exact z_xor_r _ _) (fun h27 => ?_) (fun h27 => ?_)
      · refine x_aload_n dX4_readEvent_37 1 rfl rfl ?_
        refine x_callVi (as := []) dX4_readEvent_38 lvX4_111 rfl (shH0 hh) rfl rfl rfl rfl rfl ⟨rfl, rfl⟩ (s_X0_doorBits hh) (fun z38 I38 L38 R38 hq38 => ?_)
        obtain ⟨rfl, rfl, rfl, rfl⟩ := hq38
        refine x_istore (lv' := [(0, _), (1, _), (2, _), (3, _), (4, _)]) dX4_readEvent_41 rfl rfl ?_
        refine x_iload_n dX4_readEvent_43 3 rfl rfl ?_
        refine x_iconst dX4_readEvent_44 ?_
        refine x_ic_eq (tgt := 53) dX4_readEvent_45 (by decide) (by first | omega | exact z_and_r _ _ | exact z_or_r _ _ | exact z_xor_r _ _) (fun h45 => ?_) (fun h45 => ?_)
        · exfalso; omega
        · refine x_iload_n dX4_readEvent_48 3 rfl rfl ?_
          refine x_iconst dX4_readEvent_49 ?_
          refine x_ic_ne (tgt := 57) dX4_readEvent_50 (by decide) (by first | omega | exact z_and_r _ _ | exact z_or_r _ _ | exact z_xor_r _ _) (fun h50 => ?_) (fun h50 => ?_)
          · exfalso; omega
          · refine x_iconst dX4_readEvent_53 ?_
            refine x_goto (tgt := 58) dX4_readEvent_54 (by decide) ?_
            refine x_istore (lv' := [(0, _), (1, _), (2, _), (3, _), (4, _), (5, _)]) dX4_readEvent_58 rfl rfl ?_
            refine x_aload_n dX4_readEvent_60 0 rfl rfl ?_
            refine x_iload dX4_readEvent_61 5 rfl ?_
            refine x_if_eq (tgt := 71) dX4_readEvent_63 (by decide) (by first | omega | exact z_and_r _ _ | exact z_or_r _ _ | exact z_xor_r _ _) (fun h63 => ?_) (fun h63 => ?_)
            · exfalso; omega
            · refine x_iload dX4_readEvent_66 4 rfl ?_
              refine x_goto (tgt := 75) dX4_readEvent_68 (by decide) ?_
              refine x_callVi (as := [_]) dX4_readEvent_75 lvX4_45 rfl rfl rfl rfl rfl rfl rfl ⟨rfl, rfl⟩ (s_X4_figure (I := m_up I 17 2 ((p : Int) + 1)) (p := p + 1) (((XS.rf I).up (Or.inl rfl) _).xt hX) m_up_eq ((m_up_nj (by decide)).trans hf) (Or.inl rfl) (by omega)) (fun z75 I75 L75 R75 hq75 => ?_)
              obtain ⟨zz75, a75, b75, c75, rfl, rfl⟩ := hq75
              obtain ⟨q75, f75, a75, b75, g75, r75, e75⟩ := fig_o zz75 a75 b75
              rw [ab_5 (m := z_shl 1 (m_up I 17 2 ((p : Int) + 1) h 1) - 1) hH (by rw [m_up_ne (by omega), y2])] at e75
              have x75 := (((XS.rf I).up (Or.inl rfl) _).tr c75 : XS I I75)
              have hX75 := x75.xt hX
              have hK75 := hK.xs hh x75
              obtain ⟨ev1, ev2⟩ := evp_o hk (by decide) e75
              refine x_istore (lv' := [(0, _), (1, _), (2, _), (3, _), (4, _), (5, _), (6, _)]) dX4_readEvent_78 rfl rfl ?_
              refine x_iconst dX4_readEvent_80 ?_
              refine x_istore (lv' := [(0, _), (1, _), (2, _), (3, _), (4, _), (5, _), (6, _), (7, _)]) dX4_readEvent_81 rfl rfl ?_
              refine x_iload_n dX4_readEvent_83 3 rfl rfl ?_
              refine x_iconst dX4_readEvent_84 ?_
              refine x_ic_ne (tgt := 119) dX4_readEvent_85 (by decide) (by first | omega | exact z_and_r _ _ | exact z_or_r _ _ | exact z_xor_r _ _) (fun h85 => ?_) (fun h85 => ?_)
              · exact jn I75 q75 f75 _ z75 0 a75 b75 g75 x75 (by omega) (by omega) (fun q => (ev2 q).2.1 (fun c => absurd c.1 (by decide))) ev1 _ _ (by omega)
              · exfalso; omega
      · exfalso; omega
  · refine x_aload_n dX4_readEvent_9 0 rfl rfl ?_
    refine x_iconst dX4_readEvent_10 ?_
    refine x_putZ dX4_readEvent_11 flX4_28 rfl rfl rfl (by omega) ?_
    refine x_vret dX4_readEvent_14 rfl ?_
    have hk0 : evK B p = 0 := by assumption
    have he : evP B κ p = (false, p, 0, 0, 0, 0) := by unfold evP; rw [if_pos hk0]
    rw [← hQ, he]
    exact ⟨rfl, m_up I 17 3 1, (XS.rf I).up (Or.inr rfl) _, by rw [m_up_nj (by decide)]; exact hp, m_up_eq, rfl, rfl, rfl⟩
end

/-! THE CLASS: Reader, a house's text. -/
theorem tb_low0 : ∀ r : Nat, r < 9 → ∀ k : Nat, k < 32 → tb (z_shl 1 (r : Int) - 1) k = decide (k < r) := by decide
theorem tb_low {R0 : Int} (h : 0 ≤ R0 ∧ R0 ≤ 8) {k : Nat} (hk : k < 32) : tb (z_shl 1 R0 - 1) k = decide ((k : Int) < R0) := by
  have := tb_low0 R0.toNat (by omega) k hk
  rw [show ((R0.toNat : Nat) : Int) = R0 by omega] at this
  rw [this]
  congr 1
  exact propext ⟨fun q => by omega, fun q => by omega⟩
def mkB (m lo hi : Int) : Prop := ∀ v : Nat, v < 10 → tb m v = decide (lo ≤ (v : Int) ∧ (v : Int) ≤ hi)
theorem mkB_low {R0 : Int} (h : 0 ≤ R0 ∧ R0 ≤ 8) : mkB (z_shl 1 R0 - 1) 0 (R0 - 1) := fun v hv => by
  rw [tb_low h (by omega)]
  congr 1
  exact propext ⟨fun q => by omega, fun q => by omega⟩
theorem fgK_q {B : Nat → Int} {m lo hi : Int} {p : Nat} (h : mkB m lo hi) : fgK B m p = fgQ B lo hi p := by
  unfold fgK fgQ dgt
  by_cases hd : 48 ≤ B p ∧ B p ≤ 57
  · rw [h (B p - 48).toNat (by omega), decide_eq_true hd, Bool.true_and]
    congr 1
    exact propext ⟨fun q => by omega, fun q => by omega⟩
  · rw [decide_eq_false hd, Bool.false_and]
    exact (decide_eq_false (by omega)).symm
theorem fgK_x {B : Nat → Int} {m a R0 : Int} {p : Nat} (h : 0 ≤ R0 ∧ R0 ≤ 8) (ha : 0 ≤ a ∧ a < 10) (hm : m = z_and (z_shl 1 R0 - 1) (z_xor (z_shl 1 a) (-1))) : fgK B m p = true ↔ ¬ (B p - 48 = a ∨ fgQ B 0 (R0 - 1) p = false) := by
  unfold fgK fgQ dgt
  by_cases hd : 48 ≤ B p ∧ B p ≤ 57
  · rw [hm, tb_and, tb_xor, tb_low h (by omega), tb_m1 (by omega), tb_sh1 (by omega) (by omega), decide_eq_true hd, Bool.true_and]
    simp only [Bool.and_eq_true, decide_eq_true_eq, decide_eq_false_iff_not, Bool.xor_true, Bool.not_eq_true', not_or, Classical.not_not]
    omega
  · rw [decide_eq_false hd, Bool.false_and]
    simp only [decide_eq_false_iff_not]
    constructor
    · intro q; exact absurd q (by decide)
    · intro q; exact absurd (Or.inr (by omega)) q
theorem exp_o {f sg : Int} {B : Nat → Int} {p : Nat} {J : MI} (h1 : J 17 2 = (if f = 0 ∧ B p = sg then (p : Int) + 1 else p)) (h2 : J 17 3 = (if f = 0 ∧ B p = sg then 0 else 1)) : ∃ (q : Nat) (g : Int), J 17 2 = (q : Int) ∧ J 17 3 = g ∧ (g = 0 ∨ g = 1) ∧ (p ≤ q ∧ q ≤ p + 1) ∧ ((f = 0 ∧ B p = sg) ∧ g = 0 ∧ q = p + 1 ∨ ¬ (f = 0 ∧ B p = sg) ∧ g = 1 ∧ q = p) := by
  by_cases hc : f = 0 ∧ B p = sg
  · rw [if_pos hc] at h1 h2
    exact ⟨p + 1, 0, h1, h2, Or.inl rfl, by omega, Or.inl ⟨hc, rfl, rfl⟩⟩
  · rw [if_neg hc] at h1 h2
    exact ⟨p, 1, h1, h2, Or.inr rfl, by omega, Or.inr ⟨hc, rfl, rfl⟩⟩
theorem fig_o {f z : Int} {B : Nat → Int} {p : Nat} {K : Bool} {J : MI} (h0 : z = if f = 0 ∧ K = true then B p - 48 else 0) (h1 : J 17 2 = (if f = 0 ∧ K = true then (p : Int) + 1 else p)) (h2 : J 17 3 = (if f = 0 ∧ K = true then 0 else 1)) : ∃ (q : Nat) (g : Int), J 17 2 = (q : Int) ∧ J 17 3 = g ∧ (g = 0 ∨ g = 1) ∧ (p ≤ q ∧ q ≤ p + 1) ∧ ((f = 0 ∧ K = true) ∧ z = B p - 48 ∧ g = 0 ∧ q = p + 1 ∨ ¬ (f = 0 ∧ K = true) ∧ z = 0 ∧ g = 1 ∧ q = p) := by
  by_cases hc : f = 0 ∧ K = true
  · rw [if_pos hc] at h0 h1 h2
    exact ⟨p + 1, 0, h1, h2, Or.inl rfl, by omega, Or.inl ⟨hc, h0, rfl, rfl⟩⟩
  · rw [if_neg hc] at h0 h1 h2
    exact ⟨p, 1, h1, h2, Or.inr rfl, by omega, Or.inr ⟨hc, h0, rfl, rfl⟩⟩
/-- doors, walkers, last -/
abbrev HT : Type := List (Int × Int × Int) × List (Int × Int) × Int
def XHo (h : Nat) (I J : MI) : Prop := ∀ c j, ¬ (c = 17 ∧ (j = 2 ∨ j = 3)) → ¬ (h ≤ c ∧ c ≤ h + 4) → J c j = I c j
theorem XHo.rf (h : Nat) (I : MI) : XHo h I I := fun _ _ _ _ => rfl
theorem XHo.tr {h : Nat} {I J K : MI} (a : XHo h I J) (k : XHo h J K) : XHo h I K := fun c j q q2 => (k c j q q2).trans (a c j q q2)
theorem XS.ho {I J : MI} (a : XS I J) (h : Nat) : XHo h I J := fun c j q _ => a c j q
theorem XHo.xt {h : Nat} {I J : MI} {R : MR} {tx n : Nat} {B : Nat → Int} (a : XHo h I J) (hh : isH R h) (k : XT tx B n I R) : XT tx B n J R := by
  obtain ⟨k1, k2, k3, k4, k5, k6, k7⟩ := k
  have := hh.1
  exact ⟨k1, k2, by rw [a 17 1 (by omega) (by omega)]; exact k3, k4, fun i hi => by rw [a tx _ (by omega) (by omega)]; exact k5 i hi, k6, k7⟩
def HX (h : Nat) (R0 : Int) (τ : HT) (J : MI) : Prop := J h 0 = R0 ∧ J h 1 = (τ.1.length : Int) ∧ J h 2 = (τ.2.1.length : Int) ∧ J h 3 = τ.2.2 ∧ (∀ (i : Nat) q, τ.1[i]? = some q → J (h + 1) (i : Int) = q.1 ∧ J (h + 2) (i : Int) = q.2.1) ∧
  (rI (J h 4) ∧ ∀ i : Nat, i < 32 → (tb (J h 4) i = true ↔ ∃ q, τ.1[i]? = some q ∧ q.2.2 = 1)) ∧ (∀ (i : Nat) q, τ.2.1[i]? = some q → J (h + 3) (i : Int) = q.1 ∧ J (h + 4) (i : Int) = q.2) ∧ τ.1.length ≤ 8 ∧ τ.2.1.length ≤ 3
theorem HX.xs {h : Nat} {R0 : Int} {τ : HT} {I J : MI} {R : MR} (hh : isH R h) (k : HX h R0 τ I) (a : XS I J) : HX h R0 τ J := by
  obtain ⟨k1, k2, k3, k4, k5, k6, k7, k8, k9⟩ := k
  have := hh.1
  have e : ∀ c j, h ≤ c → J c j = I c j := fun c j q => a c j (by omega)
  exact ⟨by rw [e _ _ (by omega)]; exact k1, by rw [e _ _ (by omega)]; exact k2, by rw [e _ _ (by omega)]; exact k3, by rw [e _ _ (by omega)]; exact k4, fun i q hq => by rw [e _ _ (by omega), e _ _ (by omega)]; exact k5 i q hq, by rw [e _ _ (by omega)]; exact k6, fun i q hq => by rw [e _ _ (by omega), e _ _ (by omega)]; exact k7 i q hq, k8, k9⟩
theorem HX.door {h : Nat} {R0 : Int} {τ : HT} {I J : MI} {a b bo : Int} (k : HX h R0 τ I) (hn : τ.1.length < 8) (k1 : J h 1 = I h 1 + 1) (k2 : J (h + 1) (I h 1) = a) (k3 : J (h + 2) (I h 1) = b) (k4 : J h 4 = if bo = 0 then I h 4 else z_or (I h 4) (z_shl 1 (I h 1)))
  (k5 : ∀ c j, ¬ (c = h ∧ (j = 1 ∨ j = 4)) → ¬ (c = h + 1 ∧ j = I h 1) → ¬ (c = h + 2 ∧ j = I h 1) → J c j = I c j) (hbo : bo = 0 ∨ bo = 1) : HX h R0 (τ.1 ++ [(a, b, bo)], τ.2) J := by
  obtain ⟨x1, x2, x3, x4, x5, x6, x7, x8, x9⟩ := k
  rw [x2] at k1 k2 k3 k4 k5
  have hg : ∀ (i : Nat) q, (τ.1 ++ [(a, b, bo)])[i]? = some q → (i < τ.1.length ∧ τ.1[i]? = some q) ∨ (i = τ.1.length ∧ q = (a, b, bo)) := by
    intro i q hq
    rcases Nat.lt_or_ge i τ.1.length with c | c
    · rw [List.getElem?_append_left c] at hq; exact Or.inl ⟨c, hq⟩
    · rw [List.getElem?_append_right c] at hq
      have h0 : i - τ.1.length = 0 := by
        apply Classical.byContradiction
        intro c2
        rw [List.getElem?_eq_none (by simp; omega)] at hq
        exact absurd hq (by simp)
      rw [h0] at hq
      have h1 : (a, b, bo) = q := Option.some.inj hq
      exact Or.inr ⟨by omega, h1.symm⟩
  have hs : (τ.1 ++ [(a, b, bo)])[τ.1.length]? = some (a, b, bo) := by rw [List.getElem?_append_right (Nat.le_refl _), Nat.sub_self]; rfl
  refine ⟨by rw [k5 h 0 (by omega) (by omega) (by omega)]; exact x1, by rw [k1, List.length_append]; rfl, by rw [k5 h 2 (by omega) (by omega) (by omega)]; exact x3, by rw [k5 h 3 (by omega) (by omega) (by omega)]; exact x4, fun i q hq => ?_, ⟨by rw [k4]; split; exact x6.1; exact z_or_r _ _, fun i hi => ?_⟩, fun i q hq => by rw [k5 _ _ (by omega) (by omega) (by omega), k5 _ _ (by omega) (by omega) (by omega)]; exact x7 i q hq, by rw [List.length_append]; exact hn, x9⟩
  · rcases hg i q hq with ⟨c, d⟩ | ⟨rfl, rfl⟩
    · rw [k5 _ _ (by omega) (by omega) (by omega), k5 _ _ (by omega) (by omega) (by omega)]; exact x5 i q d
    · exact ⟨k2, k3⟩
  · have hex : (∃ q, (τ.1 ++ [(a, b, bo)])[i]? = some q ∧ q.2.2 = 1) ↔ (∃ q, τ.1[i]? = some q ∧ q.2.2 = 1) ∨ (i = τ.1.length ∧ bo = 1) := by
      constructor
      · rintro ⟨q, hq, h1⟩
        rcases hg i q hq with ⟨_, d⟩ | ⟨c, rfl⟩
        · exact Or.inl ⟨q, d, h1⟩
        · exact Or.inr ⟨c, h1⟩
      · rintro (⟨q, hq, h1⟩ | ⟨rfl, h1⟩)
        · refine ⟨q, ?_, h1⟩
          rw [List.getElem?_append_left]
          · exact hq
          · apply Classical.byContradiction
            intro c
            rw [List.getElem?_eq_none (by omega)] at hq
            exact absurd hq (by simp)
        · exact ⟨_, hs, h1⟩
    rw [hex, k4, ← x6.2 i hi]
    rcases hbo with rfl | rfl
    · rw [if_pos rfl]
      exact ⟨fun q => Or.inl q, fun q => by rcases q with q | q; exact q; exact absurd q.2 (by decide)⟩
    · rw [if_neg (by decide), tb_or, tb_sh1 (by omega) (by omega), Bool.or_eq_true, decide_eq_true_eq, Int.toNat_natCast]
      exact ⟨fun q => by rcases q with q | q; exact Or.inl q; exact Or.inr ⟨q, rfl⟩, fun q => by rcases q with q | q; exact Or.inl q; exact Or.inr q.1⟩
theorem HX.walk {h : Nat} {R0 : Int} {τ : HT} {I J : MI} {a b : Int} (k : HX h R0 τ I) (hn : τ.2.1.length < 3) (k1 : J h 2 = I h 2 + 1) (k2 : J (h + 3) (I h 2) = a) (k3 : J (h + 4) (I h 2) = b)
  (k5 : ∀ c j, ¬ (c = h ∧ j = 2) → ¬ (c = h + 3 ∧ j = I h 2) → ¬ (c = h + 4 ∧ j = I h 2) → J c j = I c j) : HX h R0 (τ.1, τ.2.1 ++ [(a, b)], τ.2.2) J := by
  obtain ⟨x1, x2, x3, x4, x5, x6, x7, x8, x9⟩ := k
  rw [x3] at k1 k2 k3 k5
  have hg : ∀ (i : Nat) q, (τ.2.1 ++ [(a, b)])[i]? = some q → (i < τ.2.1.length ∧ τ.2.1[i]? = some q) ∨ (i = τ.2.1.length ∧ q = (a, b)) := by
    intro i q hq
    rcases Nat.lt_or_ge i τ.2.1.length with c | c
    · rw [List.getElem?_append_left c] at hq; exact Or.inl ⟨c, hq⟩
    · rw [List.getElem?_append_right c] at hq
      have h0 : i - τ.2.1.length = 0 := by
        apply Classical.byContradiction
        intro c2
        rw [List.getElem?_eq_none (by simp; omega)] at hq
        exact absurd hq (by simp)
      rw [h0] at hq
      have h1 : (a, b) = q := Option.some.inj hq
      exact Or.inr ⟨by omega, h1.symm⟩
  refine ⟨by rw [k5 h 0 (by omega) (by omega) (by omega)]; exact x1, by rw [k5 h 1 (by omega) (by omega) (by omega)]; exact x2, by rw [k1, List.length_append]; rfl, by rw [k5 h 3 (by omega) (by omega) (by omega)]; exact x4, fun i q hq => by rw [k5 _ _ (by omega) (by omega) (by omega), k5 _ _ (by omega) (by omega) (by omega)]; exact x5 i q hq, by rw [k5 _ _ (by omega) (by omega) (by omega)]; exact x6, fun i q hq => ?_, x8, by rw [List.length_append]; exact hn⟩
  rcases hg i q hq with ⟨c, d⟩ | ⟨rfl, rfl⟩
  · rw [k5 _ _ (by omega) (by omega) (by omega), k5 _ _ (by omega) (by omega) (by omega)]; exact x7 i q d
  · exact ⟨k2, k3⟩
theorem dor_o {B : Nat → Int} {R0 z22 z43 f22 f29 f43 : Int} {nd p q22 q29 q43 : Nat} {K : Bool} (hn : nd < 8) (hR : 1 ≤ R0 ∧ R0 ≤ 6)
  (e22 : ((0 : Int) = 0 ∧ fgQ B 0 (R0 - 1) (p + 1) = true) ∧ z22 = B (p + 1) - 48 ∧ f22 = 0 ∧ q22 = p + 1 + 1 ∨ ¬ ((0 : Int) = 0 ∧ fgQ B 0 (R0 - 1) (p + 1) = true) ∧ z22 = 0 ∧ f22 = 1 ∧ q22 = p + 1)
  (e29 : (f22 = 0 ∧ B q22 = 45) ∧ f29 = 0 ∧ q29 = q22 + 1 ∨ ¬ (f22 = 0 ∧ B q22 = 45) ∧ f29 = 1 ∧ q29 = q22)
  (e43 : (f29 = 0 ∧ K = true) ∧ z43 = B q29 - 48 ∧ f43 = 0 ∧ q43 = q29 + 1 ∨ ¬ (f29 = 0 ∧ K = true) ∧ z43 = 0 ∧ f43 = 1 ∧ q43 = q29)
  (hK : 0 ≤ z22 ∧ z22 < 10 → (K = true ↔ ¬ (B q29 - 48 = z22 ∨ fgQ B 0 (R0 - 1) q29 = false))) :
  (f43 = 0 → dorP B R0 nd p = (true, q43, min z22 z43, max z22 z43) ∧ (0 ≤ z22 ∧ z22 < 10) ∧ (0 ≤ z43 ∧ z43 < 10)) ∧ (f43 = 1 → (dorP B R0 nd p).1 = false ∧ (dorP B R0 nd p).2.1 = q43) := by
  unfold dorP
  rw [if_neg (by omega)]
  rcases e22 with ⟨⟨_, a1⟩, a2, a3, a4⟩ | ⟨a1, a2, a3, a4⟩
  · have hr := fgQ_r a1
    rw [if_neg (by rw [a1]; decide)]
    subst a4
    rcases e29 with ⟨⟨_, b1⟩, b2, b3⟩ | ⟨b1, b2, b3⟩
    · have b1' : B (p + 2) = 45 := b1
      rw [if_neg (by omega)]
      subst b3
      have hK2 := hK (by omega)
      have b4 : B (p + 1 + 1 + 1) = B (p + 3) := rfl
      have b5 : fgQ B 0 (R0 - 1) (p + 1 + 1 + 1) = fgQ B 0 (R0 - 1) (p + 3) := rfl
      rw [b4, b5] at hK2
      rw [b4] at e43
      rcases e43 with ⟨⟨_, c1⟩, c2, c3, c4⟩ | ⟨c1, c2, c3, c4⟩
      · have hk := hK2.mp c1
        have hfq : fgQ B 0 (R0 - 1) (p + 3) = true := by
          cases hq : fgQ B 0 (R0 - 1) (p + 3)
          · exact absurd (Or.inr hq) hk
          · rfl
        have hr3 := fgQ_r hfq
        rw [if_neg (fun q => hk (by rcases q with q | q; exact Or.inl (by omega); exact Or.inr q))]
        refine ⟨fun _ => ⟨?_, by omega, by omega⟩, fun q => by omega⟩
        subst c4
        rw [a2, c2]
        congr 2
        congr 1
        · split <;> omega
        · split <;> omega
      · have hk : B (p + 3) = B (p + 1) ∨ fgQ B 0 (R0 - 1) (p + 3) = false := by
          apply Classical.byContradiction
          intro q
          exact c1 ⟨by omega, hK2.mpr (fun q2 => q (by rcases q2 with q2 | q2; exact Or.inl (by omega); exact Or.inr q2))⟩
        rw [if_pos hk]
        exact ⟨fun q => by omega, fun _ => ⟨rfl, by show p + 3 = q43; omega⟩⟩
    · have b1' : B (p + 2) ≠ 45 := fun q => b1 ⟨a3, q⟩
      rw [if_pos b1']
      exact ⟨fun q => by omega, fun _ => ⟨rfl, by show p + 2 = q43; omega⟩⟩
  · have ha : fgQ B 0 (R0 - 1) (p + 1) = false := by
      cases hq : fgQ B 0 (R0 - 1) (p + 1)
      · rfl
      · exact absurd ⟨rfl, hq⟩ a1
    rw [if_pos ha]
    exact ⟨fun q => by omega, fun _ => ⟨rfl, by show p + 1 = q43; omega⟩⟩
section
variable {G : GT} {I L : MI} {R : MR} {tx n p h : Nat} {B : Nat → Int} {f R0 : Int} {τ : HT}

set_option maxHeartbeats 1500000 in
theorem s_X4_readDoor  (hX : XT tx B n I R) (hh : isH R h) (hH : HX h R0 τ I) (hR0 : 1 ≤ R0 ∧ R0 ≤ 6) (hp : I 17 2 = (p : Int)) (hf : I 17 3 = 0) (hp2 : p ≤ 900) (hn : τ.1.length < 8) : Sp G mtX4_readDoor [mr 17, mr h] shX I L R (qv (fun I' L' R' => I' 17 2 = ((dorP B R0 τ.1.length p).2.1 : Int) ∧ I' 17 3 = (if (dorP B R0 τ.1.length p).1 then 0 else 1) ∧ XHo h I I' ∧ HX h R0 ((if (dorP B R0 τ.1.length p).1 then τ.1 ++ [((dorP B R0 τ.1.length p).2.2.1, (dorP B R0 τ.1.length p).2.2.2, if B p = 68 then 1 else 0)] else τ.1), τ.2) I' ∧ L = L' ∧ R = R')) := by
  refine Sp.of pnX4_readDoor rfl ?_
  show Rn G mtX4_readDoor _ 0 [(0, mr 17), (1, mr h)] [] shX I L R
  generalize hQ : (qv (fun I' L' R' => I' 17 2 = ((dorP B R0 τ.1.length p).2.1 : Int) ∧ I' 17 3 = (if (dorP B R0 τ.1.length p).1 then 0 else 1) ∧ XHo h I I' ∧ HX h R0 ((if (dorP B R0 τ.1.length p).1 then τ.1 ++ [((dorP B R0 τ.1.length p).2.2.1, (dorP B R0 τ.1.length p).2.2.2, if B p = 68 then 1 else 0)] else τ.1), τ.2) I' ∧ L = L' ∧ R = R')) = Q
  obtain ⟨x1, x2, x3, x4, x5, x6, x7⟩ := id hX
  have hb := x7 p
  have hz : n ≤ p → B p = 0 := x6 p
  have hin : (p : Int) < I 17 1 → I tx (I 17 2) = B p := fun q => by rw [hp]; exact x5 p (by omega)
  have hh1 := hh.1
  have hf2 : (0 : Int) = 0 ∨ (0 : Int) = 1 := Or.inl rfl
  refine x_aload_n dX4_readDoor_0 0 rfl rfl ?_
  refine x_bipush dX4_readDoor_1 (by decide) ?_
  refine x_callVi (as := [_]) dX4_readDoor_3 lvX4_65 rfl rfl rfl rfl rfl rfl rfl ⟨rfl, rfl⟩ (s_X4_ahead hX hp hf hf2 (by omega) (by omega)) (fun z3 I3 L3 R3 hq3 => ?_)
  obtain ⟨rfl, rfl, rfl, rfl⟩ := hq3
  refine x_istore_n (lv' := [(0, _), (1, _), (2, _)]) dX4_readDoor_6 rfl rfl rfl ?_
  refine x_aload_n dX4_readDoor_7 0 rfl rfl ?_
  refine x_dup dX4_readDoor_8 rfl ?_
  refine x_getI dX4_readDoor_9 flX4_25 rfl rfl ?_
  refine x_iconst dX4_readDoor_12 ?_
  refine x_iadd dX4_readDoor_13 ?_
  rw [hp]
  refine x_putI dX4_readDoor_14 flX4_25 rfl rfl rfl ?_
  refine x_aload_n dX4_readDoor_17 0 rfl rfl ?_
  refine x_aload_n dX4_readDoor_18 1 rfl rfl ?_
  refine x_callVi (as := []) dX4_readDoor_19 lvX4_87 rfl (shH0 hh) rfl rfl rfl rfl rfl ⟨rfl, rfl⟩ (s_X0_roomBits hh) (fun z19 I19 L19 R19 hq19 => ?_)
  obtain ⟨rfl, rfl, rfl, rfl⟩ := hq19
  rw [m_up_ne (by omega), hH.1]
  refine x_callVi (as := [_]) dX4_readDoor_22 lvX4_45 rfl rfl rfl rfl rfl rfl rfl ⟨rfl, rfl⟩ (s_X4_figure (I := m_up I 17 2 ((p : Int) + 1)) (p := p + 1) (((XS.rf I).up (Or.inl rfl) _).xt hX) m_up_eq ((m_up_nj (by decide)).trans hf) (Or.inl rfl) (by omega)) (fun z22 I22 L22 R22 hq22 => ?_)
  obtain ⟨zz22, a22, b22, c22, rfl, rfl⟩ := hq22
  obtain ⟨q22, f22, a22, b22, g22, r22, e22⟩ := fig_o zz22 a22 b22
  refine x_istore_n (lv' := [(0, _), (1, _), (2, _), (3, _)]) dX4_readDoor_25 rfl rfl rfl ?_
  rw [fgK_q (mkB_low (by omega))] at e22
  have x26 := (((XS.rf I).up (Or.inl rfl) _).tr c22 : XS I I22)
  have hX26 := x26.xt hX
  refine x_aload_n dX4_readDoor_26 0 rfl rfl ?_
  refine x_bipush dX4_readDoor_27 (by decide) ?_
  refine x_callVv (as := [_]) dX4_readDoor_29 lvX4_41 rfl rfl rfl rfl rfl rfl rfl ⟨rfl, rfl⟩ (s_X4_expect hX26 a22 b22 g22 (by omega) (by omega)) (fun I29 L29 R29 hq29 => ?_)
  obtain ⟨a29, b29, c29, rfl, rfl⟩ := hq29
  obtain ⟨q29, f29, a29, b29, g29, r29, e29⟩ := exp_o a29 b29
  refine x_aload_n dX4_readDoor_32 0 rfl rfl ?_
  have x33 := x26.tr c29
  have hX33 := x33.xt hX
  refine x_aload_n dX4_readDoor_33 1 rfl rfl ?_
  refine x_callVi (as := []) dX4_readDoor_34 lvX4_87 rfl (shH0 hh) rfl rfl rfl rfl rfl ⟨rfl, rfl⟩ (s_X0_roomBits hh) (fun z34 I34 L34 R34 hq34 => ?_)
  obtain ⟨rfl, rfl, rfl, rfl⟩ := hq34
  rw [(hH.xs hh x33).1]
  refine x_iconst dX4_readDoor_37 ?_
  refine x_iload_n dX4_readDoor_38 3 rfl rfl ?_
  refine x_ishl dX4_readDoor_39 ?_
  refine x_iconst dX4_readDoor_40 ?_
  refine x_ixor dX4_readDoor_41 ?_
  refine x_iand dX4_readDoor_42 ?_
  refine x_callVi (as := [_]) dX4_readDoor_43 lvX4_45 rfl rfl rfl rfl rfl rfl rfl ⟨rfl, rfl⟩ (s_X4_figure hX33 a29 b29 g29 (by omega)) (fun z43 I43 L43 R43 hq43 => ?_)
  obtain ⟨zz43, a43, b43, c43, rfl, rfl⟩ := hq43
  obtain ⟨q43, f43, a43, b43, g43, r43, e43⟩ := fig_o zz43 a43 b43
  refine x_istore (lv' := [(0, _), (1, _), (2, _), (3, _), (4, _)]) dX4_readDoor_46 rfl rfl ?_
  have x48 := x33.tr c43
  have hH48 := hH.xs hh x48
  obtain ⟨do1, do2⟩ := dor_o hn hR0 e22 e29 e43 (fun q => fgK_x (by omega) q rfl)
  have hdv : f43 = 0 → _ := fun q => (do1 q).2
  refine x_aload_n dX4_readDoor_48 0 rfl rfl ?_
  refine x_getI dX4_readDoor_49 flX4_28 rfl rfl ?_
  rw [b43]
  refine x_if_ne (tgt := 63) dX4_readDoor_52 (by decide) (by first | omega | exact z_and_r _ _ | exact z_or_r _ _ | exact z_xor_r _ _) (fun h52 => ?_) (fun h52 => ?_)
  · refine x_vret dX4_readDoor_63 rfl ?_
    rw [← hQ]
    first
    | (have hf43 : ¬ f43 = 0 := by assumption
       obtain ⟨d1, d2⟩ := do2 (by omega)
       rw [if_neg (by rw [d1]; decide), if_neg (by rw [d1]; decide), d2]
       exact ⟨rfl, a43, by omega, x48.ho h, hH48, rfl, rfl⟩)
    | (obtain ⟨k1, k2, k3, k4, k5, rfl, rfl⟩ := hq60
       rw [do3]
       have e1 : I43 h 1 = (τ.1.length : Int) := hH48.2.1
       refine ⟨rfl, ?_, ?_, ?_, ?_, rfl, rfl⟩
       · rw [k5 17 2 (by omega) (by omega) (by omega)]; exact a43
       · rw [k5 17 3 (by omega) (by omega) (by omega), b43]; exact (show f43 = 0 by assumption)
       · exact (x48.ho h).tr (fun c j q1 q2 => k5 c j (by omega) (by omega) (by omega))
       · have hb : b01 ((0 : Int) = 0 ∧ B p = 68) = if B p = 68 then 1 else 0 := by
           unfold b01
           by_cases hc : B p = 68
           · rw [if_pos hc, if_pos ⟨rfl, hc⟩]
           · rw [if_neg hc, if_neg (fun q => hc q.2)]
         rw [← hb]
         have hbr := b01_r ((0 : Int) = 0 ∧ B p = 68)
         rw [if_pos rfl]
         exact hH48.door hn k1 k2 k3 k4 k5 (by omega))
  · obtain ⟨do3, do4, do5⟩ := do1 (by assumption)
    refine x_aload_n dX4_readDoor_55 1 rfl rfl ?_
    refine x_iload_n dX4_readDoor_56 3 rfl rfl ?_
    refine x_iload dX4_readDoor_57 4 rfl ?_
    refine x_iload_n dX4_readDoor_59 2 rfl rfl ?_
    refine x_callVv (as := [_, _, _]) dX4_readDoor_60 lvX4_91 rfl (shH0 hh) rfl rfl rfl rfl rfl ⟨rfl, rfl⟩ (s_X0_addDoor hh (by have := hH48.2.1; omega) (by omega) (by omega) (by have := b01_r ((0 : Int) = 0 ∧ B p = 68); omega)) (fun I60 L60 R60 hq60 => ?_)
    skip
    refine x_vret dX4_readDoor_63 rfl ?_
    rw [← hQ]
    first
    | (have hf43 : ¬ f43 = 0 := by assumption
       obtain ⟨d1, d2⟩ := do2 (by omega)
       rw [if_neg (by rw [d1]; decide), if_neg (by rw [d1]; decide), d2]
       exact ⟨rfl, a43, by omega, x48.ho h, hH48, rfl, rfl⟩)
    | (obtain ⟨k1, k2, k3, k4, k5, rfl, rfl⟩ := hq60
       rw [do3]
       have e1 : I43 h 1 = (τ.1.length : Int) := hH48.2.1
       refine ⟨rfl, ?_, ?_, ?_, ?_, rfl, rfl⟩
       · rw [k5 17 2 (by omega) (by omega) (by omega)]; exact a43
       · rw [k5 17 3 (by omega) (by omega) (by omega), b43]; exact (show f43 = 0 by assumption)
       · exact (x48.ho h).tr (fun c j q1 q2 => k5 c j (by omega) (by omega) (by omega))
       · have hb : b01 ((0 : Int) = 0 ∧ B p = 68) = if B p = 68 then 1 else 0 := by
           unfold b01
           by_cases hc : B p = 68
           · rw [if_pos hc, if_pos ⟨rfl, hc⟩]
           · rw [if_neg hc, if_neg (fun q => hc q.2)]
         rw [← hb]
         have hbr := b01_r ((0 : Int) = 0 ∧ B p = 68)
         rw [if_pos rfl]
         exact hH48.door hn k1 k2 k3 k4 k5 (by omega))
theorem rising_m {m d R0 : Int} (hR : 0 ≤ R0 ∧ R0 ≤ 6) (hd : 0 ≤ d ∧ d < 10) {lo : Int} (hm : mkB m lo (R0 - 1)) (hl : lo ≤ d) : mkB (z_and m (z_xor (z_shl 2 d - 1) (-1))) (d + 1) (R0 - 1) := fun v hv => by
  have e : ∀ d : Nat, d < 10 → ∀ k : Nat, k < 10 → tb (z_shl 2 (d : Int) - 1) k = decide (k < d + 1) := by decide
  have e2 := e d.toNat (by omega) v hv
  rw [show ((d.toNat : Nat) : Int) = d by omega] at e2
  rw [tb_and, hm v hv, tb_xor, tb_m1 (by omega), e2, Bool.xor_true]
  apply Bool.eq_iff_iff.mpr
  simp only [Bool.and_eq_true, decide_eq_true_eq, Bool.not_eq_true', decide_eq_false_iff_not]
  omega
theorem or_pos {s d : Int} (hs : rI s ∧ 0 ≤ s) (hd : 0 ≤ d ∧ d < 31) : 0 < z_or s (z_shl 1 d) := by
  have h1 : 0 ≤ z_or s (z_shl 1 d) := by
    rw [tb_nn (z_or_r _ _), tb_or, (tb_nn hs.1).mp hs.2, tb_sh1 (by omega) (by omega)]
    simp
    omega
  have h2 : z_or s (z_shl 1 d) ≠ 0 := fun q => by
    have : tb (z_or s (z_shl 1 d)) d.toNat = true := by rw [tb_or, tb_sh1 (by omega) (by omega)]; simp
    rw [q, tb_0] at this
    exact absurd this (by decide)
  omega
set_option maxHeartbeats 1500000 in
theorem s_X4_readRising {m : Int} (hX : XT tx B n I R) (hR0 : 1 ≤ R0 ∧ R0 ≤ 6) (hp : I 17 2 = (p : Int)) (hf : I 17 3 = 0) (hp2 : p ≤ 920) (hm : mkB m 0 (R0 - 1)) : Sp G mtX4_readRising [mr 17, mi m] shX I L R (qi (fun z I' L' R' => ∃ (q : Nat) (g : Int), I' 17 2 = (q : Int) ∧ I' 17 3 = g ∧ (g = 0 ∨ g = 1) ∧ q ≤ p + 7 ∧ q = (risP B R0 8 p 0 0).2.1 ∧ (g = 0 ↔ (risP B R0 8 p 0 0).1 = true ∧ 0 < (risP B R0 8 p 0 0).2.2) ∧ (g = 0 → z = (risP B R0 8 p 0 0).2.2) ∧ XS I I' ∧ L = L' ∧ R = R')) := by
  refine Sp.of pnX4_readRising rfl ?_
  show Rn G mtX4_readRising _ 0 [(0, mr 17), (1, mi m)] [] shX I L R
  generalize hQ : (qi (fun z I' L' R' => ∃ (q : Nat) (g : Int), I' 17 2 = (q : Int) ∧ I' 17 3 = g ∧ (g = 0 ∨ g = 1) ∧ q ≤ p + 7 ∧ q = (risP B R0 8 p 0 0).2.1 ∧ (g = 0 ↔ (risP B R0 8 p 0 0).1 = true ∧ 0 < (risP B R0 8 p 0 0).2.2) ∧ (g = 0 → z = (risP B R0 8 p 0 0).2.2) ∧ XS I I' ∧ L = L' ∧ R = R')) = Q
  obtain ⟨x1, x2, x3, x4, x5, x6, x7⟩ := id hX
  have hb := x7 p
  have hz : n ≤ p → B p = 0 := x6 p
  have hin : (p : Int) < I 17 1 → I tx (I 17 2) = B p := fun q => by rw [hp]; exact x5 p (by omega)
  have hf2 : (0 : Int) = 0 ∨ (0 : Int) = 1 := Or.inl rfl
  obtain ⟨rr, hrr⟩ : ∃ rr, rr = risP B R0 8 p 0 0 := ⟨_, rfl⟩
  have ex : ∀ (J : MI) (q : Nat) (g s : Int), J 17 2 = (q : Int) → J 17 3 = g → (g = 0 ∨ g = 1) → q ≤ p + 7 → q = rr.2.1 → (g = 0 ↔ rr.1 = true ∧ 0 < rr.2.2) → (g = 0 → s = rr.2.2) → XS I J → ∀ m8 i8 : Int, Rn G mtX4_readRising Q 57 [(0, mr 17), (1, mi m), (2, mi s), (3, mi m8), (4, mi i8)] [] shX J L R := by
    intro J q g s g1 g2 g3 g4 g5 g6 g7 g8 m8 i8
    refine x_iload_n dX4_readRising_57 2 rfl rfl ?_
    refine x_iret dX4_readRising_58 rfl ?_
    rw [← hQ, ← hrr]
    exact ⟨_, rfl, q, g, g1, g2, g3, g4, g5, g6, g7, g8, rfl, rfl⟩
  have dead : ∀ (J : MI) (q : Nat) (s : Int), J 17 2 = (q : Int) → J 17 3 = 1 → q ≤ p + 7 → q = rr.2.1 → ¬ (rr.1 = true ∧ 0 < rr.2.2) → XS I J → ∀ m8 i8 : Int, 1 ≤ i8 ∧ i8 ≤ 100 → Rn G mtX4_readRising Q 7 [(0, mr 17), (1, mi m), (2, mi s), (3, mi m8), (4, mi i8)] [] shX J L R := by
    intro J q s g1 g2 g3 g4 g5 g6 m8 i8 hi8
    have hX1 : XT tx B n J R := g6.xt hX
    have e := ex J q 1 s g1 g2 (Or.inr rfl) g3 g4 ⟨fun q => absurd q (by decide), fun q => absurd q g5⟩ (fun q => absurd q (by decide)) g6
    refine x_iload dX4_readRising_7 4 rfl ?_
    refine x_bipush dX4_readRising_9 (by decide) ?_
    refine x_ic_gt (tgt := 57) dX4_readRising_11 (by decide) (by first | omega | exact z_and_r _ _ | exact z_or_r _ _ | exact z_xor_r _ _) (fun h11 => ?_) (fun h11 => ?_)
    · exact e _ _
    · refine x_iload dX4_readRising_14 4 rfl ?_
      refine x_if_eq (tgt := 26) dX4_readRising_16 (by decide) (by first | omega | exact z_and_r _ _ | exact z_or_r _ _ | exact z_xor_r _ _) (fun h16 => ?_) (fun h16 => ?_)
      · first
        | (exfalso; omega)
        | (exfalso
           have := (show (1 : Int) = 0 ∧ dgt B q = true by assumption).1
           omega)
      · refine x_aload_n dX4_readRising_19 0 rfl rfl ?_
        refine x_callVi (as := []) dX4_readRising_20 lvX4_102 rfl rfl rfl rfl rfl rfl rfl ⟨rfl, rfl⟩ (s_X4_figureAhead (p := q) (f := 1) hX1 g1 g2 (Or.inr rfl) (by omega)) (fun z20 I20 L20 R20 hq20 => ?_)
        obtain ⟨rfl, rfl, rfl, rfl⟩ := hq20
        refine y_ifb_eq (tgt := 57) dX4_readRising_23 (by decide) (fun h23 => ?_) (fun h23 => ?_)
        · exact e _ _
        · first
          | (exfalso; omega)
          | (exfalso
             have := (show (1 : Int) = 0 ∧ dgt B q = true by assumption).1
             omega)
  have loop : ∀ i : Nat, i ≤ 7 → ∀ (J : MI) (s lo m8 : Int), J 17 2 = ((p + i : Nat) : Int) → J 17 3 = 0 → XS I J → mkB m8 lo (R0 - 1) → ((i : Int) ≤ lo ∧ lo ≤ R0 ∧ (rI s ∧ 0 ≤ s) ∧ (i = 0 ∧ s = 0 ∨ 0 < i ∧ 0 < s)) → risP B R0 (8 - i) (p + i) s lo = rr → Rn G mtX4_readRising Q 7 [(0, mr 17), (1, mi m), (2, mi s), (3, mi m8), (4, mi (i : Int))] [] shX J L R := by
    refine lpn 7 (fun i hi ih => ?_) ?_
    · intro J s lo m8 g1 g2 g3 g4 g5 g6
      have hX3 : XT tx B n J R := g3.xt hX
      rw [show 8 - i = (8 - (i + 1)) + 1 by omega] at g6
      unfold risP at g6
      refine x_iload dX4_readRising_7 4 rfl ?_
      refine x_bipush dX4_readRising_9 (by decide) ?_
      refine x_ic_gt (tgt := 57) dX4_readRising_11 (by decide) (by first | omega | exact z_and_r _ _ | exact z_or_r _ _ | exact z_xor_r _ _) (fun h11 => ?_) (fun h11 => ?_)
      · first
        | (exfalso; omega)
        | (have hnd : ¬ dgt B (p + i) = true := fun q => absurd (⟨rfl, q⟩ : (0 : Int) = 0 ∧ dgt B (p + i) = true) (by assumption)
           rw [if_neg hnd] at g6
           exact ex J (p + i) 0 s g1 g2 (Or.inl rfl) (by omega) (by rw [← g6]) ⟨fun _ => ⟨by rw [← g6], by rw [← g6]; show 0 < s; omega⟩, fun _ => rfl⟩ (fun _ => by rw [← g6]) g3 _ _)
      · refine x_iload dX4_readRising_14 4 rfl ?_
        refine x_if_eq (tgt := 26) dX4_readRising_16 (by decide) (by first | omega | exact z_and_r _ _ | exact z_or_r _ _ | exact z_xor_r _ _) (fun h16 => ?_) (fun h16 => ?_)
        · refine x_aload_n dX4_readRising_26 0 rfl rfl ?_
          refine x_iload_n dX4_readRising_27 3 rfl rfl ?_
          refine x_callVi (as := [_]) dX4_readRising_28 lvX4_45 rfl rfl rfl rfl rfl rfl rfl ⟨rfl, rfl⟩ (s_X4_figure (p := p + i) hX3 g1 g2 hf2 (by omega)) (fun z28 I28 L28 R28 hq28 => ?_)
          obtain ⟨zz28, a28, b28, c28, rfl, rfl⟩ := hq28
          obtain ⟨q28, f28, a28, b28, g28, r28, e28⟩ := fig_o zz28 a28 b28
          rw [fgK_q g4] at e28
          refine x_istore (lv' := [(0, _), (1, _), (2, _), (3, _), (4, _), (5, _)]) dX4_readRising_31 rfl rfl ?_
          refine x_iload_n dX4_readRising_33 2 rfl rfl ?_
          refine x_iconst dX4_readRising_34 ?_
          refine x_iload dX4_readRising_35 5 rfl ?_
          refine x_ishl dX4_readRising_37 ?_
          refine x_ior dX4_readRising_38 ?_
          refine x_istore_n (lv' := [(0, _), (1, _), (2, _), (3, _), (4, _), (5, _)]) dX4_readRising_39 rfl rfl rfl ?_
          refine x_iload_n dX4_readRising_40 3 rfl rfl ?_
          refine x_iconst dX4_readRising_41 ?_
          refine x_iload dX4_readRising_42 5 rfl ?_
          refine x_ishl dX4_readRising_44 ?_
          refine x_iconst dX4_readRising_45 ?_
          refine x_isub dX4_readRising_46 ?_
          refine x_iconst dX4_readRising_47 ?_
          refine x_ixor dX4_readRising_48 ?_
          refine x_iand dX4_readRising_49 ?_
          refine x_istore_n (lv' := [(0, _), (1, _), (2, _), (3, _), (4, _), (5, _)]) dX4_readRising_50 rfl rfl rfl ?_
          refine x_iinc (lv' := [(0, _), (1, _), (2, _), (3, _), (4, _), (5, _)]) dX4_readRising_51 4 rfl rfl rfl ?_
          refine x_goto (tgt := 7) dX4_readRising_54 (by decide) ?_
          refine x_top (lv' := [(0, _), (1, _), (2, _), (3, _), (4, _)]) 5 rfl ?_
          rcases e28 with ⟨⟨c0, c1⟩, c2, c3, c4⟩ | ⟨c1, c2, c3, c4⟩
          · have c5 := fgQ_r c1
            have c6 : dgt B (p + i) = true := by unfold dgt; rw [decide_eq_true_eq]; omega
            rw [if_pos c6, if_pos c1, ← c2] at g6
            have hor := or_pos (s := s) (d := z28) ⟨g5.2.2.1.1, g5.2.2.1.2⟩ (by omega)
            have horr := z_or_r s (z_shl 1 z28)
            exact ih I28 _ (z28 + 1) _ (by rw [a28, c4]; rfl) (by rw [b28]; exact c3) (g3.tr c28) (rising_m (by omega) (by omega) g4 (by omega)) (by omega) g6
          · have c6 : fgQ B lo (R0 - 1) (p + i) = false := by
              cases hq : fgQ B lo (R0 - 1) (p + i)
              · rfl
              · exact absurd ⟨rfl, hq⟩ c1
            refine dead I28 (p + i) _ (by rw [a28, c4]) (by rw [b28]; exact c3) (by omega) ?_ ?_ (g3.tr c28) _ _ ⟨by omega, by omega⟩
            · rw [← g6]
              by_cases hd : dgt B (p + i) = true
              · rw [if_pos hd, if_neg (by rw [c6]; decide)]
              · rw [if_neg hd]
            · rw [← g6]
              by_cases hd : dgt B (p + i) = true
              · rw [if_pos hd, if_neg (by rw [c6]; decide)]
                exact fun q => Bool.noConfusion q.1
              · rw [if_neg hd]
                first
                | (have hi0 : (i : Int) = 0 := by assumption
                   exact fun q => by have h9 : 0 < s := q.2; omega)
                | exact absurd (show (0 : Int) = 0 ∧ dgt B (p + i) = true by assumption).2 hd
        · refine x_aload_n dX4_readRising_19 0 rfl rfl ?_
          skip
          refine x_callVi (as := []) dX4_readRising_20 lvX4_102 rfl rfl rfl rfl rfl rfl rfl ⟨rfl, rfl⟩ (s_X4_figureAhead (p := p + i) hX3 g1 g2 hf2 (by omega)) (fun z20 I20 L20 R20 hq20 => ?_)
          obtain ⟨rfl, rfl, rfl, rfl⟩ := hq20
          refine y_ifb_eq (tgt := 57) dX4_readRising_23 (by decide) (fun h23 => ?_) (fun h23 => ?_)
          · first
            | (exfalso; omega)
            | (have hnd : ¬ dgt B (p + i) = true := fun q => absurd (⟨rfl, q⟩ : (0 : Int) = 0 ∧ dgt B (p + i) = true) (by assumption)
               rw [if_neg hnd] at g6
               exact ex J (p + i) 0 s g1 g2 (Or.inl rfl) (by omega) (by rw [← g6]) ⟨fun _ => ⟨by rw [← g6], by rw [← g6]; show 0 < s; omega⟩, fun _ => rfl⟩ (fun _ => by rw [← g6]) g3 _ _)
          · refine x_aload_n dX4_readRising_26 0 rfl rfl ?_
            refine x_iload_n dX4_readRising_27 3 rfl rfl ?_
            refine x_callVi (as := [_]) dX4_readRising_28 lvX4_45 rfl rfl rfl rfl rfl rfl rfl ⟨rfl, rfl⟩ (s_X4_figure (p := p + i) hX3 g1 g2 hf2 (by omega)) (fun z28 I28 L28 R28 hq28 => ?_)
            obtain ⟨zz28, a28, b28, c28, rfl, rfl⟩ := hq28
            obtain ⟨q28, f28, a28, b28, g28, r28, e28⟩ := fig_o zz28 a28 b28
            rw [fgK_q g4] at e28
            refine x_istore (lv' := [(0, _), (1, _), (2, _), (3, _), (4, _), (5, _)]) dX4_readRising_31 rfl rfl ?_
            refine x_iload_n dX4_readRising_33 2 rfl rfl ?_
            refine x_iconst dX4_readRising_34 ?_
            refine x_iload dX4_readRising_35 5 rfl ?_
            refine x_ishl dX4_readRising_37 ?_
            refine x_ior dX4_readRising_38 ?_
            refine x_istore_n (lv' := [(0, _), (1, _), (2, _), (3, _), (4, _), (5, _)]) dX4_readRising_39 rfl rfl rfl ?_
            refine x_iload_n dX4_readRising_40 3 rfl rfl ?_
            refine x_iconst dX4_readRising_41 ?_
            refine x_iload dX4_readRising_42 5 rfl ?_
            refine x_ishl dX4_readRising_44 ?_
            refine x_iconst dX4_readRising_45 ?_
            refine x_isub dX4_readRising_46 ?_
            refine x_iconst dX4_readRising_47 ?_
            refine x_ixor dX4_readRising_48 ?_
            refine x_iand dX4_readRising_49 ?_
            refine x_istore_n (lv' := [(0, _), (1, _), (2, _), (3, _), (4, _), (5, _)]) dX4_readRising_50 rfl rfl rfl ?_
            refine x_iinc (lv' := [(0, _), (1, _), (2, _), (3, _), (4, _), (5, _)]) dX4_readRising_51 4 rfl rfl rfl ?_
            refine x_goto (tgt := 7) dX4_readRising_54 (by decide) ?_
            refine x_top (lv' := [(0, _), (1, _), (2, _), (3, _), (4, _)]) 5 rfl ?_
            rcases e28 with ⟨⟨c0, c1⟩, c2, c3, c4⟩ | ⟨c1, c2, c3, c4⟩
            · have c5 := fgQ_r c1
              have c6 : dgt B (p + i) = true := by unfold dgt; rw [decide_eq_true_eq]; omega
              rw [if_pos c6, if_pos c1, ← c2] at g6
              have hor := or_pos (s := s) (d := z28) ⟨g5.2.2.1.1, g5.2.2.1.2⟩ (by omega)
              have horr := z_or_r s (z_shl 1 z28)
              exact ih I28 _ (z28 + 1) _ (by rw [a28, c4]; rfl) (by rw [b28]; exact c3) (g3.tr c28) (rising_m (by omega) (by omega) g4 (by omega)) (by omega) g6
            · have c6 : fgQ B lo (R0 - 1) (p + i) = false := by
                cases hq : fgQ B lo (R0 - 1) (p + i)
                · rfl
                · exact absurd ⟨rfl, hq⟩ c1
              refine dead I28 (p + i) _ (by rw [a28, c4]) (by rw [b28]; exact c3) (by omega) ?_ ?_ (g3.tr c28) _ _ ⟨by omega, by omega⟩
              · rw [← g6]
                by_cases hd : dgt B (p + i) = true
                · rw [if_pos hd, if_neg (by rw [c6]; decide)]
                · rw [if_neg hd]
              · rw [← g6]
                by_cases hd : dgt B (p + i) = true
                · rw [if_pos hd, if_neg (by rw [c6]; decide)]
                  exact fun q => Bool.noConfusion q.1
                · rw [if_neg hd]
                  first
                  | (have hi0 : (i : Int) = 0 := by assumption
                     exact fun q => by have h9 : 0 < s := q.2; omega)
                  | exact absurd (show (0 : Int) = 0 ∧ dgt B (p + i) = true by assumption).2 hd
    · intro J s lo m8 g1 g2 g3 g4 g5 g6
      exfalso
      omega
  refine x_iconst dX4_readRising_0 ?_
  refine x_istore_n (lv' := [(0, _), (1, _), (2, _)]) dX4_readRising_1 rfl rfl rfl ?_
  refine x_iload_n dX4_readRising_2 1 rfl rfl ?_
  refine x_istore_n (lv' := [(0, _), (1, _), (2, _), (3, _)]) dX4_readRising_3 rfl rfl rfl ?_
  refine x_iconst dX4_readRising_4 ?_
  refine x_istore (lv' := [(0, _), (1, _), (2, _), (3, _), (4, _)]) dX4_readRising_5 rfl rfl ?_
  exact loop 0 (by omega) I 0 0 m hp hf (XS.rf I) hm (by omega) hrr.symm
end

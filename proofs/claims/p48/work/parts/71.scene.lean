/-! CLASS AND REFERENCE: one scene in two memories; what may be in a minute. -/
theorem z_not_in {x y : Int} : z_and x (z_xor y (-1)) = 0 ↔ ∀ k, k < 32 → tb x k = true → tb y k = true := by
  constructor
  · intro h k hk hx
    have h1 : tb (z_and x (z_xor y (-1))) k = false := by rw [h, tb_0]
    rw [tb_and, tb_xor, tb_m1 hk, hx, Bool.true_and] at h1
    cases hy : tb y k
    · rw [hy] at h1; exact absurd h1 (by decide)
    · rfl
  · intro h
    refine tb_ext (z_and_r _ _) (by omega) (fun k hk => ?_)
    rw [tb_and, tb_xor, tb_m1 hk, tb_0]
    cases hx : tb x k
    · rfl
    · rw [h k hk hx]; rfl
theorem z_and_no {x y : Int} : z_and x y = 0 ↔ ∀ k, k < 32 → tb x k = true → tb y k = false := by
  constructor
  · intro h k hk hx
    have h1 : tb (z_and x y) k = false := by rw [h, tb_0]
    rw [tb_and, hx, Bool.true_and] at h1
    exact h1
  · intro h
    refine tb_ext (z_and_r _ _) (by omega) (fun k hk => ?_)
    rw [tb_and, tb_0]
    cases hx : tb x k
    · rfl
    · rw [h k hk hx]; rfl
theorem tb_orf {f : Nat → Int} {k : Nat} : ∀ n : Nat, tb (orf f n) k = true ↔ ∃ w, w < n ∧ tb (f w) k = true
  | 0 => by
    unfold orf
    rw [tb_0]
    exact ⟨fun q => Bool.noConfusion q, fun ⟨w, h, _⟩ => by omega⟩
  | n + 1 => by
    unfold orf
    rw [tb_or, Bool.or_eq_true, tb_orf n]
    constructor
    · rintro (⟨w, h1, h2⟩ | h)
      · exact ⟨w, by omega, h2⟩
      · exact ⟨n, by omega, h⟩
    · rintro ⟨w, h1, h2⟩
      by_cases e : w = n
      · subst e; exact Or.inr h2
      · exact Or.inl ⟨w, by omega, h2⟩
/-- what is told of a minute, in words -/
theorem okb_iff {κ : MI} {t : Int} {s : Nat} (hs : s < 1728) : okb κ t s = true ↔ (∀ k, k < 32 → tb (κ 15 t) k = true → ∃ w, w < us κ ∧ k = rm s w) ∧ ∀ w : Nat, w < us κ → tb (κ 16 t) (rm s w) = false ∧ ((rm s w : Nat) : Int) < κ 0 11 ∧ (κ 17 (3 * t + w) = -1 ∨ κ 17 (3 * t + w) = ((rm s w : Nat) : Int)) := by
  have hr : ∀ w, rm s w < 6 := fun w => rm_lt hs
  have hb : ∀ k, k < 32 → (tb (rsK κ s) k = true ↔ ∃ w, w < us κ ∧ k = rm s w) := fun k hk => by
    unfold rsK
    rw [tb_orf]
    constructor
    · rintro ⟨w, h1, h2⟩
      have := hr w
      rw [tb_sh1 (by omega) hk, decide_eq_true_eq, Int.toNat_natCast] at h2
      exact ⟨w, h1, h2⟩
    · rintro ⟨w, h1, h2⟩
      have := hr w
      exact ⟨w, h1, by rw [tb_sh1 (by omega) hk, decide_eq_true_eq, Int.toNat_natCast]; exact h2⟩
  unfold okb
  rw [Bool.and_eq_true, Bool.and_eq_true, beq_iff_eq, beq_iff_eq, al_iff, z_not_in, z_and_no]
  constructor
  · rintro ⟨⟨h1, h2⟩, h3⟩
    refine ⟨fun k hk q => (hb k hk).mp (h1 k hk q), fun w hw => ?_⟩
    have h4 := h3 w hw
    rw [Bool.and_eq_true, decide_eq_true_eq, Bool.or_eq_true, beq_iff_eq, beq_iff_eq] at h4
    refine ⟨?_, h4⟩
    have := hr w
    cases q : tb (κ 16 t) (rm s w)
    · rfl
    · have h5 := h2 (rm s w) (by omega) q
      rw [(hb _ (by omega)).mpr ⟨w, hw, rfl⟩] at h5
      exact h5
  · rintro ⟨h1, h2⟩
    refine ⟨⟨fun k hk q => (hb k hk).mpr (h1 k hk q), fun k hk q => ?_⟩, fun w hw => ?_⟩
    · cases q2 : tb (rsK κ s) k
      · rfl
      · obtain ⟨w, hw, e⟩ := (hb k hk).mp q2
        rw [e, (h2 w hw).1] at q
        exact absurd q (by decide)
    · rw [Bool.and_eq_true, decide_eq_true_eq, Bool.or_eq_true, beq_iff_eq, beq_iff_eq]
      exact (h2 w hw).2
/-- the class's plan and the reference's scene -/
def PK (I : MI) (p h n : Nat) (κ : MI) : Prop :=
  PQ I p h n ∧ iHs κ ∧ iSc κ ∧ I p 1 = κ 0 34 ∧ (I h 0 = κ 0 11 ∧ I h 1 = κ 0 12 ∧ I h 3 = κ 0 14) ∧
  (∀ d : Nat, (d : Int) < I h 1 → I (h + 1) (d : Int) = κ 7 (3 * (d : Int)) ∧ I (h + 2) (d : Int) = κ 7 (3 * (d : Int) + 1)) ∧
  (∀ w : Nat, (w : Int) < I p 1 → I (h + 3) (w : Int) = κ 8 (2 * (w : Int))) ∧
  ∀ t : Nat, (t : Int) ≤ I h 3 → I (p + 1) (t : Int) = κ 13 (t : Int) ∧ I (p + 2) (t : Int) = κ 14 (t : Int) ∧ I (p + 3) (t : Int) = κ 15 (t : Int) ∧ (∀ k, 6 ≤ k → k < 32 → tb (κ 15 (t : Int)) k = false) ∧ (∀ r : Nat, r < 6 → tb (I (p + 4) (t : Int)) (18 + r) = true) ∧
    ∀ w r : Nat, (w : Int) < I p 1 → (r : Int) < I h 0 → (tb (I (p + 4) (t : Int)) (6 * w + r) = true ↔ tb (κ 16 (t : Int)) r = false ∧ (κ 17 (3 * (t : Int) + w) = -1 ∨ κ 17 (3 * (t : Int) + w) = (r : Int)) ∧ (t = 0 → tb (κ 8 (2 * (w : Int) + 1)) r = true))
/-- a walker's state as a place; a joint state as the reference's -/
def plX (I : MI) (p h w s : Nat) : Nat := if (w : Int) < I p 1 then (if (s : Int) < I h 0 then 2 * s else 2 * (s - (I h 0).toNat) + 1) else 0
def sgX (I : MI) (p h j : Nat) : Nat := plX I p h 0 (j % nW I p h 0) + 12 * plX I p h 1 (j / nW I p h 0 % nW I p h 1) + 144 * plX I p h 2 (j / nW I p h 0 / nW I p h 1)
/-- the walker's state in a joint state -/
def stJ (I : MI) (p h j w : Nat) : Nat := if w = 0 then j % nW I p h 0 else if w = 1 then j / nW I p h 0 % nW I p h 1 else j / nW I p h 0 / nW I p h 1
theorem nW_e {I : MI} {p h n : Nat} (s : PQ I p h n) (w : Nat) : ((w : Int) < I p 1 → ((I (h + 3) (w : Int) = 1 ∧ ((nW I p h w : Nat) : Int) = I h 0) ∨ (I (h + 3) (w : Int) = 2 ∧ ((nW I p h w : Nat) : Int) = 2 * I h 0))) ∧ (¬ (w : Int) < I p 1 → nW I p h w = 1) := by
  have h1 := (nW_r s w).2.2
  obtain ⟨-, k2, -, k4, -⟩ := s
  constructor
  · intro hw
    have h2 := k2.2.2 w (by omega)
    unfold stW at h1
    rw [if_pos hw] at h1
    have e1 : I (h + 3) (w : Int) = 1 ∨ I (h + 3) (w : Int) = 2 := by omega
    rcases e1 with e | e <;> rw [e] at h1
    · exact Or.inl ⟨e, by omega⟩
    · exact Or.inr ⟨e, by omega⟩
  · intro hw
    unfold stW at h1
    rw [if_neg hw] at h1
    omega
theorem plX_lt {I : MI} {p h n w x : Nat} (s : PQ I p h n) (hx : x < nW I p h w) : plX I p h w x < 12 := by
  have h1 := nW_e s w
  have h2 := s.2.1.1
  unfold plX
  split
  · rename_i hw
    have h3 := h1.1 hw
    split <;> omega
  · omega
theorem plX_rm {I : MI} {p h n w x : Nat} (s : PQ I p h n) (hw : (w : Int) < I p 1) (hx : x < nW I p h w) : ((plX I p h w x / 2 : Nat) : Int) = rmX I h (x : Int) ∧ (plX I p h w x % 2 = 0 ↔ (x : Int) < I h 0) ∧ 0 ≤ rmX I h (x : Int) ∧ rmX I h (x : Int) < I h 0 := by
  have h1 := (nW_e s w).1 hw
  have h2 := s.2.1.1
  unfold plX rmX
  rw [if_pos hw]
  split <;> omega
theorem stJ_lt {I : MI} {p h n j : Nat} (s : PQ I p h n) (hj : j < n) : ∀ w, w < 3 → stJ I p h j w < nW I p h w := by
  rw [(PQ_n s).1] at hj
  obtain ⟨a, b, c, -⟩ := ix3_of hj
  intro w hw
  unfold stJ
  have : w = 0 ∨ w = 1 ∨ w = 2 := by omega
  rcases this with rfl | rfl | rfl
  · exact a
  · exact b
  · exact c
theorem sgX_e (I : MI) (p h j : Nat) : sgX I p h j = plX I p h 0 (stJ I p h j 0) + 12 * plX I p h 1 (stJ I p h j 1) + 144 * plX I p h 2 (stJ I p h j 2) := rfl
theorem pl_sg {I : MI} {p h n j : Nat} (s : PQ I p h n) (hj : j < n) {w : Nat} (hw : w < 3) : pl (sgX I p h j) w = plX I p h w (stJ I p h j w) := by
  have a0 := plX_lt s (stJ_lt s hj 0 (by omega))
  have a1 := plX_lt s (stJ_lt s hj 1 (by omega))
  have a2 := plX_lt s (stJ_lt s hj 2 (by omega))
  rw [sgX_e]
  have : w = 0 ∨ w = 1 ∨ w = 2 := by omega
  unfold pl
  rcases this with rfl | rfl | rfl
  · rw [if_pos rfl]; omega
  · rw [if_neg (by decide), if_pos rfl]; omega
  · rw [if_neg (by decide), if_neg (by decide)]; omega
theorem PK_us {I κ : MI} {p h n : Nat} (k : PK I p h n κ) : us κ ≤ 3 ∧ ((us κ : Nat) : Int) = I p 1 := by
  obtain ⟨-, k2, k3, k4, -⟩ := k
  have := us_le k2 k3
  omega
theorem sgX_lt {I κ : MI} {p h n j : Nat} (k : PK I p h n κ) (hj : j < n) : sgX I p h j < nst κ ∧ sgX I p h j < 1728 := by
  have s := k.1
  have a0 := plX_lt s (stJ_lt s hj 0 (by omega))
  have a1 := plX_lt s (stJ_lt s hj 1 (by omega))
  have a2 := plX_lt s (stJ_lt s hj 2 (by omega))
  obtain ⟨u1, u2⟩ := PK_us k
  have z : ∀ w x : Nat, us κ ≤ w → plX I p h w x = 0 := fun w x q => by unfold plX; rw [if_neg (by omega)]
  rw [sgX_e]
  refine ⟨?_, by omega⟩
  unfold nst
  have : us κ = 0 ∨ us κ = 1 ∨ us κ = 2 ∨ us κ = 3 := by omega
  rcases this with e | e | e | e <;> rw [e]
  · rw [z 0 _ (by omega), z 1 _ (by omega), z 2 _ (by omega)]; decide
  · rw [z 1 _ (by omega), z 2 _ (by omega)]; omega
  · rw [z 2 _ (by omega)]; omega
  · omega
theorem plX_inj {I : MI} {p h n w x y : Nat} (s : PQ I p h n) (hx : x < nW I p h w) (hy : y < nW I p h w) (e : plX I p h w x = plX I p h w y) : x = y := by
  have h1 := nW_e s w
  have h2 := s.2.1.1
  unfold plX at e
  by_cases hw : (w : Int) < I p 1
  · rw [if_pos hw, if_pos hw] at e
    have h3 := h1.1 hw
    by_cases q1 : (x : Int) < I h 0 <;> by_cases q2 : (y : Int) < I h 0
    · rw [if_pos q1, if_pos q2] at e; omega
    · rw [if_pos q1, if_neg q2] at e; omega
    · rw [if_neg q1, if_pos q2] at e; omega
    · rw [if_neg q1, if_neg q2] at e; omega
  · have h3 := h1.2 hw
    omega
theorem stJ_ix {I : MI} {p h n j : Nat} (s : PQ I p h n) (hj : j < n) : ix3 (nW I p h 0) (nW I p h 1) (stJ I p h j 0) (stJ I p h j 1) (stJ I p h j 2) = j := by
  rw [(PQ_n s).1] at hj
  exact (ix3_of hj).2.2.2
theorem sgX_inj {I : MI} {p h n i j : Nat} (s : PQ I p h n) (hi : i < n) (hj : j < n) (e : sgX I p h i = sgX I p h j) : i = j := by
  have f : ∀ w, w < 3 → stJ I p h i w = stJ I p h j w := fun w hw => by
    refine plX_inj s (stJ_lt s hi w hw) (stJ_lt s hj w hw) ?_
    rw [← pl_sg s hi hw, ← pl_sg s hj hw, e]
  rw [← stJ_ix s hi, ← stJ_ix s hj, f 0 (by omega), f 1 (by omega), f 2 (by omega)]
theorem rm_sg {I κ : MI} {p h n j : Nat} (k : PK I p h n κ) (hj : j < n) {w : Nat} (hw : w < us κ) : ((rm (sgX I p h j) w : Nat) : Int) = rmX I h (stJ I p h j w : Int) ∧ ((rm (sgX I p h j) w : Nat) : Int) < I h 0 := by
  have u := PK_us k
  have h1 := plX_rm (w := w) k.1 (by omega) (stJ_lt k.1 hj w (by omega))
  unfold rm
  rw [pl_sg k.1 hj (by omega)]
  omega
/-- the spots of a joint state -/
theorem tb_sp {I κ : MI} {p h n j : Nat} (k : PK I p h n κ) (hj : j < n) {b : Nat} (hb : b < 32) : tb (I (p + 7) (j : Int)) b = true ↔ ∃ w, w < us κ ∧ (b = 6 * w + rm (sgX I p h j) w ∨ b = 18 + rm (sgX I p h j) w) := by
  have s := k.1
  have u := PK_us k
  have hI : I (p + 7) (j : Int) = sp3 I p h (stJ I p h j 0) (stJ I p h j 1) (stJ I p h j 2) := by
    have h1 := s.1.2.2 (stJ I p h j 0) (stJ I p h j 1) (stJ I p h j 2) (stJ_lt s hj 0 (by omega)) (stJ_lt s hj 1 (by omega)) (stJ_lt s hj 2 (by omega))
    rw [← h1]
    congr 1
    exact congrArg Int.ofNat (stJ_ix s hj).symm
  have one : ∀ w : Nat, w < 3 → (tb (spX I p h (w : Int) (stJ I p h j w : Int)) b = true ↔ w < us κ ∧ (b = 6 * w + rm (sgX I p h j) w ∨ b = 18 + rm (sgX I p h j) w)) := fun w hw => by
    by_cases q : w < us κ
    · have hr := rm_sg k hj q
      have h6 := s.2.1.1
      unfold spX
      rw [if_pos (by omega), ← hr.1, tb_or, Bool.or_eq_true, tb_sh1 (by omega) hb, tb_sh1 (by omega) hb, decide_eq_true_eq, decide_eq_true_eq]
      omega
    · unfold spX
      rw [if_neg (by omega), tb_0]
      exact ⟨fun z => Bool.noConfusion z, fun z => absurd z.1 q⟩
  rw [hI]
  unfold sp3
  rw [tb_or, tb_or, Bool.or_eq_true, Bool.or_eq_true]
  have o0 := one 0 (by omega)
  have o1 := one 1 (by omega)
  have o2 := one 2 (by omega)
  constructor
  · rintro ((q | q) | q)
    · exact ⟨0, o0.mp q⟩
    · exact ⟨1, o1.mp q⟩
    · exact ⟨2, o2.mp q⟩
  · rintro ⟨w, hw, q⟩
    have : w = 0 ∨ w = 1 ∨ w = 2 := by omega
    rcases this with rfl | rfl | rfl
    · exact Or.inl (Or.inl (o0.mpr ⟨hw, q⟩))
    · exact Or.inl (Or.inr (o1.mpr ⟨hw, q⟩))
    · exact Or.inr (o2.mpr ⟨hw, q⟩)
/-- class and reference say the same of what may be in a minute -/
theorem ft_ok {I κ : MI} {p h n j t : Nat} (k : PK I p h n κ) (hj : j < n) (ht : (t : Int) ≤ I h 3) : ftX I p (j : Int) (t : Int) = true ↔ okb κ (t : Int) (sgX I p h j) = true ∧ (t = 0 → ∀ w : Nat, w < us κ → tb (κ 8 (2 * (w : Int) + 1)) (rm (sgX I p h j) w) = true) := by
  have u := PK_us k
  have h6 := k.1.2.1.1
  rw [okb_iff (sgX_lt k hj).2]
  obtain ⟨k1, k2, k3, k4, ⟨k5, k6, k7⟩, k8, k9, k10⟩ := id k
  obtain ⟨-, -, m3, m4, m5, m6⟩ := k10 t ht
  have hr : ∀ w, w < us κ → rm (sgX I p h j) w < 6 ∧ ((rm (sgX I p h j) w : Nat) : Int) < I h 0 := fun w hw => by have := rm_sg k hj hw; omega
  unfold ftX
  rw [Bool.and_eq_true, decide_eq_true_eq, decide_eq_true_eq, z_not_in, z_not_in, m3]
  constructor
  · rintro ⟨h1, h2⟩
    have hm : ∀ w, w < us κ → tb (I (p + 4) (t : Int)) (6 * w + rm (sgX I p h j) w) = true := fun w hw => by
      have := hr w hw
      exact h1 _ (by omega) ((tb_sp k hj (by omega)).mpr ⟨w, hw, Or.inl rfl⟩)
    refine ⟨⟨fun b hb q => ?_, fun w hw => ?_⟩, fun e w hw => ?_⟩
    · by_cases hb6 : b < 6
      · have h3 := h2 (b + 18) (by omega) (by
          rw [tb_shl (by omega) (by omega), Bool.and_eq_true, decide_eq_true_eq]
          refine ⟨by omega, ?_⟩
          rw [show b + 18 - (18 : Int).toNat = b by omega]
          exact q)
        obtain ⟨w, hw, q2⟩ := (tb_sp k hj (by omega)).mp h3
        have := hr w hw
        exact ⟨w, hw, by omega⟩
      · rw [m4 b (by omega) hb] at q
        exact absurd q (by decide)
    · have h3 := (m6 w _ (by omega) (hr w hw).2).mp (hm w hw)
      exact ⟨h3.1, by have := (hr w hw).2; omega, h3.2.1⟩
    · exact ((m6 w _ (by omega) (hr w hw).2).mp (hm w hw)).2.2 e
  · rintro ⟨⟨h1, h2⟩, h3⟩
    constructor
    · intro b hb q
      obtain ⟨w, hw, q2⟩ := (tb_sp k hj hb).mp q
      have := hr w hw
      rcases q2 with rfl | rfl
      · exact (m6 w _ (by omega) (hr w hw).2).mpr ⟨(h2 w hw).1, (h2 w hw).2.2, fun e => h3 e w hw⟩
      · exact m5 _ (by omega)
    · intro b hb q
      rw [tb_shl (by omega) hb, Bool.and_eq_true, decide_eq_true_eq] at q
      obtain ⟨q1, q2⟩ := q
      obtain ⟨w, hw, e⟩ := h1 (b - (18 : Int).toNat) (by omega) q2
      exact (tb_sp k hj hb).mpr ⟨w, hw, Or.inr (by omega)⟩


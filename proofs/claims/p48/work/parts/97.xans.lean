/-! CLASS AND REFERENCE: what the notes and the sets answer. -/
theorem mb_iff {I L : MI} {p t b : Nat} : ∀ m, tb (mbF I L p t m) b = true ↔ ∃ j, j < m ∧ inX L j t = true ∧ tb (I (p + 7) (j : Int)) b = true
  | 0 => by
    unfold mbF
    rw [tb_0]
    exact ⟨fun q => Bool.noConfusion q, fun ⟨s, h, _⟩ => by omega⟩
  | m + 1 => by
    unfold mbF
    by_cases q : inX L m t = true
    · rw [if_pos q, tb_or, Bool.or_eq_true, mb_iff m]
      constructor
      · rintro (⟨s, h1, h2⟩ | h)
        · exact ⟨s, by omega, h2⟩
        · exact ⟨m, by omega, q, h⟩
      · rintro ⟨s, h1, h2, h3⟩
        by_cases e : s = m
        · subst e; exact Or.inr h3
        · exact Or.inl ⟨s, by omega, h2, h3⟩
    · rw [if_neg q, mb_iff m]
      constructor
      · rintro ⟨s, h1, h2⟩
        exact ⟨s, by omega, h2⟩
      · rintro ⟨s, h1, h2, h3⟩
        by_cases e : s = m
        · subst e; exact absurd h2 q
        · exact ⟨s, by omega, h2, h3⟩
theorem mu_iff {I L : MI} {p t b : Nat} (hb : b < 32) : ∀ m, tb (muF I L p t m) b = true ↔ ∀ j, j < m → inX L j t = true → tb (I (p + 7) (j : Int)) b = true
  | 0 => by
    unfold muF
    rw [tb_m1 hb]
    exact ⟨fun _ s h => by omega, fun _ => rfl⟩
  | m + 1 => by
    unfold muF
    by_cases q : inX L m t = true
    · rw [if_pos q, tb_and, Bool.and_eq_true, mu_iff hb m]
      constructor
      · rintro ⟨h1, h2⟩ s hs hi
        by_cases e : s = m
        · subst e; exact h2
        · exact h1 s (by omega) hi
      · intro h
        exact ⟨fun s hs => h s (by omega), h m (by omega) q⟩
    · rw [if_neg q, mu_iff hb m]
      constructor
      · intro h s hs hi
        by_cases e : s = m
        · subst e; exact absurd hi q
        · exact h s (by omega) hi
      · intro h s hs
        exact h s (by omega)
theorem muF_r (I L : MI) (p t : Nat) : ∀ m, rI (muF I L p t m)
  | 0 => by unfold muF; omega
  | m + 1 => by
    unfold muF
    split
    · exact z_and_r _ _
    · exact muF_r I L p t m
/-- a bit of somebody's room, or of a room with somebody -/
def spB (κ : MI) (s b : Nat) : Prop := ∃ w, w < us κ ∧ (b = 6 * w + rm s w ∨ b = 18 + rm s w)
section
variable {I L κ : MI} {p h n t : Nat}
theorem al_room (k : PKR I p h n κ) (ht : t ≤ lst κ) {s : Nat} (hs : s < nst κ) (ha : alv κ t s = true) {w : Nat} (hw : w < us κ) : ((rm s w : Nat) : Int) < κ 0 11 ∧ rm s w < 6 := by
  have hl := PK_last k.1
  obtain ⟨j, hj, rfl⟩ := alv_cl k (by omega) hs ha
  have h1 := (rm_sg k.1 hj hw).2
  have h6 := k.1.1.2.1.1
  have h0 : I h 0 = κ 0 11 := k.1.2.2.2.2.1.1
  omega
theorem may_iff (k : PKR I p h n κ) (st : SETS κ I L p h n) (ht : t ≤ lst κ) {b : Nat} (hb : b < 32) : tb (mbF I L p t n) b = true ↔ ∃ s, s < nst κ ∧ alv κ t s = true ∧ spB κ s b := by
  have hl := PK_last k.1
  have hn := (PQ_n k.1.1).2
  rw [mb_iff]
  constructor
  · rintro ⟨j, hj, h1, h2⟩
    exact ⟨sgX I p h j, (sgX_lt k.1 hj).1, ((st t ht j (by omega)).mp h1).2, (tb_sp k.1 hj hb).mp h2⟩
  · rintro ⟨s, hs, ha, hb2⟩
    obtain ⟨j, hj, rfl⟩ := alv_cl k (by omega) hs ha
    exact ⟨j, hj, (st t ht j (by omega)).mpr ⟨hj, ha⟩, (tb_sp k.1 hj hb).mpr hb2⟩
theorem mus_iff (k : PKR I p h n κ) (st : SETS κ I L p h n) (ht : t ≤ lst κ) {b : Nat} (hb : b < 32) : tb (muF I L p t n) b = true ↔ ∀ s, s < nst κ → alv κ t s = true → spB κ s b := by
  have hl := PK_last k.1
  have hn := (PQ_n k.1.1).2
  rw [mu_iff hb]
  constructor
  · intro q s hs ha
    obtain ⟨j, hj, rfl⟩ := alv_cl k (by omega) hs ha
    exact (tb_sp k.1 hj hb).mp (q j hj ((st t ht j (by omega)).mpr ⟨hj, ha⟩))
  · intro q j hj hi
    exact (tb_sp k.1 hj hb).mpr (q _ (sgX_lt k.1 hj).1 ((st t ht j (by omega)).mp hi).2)
theorem mu_nn (k : PKR I p h n κ) (st : SETS κ I L p h n) (ht : t ≤ lst κ) (fit : fst0 κ = -9) : 0 ≤ muF I L p t n := by
  rw [tb_nn (muF_r I L p t n)]
  cases q : tb (muF I L p t n) 31
  · rfl
  · obtain ⟨s, hs, ha⟩ := alv_some fit (lst κ - t) t (by omega)
    obtain ⟨w, hw, e⟩ := (mus_iff k st ht (by omega)).mp q s hs ha
    have := al_room k ht hs ha hw
    have := (PK_us k.1).1
    omega
theorem wh_eq (k : PKR I p h n κ) (st : SETS κ I L p h n) (ht : t ≤ lst κ) {w : Nat} (hw : w < us κ) : z_and (z_shr (mbF I L p t n) (6 * (w : Int))) 63 = whF κ w t (nst κ) := by
  have hu := (PK_us k.1).1
  refine tb_ext (z_and_r _ _) (orf_r _ _) (fun b hb => ?_)
  rw [Bool.eq_iff_iff, tb_and, tb_63 hb, Bool.and_eq_true, decide_eq_true_eq]
  unfold whF
  rw [tb_orf]
  constructor
  · rintro ⟨h1, h2⟩
    rw [tb_shr (by omega) (by omega), may_iff k st ht (by omega)] at h1
    obtain ⟨s, hs, ha, v, hv, e⟩ := h1
    have hr := al_room k ht hs ha hv
    refine ⟨s, hs, ?_⟩
    have : v = w := by omega
    subst this
    rw [if_pos ha, tb_sh1 (by omega) hb, decide_eq_true_eq]
    omega
  · rintro ⟨s, hs, q⟩
    by_cases ha : alv κ t s = true
    · have hr := al_room k ht hs ha hw
      rw [if_pos ha, tb_sh1 (by omega) hb, decide_eq_true_eq] at q
      refine ⟨?_, by omega⟩
      rw [tb_shr (by omega) (by omega), may_iff k st ht (by omega)]
      exact ⟨s, hs, ha, w, hw, Or.inl (by omega)⟩
    · rw [if_neg ha, tb_0] at q
      exact Bool.noConfusion q
theorem mnI_pos {s r : Nat} : ∀ m, 0 < mnI s (r : Int) m ↔ ∃ w, w < m ∧ rm s w = r
  | 0 => by
    show (0 : Int) < 0 ↔ _
    exact ⟨fun z => by omega, fun ⟨w, z, _⟩ => by omega⟩
  | m + 1 => by
    have ih := mnI_pos (s := s) (r := r) m
    have hr0 := mnI_r s (r : Int) m
    unfold mnI
    constructor
    · intro z
      by_cases e : ((rm s m : Nat) : Int) = (r : Int)
      · exact ⟨m, by omega, by omega⟩
      · rw [if_neg e] at z
        obtain ⟨w, w1, w2⟩ := ih.mp (by omega)
        exact ⟨w, by omega, w2⟩
    · rintro ⟨w, w1, w2⟩
      by_cases e : w = m
      · subst e
        rw [if_pos (by omega)]
        omega
      · have := ih.mpr ⟨w, by omega, w2⟩
        split <;> omega
theorem fiF_le {r : Int} {s : Nat} : ∀ m, s < m → alv κ t s = true → fiF κ r t m ≤ mnI s r (us κ)
  | 0, h, _ => by omega
  | m + 1, h, ha => by
    unfold fiF
    by_cases e : s = m
    · subst e
      rw [if_pos ha]
      split <;> omega
    · have := fiF_le (r := r) m (by omega) ha
      split
      · split <;> omega
      · exact this
theorem fiF_at {r : Int} : ∀ m, fiF κ r t m = 4 ∨ ∃ s, s < m ∧ alv κ t s = true ∧ fiF κ r t m = mnI s r (us κ)
  | 0 => Or.inl rfl
  | m + 1 => by
    have ih := fiF_at (r := r) m
    unfold fiF
    by_cases ha : alv κ t m = true
    · rw [if_pos ha]
      split
      · exact Or.inr ⟨m, by omega, ha, rfl⟩
      · exact ih.imp id (fun ⟨s, a, b⟩ => ⟨s, by omega, b⟩)
    · rw [if_neg ha]
      exact ih.imp id (fun ⟨s, a, b⟩ => ⟨s, by omega, b⟩)
theorem moF_le {r : Int} {s : Nat} : ∀ m, s < m → alv κ t s = true → mnI s r (us κ) ≤ moF κ r t m
  | 0, h, _ => by omega
  | m + 1, h, ha => by
    unfold moF
    by_cases e : s = m
    · subst e
      rw [if_pos ha]
      split <;> omega
    · have := moF_le (r := r) m (by omega) ha
      split
      · split <;> omega
      · exact this
theorem moF_at {r : Int} : ∀ m, moF κ r t m = 0 ∨ ∃ s, s < m ∧ alv κ t s = true ∧ moF κ r t m = mnI s r (us κ)
  | 0 => Or.inl rfl
  | m + 1 => by
    have ih := moF_at (r := r) m
    unfold moF
    by_cases ha : alv κ t m = true
    · rw [if_pos ha]
      split
      · exact Or.inr ⟨m, by omega, ha, rfl⟩
      · exact ih.imp id (fun ⟨s, a, b⟩ => ⟨s, by omega, b⟩)
    · rw [if_neg ha]
      exact ih.imp id (fun ⟨s, a, b⟩ => ⟨s, by omega, b⟩)
theorem ltA_le {th : Int} {j : Nat} : ∀ m, j < m → inX L j t = true → ltA I L p t th m ≤ pc (z_and (I (p + 7) (j : Int)) th)
  | 0, h, _ => by omega
  | m + 1, h, ha => by
    unfold ltA
    by_cases e : j = m
    · subst e
      rw [if_pos ha]
      omega
    · have := ltA_le (th := th) m (by omega) ha
      split <;> omega
theorem ltA_at {th : Int} : ∀ m, ltA I L p t th m = 3 ∨ ∃ j, j < m ∧ inX L j t = true ∧ ltA I L p t th m = pc (z_and (I (p + 7) (j : Int)) th)
  | 0 => Or.inl rfl
  | m + 1 => by
    have ih := ltA_at (th := th) m
    unfold ltA
    by_cases ha : inX L m t = true
    · rw [if_pos ha]
      rcases Int.le_total (ltA I L p t th m) (pc (z_and (I (p + 7) (m : Int)) th)) with q | q
      · rw [Int.min_eq_left q]
        exact ih.imp id (fun ⟨s, a, b⟩ => ⟨s, by omega, b⟩)
      · rw [Int.min_eq_right q]
        exact Or.inr ⟨m, by omega, ha, rfl⟩
    · rw [if_neg ha]
      exact ih.imp id (fun ⟨s, a, b⟩ => ⟨s, by omega, b⟩)
theorem mtA_le {th : Int} {j : Nat} : ∀ m, j < m → inX L j t = true → pc (z_and (I (p + 7) (j : Int)) th) ≤ mtA I L p t th m
  | 0, h, _ => by omega
  | m + 1, h, ha => by
    unfold mtA
    by_cases e : j = m
    · subst e
      rw [if_pos ha]
      omega
    · have := mtA_le (th := th) m (by omega) ha
      split <;> omega
theorem mtA_at {th : Int} : ∀ m, mtA I L p t th m = 0 ∨ ∃ j, j < m ∧ inX L j t = true ∧ mtA I L p t th m = pc (z_and (I (p + 7) (j : Int)) th)
  | 0 => Or.inl rfl
  | m + 1 => by
    have ih := mtA_at (th := th) m
    unfold mtA
    by_cases ha : inX L m t = true
    · rw [if_pos ha]
      rcases Int.le_total (mtA I L p t th m) (pc (z_and (I (p + 7) (m : Int)) th)) with q | q
      · rw [Int.max_eq_right q]
        exact Or.inr ⟨m, by omega, ha, rfl⟩
      · rw [Int.max_eq_left q]
        exact ih.imp id (fun ⟨s, a, b⟩ => ⟨s, by omega, b⟩)
    · rw [if_neg ha]
      exact ih.imp id (fun ⟨s, a, b⟩ => ⟨s, by omega, b⟩)
theorem ifc {P Q : Prop} [Decidable P] [Decidable Q] {a b : Int} (h : P ↔ Q) : (if P then a else b) = if Q then a else b := by
  by_cases q : P
  · rw [if_pos q, if_pos (h.mp q)]
  · rw [if_neg q, if_neg (fun z => q (h.mpr z))]
/-- how many bits stand: a sum -/
theorem pc_smi {x : Int} (hx : 0 ≤ x ∧ x ≤ 2147483647) : pc x = smi (fun k => if tb x k = true then 1 else 0) 32 := by
  have : ∀ m, ((pcN m x.toNat : Nat) : Int) = smi (fun k => if tb x k = true then 1 else 0) m := by
    intro m
    induction m with
    | zero => rfl
    | succ m ih =>
      have e : pcN (m + 1) x.toNat = pcN m x.toNat + x.toNat / 2 ^ m % 2 := by
        rw [pcN_add]
        rfl
      have e2 : smi (fun k => if tb x k = true then (1 : Int) else 0) (m + 1) = smi (fun k => if tb x k = true then 1 else 0) m + (if tb x m = true then 1 else 0) := rfl
      rw [e, e2, ← ih, tb_int hx, Nat.testBit_eq_decide_div_mod_eq]
      by_cases q : x.toNat / 2 ^ m % 2 = 1
      · rw [if_pos (decide_eq_true q)]
        omega
      · rw [if_neg (fun z => q (decide_eq_true_eq.mp z))]
        omega
  exact this 32
theorem smi_3 {a b c : Int} {r : Nat} (hr : r < 6) : ∀ m, smi (fun k => if k = r then a else if k = 6 + r then b else if k = 12 + r then c else 0) m = (if r < m then a else 0) + (if 6 + r < m then b else 0) + (if 12 + r < m then c else 0)
  | 0 => by
    rw [if_neg (show ¬ r < 0 by omega), if_neg (show ¬ 6 + r < 0 by omega), if_neg (show ¬ 12 + r < 0 by omega)]
    rfl
  | m + 1 => by
    unfold smi
    rw [smi_3 hr m]
    by_cases e1 : m = r
    · rw [if_pos e1, if_neg (show ¬ r < m by omega), if_neg (show ¬ 6 + r < m by omega), if_neg (show ¬ 12 + r < m by omega), if_pos (show r < m + 1 by omega), if_neg (show ¬ 6 + r < m + 1 by omega), if_neg (show ¬ 12 + r < m + 1 by omega)]
      omega
    · rw [if_neg e1]
      by_cases e2 : m = 6 + r
      · rw [if_pos e2, if_pos (show r < m by omega), if_neg (show ¬ 6 + r < m by omega), if_neg (show ¬ 12 + r < m by omega), if_pos (show r < m + 1 by omega), if_pos (show 6 + r < m + 1 by omega), if_neg (show ¬ 12 + r < m + 1 by omega)]
        omega
      · rw [if_neg e2]
        by_cases e3 : m = 12 + r
        · rw [if_pos e3, if_pos (show r < m by omega), if_pos (show 6 + r < m by omega), if_neg (show ¬ 12 + r < m by omega), if_pos (show r < m + 1 by omega), if_pos (show 6 + r < m + 1 by omega), if_pos (show 12 + r < m + 1 by omega)]
          omega
        · rw [if_neg e3, ifc (a := _) (b := _) (show r < m ↔ r < m + 1 by omega), ifc (a := _) (b := _) (show 6 + r < m ↔ 6 + r < m + 1 by omega), ifc (a := _) (b := _) (show 12 + r < m ↔ 12 + r < m + 1 by omega)]
          omega
theorem mnI_3 {s : Nat} {r : Int} {u : Nat} (hu : u ≤ 3) : mnI s r u = (if 0 < u ∧ (rm s 0 : Int) = r then 1 else 0) + (if 1 < u ∧ (rm s 1 : Int) = r then 1 else 0) + (if 2 < u ∧ (rm s 2 : Int) = r then 1 else 0) := by
  have : u = 0 ∨ u = 1 ∨ u = 2 ∨ u = 3 := by omega
  rcases this with rfl | rfl | rfl | rfl <;> simp [mnI]
theorem pc_room (k : PKR I p h n κ) {j r : Nat} (hj : j < n) (hr : r < 6) : pc (z_and (I (p + 7) (j : Int)) (z_shl 4161 (r : Int))) = mnI (sgX I p h j) (r : Int) (us κ) := by
  have hu := (PK_us k.1).1
  have t41 : ∀ b, b < 32 → (tb 4161 b = true ↔ b = 0 ∨ b = 6 ∨ b = 12) := by decide
  have tsh : ∀ b, b < 32 → (tb (z_shl 4161 (r : Int)) b = true ↔ b = r ∨ b = 6 + r ∨ b = 12 + r) := fun b hb => by
    rw [tb_shl (by omega) hb, Bool.and_eq_true, decide_eq_true_eq, Int.toNat_natCast, t41 (b - r) (by omega)]
    omega
  have h0 : 0 ≤ z_shl 4161 (r : Int) ∧ z_shl 4161 (r : Int) ≤ 2147483647 := by
    have := z_shl_r 4161 (r : Int)
    refine ⟨(tb_nn this).mpr ?_, this.2⟩
    cases q : tb (z_shl 4161 (r : Int)) 31
    · rfl
    · have := (tsh 31 (by omega)).mp q
      omega
  rw [pc_smi (z_and_cap h0), mnI_3 hu]
  have sp : ∀ w : Nat, w < 3 → (tb (I (p + 7) (j : Int)) (6 * w + r) = true ↔ w < us κ ∧ ((rm (sgX I p h j) w : Nat) : Int) = (r : Int)) := fun w hw => by
    rw [tb_sp k.1 hj (by omega)]
    constructor
    · rintro ⟨v, hv, e⟩
      have h1 := (rm_sg k.1 hj hv).2
      have h6 := k.1.1.2.1.1
      have : v = w := by omega
      subst this
      exact ⟨hv, by omega⟩
    · rintro ⟨h1, h2⟩
      exact ⟨w, h1, Or.inl (by omega)⟩
  have e := smi_3 (a := if 0 < us κ ∧ ((rm (sgX I p h j) 0 : Nat) : Int) = (r : Int) then 1 else 0) (b := if 1 < us κ ∧ ((rm (sgX I p h j) 1 : Nat) : Int) = (r : Int) then 1 else 0) (c := if 2 < us κ ∧ ((rm (sgX I p h j) 2 : Nat) : Int) = (r : Int) then 1 else 0) hr 32
  rw [if_pos (show r < 32 by omega), if_pos (show 6 + r < 32 by omega), if_pos (show 12 + r < 32 by omega)] at e
  rw [← e]
  refine smi_cg _ (fun b hb => ?_)
  rw [tb_and]
  have s0 := sp 0 (by omega)
  have s1 := sp 1 (by omega)
  have s2 := sp 2 (by omega)
  rw [show 6 * 0 + r = r by omega] at s0
  rw [show 6 * 1 + r = 6 + r by omega] at s1
  rw [show 6 * 2 + r = 12 + r by omega] at s2
  have tt := tsh b hb
  by_cases e1 : b = r
  · rw [if_pos e1, e1, (tsh r (by omega)).mpr (Or.inl rfl), Bool.and_true]
    exact ifc s0
  · rw [if_neg e1]
    by_cases e2 : b = 6 + r
    · rw [if_pos e2, e2, (tsh (6 + r) (by omega)).mpr (Or.inr (Or.inl rfl)), Bool.and_true]
      exact ifc s1
    · rw [if_neg e2]
      by_cases e3 : b = 12 + r
      · rw [if_pos e3, e3, (tsh (12 + r) (by omega)).mpr (Or.inr (Or.inr rfl)), Bool.and_true]
        exact ifc s2
      · rw [if_neg e3, if_neg]
        rw [Bool.and_eq_true, tt]
        rintro ⟨-, z⟩
        omega
theorem fi_eq (k : PKR I p h n κ) (st : SETS κ I L p h n) (ht : t ≤ lst κ) (fit : fst0 κ = -9) {r : Nat} (hr : r < 6) : ltA I L p t (z_shl 4161 (r : Int)) n = fiF κ (r : Int) t (nst κ) := by
  have hl := PK_last k.1
  have hn := (PQ_n k.1.1).2
  have hu := (PK_us k.1).1
  obtain ⟨s0, hs0, ha0⟩ := alv_some fit (lst κ - t) t (by omega)
  have m0 := mnI_r s0 (r : Int) (us κ)
  have f0 := fiF_le (r := (r : Int)) _ hs0 ha0
  have up : ltA I L p t (z_shl 4161 (r : Int)) n ≤ fiF κ (r : Int) t (nst κ) := by
    rcases fiF_at (κ := κ) (t := t) (r := (r : Int)) (nst κ) with q | ⟨s, hs, ha, q⟩
    · omega
    · obtain ⟨j, hj, rfl⟩ := alv_cl k (by omega) hs ha
      rw [q, ← pc_room k hj hr]
      exact ltA_le n hj ((st t ht j (by omega)).mpr ⟨hj, ha⟩)
  rcases ltA_at (I := I) (L := L) (p := p) (t := t) (th := z_shl 4161 (r : Int)) n with q | ⟨j, hj, hi, q⟩
  · omega
  · have ha := ((st t ht j (by omega)).mp hi).2
    have := fiF_le (r := (r : Int)) _ (sgX_lt k.1 hj).1 ha
    rw [pc_room k hj hr] at q
    omega
theorem mo_eq (k : PKR I p h n κ) (st : SETS κ I L p h n) (ht : t ≤ lst κ) {r : Nat} (hr : r < 6) : mtA I L p t (z_shl 4161 (r : Int)) n = moF κ (r : Int) t (nst κ) := by
  have hl := PK_last k.1
  have hn := (PQ_n k.1.1).2
  have hm := mtA_r I L p t (z_shl 4161 (r : Int)) n
  have hmo := moF_r κ (r : Int) t (nst κ)
  have up : moF κ (r : Int) t (nst κ) ≤ mtA I L p t (z_shl 4161 (r : Int)) n := by
    rcases moF_at (κ := κ) (t := t) (r := (r : Int)) (nst κ) with q | ⟨s, hs, ha, q⟩
    · omega
    · obtain ⟨j, hj, rfl⟩ := alv_cl k (by omega) hs ha
      rw [q, ← pc_room k hj hr]
      exact mtA_le n hj ((st t ht j (by omega)).mpr ⟨hj, ha⟩)
  rcases mtA_at (I := I) (L := L) (p := p) (t := t) (th := z_shl 4161 (r : Int)) n with q | ⟨j, hj, hi, q⟩
  · omega
  · have ha := ((st t ht j (by omega)).mp hi).2
    have := moF_le (r := (r : Int)) _ (sgX_lt k.1 hj).1 ha
    rw [pc_room k hj hr] at q
    omega
theorem em_eq (k : PKR I p h n κ) (st : SETS κ I L p h n) (ht : t ≤ lst κ) : z_and (z_shl 1 (I h 0) - 1) (z_xor (z_shr (mbF I L p t n) 18) (-1)) = emN κ t (κ 0 11).toNat := by
  have h6 := k.1.1.2.1.1
  have h0 : I h 0 = κ 0 11 := k.1.2.2.2.2.1.1
  have hu := (PK_us k.1).1
  refine tb_ext (z_and_r _ _) (orf_r _ _) (fun b hb => ?_)
  rw [Bool.eq_iff_iff, tb_and, tb_low (by omega) hb, Bool.and_eq_true, decide_eq_true_eq, tb_xor, tb_m1 hb, Bool.xor_true, Bool.not_eq_true']
  unfold emN
  rw [tb_orf]
  have mo : ∀ r : Nat, moF κ (r : Int) t (nst κ) = 0 ↔ ∀ s, s < nst κ → alv κ t s = true → ∀ w, w < us κ → rm s w ≠ r := fun r => by
    constructor
    · intro q s hs ha w hw e
      have h1 := moF_le (r := (r : Int)) _ hs ha
      have h2 := (mnI_pos _).mpr ⟨w, hw, e⟩
      omega
    · intro q
      rcases moF_at (κ := κ) (t := t) (r := (r : Int)) (nst κ) with z | ⟨s, hs, ha, z⟩
      · exact z
      · have h2 : ¬ 0 < mnI s (r : Int) (us κ) := fun y => by
          obtain ⟨w, hw, e⟩ := (mnI_pos _).mp y
          exact q s hs ha w hw e
        have := mnI_r s (r : Int) (us κ)
        omega
  have sh : (b : Int) < I h 0 → (tb (z_shr (mbF I L p t n) 18) b = true ↔ ∃ s, s < nst κ ∧ alv κ t s = true ∧ ∃ w, w < us κ ∧ rm s w = b) := fun hb2 => by
    rw [tb_shr (by omega) (by omega), may_iff k st ht (by omega)]
    constructor
    · rintro ⟨s, hs, ha, w, hw, e⟩
      have hr := al_room k ht hs ha hw
      exact ⟨s, hs, ha, w, hw, by omega⟩
    · rintro ⟨s, hs, ha, w, hw, e⟩
      exact ⟨s, hs, ha, w, hw, Or.inr (by omega)⟩
  constructor
  · rintro ⟨h1, h2⟩
    refine ⟨b, by omega, ?_⟩
    have hm : moF κ (b : Int) t (nst κ) = 0 := (mo b).mpr (fun s hs ha w hw e => by
      rw [(sh h1).mpr ⟨s, hs, ha, w, hw, e⟩] at h2
      exact Bool.noConfusion h2)
    rw [if_pos hm, tb_sh1 (by omega) hb, decide_eq_true_eq]
    omega
  · rintro ⟨r, hr, q⟩
    by_cases hm : moF κ (r : Int) t (nst κ) = 0
    · rw [if_pos hm, tb_sh1 (by omega) hb, decide_eq_true_eq] at q
      have hbr : b = r := by omega
      subst hbr
      refine ⟨by omega, ?_⟩
      cases z : tb (z_shr (mbF I L p t n) 18) b
      · rfl
      · obtain ⟨s, hs, ha, w, hw, e⟩ := (sh (by omega)).mp z
        exact absurd e ((mo b).mp hm s hs ha w hw)
    · rw [if_neg hm, tb_0] at q
      exact Bool.noConfusion q
theorem es_eq (k : PKR I p h n κ) (st : SETS κ I L p h n) (ht : t ≤ lst κ) (fit : fst0 κ = -9) : z_shr (muF I L p t n) 18 = emS κ t (κ 0 11).toNat := by
  have h6 := k.1.1.2.1.1
  have h0 : I h 0 = κ 0 11 := k.1.2.2.2.2.1.1
  have hu := (PK_us k.1).1
  have hm := mu_nn k st ht fit
  have hm2 := (muF_r I L p t n).2
  obtain ⟨s0, hs0, ha0⟩ := alv_some fit (lst κ - t) t (by have := PK_last k.1; omega)
  refine tb_ext (z_shr_r _ _) (orf_r _ _) (fun b hb => ?_)
  rw [Bool.eq_iff_iff, tb_shr0 ⟨hm, hm2⟩ (by omega) hb]
  unfold emS
  rw [tb_orf]
  have fi : ∀ r : Nat, 0 < fiF κ (r : Int) t (nst κ) ↔ ∀ s, s < nst κ → alv κ t s = true → ∃ w, w < us κ ∧ rm s w = r := fun r => by
    constructor
    · intro q s hs ha
      have h1 := fiF_le (r := (r : Int)) _ hs ha
      exact (mnI_pos _).mp (by omega)
    · intro q
      rcases fiF_at (κ := κ) (t := t) (r := (r : Int)) (nst κ) with z | ⟨s, hs, ha, z⟩
      · omega
      · rw [z]
        exact (mnI_pos _).mpr (q s hs ha)
  have sh : tb (muF I L p t n) (b + (18 : Int).toNat) = true ↔ ∀ s, s < nst κ → alv κ t s = true → ∃ w, w < us κ ∧ rm s w = b := by
    by_cases hb2 : b < 14
    · rw [show b + (18 : Int).toNat = b + 18 from rfl, mus_iff k st ht (show b + 18 < 32 by omega)]
      constructor
      · intro q s hs ha
        obtain ⟨w, hw, e⟩ := q s hs ha
        have hr := al_room k ht hs ha hw
        exact ⟨w, hw, by omega⟩
      · intro q s hs ha
        obtain ⟨w, hw, e⟩ := q s hs ha
        exact ⟨w, hw, Or.inr (by omega)⟩
    · rw [tb_big _ (show 32 ≤ b + (18 : Int).toNat by show 32 ≤ b + 18; omega)]
      refine ⟨fun q => Bool.noConfusion q, fun q => ?_⟩
      obtain ⟨w, hw, e⟩ := q s0 hs0 ha0
      have hr := al_room k ht hs0 ha0 hw
      omega
  rw [sh]
  constructor
  · intro q
    obtain ⟨w, hw, e⟩ := q s0 hs0 ha0
    have hr := al_room k ht hs0 ha0 hw
    refine ⟨b, by omega, ?_⟩
    rw [if_pos ((fi b).mpr q), tb_sh1 (by omega) hb, decide_eq_true_eq]
    omega
  · rintro ⟨r, hr, q⟩
    by_cases hm : 0 < fiF κ (r : Int) t (nst κ)
    · rw [if_pos hm, tb_sh1 (by omega) hb, decide_eq_true_eq] at q
      have hbr : b = r := by omega
      subst hbr
      exact (fi b).mp hm
    · rw [if_neg hm, tb_0] at q
      exact Bool.noConfusion q
end

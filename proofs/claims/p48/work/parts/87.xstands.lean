/-! THE CLASS: the Walks: how long one stood. -/
theorem tbl_m1 {k : Nat} (h : k < 64) : tbl (-1) k = true := by
  have : ∀ k, k < 64 → tbl (-1) k = true := by decide
  exact this k h
theorem soX_bit {V d : Int} {N : Nat} (hN : 1 ≤ N ∧ N ≤ 30) (hV : ∀ b, N < b → b < 64 → tbl V b = false) {b : Nat} (hb : b < 64) : tbl (soX V (z_shll 1 (N : Int)) d) b = true ↔ (b = N ∧ tbl V N = true) ∨ (d = 0 ∧ ∃ b', b' < N ∧ tbl V b' = true ∧ b = b' + 1) ∨ (d ≠ 0 ∧ b = 0 ∧ ∃ b', b' < N ∧ tbl V b' = true) := by
  have hs : ∀ k, k < 64 → tbl (z_shll 1 (N : Int)) k = decide (k = N) := fun k hk => by rw [tbl_sh1 (by omega) hk, Int.toNat_natCast]
  have hd : ∀ k, k < 64 → tbl (z_landl V (z_shll 1 (N : Int))) k = (tbl V k && decide (k = N)) := fun k hk => by rw [tbl_and, hs k hk]
  have ho : ∀ k, k < 64 → (tbl (z_landl V (z_lxorl (z_shll 1 (N : Int)) (-1))) k = true ↔ k < N ∧ tbl V k = true) := fun k hk => by
    rw [tbl_and, tbl_xor, hs k hk, tbl_m1 hk, Bool.and_eq_true]
    constructor
    · rintro ⟨z1, z2⟩
      have z3 : ¬ k = N := fun e => by rw [e] at z2; simp at z2
      refine ⟨?_, z1⟩
      apply Classical.byContradiction
      intro z4
      rw [hV k (by omega) hk] at z1
      exact Bool.noConfusion z1
    · rintro ⟨z1, z2⟩
      refine ⟨z2, ?_⟩
      rw [decide_eq_false (by omega)]
      rfl
  unfold soX
  by_cases q : d = 0
  · rw [if_pos q, tbl_or, Bool.or_eq_true, hd b hb, tbl_shl (by omega) hb, Bool.and_eq_true, Bool.and_eq_true, decide_eq_true_eq, decide_eq_true_eq]
    constructor
    · rintro (⟨z1, z2⟩ | ⟨z1, z2⟩)
      · subst z2; exact Or.inl ⟨rfl, z1⟩
      · have z3 : (1 : Int).toNat = 1 := rfl
        rw [z3] at z1 z2
        have z4 := (ho (b - 1) (by omega)).mp z2
        exact Or.inr (Or.inl ⟨q, b - 1, z4.1, z4.2, by omega⟩)
    · rintro (⟨z1, z2⟩ | ⟨-, b', z1, z2, z3⟩ | ⟨z, -⟩)
      · rw [z1]; exact Or.inl ⟨z2, rfl⟩
      · have z4 : (1 : Int).toNat = 1 := rfl
        rw [z4]
        refine Or.inr ⟨by omega, ?_⟩
        rw [z3, Nat.add_sub_cancel]
        exact (ho b' (by omega)).mpr ⟨z1, z2⟩
      · exact absurd q z
  · rw [if_neg q]
    have hz : z_landl V (z_lxorl (z_shll 1 (N : Int)) (-1)) = 0 ↔ ∀ b', b' < N → tbl V b' = false := by
      constructor
      · intro z b' hb'
        cases y : tbl V b'
        · rfl
        · have := (ho b' (by omega)).mpr ⟨hb', y⟩
          rw [z, tbl_0] at this
          exact Bool.noConfusion this
      · intro z
        refine tbl_ext (z_landl_r _ _) (by omega) (fun k hk => ?_)
        rw [tbl_0]
        cases y : tbl (z_landl V (z_lxorl (z_shll 1 (N : Int)) (-1))) k
        · rfl
        · obtain ⟨y1, y2⟩ := (ho k hk).mp y
          rw [z k y1] at y2
          exact Bool.noConfusion y2
    by_cases z : z_landl V (z_lxorl (z_shll 1 (N : Int)) (-1)) = 0
    · rw [if_pos z, hd b hb, Bool.and_eq_true, decide_eq_true_eq]
      constructor
      · rintro ⟨z1, z2⟩
        subst z2; exact Or.inl ⟨rfl, z1⟩
      · rintro (⟨z1, z2⟩ | ⟨y, -⟩ | ⟨-, -, b', y1, y2⟩)
        · rw [z1]; exact ⟨z2, rfl⟩
        · exact absurd y q
        · rw [hz.mp z b' y1] at y2
          exact Bool.noConfusion y2
    · rw [if_neg z, tbl_or, Bool.or_eq_true, hd b hb, tbl_1, Bool.and_eq_true, decide_eq_true_eq, decide_eq_true_eq]
      constructor
      · rintro (⟨z1, z2⟩ | z1)
        · subst z2; exact Or.inl ⟨rfl, z1⟩
        · refine Or.inr (Or.inr ⟨q, z1, ?_⟩)
          apply Classical.byContradiction
          intro y
          refine z (hz.mpr (fun b' hb' => ?_))
          cases y2 : tbl V b'
          · rfl
          · exact absurd ⟨b', hb', y2⟩ y
      · rintro (⟨z1, z2⟩ | ⟨y, -⟩ | ⟨-, y, -⟩)
        · rw [z1]; exact Or.inl ⟨z2, rfl⟩
        · exact absurd y q
        · exact Or.inr y
theorem or_fold {α : Type} (g : α → Prop) [DecidablePred g] (f : α → Int) (b : Nat) : ∀ (l : List α) (w : Int), tbl (l.foldl (fun w q => if g q then z_lorl w (f q) else w) w) b = true ↔ tbl w b = true ∨ ∃ q, q ∈ l ∧ g q ∧ tbl (f q) b = true
  | [], w => ⟨Or.inl, fun z => z.elim id (fun ⟨q, z, _⟩ => absurd z (List.not_mem_nil))⟩
  | q :: l, w => by
    rw [List.foldl_cons, or_fold g f b l, ← ex_cons (P := fun q => g q ∧ tbl (f q) b = true) Iff.rfl, ← or_assoc]
    refine or_congr ?_ Iff.rfl
    by_cases z : g q
    · rw [if_pos z, tbl_or, Bool.or_eq_true]
      exact or_congr Iff.rfl ⟨fun y => ⟨z, y⟩, fun y => y.2⟩
    · rw [if_neg z]
      exact ⟨Or.inl, fun y => y.elim id (fun y => absurd y.1 z)⟩
theorem or_fold_r {α : Type} (g : α → Prop) [DecidablePred g] (f : α → Int) : ∀ (l : List α) (w : Int), rL w → rL (l.foldl (fun w q => if g q then z_lorl w (f q) else w) w)
  | [], w, h => h
  | q :: l, w, h => by
    rw [List.foldl_cons]
    refine or_fold_r g f l _ ?_
    split
    · exact z_lorl_r _ _
    · exact h
theorem stI_lt {κ : MI} {w n : Nat} (hn : 1 ≤ n) : ∀ t s b, stI κ w n t s b → b < n
  | 0, s, b, h => by have := h.2.2; omega
  | t + 1, s, b, h => by
    obtain ⟨_, _, _, _, _, _, _, h5⟩ := h
    exact h5
/-- the bits of a state's value: how long he has stood by some way; that he once stood so long -/
def STB (κ I : MI) (p h n w N t : Nat) (K : Nat → Int) : Prop := ∀ x, x < n → rL (K x) ∧ ∀ b, b < 64 → (tbl (K x) b = true ↔ stI κ w N t (sgX I p h x) b ∨ (b = N ∧ stJ1 κ w N t (sgX I p h x)))
theorem STB.hi {κ I : MI} {p h n w N t : Nat} {K : Nat → Int} (hN : 1 ≤ N) (s : STB κ I p h n w N t K) {x : Nat} (hx : x < n) : ∀ b, N < b → b < 64 → tbl (K x) b = false := fun b h1 h2 => by
  cases q : tbl (K x) b
  · rfl
  · rcases ((s x hx).2 b h2).mp q with z | ⟨z, -⟩
    · have := stI_lt hN _ _ _ z; omega
    · omega
theorem z_sh_nz {d : Nat} (h : d < 32) : z_shl 1 (d : Int) ≠ 0 := fun z => by
  have h1 : tb (z_shl 1 (d : Int)) d = true := by rw [tb_sh1 (by omega) h, Int.toNat_natCast]; exact decide_eq_true rfl
  rw [z, tb_0] at h1
  exact Bool.noConfusion h1
theorem dv_0 {κ : MI} (hH : iHs κ) {t s c w : Nat} (hw : w < us κ) (hs : s < 1728) : dv κ (t : Int) s c w = 0 ↔ mvd κ (t : Int) s c w < 0 := by
  have h1 := (mv_r hH (t := (t : Int)) hs c w).1
  unfold dv
  by_cases q : mvd κ (t : Int) s c w < 0
  · rw [if_neg (by omega)]; exact ⟨fun _ => q, fun _ => rfl⟩
  · rw [if_pos ⟨hw, by omega⟩]
    constructor
    · intro z
      obtain ⟨d, hd⟩ : ∃ d : Nat, mvd κ (t : Int) s c w = (d : Int) := ⟨(mvd κ (t : Int) s c w).toNat, by omega⟩
      rw [hd] at z
      exact absurd z (z_sh_nz (by omega))
    · intro z; exact absurd z q
/-- one minute more -/
theorem STB.st {κ J : MI} {p h n w N t : Nat} (k : PKR J p h n κ) (ht : (t : Int) < J h 3) (hw : w < us κ) (hN : 1 ≤ N ∧ N ≤ 30) {K : Nat → Int} (s : STB κ J p h n w N t K) {x : Nat} (hx : x < n) (ha : alv κ (t + 1) (sgX J p h x) = true) {b : Nat} (hb : b < 64) :
    tbl ((clS J p h (t : Int) (fun j => decide (K j ≠ 0)) n).foldl (fun v q => if q.2.1.toNat = x then z_lorl v (soX (K q.1) (z_shll 1 (N : Int)) (dD q.2.2 w)) else v) 0) b = true ↔ stI κ w N (t + 1) (sgX J p h x) b ∨ (b = N ∧ stJ1 κ w N (t + 1) (sgX J p h x)) := by
  have u := PK_us k.1
  have hH := k.1.2.1
  have hS := k.1.2.2.1
  rw [or_fold (fun q : Nat × LT => q.2.1.toNat = x) (fun q : Nat × LT => soX (K q.1) (z_shll 1 (N : Int)) (dD q.2.2 w)) b]
  have hnz : ∀ {y b'}, tbl (K y) b' = true → K y ≠ 0 := fun {y b'} z e => by
    rw [e, tbl_0] at z
    exact Bool.noConfusion z
  have step : (tbl 0 b = true ∨ ∃ q, q ∈ clS J p h (t : Int) (fun j => decide (K j ≠ 0)) n ∧ q.2.1.toNat = x ∧ tbl (soX (K q.1) (z_shll 1 (N : Int)) (dD q.2.2 w)) b = true) ↔ ∃ j c, j < n ∧ K j ≠ 0 ∧ c < mal κ (t : Int) (sgX J p h j) ∧ vld κ (t : Int) (sgX J p h j) c = true ∧ nxt κ (t : Int) (sgX J p h j) c = sgX J p h x ∧ tbl (soX (K j) (z_shll 1 (N : Int)) (dv κ (t : Int) (sgX J p h j) c w)) b = true := by
    constructor
    · rintro (z | ⟨⟨j, s'⟩, z1, z2, z3⟩)
      · rw [tbl_0] at z; exact Bool.noConfusion z
      · obtain ⟨y1, y2, y3⟩ := clS_mem k.1.1 (Nat.le_refl n) z1
        have y1' : j < n := y1
        have y2' : K j ≠ 0 := by
          have : decide (K j ≠ 0) = true := y2
          rw [decide_eq_true_eq] at this
          exact this
        have y3' : s' ∈ stX J p h (t : Int) j := y3
        have z2' : s'.1.toNat = x := z2
        obtain ⟨⟨y, hy, ey⟩, -⟩ := stX_mem k.1.1 y1' y3'
        rw [ey, Int.toNat_natCast] at z2'
        subst z2'
        obtain ⟨c, c1, c2, c3, c4⟩ := (stp_mem k y1' ht (fun s2 D => s2 = sgX J p h y ∧ tbl (soX (K j) (z_shll 1 (N : Int)) (dD D w)) b = true)).mp ⟨y, s'.2, hy, by rw [← ey]; exact y3', Fr_ok k hy ht (alv_iff.mp ha).1, rfl, z3⟩
        refine ⟨j, c, y1', y2', c1, c2, c3, ?_⟩
        rw [← dD_dv κ t _ c w (by omega)]
        exact c4
    · rintro ⟨j, c, hj, hv, c1, c2, c3, c4⟩
      rw [← dD_dv κ t _ c w (by omega)] at c4
      obtain ⟨y, D, hy, hm, hf, e, z⟩ := (stp_mem k hj ht (fun s2 D => s2 = sgX J p h x ∧ tbl (soX (K j) (z_shll 1 (N : Int)) (dD D w)) b = true)).mpr ⟨c, c1, c2, c3, c4⟩
      have e2 := sgX_inj k.1.1 hy hx e
      subst e2
      refine Or.inr ⟨(j, ((y : Int), D)), ?_, ?_, z⟩
      · refine List.mem_flatMap.mpr ⟨j, List.mem_range.mpr hj, ?_⟩
        rw [if_pos (decide_eq_true hv)]
        exact List.mem_map.mpr ⟨_, hm, rfl⟩
      · exact Int.toNat_natCast y
  rw [step]
  constructor
  · rintro ⟨j, c, hj, hv, c1, c2, c3, c4⟩
    have hlt := (sgX_lt k.1 hj)
    have hd := dv_0 hH (t := t) (c := c) hw hlt.2
    have bits := (s j hj).2
    rw [soX_bit hN (s.hi hN.1 hj) hb] at c4
    have mk : alv κ t (sgX J p h j) = true → SR κ t (sgX J p h j) c := fun a => ⟨hlt.1, a, c1, c2, by rw [c3]; exact ha⟩
    rcases c4 with ⟨e, z⟩ | ⟨e, b', z1, z2, z3⟩ | ⟨e, z3, b', z1, z2⟩
    · rcases (bits N (by omega)).mp z with y | ⟨-, y⟩
      · have := stI_lt hN.1 _ _ _ y; omega
      · exact Or.inr ⟨e, _, c, mk (stJ1_a hH hS _ _ y).2, c3, Or.inl y⟩
    · rcases (bits b' (by omega)).mp z2 with y | ⟨y, -⟩
      · have hSR := mk (stI_a hH hS _ _ _ y).2
        have hm := hd.mp e
        by_cases q : b' + 1 < N
        · exact Or.inl ⟨_, c, b', hSR, c3, y, by rw [if_pos hm]; exact z3, by omega⟩
        · exact Or.inr ⟨by omega, _, c, hSR, c3, Or.inr ⟨b', y, hm, by omega⟩⟩
      · omega
    · rcases (bits b' (by omega)).mp z2 with y | ⟨y, -⟩
      · have hSR := mk (stI_a hH hS _ _ _ y).2
        exact Or.inl ⟨_, c, b', hSR, c3, y, by rw [if_neg (fun z => e (hd.mpr z))]; exact z3, by omega⟩
      · omega
  · have mk : ∀ s0 c, SR κ t s0 c → nxt κ (t : Int) s0 c = sgX J p h x → ∃ j, j < n ∧ sgX J p h j = s0 := fun s0 c h1 _ => alv_cl k (by omega) h1.1 h1.2.1
    rintro (⟨s0, c, b', h1, h2, h3, h4, h5⟩ | ⟨hbN, s0, c, h1, h2, h3⟩)
    · obtain ⟨j, hj, rfl⟩ := mk s0 c h1 h2
      have hd := dv_0 hH (t := t) (c := c) hw (sgX_lt k.1 hj).2
      have hlt := stI_lt hN.1 _ _ _ h3
      have hbit := ((s j hj).2 b' (by omega)).mpr (Or.inl h3)
      refine ⟨j, c, hj, hnz hbit, h1.2.2.1, h1.2.2.2.1, h2, ?_⟩
      rw [soX_bit hN (s.hi hN.1 hj) hb]
      by_cases q : mvd κ (t : Int) (sgX J p h j) c w < 0
      · rw [if_pos q] at h4
        exact Or.inr (Or.inl ⟨hd.mpr q, b', hlt, hbit, h4⟩)
      · rw [if_neg q] at h4
        exact Or.inr (Or.inr ⟨fun z => q (hd.mp z), h4, b', hlt, hbit⟩)
    · obtain ⟨j, hj, rfl⟩ := mk s0 c h1 h2
      have hd := dv_0 hH (t := t) (c := c) hw (sgX_lt k.1 hj).2
      rcases h3 with h3 | ⟨b', h3, h4, h5⟩
      · have hbit := ((s j hj).2 N (by omega)).mpr (Or.inr ⟨rfl, h3⟩)
        refine ⟨j, c, hj, hnz hbit, h1.2.2.1, h1.2.2.2.1, h2, ?_⟩
        rw [soX_bit hN (s.hi hN.1 hj) hb]
        exact Or.inl ⟨hbN, hbit⟩
      · have hlt := stI_lt hN.1 _ _ _ h3
        have hbit := ((s j hj).2 b' (by omega)).mpr (Or.inl h3)
        refine ⟨j, c, hj, hnz hbit, h1.2.2.1, h1.2.2.2.1, h2, ?_⟩
        rw [soX_bit hN (s.hi hN.1 hj) hb]
        exact Or.inr (Or.inl ⟨hd.mpr h4, b', hlt, hbit, by omega⟩)



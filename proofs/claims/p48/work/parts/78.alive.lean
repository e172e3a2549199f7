/-! CLASS AND REFERENCE: what goes on to the end. -/
theorem vl_iff {I κ : MI} {p t s c : Nat} (hr : hRd I κ p t) : (z_and (pas κ (t : Int) s c) (I p 2) = z_and (I (p + 1) (t : Int)) (I p 2) ∧ okb κ ((t : Int) + 1) (nxt κ (t : Int) s c) = true) ↔ vld κ (t : Int) s c = true := by
  unfold vld
  rw [Bool.and_eq_true, beq_iff_eq, hr.2, hr.1]
/-- the steps out of a joint state, as members -/
theorem stp_mem {I κ : MI} {p h n j t : Nat} (k : PKR I p h n κ) (hj : j < n) (ht : (t : Int) < I h 3) (Q : Nat → Int × Int × Int → Prop) :
    (∃ (x : Nat) (D : Int × Int × Int), x < n ∧ ((x : Int), D) ∈ stX I p h (t : Int) j ∧ ftX I p (x : Int) ((t : Int) + 1) = true ∧ Q (sgX I p h x) D) ↔ ∃ c, c < mal κ (t : Int) (sgX I p h j) ∧ vld κ (t : Int) (sgX I p h j) c = true ∧ Q (nxt κ (t : Int) (sgX I p h j) c) (dv κ (t : Int) (sgX I p h j) c 0, dv κ (t : Int) (sgX I p h j) c 1, dv κ (t : Int) (sgX I p h j) c 2) := by
  have pm := stp_perm k.1 hj ht
  have hr := k.2 t ht
  constructor
  · rintro ⟨x, D, hx, hm, hf, hq⟩
    have h1 : (sgX I p h x, D) ∈ (stX I p h (t : Int) j).flatMap fun s => one (ftX I p s.1 ((t : Int) + 1)) (sgX I p h s.1.toNat, s.2) := by
      refine List.mem_flatMap.mpr ⟨_, hm, ?_⟩
      unfold one
      rw [if_pos hf]
      exact List.mem_singleton.mpr rfl
    obtain ⟨c, hc, h2⟩ := List.mem_flatMap.mp (pm.mem_iff.mp h1)
    unfold one at h2
    split at h2
    · rename_i hv
      rw [Bool.and_eq_true, decide_eq_true_eq, vl_iff hr] at hv
      have e := List.mem_singleton.mp h2
      rw [Prod.mk.injEq] at e
      rw [e.1, e.2] at hq
      exact ⟨c, List.mem_range.mp hc, hv, hq⟩
    · exact absurd h2 (List.not_mem_nil)
  · rintro ⟨c, hc, hv, hq⟩
    have h1 : (nxt κ (t : Int) (sgX I p h j) c, dv κ (t : Int) (sgX I p h j) c 0, dv κ (t : Int) (sgX I p h j) c 1, dv κ (t : Int) (sgX I p h j) c 2) ∈ (List.range (mal κ (t : Int) (sgX I p h j))).flatMap fun c => one (decide (z_and (pas κ (t : Int) (sgX I p h j) c) (I p 2) = z_and (I (p + 1) (t : Int)) (I p 2)) && okb κ ((t : Int) + 1) (nxt κ (t : Int) (sgX I p h j) c)) (nxt κ (t : Int) (sgX I p h j) c, dv κ (t : Int) (sgX I p h j) c 0, dv κ (t : Int) (sgX I p h j) c 1, dv κ (t : Int) (sgX I p h j) c 2) := by
      refine List.mem_flatMap.mpr ⟨c, List.mem_range.mpr hc, ?_⟩
      unfold one
      rw [if_pos (by rw [Bool.and_eq_true, decide_eq_true_eq]; exact (vl_iff hr).mpr hv)]
      exact List.mem_singleton.mpr rfl
    obtain ⟨s, hs, h2⟩ := List.mem_flatMap.mp (pm.mem_iff.mpr h1)
    unfold one at h2
    split at h2
    · rename_i hf
      have e := List.mem_singleton.mp h2
      obtain ⟨⟨x, hx, ex⟩, -⟩ := stX_mem k.1.1 hj hs
      rw [Prod.mk.injEq] at e
      rw [ex] at hf
      rw [e.1, e.2, ex, Int.toNat_natCast] at hq
      exact ⟨x, s.2, hx, by rw [← ex]; exact hs, hf, hq⟩
    · exact absurd h2 (List.not_mem_nil)
/-- a capped sum is above 0 just where a summand is -/
theorem cap_pos {α : Type} {f : α → Int} {g : α → Bool} (hf : ∀ y, 0 ≤ f y) : ∀ (l : List α) (w : Int), 0 ≤ w → (0 < l.foldl (fun w y => if g y = true then capX (w + f y) else w) w ↔ 0 < w ∨ ∃ y, y ∈ l ∧ g y = true ∧ 0 < f y)
  | [], w, hw => by
    show 0 < w ↔ _
    constructor
    · exact Or.inl
    · rintro (q | ⟨y, q, -⟩)
      · exact q
      · exact absurd q (List.not_mem_nil)
  | y :: l, w, hw => by
    have h0 := hf y
    rw [List.foldl_cons]
    by_cases q : g y = true
    · have h1 := capX_r (x := w + f y) (by omega)
      rw [if_pos q, cap_pos hf l _ h1.1]
      have h2 : 0 < capX (w + f y) ↔ 0 < w ∨ 0 < f y := by unfold capX; split <;> omega
      rw [h2]
      constructor
      · rintro ((z | z) | ⟨x, z1, z2⟩)
        · exact Or.inl z
        · exact Or.inr ⟨y, List.mem_cons_self, q, z⟩
        · exact Or.inr ⟨x, List.mem_cons_of_mem _ z1, z2⟩
      · rintro (z | ⟨x, z1, z2⟩)
        · exact Or.inl (Or.inl z)
        · rcases List.mem_cons.mp z1 with rfl | z1
          · exact Or.inl (Or.inr z2.2)
          · exact Or.inr ⟨x, z1, z2⟩
    · rw [if_neg q, cap_pos hf l _ hw]
      constructor
      · rintro (z | ⟨x, z1, z2⟩)
        · exact Or.inl z
        · exact Or.inr ⟨x, List.mem_cons_of_mem _ z1, z2⟩
      · rintro (z | ⟨x, z1, z2⟩)
        · exact Or.inl z
        · rcases List.mem_cons.mp z1 with rfl | z1
          · exact absurd z2.1 q
          · exact Or.inr ⟨x, z1, z2⟩
theorem fold_dec {α : Type} (p : α → Prop) [DecidablePred p] (f : α → Int → Int) (l : List α) (w : Int) : l.foldl (fun w y => if p y then f y w else w) w = l.foldl (fun w y => if decide (p y) = true then f y w else w) w := by
  refine foldl_congr l w (fun y _ w => ?_)
  by_cases q : p y
  · rw [if_pos q, if_pos (decide_eq_true q)]
  · rw [if_neg q, if_neg (by rw [decide_eq_true_eq]; exact q)]
theorem Fr_pos {κ : MI} {t s' : Nat} : 0 < Fr κ (t + 1) s' ↔ ∃ s c, s < nst κ ∧ 0 < Fr κ t s ∧ c < mal κ (t : Int) s ∧ vld κ (t : Int) s c = true ∧ nxt κ (t : Int) s c = s' := by
  have e2 : Fr κ (t + 1) s' = rwl κ (t : Int) (Fr κ t) (nst κ) s' := rfl
  rw [e2, rwl_fold, fold_dec (fun y : Nat × PT => y.2.1 = s') (fun y w => capX (w + Fr κ t y.1)), cap_pos (f := fun y : Nat × PT => Fr κ t y.1) (g := fun y : Nat × PT => decide (y.2.1 = s')) (fun y => (Fr_r κ t y.1).1) _ _ (Int.le_refl _)]
  constructor
  · rintro (q | ⟨y, h1, h2, h3⟩)
    · omega
    · rw [decide_eq_true_eq] at h2
      obtain ⟨c, c1, c2, c3, c4, c5, c6⟩ := mpQ_mem h1
      refine ⟨y.1, c, c1, h3, c3, ?_, ?_⟩
      · unfold vld
        rw [Bool.and_eq_true, beq_iff_eq]
        exact ⟨c4, c5⟩
      · rw [c6] at h2; exact h2
  · rintro ⟨s, c, h1, h2, h3, h4, h5⟩
    unfold vld at h4
    rw [Bool.and_eq_true, beq_iff_eq] at h4
    exact Or.inr ⟨_, mpQ_in h1 (decide_eq_true h2) h3 h4.1 h4.2, decide_eq_true h5, h2⟩
theorem rst_pos {κ : MI} {t : Int} {s : Nat} {B : Nat → Int} (hB : ∀ x, 0 ≤ B x ∧ B x ≤ 1000000000000001) : ∀ m, 0 < rst κ t s B m ↔ ∃ c, c < m ∧ vld κ t s c = true ∧ 0 < B (nxt κ t s c)
  | 0 => by
    show (0 : Int) < 0 ↔ _
    constructor
    · intro q; omega
    · rintro ⟨c, q, -⟩; omega
  | m + 1 => by
    have ih := rst_pos (κ := κ) (t := t) (s := s) hB m
    have h0 := rst_r (κ := κ) (t := t) (s := s) hB m
    have e : rst κ t s B (m + 1) = if vld κ t s m then mor (rst κ t s B m) (B (nxt κ t s m)) else rst κ t s B m := rfl
    rw [e]
    by_cases q : vld κ t s m = true
    · have hb := hB (nxt κ t s m)
      have h1 : 0 < mor (rst κ t s B m) (B (nxt κ t s m)) ↔ 0 < rst κ t s B m ∨ 0 < B (nxt κ t s m) := by unfold mor; split <;> omega
      rw [if_pos q, h1, ih]
      constructor
      · rintro (⟨c, z1, z2⟩ | z)
        · exact ⟨c, by omega, z2⟩
        · exact ⟨m, by omega, q, z⟩
      · rintro ⟨c, z1, z2⟩
        by_cases e : c = m
        · subst e; exact Or.inr z2.2
        · exact Or.inl ⟨c, by omega, z2⟩
    · rw [if_neg q, ih]
      constructor
      · rintro ⟨c, z1, z2⟩
        exact ⟨c, by omega, z2⟩
      · rintro ⟨c, z1, z2⟩
        by_cases e : c = m
        · subst e; exact absurd z2.1 q
        · exact ⟨c, by omega, z2⟩
theorem Re_lst (κ : MI) (s : Nat) : Re κ (lst κ) s = if 0 < Fr κ (lst κ) s then 1 else 0 := by
  unfold Re
  rw [Nat.sub_self]
  rfl
theorem Re_s {κ : MI} {t : Nat} (ht : t < lst κ) (s : Nat) : Re κ t s = if 0 < Fr κ t s then rst κ (t : Int) s (Re κ (t + 1)) (mal κ (t : Int) s) else 0 := by
  obtain ⟨u, hu⟩ : ∃ u, lst κ - t = u + 1 := ⟨lst κ - t - 1, by omega⟩
  have e1 : Re κ t s = Rb κ (u + 1) s := by unfold Re; rw [hu]
  have e2 : Re κ (t + 1) = Rb κ u := by funext x; unfold Re; rw [show lst κ - (t + 1) = u by omega]
  have e3 : Rb κ (u + 1) s = if 0 < Fr κ (lst κ - (u + 1)) s then rst κ ((lst κ - (u + 1) : Nat) : Int) s (Rb κ u) (mal κ ((lst κ - (u + 1) : Nat) : Int) s) else 0 := rfl
  rw [e1, e3, e2, show lst κ - (u + 1) = t by omega]
theorem alv_iff {κ : MI} {t s : Nat} : alv κ t s = true ↔ 0 < Fr κ t s ∧ 0 < Re κ t s := by
  unfold alv
  rw [Bool.and_eq_true, decide_eq_true_eq, decide_eq_true_eq]
theorem alv_last {κ : MI} {s : Nat} : alv κ (lst κ) s = true ↔ 0 < Fr κ (lst κ) s := by
  rw [alv_iff, Re_lst]
  constructor
  · exact fun q => q.1
  · intro q; rw [if_pos q]; exact ⟨q, by omega⟩
theorem alv_s {κ : MI} {t s : Nat} (ht : t < lst κ) (hs : s < nst κ) : alv κ t s = true ↔ 0 < Fr κ t s ∧ ∃ c, c < mal κ (t : Int) s ∧ vld κ (t : Int) s c = true ∧ alv κ (t + 1) (nxt κ (t : Int) s c) = true := by
  rw [alv_iff, Re_s ht]
  constructor
  · rintro ⟨h1, h2⟩
    rw [if_pos h1, rst_pos (Re_r κ (t + 1))] at h2
    obtain ⟨c, c1, c2, c3⟩ := h2
    exact ⟨h1, c, c1, c2, alv_iff.mpr ⟨Fr_pos.mpr ⟨s, c, hs, h1, c1, c2, rfl⟩, c3⟩⟩
  · rintro ⟨h1, c, c1, c2, c3⟩
    rw [if_pos h1, rst_pos (Re_r κ (t + 1))]
    exact ⟨h1, c, c1, c2, (alv_iff.mp c3).2⟩
/-- what a step to what is alive comes from is alive -/
theorem alv_b {κ : MI} {t s c : Nat} (ht : t < lst κ) (hs : s < nst κ) (h1 : 0 < Fr κ t s) (hc : c < mal κ (t : Int) s) (hv : vld κ (t : Int) s c = true) (ha : alv κ (t + 1) (nxt κ (t : Int) s c) = true) : alv κ t s = true := (alv_s ht hs).mpr ⟨h1, c, hc, hv, ha⟩
theorem fsF_9 {κ : MI} : ∀ n t, fsF κ t n = -9 → ∀ t', t ≤ t' → t' < t + n → som κ (Fr κ t') (nst κ) = true
  | 0, t, _, t', h1, h2 => by omega
  | n + 1, t, h, t', h1, h2 => by
    have e : fsF κ t (n + 1) = if som κ (Fr κ t) (nst κ) then fsF κ (t + 1) n else (t : Int) := rfl
    rw [e] at h
    by_cases q : som κ (Fr κ t) (nst κ) = true
    · rw [if_pos q] at h
      by_cases e2 : t' = t
      · rw [e2]; exact q
      · exact fsF_9 n (t + 1) h t' (by omega) (by omega)
    · rw [if_neg q] at h; omega
/-- there is something alive in each minute -/
theorem alv_some {κ : MI} (h : fst0 κ = -9) : ∀ u t, t + u = lst κ → ∃ s, s < nst κ ∧ alv κ t s = true
  | 0, t, e => by
    have h1 := fsF_9 (lst κ + 1) 0 h t (by omega) (by omega)
    obtain ⟨s, h2, h3⟩ := (som_iff _).mp h1
    refine ⟨s, h2, ?_⟩
    have e2 : t = lst κ := by omega
    rw [e2] at h3 ⊢
    exact alv_last.mpr h3
  | u + 1, t, e => by
    obtain ⟨s, h1, h2⟩ := alv_some h u (t + 1) (by omega)
    obtain ⟨s0, c, c1, c2, c3, c4, c5⟩ := Fr_pos.mp (alv_iff.mp h2).1
    exact ⟨s0, c1, alv_b (by omega) c1 c2 c3 c4 (by rw [c5]; exact h2)⟩
/-- what is alive is a state of the class -/
theorem alv_cl {I κ : MI} {p h n t s : Nat} (k : PKR I p h n κ) (ht : (t : Int) ≤ I h 3) (hs : s < nst κ) (ha : alv κ t s = true) : ∃ j, j < n ∧ sgX I p h j = s := sup_t k t ht s hs (alv_iff.mp ha).1
/-- what counts at a minute behind the first can be then -/
theorem Fr_ok {I κ : MI} {p h n t j : Nat} (k : PKR I p h n κ) (hj : j < n) (ht : (t : Int) < I h 3) (hF : 0 < Fr κ (t + 1) (sgX I p h j)) : ftX I p (j : Int) ((t : Int) + 1) = true := by
  have hft := ft_ok (t := t + 1) k.1 hj (by omega)
  rw [show ((t + 1 : Nat) : Int) = (t : Int) + 1 by omega] at hft
  obtain ⟨s, c, c1, c2, c3, c4, c5⟩ := Fr_pos.mp hF
  unfold vld at c4
  rw [Bool.and_eq_true, c5] at c4
  exact hft.mpr ⟨c4.2, fun q => by omega⟩


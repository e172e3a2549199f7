/-! WAYS as chains of states and choices. -/
/-- a chain till minute T: v says which moves count -/
def isCh (κ : MI) (v : Nat → Nat → Nat → Bool) (T : Nat) (S C : Nat → Nat) : Prop :=
  (S 0 < nst κ ∧ begb κ (S 0) = true) ∧ ∀ i, i < T → C i < mal κ (i : Int) (S i) ∧ v i (S i) (C i) = true ∧ S (i + 1) = nxt κ (i : Int) (S i) (C i)
/-- the moves of a night as it is told; of a loose one -/
def tgv (κ : MI) (t s c : Nat) : Bool := vld κ (t : Int) s c
def lov (κ : MI) (t s c : Nat) : Bool := okb κ ((t : Int) + 1) (nxt κ (t : Int) s c)
theorem nst_1728 {κ : MI} (hH : iHs κ) (hS : iSc κ) {s : Nat} (h : s < nst κ) : s < 1728 := by have := nst_le hH hS; omega
theorem isCh.lt {κ : MI} {v : Nat → Nat → Nat → Bool} {T : Nat} {S C : Nat → Nat} (hH : iHs κ) (hS : iSc κ) (h : isCh κ v T S C) : ∀ i, i ≤ T → S i < nst κ
  | 0, _ => h.1.1
  | i + 1, hi => by
    obtain ⟨-, -, e⟩ := h.2 i (by omega)
    rw [e]
    exact nxt_lt hH (nst_1728 hH hS (isCh.lt hH hS h i (by omega))) _
theorem isCh.pre {κ : MI} {v : Nat → Nat → Nat → Bool} {T t : Nat} {S C : Nat → Nat} (h : isCh κ v T S C) (ht : t ≤ T) : isCh κ v t S C := ⟨h.1, fun i hi => h.2 i (by omega)⟩
theorem isCh.cg {κ : MI} {v : Nat → Nat → Nat → Bool} {T : Nat} {S C S' C' : Nat → Nat} (h : isCh κ v T S C) (hs : ∀ i, i ≤ T → S' i = S i) (hc : ∀ i, i < T → C' i = C i) : isCh κ v T S' C' := by
  refine ⟨by rw [hs 0 (Nat.zero_le _)]; exact h.1, fun i hi => ?_⟩
  rw [hs i (by omega), hc i hi, hs (i + 1) (by omega)]
  exact h.2 i hi
/-- one move more -/
theorem isCh.ext {κ : MI} {v : Nat → Nat → Nat → Bool} {t c : Nat} {S C : Nat → Nat} (h : isCh κ v t S C) (hc : c < mal κ (t : Int) (S t)) (hv : v t (S t) c = true) : ∃ S' C', isCh κ v (t + 1) S' C' ∧ (∀ i, i ≤ t → S' i = S i) ∧ (∀ i, i < t → C' i = C i) ∧ C' t = c ∧ S' (t + 1) = nxt κ (t : Int) (S t) c := by
  refine ⟨fun i => if i ≤ t then S i else nxt κ (t : Int) (S t) c, fun i => if i < t then C i else c, ?_, fun i hi => if_pos hi, fun i hi => if_pos hi, if_neg (by omega), if_neg (by omega)⟩
  refine ⟨by simpa using h.1, fun i hi => ?_⟩
  by_cases q : i < t
  · obtain ⟨a, b, e⟩ := h.2 i q
    simp only [if_pos q, if_pos (show i ≤ t by omega), if_pos (show i + 1 ≤ t by omega)]
    exact ⟨a, b, e⟩
  · have q2 : i = t := by omega
    subst q2
    simp only [if_neg q, if_pos (Nat.le_refl i), if_neg (show ¬ i + 1 ≤ i by omega)]
    exact ⟨hc, hv, trivial⟩
theorem Fr_ch {κ : MI} (hH : iHs κ) (hS : iSc κ) : ∀ t s, s < nst κ → (0 < Fr κ t s ↔ ∃ S C, isCh κ (tgv κ) t S C ∧ S t = s)
  | 0, s, hs => by
    have e : 0 < Fr κ 0 s ↔ begb κ s = true := by
      show 0 < (if begb κ s then (1 : Int) else 0) ↔ _
      split <;> simp [*]
    rw [e]
    constructor
    · exact fun h => ⟨fun _ => s, fun _ => 0, ⟨⟨hs, h⟩, fun i hi => absurd hi (Nat.not_lt_zero i)⟩, rfl⟩
    · rintro ⟨S, C, h, rfl⟩
      exact h.1.2
  | t + 1, s, hs => by
    rw [Fr_pos]
    constructor
    · rintro ⟨s0, c, h0, h1, h2, h3, h4⟩
      obtain ⟨S, C, h5, h6⟩ := (Fr_ch hH hS t s0 h0).mp h1
      subst h6
      obtain ⟨S', C', a, -, -, -, b⟩ := h5.ext h2 h3
      exact ⟨S', C', a, by rw [b, h4]⟩
    · rintro ⟨S, C, h, rfl⟩
      obtain ⟨a, b, e⟩ := h.2 t (by omega)
      exact ⟨S t, C t, h.lt hH hS t (by omega), (Fr_ch hH hS t (S t) (h.lt hH hS t (by omega))).mpr ⟨S, C, h.pre (by omega), rfl⟩, a, b, e.symm⟩
/-- a chain to a state that goes on, goes on -/
theorem ch_on {κ : MI} (hH : iHs κ) (hS : iSc κ) : ∀ u t, t + u = lst κ → ∀ S C, isCh κ (tgv κ) t S C → alv κ t (S t) = true → ∃ S' C', isCh κ (tgv κ) (lst κ) S' C' ∧ (∀ i, i ≤ t → S' i = S i) ∧ ∀ i, i < t → C' i = C i
  | 0, t, ht, S, C, h, _ => ⟨S, C, by rw [← ht]; exact h, fun _ _ => rfl, fun _ _ => rfl⟩
  | u + 1, t, ht, S, C, h, ha => by
    obtain ⟨-, c, h1, h2, h3⟩ := (alv_s (by omega) (h.lt hH hS t (Nat.le_refl _))).mp ha
    obtain ⟨S1, C1, a, b, d, -, e⟩ := h.ext h1 h2
    obtain ⟨S2, C2, a2, b2, d2⟩ := ch_on hH hS u (t + 1) (by omega) S1 C1 a (by rw [e]; exact h3)
    exact ⟨S2, C2, a2, fun i hi => (b2 i (by omega)).trans (b i hi), fun i hi => (d2 i (by omega)).trans (d i hi)⟩
theorem ch_alv {κ : MI} (hH : iHs κ) (hS : iSc κ) {S C : Nat → Nat} (h : isCh κ (tgv κ) (lst κ) S C) : ∀ u t, t + u = lst κ → alv κ t (S t) = true
  | 0, t, ht => by
    have e : t = lst κ := by omega
    subst e
    exact alv_last.mpr ((Fr_ch hH hS _ _ (h.lt hH hS _ (Nat.le_refl _))).mpr ⟨S, C, h, rfl⟩)
  | u + 1, t, ht => by
    obtain ⟨a, b, e⟩ := h.2 t (by omega)
    have hl := h.lt hH hS t (by omega)
    refine alv_b (by omega) hl ((Fr_ch hH hS _ _ hl).mpr ⟨S, C, h.pre (by omega), rfl⟩) a b ?_
    rw [← e]
    exact ch_alv hH hS h u (t + 1) (by omega)
theorem alv_ch {κ : MI} (hH : iHs κ) (hS : iSc κ) {t s : Nat} (ht : t ≤ lst κ) (hs : s < nst κ) : alv κ t s = true ↔ ∃ S C, isCh κ (tgv κ) (lst κ) S C ∧ S t = s := by
  constructor
  · intro h
    obtain ⟨S, C, a, b⟩ := (Fr_ch hH hS t s hs).mp (alv_iff.mp h).1
    subst b
    obtain ⟨S', C', a', b', -⟩ := ch_on hH hS (lst κ - t) t (by omega) S C a h
    exact ⟨S', C', a', b' t (Nat.le_refl _)⟩
  · rintro ⟨S, C, h, rfl⟩
    exact ch_alv hH hS h (lst κ - t) t (by omega)
theorem SR_ch {κ : MI} (hH : iHs κ) (hS : iSc κ) {t s c : Nat} (ht : t < lst κ) : SR κ t s c ↔ ∃ S C, isCh κ (tgv κ) (lst κ) S C ∧ S t = s ∧ C t = c := by
  constructor
  · rintro ⟨h1, h2, h3, h4, h5⟩
    obtain ⟨S, C, a, b⟩ := (Fr_ch hH hS t s h1).mp (alv_iff.mp h2).1
    subst b
    obtain ⟨S1, C1, a1, b1, d1, f1, e1⟩ := a.ext h3 h4
    obtain ⟨S2, C2, a2, b2, d2⟩ := ch_on hH hS (lst κ - (t + 1)) (t + 1) (by omega) S1 C1 a1 (by rw [e1]; exact h5)
    exact ⟨S2, C2, a2, (b2 t (by omega)).trans (b1 t (by omega)), (d2 t (by omega)).trans f1⟩
  · rintro ⟨S, C, h, rfl, rfl⟩
    obtain ⟨a, b, e⟩ := h.2 t ht
    refine ⟨h.lt hH hS t (by omega), ch_alv hH hS h (lst κ - t) t (by omega), a, b, ?_⟩
    have := ch_alv hH hS h (lst κ - (t + 1)) (t + 1) (by omega)
    rw [e] at this
    exact this
theorem som_i {κ : MI} {F : Nat → Int} : ∀ n, som κ F n = true ↔ ∃ s, s < n ∧ 0 < F s
  | 0 => by simp [som]
  | n + 1 => by
    unfold som
    rw [Bool.or_eq_true, som_i n, decide_eq_true_eq]
    constructor
    · rintro (⟨s, h1, h2⟩ | h)
      · exact ⟨s, by omega, h2⟩
      · exact ⟨n, by omega, h⟩
    · rintro ⟨s, h1, h2⟩
      by_cases e : s = n
      · subst e; exact Or.inr h2
      · exact Or.inl ⟨s, by omega, h2⟩
theorem fsF_al {κ : MI} : ∀ n t, (∀ i, t ≤ i → i < t + n → som κ (Fr κ i) (nst κ) = true) → fsF κ t n = -9
  | 0, _, _ => rfl
  | n + 1, t, h => by
    unfold fsF
    rw [if_pos (h t (by omega) (by omega))]
    exact fsF_al n (t + 1) (fun i h1 h2 => h i (by omega) (by omega))
/-- a night can be, if there is a chain -/
theorem fst_ch {κ : MI} (hH : iHs κ) (hS : iSc κ) : fst0 κ = -9 ↔ ∃ S C, isCh κ (tgv κ) (lst κ) S C := by
  constructor
  · intro h
    have h1 := fsF_9 (lst κ + 1) 0 h (lst κ) (by omega) (by omega)
    obtain ⟨s, h2, h3⟩ := (som_i _).mp h1
    obtain ⟨S, C, a, -⟩ := (Fr_ch hH hS _ s h2).mp h3
    exact ⟨S, C, a⟩
  · rintro ⟨S, C, h⟩
    refine fsF_al _ 0 (fun i _ hi => (som_i _).mpr ⟨S i, h.lt hH hS i (by omega), ?_⟩)
    exact (Fr_ch hH hS i _ (h.lt hH hS i (by omega))).mpr ⟨S, C, h.pre (by omega), rfl⟩

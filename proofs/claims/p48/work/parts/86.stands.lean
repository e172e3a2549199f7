/-! THE REFERENCE: best values by steps; who has stood how long. -/
/-- r is the best of the values P, the least (l) or the greatest; -1: there is none -/
def OPT (l : Bool) (r : Int) (P : Int → Prop) : Prop := (r = -1 ∧ ∀ v, ¬ P v) ∨ (P r ∧ 0 ≤ r ∧ ∀ v, P v → if l = true then r ≤ v else v ≤ r)
theorem OPT.ad {l : Bool} {r v0 : Int} {P P' : Int → Prop} (h : OPT l r P) (h0 : 0 ≤ v0) (hP : ∀ v, P' v ↔ P v ∨ v = v0) : OPT l (if r < 0 ∨ (if l = true then v0 < r else r < v0) then v0 else r) P' := by
  rcases h with ⟨h1, h2⟩ | ⟨h1, h2, h3⟩
  · rw [if_pos (Or.inl (by omega))]
    refine Or.inr ⟨(hP v0).mpr (Or.inr rfl), h0, fun v hv => ?_⟩
    rcases (hP v).mp hv with q | q
    · exact absurd q (h2 v)
    · rw [q]; split <;> exact Int.le_refl _
  · refine Or.inr ?_
    have nb : ¬ (false = true) := Bool.false_ne_true
    by_cases q : r < 0 ∨ (if l = true then v0 < r else r < v0)
    · rw [if_pos q]
      refine ⟨(hP v0).mpr (Or.inr rfl), h0, fun v hv => ?_⟩
      rcases (hP v).mp hv with z | z
      · have h4 := h3 v z
        cases l
        · rw [if_neg nb] at h4 ⊢
          rw [if_neg nb] at q
          omega
        · rw [if_pos rfl] at h4 ⊢
          rw [if_pos rfl] at q
          omega
      · rw [z]; split <;> exact Int.le_refl _
    · rw [if_neg q]
      refine ⟨(hP r).mpr (Or.inl h1), h2, fun v hv => ?_⟩
      rcases (hP v).mp hv with z | z
      · exact h3 v z
      · rw [z]
        cases l
        · rw [if_neg nb] at q ⊢
          omega
        · rw [if_pos rfl] at q ⊢
          omega
theorem OPT.cg {l : Bool} {r : Int} {P P' : Int → Prop} (h : OPT l r P) (hP : ∀ v, P' v ↔ P v) : OPT l r P' := by
  rcases h with ⟨h1, h2⟩ | ⟨h1, h2, h3⟩
  · exact Or.inl ⟨h1, fun v hv => h2 v ((hP v).mp hv)⟩
  · exact Or.inr ⟨(hP r).mpr h1, h2, fun v hv => h3 v ((hP v).mp hv)⟩
/-- the steps' best values, by states -/
theorem opt_sw {l : Bool} {V : Nat → Int} {f : Nat → Nat → (Nat → Int) → (Nat → Int)} {m : Nat → Nat} {g : Nat → Nat → Prop} {tg : Nat → Nat → Nat} {vl : Nat → Nat → Int}
    (hf : ∀ s c W x, 0 ≤ V s → (g s c ∧ tg s c = x → f s c W x = if W x < 0 ∨ (if l = true then vl s c < W x else W x < vl s c) then vl s c else W x) ∧ (¬ (g s c ∧ tg s c = x) → f s c W x = W x)) (hv : ∀ s c, 0 ≤ V s → g s c → 0 ≤ vl s c) (x : Nat) :
    ∀ n, OPT l (swS V f m n (fun _ => -1) x) (fun v => ∃ s c, s < n ∧ 0 ≤ V s ∧ c < m s ∧ g s c ∧ tg s c = x ∧ v = vl s c) := by
  have inner : ∀ (s : Nat) (W : Nat → Int) (P : Int → Prop), 0 ≤ V s → OPT l (W x) P → ∀ k, OPT l (swC (f s) k W x) (fun v => P v ∨ ∃ c, c < k ∧ g s c ∧ tg s c = x ∧ v = vl s c) := by
    intro s W P hs h k
    induction k with
    | zero => exact h.cg (fun v => ⟨fun z => z.elim id (fun ⟨c, z, _⟩ => by omega), Or.inl⟩)
    | succ k ih =>
      have e : swC (f s) (k + 1) W = f s k (swC (f s) k W) := rfl
      rw [e]
      obtain ⟨f1, f2⟩ := hf s k (swC (f s) k W) x hs
      by_cases q : g s k ∧ tg s k = x
      · rw [f1 q]
        refine ih.ad (hv s k hs q.1) (fun v => ⟨?_, ?_⟩)
        · rintro (z | ⟨c, z1, z2, z3, z4⟩)
          · exact Or.inl (Or.inl z)
          · by_cases e : c = k
            · subst e; exact Or.inr z4
            · exact Or.inl (Or.inr ⟨c, by omega, z2, z3, z4⟩)
        · rintro ((z | ⟨c, z1, z2⟩) | z)
          · exact Or.inl z
          · exact Or.inr ⟨c, by omega, z2⟩
          · exact Or.inr ⟨k, by omega, q.1, q.2, z⟩
      · rw [f2 q]
        refine ih.cg (fun v => ⟨?_, ?_⟩)
        · rintro (z | ⟨c, z1, z2, z3, z4⟩)
          · exact Or.inl z
          · by_cases e : c = k
            · subst e; exact absurd ⟨z2, z3⟩ q
            · exact Or.inr ⟨c, by omega, z2, z3, z4⟩
        · rintro (z | ⟨c, z1, z2⟩)
          · exact Or.inl z
          · exact Or.inr ⟨c, by omega, z2⟩
  intro n
  induction n with
  | zero => exact Or.inl ⟨rfl, fun v ⟨s, c, z, _⟩ => by omega⟩
  | succ n ih =>
    by_cases q : 0 ≤ V n
    · rw [swS_t q]
      refine (inner n _ _ q ih (m n)).cg (fun v => ⟨?_, ?_⟩)
      · rintro ⟨s, c, z1, z2, z3, z4, z5, z6⟩
        by_cases e : s = n
        · subst e; exact Or.inr ⟨c, z3, z4, z5, z6⟩
        · exact Or.inl ⟨s, c, by omega, z2, z3, z4, z5, z6⟩
      · rintro (⟨s, c, z1, z2⟩ | ⟨c, z1, z2⟩)
        · exact ⟨s, c, by omega, z2⟩
        · exact ⟨n, c, by omega, q, z1, z2⟩
    · rw [swS_f q]
      refine ih.cg (fun v => ⟨?_, ?_⟩)
      · rintro ⟨s, c, z1, z2, z3⟩
        by_cases e : s = n
        · subst e; exact absurd z2 q
        · exact ⟨s, c, by omega, z2, z3⟩
      · rintro ⟨s, c, z1, z2⟩
        exact ⟨s, c, by omega, z2⟩
/-! who has stood how long: never n yet; once n -/
def stI (κ : MI) (w n : Nat) : Nat → Nat → Nat → Prop
  | 0, s, b => s < nst κ ∧ alv κ 0 s = true ∧ b = 0
  | t + 1, s', b' => ∃ s c b, SR κ t s c ∧ nxt κ (t : Int) s c = s' ∧ stI κ w n t s b ∧ b' = (if mvd κ (t : Int) s c w < 0 then b + 1 else 0) ∧ b' < n
def stJ1 (κ : MI) (w n : Nat) : Nat → Nat → Prop
  | 0, _ => False
  | t + 1, s' => ∃ s c, SR κ t s c ∧ nxt κ (t : Int) s c = s' ∧ (stJ1 κ w n t s ∨ ∃ b, stI κ w n t s b ∧ mvd κ (t : Int) s c w < 0 ∧ n ≤ b + 1)
theorem stI_a {κ : MI} (hH : iHs κ) (hS : iSc κ) {w n : Nat} : ∀ t s b, stI κ w n t s b → s < nst κ ∧ alv κ t s = true
  | 0, s, b, h => ⟨h.1, h.2.1⟩
  | t + 1, s', b', h => by
    obtain ⟨s, c, b, h1, h2, -⟩ := h
    have := nst_le hH hS
    rw [← h2]
    exact ⟨nxt_lt hH (by have := h1.1; omega) c, h1.2.2.2.2⟩
theorem stJ1_a {κ : MI} (hH : iHs κ) (hS : iSc κ) {w n : Nat} : ∀ t s, stJ1 κ w n t s → s < nst κ ∧ alv κ t s = true
  | 0, s, h => h.elim
  | t + 1, s', h => by
    obtain ⟨s, c, h1, h2, -⟩ := h
    have := nst_le hH hS
    rw [← h2]
    exact ⟨nxt_lt hH (by have := h1.1; omega) c, h1.2.2.2.2⟩
theorem paQ_iff {κ : MI} {t s c : Nat} : (vld κ (t : Int) s c && alv κ (t + 1) (nxt κ (t : Int) s c)) = true ↔ vld κ (t : Int) s c = true ∧ alv κ (t + 1) (nxt κ (t : Int) s c) = true := by rw [Bool.and_eq_true]
theorem stV_s {κ : MI} {w : Nat} {n : Int} {l : Bool} (t : Nat) : stV κ w n l (t + 1) = swS (stV κ w n l t) (stF κ w n l t (stV κ w n l t)) (fun s => mal κ t s) (nst κ) (fun _ => -1) := rfl
theorem stF_at {κ : MI} {w : Nat} {n : Int} {l : Bool} {t : Nat} {V : Nat → Int} (s c : Nat) (W : Nat → Int) (x : Nat) :
    (((vld κ (t : Int) s c = true ∧ alv κ (t + 1) (nxt κ (t : Int) s c) = true) ∧ ¬ (l = true ∧ n ≤ stv κ w t s c V)) ∧ nxt κ (t : Int) s c = x → stF κ w n l t V s c W x = if W x < 0 ∨ (if l = true then stv κ w t s c V < W x else W x < stv κ w t s c V) then stv κ w t s c V else W x) ∧
    (¬ (((vld κ (t : Int) s c = true ∧ alv κ (t + 1) (nxt κ (t : Int) s c) = true) ∧ ¬ (l = true ∧ n ≤ stv κ w t s c V)) ∧ nxt κ (t : Int) s c = x) → stF κ w n l t V s c W x = W x) := by
  unfold stF
  constructor
  · rintro ⟨⟨h1, h2⟩, rfl⟩
    by_cases q : W (nxt κ (t : Int) s c) < 0 ∨ (if l = true then stv κ w t s c V < W (nxt κ (t : Int) s c) else W (nxt κ (t : Int) s c) < stv κ w t s c V)
    · rw [if_pos ⟨paQ_iff.mpr h1, q, h2⟩, if_pos q]
      unfold upn
      rw [if_pos rfl]
    · rw [if_neg (fun z => q z.2.1), if_neg q]
  · intro h
    by_cases z : (vld κ (t : Int) s c && alv κ (t + 1) (nxt κ (t : Int) s c)) = true ∧ (W (nxt κ (t : Int) s c) < 0 ∨ (if l = true then stv κ w t s c V < W (nxt κ (t : Int) s c) else W (nxt κ (t : Int) s c) < stv κ w t s c V)) ∧ ¬ (l = true ∧ n ≤ stv κ w t s c V)
    · rw [if_pos z]
      unfold upn
      by_cases e : x = nxt κ (t : Int) s c
      · exact absurd ⟨⟨paQ_iff.mp z.1, z.2.2⟩, e.symm⟩ h
      · rw [if_neg e]
    · rw [if_neg z]
theorem stV_opt {κ : MI} {w : Nat} {n : Int} {l : Bool} (t x : Nat) : OPT l (stV κ w n l (t + 1) x) (fun v => ∃ s c, s < nst κ ∧ 0 ≤ stV κ w n l t s ∧ c < mal κ (t : Int) s ∧ ((vld κ (t : Int) s c = true ∧ alv κ (t + 1) (nxt κ (t : Int) s c) = true) ∧ ¬ (l = true ∧ n ≤ stv κ w t s c (stV κ w n l t))) ∧ nxt κ (t : Int) s c = x ∧ v = stv κ w t s c (stV κ w n l t)) := by
  rw [stV_s]
  refine opt_sw (l := l) (V := stV κ w n l t) (f := stF κ w n l t (stV κ w n l t)) (m := fun s => mal κ (t : Int) s) (g := fun s c => (vld κ (t : Int) s c = true ∧ alv κ (t + 1) (nxt κ (t : Int) s c) = true) ∧ ¬ (l = true ∧ n ≤ stv κ w t s c (stV κ w n l t))) (tg := fun s c => nxt κ (t : Int) s c) (vl := fun s c => stv κ w t s c (stV κ w n l t)) (fun s c W x _ => stF_at s c W x) (fun s c h _ => ?_) x (nst κ)
  unfold stv
  split <;> omega
theorem stV_0 {κ : MI} {w : Nat} {n : Int} {l : Bool} {s : Nat} : 0 ≤ stV κ w n l 0 s ↔ alv κ 0 s = true := by
  show 0 ≤ bgV κ 0 s ↔ _
  unfold bgV
  split
  · rename_i h; exact ⟨fun _ => h, fun _ => Int.le_refl _⟩
  · rename_i h; exact ⟨fun z => by omega, fun z => absurd z h⟩
theorem stV_al {κ : MI} {w : Nat} {n : Int} {l : Bool} : ∀ t s, 0 ≤ stV κ w n l t s → alv κ t s = true
  | 0, s, h => stV_0.mp h
  | t + 1, s, h => by
    rcases stV_opt (κ := κ) (w := w) (n := n) (l := l) t s with ⟨q, -⟩ | ⟨⟨s0, c, a1, a2, a3, ⟨⟨a4, a5⟩, -⟩, a6, -⟩, -⟩
    · omega
    · rw [← a6]; exact a5
/-- the shortest of those who never stood so long -/
theorem st_min {κ : MI} (hH : iHs κ) (hS : iSc κ) {w n : Nat} (hn : 1 ≤ n) : ∀ t s, s < nst κ → (0 ≤ stV κ w (n : Int) true t s → stI κ w n t s (stV κ w (n : Int) true t s).toNat) ∧ ∀ b, stI κ w n t s b → 0 ≤ stV κ w (n : Int) true t s ∧ stV κ w (n : Int) true t s ≤ (b : Int)
  | 0, s, hs => by
    have e : stV κ w (n : Int) true 0 s = if alv κ 0 s = true then 0 else -1 := rfl
    constructor
    · intro h
      have ha := stV_0.mp h
      rw [e, if_pos ha]
      exact ⟨hs, ha, rfl⟩
    · rintro b ⟨-, h2, h3⟩
      rw [e, if_pos h2]
      omega
  | t + 1, s', hs' => by
    have hb := nst_le hH hS
    have ih := st_min hH hS (w := w) hn t
    have op := stV_opt (κ := κ) (w := w) (n := (n : Int)) (l := true) t s'
    constructor
    · intro h
      rcases op with ⟨q, -⟩ | ⟨⟨s, c, a1, a2, a3, ⟨⟨a4, a5⟩, a6⟩, a7, a8⟩, -⟩
      · omega
      · have i1 := (ih s a1).1 a2
        refine ⟨s, c, (stV κ w (n : Int) true t s).toNat, ⟨a1, stV_al t s a2, a3, a4, a5⟩, a7, i1, ?_, ?_⟩
        · rw [a8]
          unfold stv
          split <;> omega
        · have : ¬ (n : Int) ≤ stv κ w t s c (stV κ w (n : Int) true t) := fun z => a6 ⟨rfl, z⟩
          omega
    · rintro b' ⟨s, c, b, h1, h2, h3, h4, h5⟩
      obtain ⟨i1, i2⟩ := (ih s h1.1).2 b h3
      have hv : stv κ w t s c (stV κ w (n : Int) true t) ≤ (b' : Int) ∧ 0 ≤ stv κ w t s c (stV κ w (n : Int) true t) := by
        rw [h4]
        unfold stv
        split <;> omega
      have hP : ∃ s0 c0, s0 < nst κ ∧ 0 ≤ stV κ w (n : Int) true t s0 ∧ c0 < mal κ (t : Int) s0 ∧ ((vld κ (t : Int) s0 c0 = true ∧ alv κ (t + 1) (nxt κ (t : Int) s0 c0) = true) ∧ ¬ (true = true ∧ (n : Int) ≤ stv κ w t s0 c0 (stV κ w (n : Int) true t))) ∧ nxt κ (t : Int) s0 c0 = s' ∧ stv κ w t s c (stV κ w (n : Int) true t) = stv κ w t s0 c0 (stV κ w (n : Int) true t) := ⟨s, c, h1.1, i1, h1.2.2.1, ⟨⟨h1.2.2.2.1, h1.2.2.2.2⟩, fun z => by omega⟩, h2, rfl⟩
      rcases op with ⟨-, q⟩ | ⟨-, q1, q2⟩
      · exact absurd hP (q _)
      · have := q2 _ hP
        rw [if_pos rfl] at this
        omega
/-- the longest -/
theorem st_max {κ : MI} (hH : iHs κ) (hS : iSc κ) {w n : Nat} (hn : 1 ≤ n) : ∀ t s, s < nst κ → (0 ≤ stV κ w (n : Int) false t s → (∃ b : Nat, stI κ w n t s b ∧ (b : Int) = stV κ w (n : Int) false t s) ∨ stJ1 κ w n t s) ∧ (∀ b, stI κ w n t s b → (b : Int) ≤ stV κ w (n : Int) false t s) ∧ (stJ1 κ w n t s → 0 ≤ stV κ w (n : Int) false t s)
  | 0, s, hs => by
    have e : stV κ w (n : Int) false 0 s = if alv κ 0 s = true then 0 else -1 := rfl
    refine ⟨fun h => ?_, ?_, fun h => h.elim⟩
    · have ha := stV_0.mp h
      rw [e, if_pos ha]
      exact Or.inl ⟨0, ⟨hs, ha, rfl⟩, rfl⟩
    · rintro b ⟨-, h2, h3⟩
      rw [e, if_pos h2]
      omega
  | t + 1, s', hs' => by
    have ih := st_max hH hS (w := w) hn t
    have op := stV_opt (κ := κ) (w := w) (n := (n : Int)) (l := false) t s'
    have up : ∀ s c, SR κ t s c → nxt κ (t : Int) s c = s' → 0 ≤ stV κ w (n : Int) false t s → stv κ w t s c (stV κ w (n : Int) false t) ≤ stV κ w (n : Int) false (t + 1) s' ∧ 0 ≤ stV κ w (n : Int) false (t + 1) s' := by
      intro s c h1 h2 h3
      have hP : ∃ s0 c0, s0 < nst κ ∧ 0 ≤ stV κ w (n : Int) false t s0 ∧ c0 < mal κ (t : Int) s0 ∧ ((vld κ (t : Int) s0 c0 = true ∧ alv κ (t + 1) (nxt κ (t : Int) s0 c0) = true) ∧ ¬ (false = true ∧ (n : Int) ≤ stv κ w t s0 c0 (stV κ w (n : Int) false t))) ∧ nxt κ (t : Int) s0 c0 = s' ∧ stv κ w t s c (stV κ w (n : Int) false t) = stv κ w t s0 c0 (stV κ w (n : Int) false t) := ⟨s, c, h1.1, h3, h1.2.2.1, ⟨⟨h1.2.2.2.1, h1.2.2.2.2⟩, fun z => Bool.noConfusion z.1⟩, h2, rfl⟩
      rcases op with ⟨-, q⟩ | ⟨-, q1, q2⟩
      · exact absurd hP (q _)
      · have := q2 _ hP
        rw [if_neg (by decide)] at this
        exact ⟨this, q1⟩
    refine ⟨fun h => ?_, ?_, ?_⟩
    · rcases op with ⟨q, -⟩ | ⟨⟨s, c, a1, a2, a3, ⟨⟨a4, a5⟩, -⟩, a7, a8⟩, -⟩
      · omega
      · have hSR : SR κ t s c := ⟨a1, stV_al t s a2, a3, a4, a5⟩
        rcases (ih s a1).1 a2 with ⟨b, b1, b2⟩ | b1
        · by_cases q : mvd κ (t : Int) s c w < 0
          · by_cases q2 : n ≤ b + 1
            · exact Or.inr ⟨s, c, hSR, a7, Or.inr ⟨b, b1, q, q2⟩⟩
            · refine Or.inl ⟨b + 1, ⟨s, c, b, hSR, a7, b1, by rw [if_pos q], by omega⟩, ?_⟩
              rw [a8]
              unfold stv
              rw [if_pos q]
              omega
          · refine Or.inl ⟨0, ⟨s, c, b, hSR, a7, b1, by rw [if_neg q], by omega⟩, ?_⟩
            rw [a8]
            unfold stv
            rw [if_neg q]
            rfl
        · exact Or.inr ⟨s, c, hSR, a7, Or.inl b1⟩
    · rintro b' ⟨s, c, b, h1, h2, h3, h4, h5⟩
      have i2 := (ih s h1.1).2.1 b h3
      have := up s c h1 h2 (by omega)
      have hv : (b' : Int) ≤ stv κ w t s c (stV κ w (n : Int) false t) := by
        rw [h4]
        unfold stv
        split <;> omega
      omega
    · rintro ⟨s, c, h1, h2, h3⟩
      refine (up s c h1 h2 ?_).2
      rcases h3 with h3 | ⟨b, h3, -⟩
      · exact (ih s h1.1).2.2 h3
      · have := (ih s h1.1).2.1 b h3; omega
theorem stS_iff {κ : MI} {w t : Nat} {n : Int} {V : Nat → Int} {r : Bool} (m : Nat) : stS κ w n t V r m = true ↔ r = true ∨ ∃ s c, s < m ∧ 0 ≤ V s ∧ c < mal κ (t : Int) s ∧ (vld κ (t : Int) s c = true ∧ alv κ (t + 1) (nxt κ (t : Int) s c) = true) ∧ n ≤ stv κ w t s c V := by
  have inner : ∀ (s : Nat) (r : Bool) k, stC κ w n t V s r k = true ↔ r = true ∨ ∃ c, c < k ∧ (vld κ (t : Int) s c = true ∧ alv κ (t + 1) (nxt κ (t : Int) s c) = true) ∧ n ≤ stv κ w t s c V := by
    intro s r k
    induction k with
    | zero => exact ⟨Or.inl, fun z => z.elim id (fun ⟨c, z, _⟩ => by omega)⟩
    | succ k ih =>
      unfold stC
      rw [Bool.or_eq_true, ih, Bool.and_eq_true, paQ_iff, decide_eq_true_eq]
      constructor
      · rintro ((z | ⟨c, z1, z2⟩) | z)
        · exact Or.inl z
        · exact Or.inr ⟨c, by omega, z2⟩
        · exact Or.inr ⟨k, by omega, z⟩
      · rintro (z | ⟨c, z1, z2⟩)
        · exact Or.inl (Or.inl z)
        · by_cases e : c = k
          · subst e; exact Or.inr z2
          · exact Or.inl (Or.inr ⟨c, by omega, z2⟩)
  induction m with
  | zero => exact ⟨Or.inl, fun z => z.elim id (fun ⟨s, c, z, _⟩ => by omega)⟩
  | succ m ih =>
    unfold stS
    by_cases q : 0 ≤ V m
    · rw [if_pos q, inner]
      refine (or_congr ih Iff.rfl).trans ?_
      constructor
      · rintro ((z | ⟨s, c, z1, z2⟩) | ⟨c, z1, z2⟩)
        · exact Or.inl z
        · exact Or.inr ⟨s, c, by omega, z2⟩
        · exact Or.inr ⟨m, c, by omega, q, z1, z2⟩
      · rintro (z | ⟨s, c, z1, z2, z3⟩)
        · exact Or.inl (Or.inl z)
        · by_cases e : s = m
          · subst e; exact Or.inr ⟨c, z3⟩
          · exact Or.inl (Or.inr ⟨s, c, by omega, z2, z3⟩)
    · rw [if_neg q]
      refine ih.trans (or_congr Iff.rfl ⟨fun ⟨s, c, z1, z2⟩ => ⟨s, c, by omega, z2⟩, fun ⟨s, c, z1, z2, z3⟩ => ⟨s, c, ?_, z2, z3⟩⟩)
      by_cases e : s = m
      · subst e; exact absurd z2 q
      · omega
theorem stJ1_s {κ : MI} (hH : iHs κ) (hS : iSc κ) {w n t s : Nat} (ht : t < lst κ) (h : stJ1 κ w n t s) : ∃ s', stJ1 κ w n (t + 1) s' := by
  obtain ⟨h1, h2⟩ := stJ1_a hH hS t s h
  obtain ⟨-, c, c1, c2, c3⟩ := (alv_s ht h1).mp h2
  exact ⟨_, s, c, ⟨h1, h2, c1, c2, c3⟩, rfl, Or.inl h⟩
theorem st_reach {κ : MI} (hH : iHs κ) (hS : iSc κ) {w n : Nat} (hn : 1 ≤ n) : ∀ t, t ≤ lst κ → (stR κ w (n : Int) false t = true ↔ ∃ s, stJ1 κ w n t s)
  | 0, _ => ⟨fun z => Bool.noConfusion z, fun ⟨s, z⟩ => z.elim⟩
  | t + 1, ht => by
    have ih := st_reach hH hS (w := w) hn t (by omega)
    have mx := st_max hH hS (w := w) hn t
    have e : stR κ w (n : Int) false (t + 1) = stS κ w (n : Int) t (stV κ w (n : Int) false t) (stR κ w (n : Int) false t) (nst κ) := rfl
    rw [e, stS_iff, ih]
    constructor
    · rintro (⟨s, z⟩ | ⟨s, c, a1, a2, a3, ⟨a4, a5⟩, a6⟩)
      · exact stJ1_s hH hS (by omega) z
      · have hSR : SR κ t s c := ⟨a1, stV_al t s a2, a3, a4, a5⟩
        rcases (mx s a1).1 a2 with ⟨b, b1, b2⟩ | b1
        · unfold stv at a6
          split at a6
          · rename_i q
            exact ⟨_, s, c, hSR, rfl, Or.inr ⟨b, b1, q, by omega⟩⟩
          · omega
        · exact ⟨_, s, c, hSR, rfl, Or.inl b1⟩
    · rintro ⟨s', s, c, h1, h2, h3⟩
      rcases h3 with h3 | ⟨b, b1, b2, b3⟩
      · exact Or.inl ⟨s, h3⟩
      · have := (mx s h1.1).2.1 b b1
        refine Or.inr ⟨s, c, h1.1, by omega, h1.2.2.1, ⟨h1.2.2.2.1, h1.2.2.2.2⟩, ?_⟩
        unfold stv
        rw [if_pos b2]
        omega
/-- both questions, in words of the ways -/
theorem stA_f {κ : MI} (hH : iHs κ) (hS : iSc κ) {w n : Nat} (hn : 1 ≤ n) : stA κ w (n : Int) false = true ↔ ∃ s, stJ1 κ w n (lst κ) s := by
  unfold stA
  rw [if_neg (by decide)]
  exact st_reach hH hS hn _ (Nat.le_refl _)
theorem stA_t {κ : MI} (hH : iHs κ) (hS : iSc κ) {w n : Nat} (hn : 1 ≤ n) : stA κ w (n : Int) true = true ↔ ∃ s b, stI κ w n (lst κ) s b := by
  unfold stA
  rw [if_pos rfl, anv_iff]
  constructor
  · rintro ⟨s, h1, h2⟩
    exact ⟨s, _, (st_min hH hS hn (lst κ) s h1).1 h2⟩
  · rintro ⟨s, b, h⟩
    have h1 := (stI_a hH hS _ _ _ h).1
    exact ⟨s, h1, ((st_min hH hS hn (lst κ) s h1).2 b h).1⟩


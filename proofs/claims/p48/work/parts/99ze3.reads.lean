/-! READINGS: rooms and doors of a chain. -/
/-- what is told of a minute's rooms; one's step; a walk of all -/
def rOK (κ : MI) (t : Nat) (x : Nat → Nat) : Prop := (∀ k, k < 32 → tb (κ 15 (t : Int)) k = true → ∃ w, w < us κ ∧ k = x w) ∧ ∀ w : Nat, w < us κ → tb (κ 16 (t : Int)) (x w) = false ∧ ((x w : Nat) : Int) < κ 0 11 ∧ (κ 17 (3 * (t : Int) + w) = -1 ∨ κ 17 (3 * (t : Int) + w) = ((x w : Nat) : Int))
def sOK (κ : MI) (t : Nat) (r : Nat) (d : Int) (r' : Nat) : Prop := (d = -1 ∧ r' = r) ∨ ∃ e : Nat, d = (e : Int) ∧ (e : Int) < κ 0 12 ∧ (κ 7 (3 * (e : Int)) = (r : Int) ∨ κ 7 (3 * (e : Int) + 1) = (r : Int)) ∧ tb (κ 14 (t : Int)) e = false ∧ (r' : Int) = κ 7 (3 * (e : Int)) + κ 7 (3 * (e : Int) + 1) - (r : Int)
def Wy (κ : MI) (T : Nat) (X : Nat → Nat → Nat) (D : Nat → Nat → Int) : Prop :=
  (∀ w : Nat, w < us κ → tb (κ 8 (2 * (w : Int) + 1)) (X 0 w) = true) ∧ (∀ t, t ≤ T → rOK κ t (X t)) ∧ (∀ t, t < T → ∀ w, w < us κ → sOK κ t (X t w) (D t w) (X (t + 1) w)) ∧ ∀ t, t + 1 < T → ∀ w : Nat, w < us κ → κ 8 (2 * (w : Int)) = 2 → 0 ≤ D t w → D (t + 1) w = -1
theorem okb_r {κ : MI} {t s : Nat} (hs : s < 1728) : okb κ (t : Int) s = true ↔ rOK κ t (rm s) := okb_iff hs
theorem rOK.cg {κ : MI} {t : Nat} {x y : Nat → Nat} (h : rOK κ t x) (e : ∀ w, w < us κ → y w = x w) : rOK κ t y := by
  refine ⟨fun k hk hb => ?_, fun w hw => ?_⟩
  · obtain ⟨w, hw, q⟩ := h.1 k hk hb
    exact ⟨w, hw, by rw [e w hw]; exact q⟩
  · rw [e w hw]; exact h.2 w hw
theorem pl_sm (f : Nat → Nat) {n w : Nat} (hn : n ≤ 3) (hf : ∀ w, w < n → f w < 12) (hw : w < n) : pl (smf (fun w => 12 ^ w * f w) n) w = f w := by
  rw [smf_3 _ hn]
  have h0 := hf 0
  have h1 := hf 1
  have h2 := hf 2
  have c : n = 1 ∨ n = 2 ∨ n = 3 := by omega
  have c2 : w = 0 ∨ w = 1 ∨ w = 2 := by omega
  rcases c with rfl | rfl | rfl <;> rcases c2 with rfl | rfl | rfl <;> simp [pl] at * <;> omega
theorem st_ex {n s s' : Nat} (hn : n ≤ 3) (h : s < 12 ^ n) (h' : s' < 12 ^ n) (e : ∀ w, w < n → pl s w = pl s' w) : s = s' := by
  have c : n = 0 ∨ n = 1 ∨ n = 2 ∨ n = 3 := by omega
  have e0 := e 0
  have e1 := e 1
  have e2 := e 2
  rcases c with rfl | rfl | rfl | rfl <;> simp [pl] at * <;> omega
theorem mlp_in {κ : MI} {t : Int} {s w : Nat} {q : Int × Int} : ∀ d, q ∈ mlp κ t s w d ↔ q = (-1, 2 * (rm s w : Int)) ∨ ∃ e, e < d ∧ mcd κ t s w e = true ∧ q = ((e : Int), mto κ s w e)
  | 0 => by simp [mlp]
  | d + 1 => by
    unfold mlp
    rw [List.mem_append, mlp_in d]
    constructor
    · rintro ((h | ⟨e, h1, h2, h3⟩) | h)
      · exact Or.inl h
      · exact Or.inr ⟨e, by omega, h2, h3⟩
      · split at h
        · rename_i hm
          exact Or.inr ⟨d, by omega, hm, List.mem_singleton.mp h⟩
        · simp at h
    · rintro (h | ⟨e, h1, h2, h3⟩)
      · exact Or.inl (Or.inl h)
      · by_cases q : e = d
        · subst q
          refine Or.inr ?_
          rw [if_pos h2, h3]
          exact List.mem_singleton.mpr rfl
        · exact Or.inl (Or.inr ⟨e, by omega, h2, h3⟩)
theorem mvl_in {κ : MI} {t : Int} {s w : Nat} {q : Int × Int} : q ∈ mvl κ t s w ↔ q = (-1, 2 * (rm s w : Int)) ∨ (pl s w % 2 = 0 ∧ ∃ e : Nat, (e : Int) < κ 0 12 ∧ mcd κ t s w e = true ∧ q = ((e : Int), mto κ s w e)) := by
  unfold mvl
  split
  · rename_i h
    rw [mlp_in]
    constructor
    · rintro (a | ⟨e, h1, h2⟩)
      · exact Or.inl a
      · exact Or.inr ⟨h, e, by omega, h2⟩
    · rintro (a | ⟨-, e, h1, h2⟩)
      · exact Or.inl a
      · exact Or.inr ⟨e, by omega, h2⟩
  · rename_i h
    rw [mlp_in]
    constructor
    · rintro (a | ⟨e, h1, h2⟩)
      · exact Or.inl a
      · omega
    · rintro (a | ⟨h1, -⟩)
      · exact Or.inl a
      · exact absurd h1 h
theorem mlp_pw {κ : MI} {t : Int} {s w : Nat} : ∀ d, (mlp κ t s w d).Pairwise (fun a b => a.1 < b.1)
  | 0 => by simp [mlp]
  | d + 1 => by
    unfold mlp
    rw [List.pairwise_append]
    refine ⟨mlp_pw d, ?_, fun a ha b hb => ?_⟩
    · split <;> simp
    · split at hb
      · rw [List.mem_singleton.mp hb]
        rcases (mlp_in d).mp ha with rfl | ⟨e, h1, -, rfl⟩
        · show (-1 : Int) < (d : Int); omega
        · show (e : Int) < (d : Int); omega
      · simp at hb
theorem mvl_pw {κ : MI} {t : Int} {s w : Nat} : (mvl κ t s w).Pairwise (fun a b => a.1 < b.1) := by
  unfold mvl
  split <;> exact mlp_pw _
theorem pw_ix {l : List (Int × Int)} (h : l.Pairwise (fun a b => a.1 < b.1)) {i j : Nat} {p q : Int × Int} (hi : l[i]? = some p) (hj : l[j]? = some q) (e : p.1 = q.1) : i = j := by
  obtain ⟨i1, i2⟩ := List.getElem?_eq_some_iff.mp hi
  obtain ⟨j1, j2⟩ := List.getElem?_eq_some_iff.mp hj
  rw [List.pairwise_iff_getElem] at h
  rcases Nat.lt_trichotomy i j with q1 | q1 | q1
  · have := h i j i1 j1 q1
    rw [i2, j2] at this; omega
  · exact q1
  · have := h j i j1 i1 q1
    rw [i2, j2] at this; omega
/-- choices by places -/
theorem prf_dv (Ln : Nat → Nat) {w : Nat} : ∀ n, w < n → ∃ K, prf Ln n = prf Ln w * (Ln w * K)
  | 0, h => absurd h (Nat.not_lt_zero w)
  | n + 1, h => by
    by_cases q : w = n
    · subst q
      exact ⟨1, by rw [Nat.mul_one]; rfl⟩
    · obtain ⟨K, e⟩ := prf_dv Ln (w := w) n (by omega)
      refine ⟨K * Ln n, ?_⟩
      show prf Ln n * Ln n = _
      rw [e, Nat.mul_assoc, Nat.mul_assoc]
theorem prf_ps (Ln : Nat → Nat) : ∀ n, (∀ w, w < n → 0 < Ln w) → 0 < prf Ln n
  | 0, _ => Nat.one_pos
  | n + 1, h => Nat.mul_pos (prf_ps Ln n (fun w hw => h w (by omega))) (h n (by omega))
theorem mx_ix (Ln ix : Nat → Nat) : ∀ n, (∀ w, w < n → ix w < Ln w) → smf (fun w => ix w * prf Ln w) n < prf Ln n ∧ ∀ w, w < n → smf (fun w => ix w * prf Ln w) n / prf Ln w % Ln w = ix w
  | 0, _ => ⟨Nat.one_pos, fun w hw => absurd hw (Nat.not_lt_zero w)⟩
  | n + 1, h => by
    obtain ⟨h1, h2⟩ := mx_ix Ln ix n (fun w hw => h w (by omega))
    have hn := h n (by omega)
    have hp := prf_ps Ln n (fun w hw => by have := h w (by omega); omega)
    show smf (fun w => ix w * prf Ln w) n + ix n * prf Ln n < prf Ln n * Ln n ∧ _
    refine ⟨?_, fun w hw => ?_⟩
    · have : (ix n + 1) * prf Ln n ≤ Ln n * prf Ln n := Nat.mul_le_mul_right _ hn
      rw [Nat.add_mul, Nat.one_mul] at this
      rw [Nat.mul_comm (prf Ln n)]
      omega
    · show (smf (fun w => ix w * prf Ln w) n + ix n * prf Ln n) / prf Ln w % Ln w = ix w
      by_cases q : w = n
      · subst q
        rw [Nat.add_mul_div_right _ _ hp, Nat.div_eq_of_lt h1, Nat.zero_add, Nat.mod_eq_of_lt hn]
      · have hw' : w < n := by omega
        obtain ⟨K, e⟩ := prf_dv Ln n hw'
        have hpw := prf_ps Ln w (fun v hv => by have := h v (by omega); omega)
        have e2 : ix n * prf Ln n = prf Ln w * (Ln w * (K * ix n)) := by
          rw [e, Nat.mul_comm (ix n), Nat.mul_assoc, Nat.mul_assoc]
        rw [e2, Nat.add_mul_div_left _ _ hpw, Nat.add_mul_mod_self_left]
        exact h2 w hw'
theorem mx_un (Ln : Nat → Nat) : ∀ n c c', c < prf Ln n → c' < prf Ln n → (∀ w, w < n → c / prf Ln w % Ln w = c' / prf Ln w % Ln w) → c = c'
  | 0, c, c', h, h', _ => by
    have h : c < 1 := h
    have h' : c' < 1 := h'
    omega
  | n + 1, c, c', h, h', e => by
    have h : c < prf Ln n * Ln n := h
    have h' : c' < prf Ln n * Ln n := h'
    have hp : 0 < prf Ln n := by
      rcases Nat.eq_zero_or_pos (prf Ln n) with q | q
      · rw [q, Nat.zero_mul] at h; omega
      · exact q
    have d : c / prf Ln n = c' / prf Ln n := by
      have := e n (by omega)
      rwa [Nat.mod_eq_of_lt (Nat.div_lt_of_lt_mul h), Nat.mod_eq_of_lt (Nat.div_lt_of_lt_mul h')] at this
    have m : c % prf Ln n = c' % prf Ln n := by
      refine mx_un Ln n _ _ (Nat.mod_lt _ hp) (Nat.mod_lt _ hp) (fun w hw => ?_)
      obtain ⟨K, q⟩ := prf_dv Ln n hw
      rw [q, Nat.mod_mul_right_div_self, Nat.mod_mul_right_div_self, Nat.mod_mul_right_mod, Nat.mod_mul_right_mod]
      exact e w (by omega)
    rw [← Nat.div_add_mod c (prf Ln n), ← Nat.div_add_mod c' (prf Ln n), d, m]
section
variable {κ : MI} {v : Nat → Nat → Nat → Bool} {T : Nat} {S C : Nat → Nat}
theorem pl_nx (hH : iHs κ) (hS : iSc κ) {t : Int} {s c w : Nat} (hs : s < 1728) (hw : w < us κ) : ((pl (nxt κ t s c) w : Nat) : Int) = mvt κ t s c w := by
  have h := pl_sm (fun w => (mvt κ t s c w).toNat) (us_le hH hS).1 (fun w _ => by have := mv_r hH hs (t := t) c w; omega) hw
  have := mv_r hH hs (t := t) c w
  unfold nxt
  rw [h]
  omega
/-- what a walker's step is like -/
theorem mv_st (hH : iHs κ) (hS : iSc κ) {t s c w : Nat} (hs : s < nst κ) (hw : w < us κ) : sOK κ t (rm s w) (mvd κ (t : Int) s c w) (rm (nxt κ (t : Int) s c) w) ∧ (0 ≤ mvd κ (t : Int) s c w → pl s w % 2 = 0) ∧ (pl (nxt κ (t : Int) s c) w % 2 = 1 ↔ 0 ≤ mvd κ (t : Int) s c w ∧ κ 8 (2 * (w : Int)) = 2) := by
  have hs' := nst_1728 hH hS hs
  obtain ⟨q, h1, h2, h3, -⟩ := mix_at hH (t : Int) s c w
  have hq := List.mem_of_getElem? h1
  have hp := pl_nx hH hS (t := (t : Int)) (c := c) hs' hw
  rw [h3] at hp
  rw [h2]
  rcases mvl_in.mp hq with rfl | ⟨h4, e, h5, h6, rfl⟩
  · simp only at hp ⊢
    refine ⟨Or.inl ⟨rfl, ?_⟩, fun h => by omega, ?_⟩
    · unfold rm at *; omega
    · constructor
      · intro h; omega
      · intro h; omega
  · simp only at hp ⊢
    have hd := hH.2.2.2.2.1 (e : Int) (by omega) h5
    unfold mcd at h6
    rw [Bool.and_eq_true, Bool.or_eq_true, beq_iff_eq, beq_iff_eq] at h6
    have hb : tb (κ 14 (t : Int)) e = false := by simpa using h6.2
    unfold mto at hp
    refine ⟨Or.inr ⟨e, rfl, h5, h6.1, hb, ?_⟩, fun _ => h4, ?_⟩
    · have : rm (nxt κ (t : Int) s c) w = pl (nxt κ (t : Int) s c) w / 2 := rfl
      rw [this]
      split at hp <;> omega
    · split at hp
      · rename_i hq; exact ⟨fun _ => ⟨by omega, hq⟩, fun _ => by omega⟩
      · rename_i hq; exact ⟨fun _ => by omega, fun z => absurd z.2 hq⟩
theorem begb_i {s : Nat} (hs : s < 1728) : begb κ s = true ↔ rOK κ 0 (rm s) ∧ ∀ w : Nat, w < us κ → pl s w % 2 = 0 ∧ tb (κ 8 (2 * (w : Int) + 1)) (rm s w) = true := by
  unfold begb
  rw [Bool.and_eq_true, al_iff, show okb κ 0 s = okb κ ((0 : Nat) : Int) s from rfl, okb_r hs]
  simp only [Bool.and_eq_true, beq_iff_eq]
theorem ch_Wy (hH : iHs κ) (hS : iSc κ) (hv : ∀ t s c, v t s c = true → okb κ ((t : Int) + 1) (nxt κ (t : Int) s c) = true) (h : isCh κ v T S C) : Wy κ T (fun t => rm (S t)) (fun t w => mvd κ (t : Int) (S t) (C t) w) := by
  have hl := fun i (hi : i ≤ T) => nst_1728 hH hS (h.lt hH hS i hi)
  have h0 := (begb_i (hl 0 (Nat.zero_le _))).mp h.1.2
  refine ⟨fun w hw => (h0.2 w hw).2, fun t ht => ?_, fun t ht w hw => ?_, fun t ht w hw hp hd => ?_⟩
  · cases t with
    | zero => exact h0.1
    | succ t =>
      obtain ⟨-, b, e⟩ := h.2 t (by omega)
      have := hv t _ _ b
      rw [← e] at this
      exact (okb_r (hl _ ht)).mp this
  · obtain ⟨-, -, e⟩ := h.2 t ht
    have := (mv_st hH hS (t := t) (c := C t) (h.lt hH hS t (by omega)) hw).1
    rw [← e] at this
    exact this
  · obtain ⟨-, -, e⟩ := h.2 t (by omega)
    have h1 := (mv_st hH hS (t := t) (c := C t) (h.lt hH hS t (by omega)) hw).2.2.mpr ⟨hd, hp⟩
    rw [← e] at h1
    have h2 := (mv_st hH hS (t := t + 1) (c := C (t + 1)) (h.lt hH hS (t + 1) (by omega)) hw).2.1
    have h3 := mv_r hH (hl (t + 1) (by omega)) (t := ((t + 1 : Nat) : Int)) (C (t + 1)) w
    show mvd κ ((t + 1 : Nat) : Int) (S (t + 1)) (C (t + 1)) w = -1
    by_cases q : 0 ≤ mvd κ ((t + 1 : Nat) : Int) (S (t + 1)) (C (t + 1)) w
    · have := h2 q; omega
    · omega
theorem pick {P : Nat → Nat → Prop} {n : Nat} (h : ∀ t, t < n → ∃ c, P t c) : ∃ C : Nat → Nat, ∀ t, t < n → P t (C t) :=
  ⟨fun t => if q : t < n then Classical.choose (h t q) else 0, fun t ht => by
    show P t (if q : t < n then Classical.choose (h t q) else 0)
    rw [dif_pos ht]
    exact Classical.choose_spec (h t ht)⟩
/-- moves of all out of moves of each -/
theorem mv_all (hH : iHs κ) {t : Int} {s : Nat} {q : Nat → Int × Int} (h : ∀ w, w < us κ → q w ∈ mvl κ t s w) : ∃ c, c < mal κ t s ∧ ∀ w, w < us κ → mvd κ t s c w = (q w).1 ∧ mvt κ t s c w = (q w).2 := by
  obtain ⟨ix, hi⟩ := pick (P := fun w i => (mvl κ t s w)[i]? = some (q w)) (fun w hw => List.mem_iff_getElem?.mp (h w hw))
  obtain ⟨h1, h2⟩ := mx_ix (fun w => (mvl κ t s w).length) ix (us κ) (fun w hw => (List.getElem?_eq_some_iff.mp (hi w hw)).1)
  refine ⟨_, h1, fun w hw => ?_⟩
  have e : mix κ t s (smf (fun w => ix w * prf (fun w => (mvl κ t s w).length) w) (us κ)) w = ix w := h2 w hw
  unfold mvd mvt
  rw [e, hi w hw]
  exact ⟨rfl, rfl⟩
/-- rest behind a door -/
def rsd (κ : MI) (D : Nat → Nat → Int) : Nat → Nat → Nat
  | 0, _ => 0
  | t + 1, w => if κ 8 (2 * (w : Int)) = 2 ∧ 0 ≤ D t w then 1 else 0
theorem rsd_s (κ : MI) (D : Nat → Nat → Int) (t w : Nat) : rsd κ D (t + 1) w = if κ 8 (2 * (w : Int)) = 2 ∧ 0 ≤ D t w then 1 else 0 := rfl
theorem rsd_le (κ : MI) (D : Nat → Nat → Int) (t w : Nat) : rsd κ D t w ≤ 1 := by
  cases t with
  | zero => exact Nat.zero_le _
  | succ t => rw [rsd_s]; split <;> omega
theorem Wy_ch (hH : iHs κ) (hS : iSc κ) {X : Nat → Nat → Nat} {D : Nat → Nat → Int} (h : Wy κ T X D) : ∃ S C, isCh κ (lov κ) T S C ∧ (∀ t, t ≤ T → ∀ w, w < us κ → rm (S t) w = X t w) ∧ ∀ t, t < T → ∀ w, w < us κ → mvd κ (t : Int) (S t) (C t) w = D t w := by
  have hu := (us_le hH hS).1
  have hX : ∀ t, t ≤ T → ∀ w, w < us κ → X t w < 6 := fun t ht w hw => by
    have := ((h.2.1 t ht).2 w hw).2.1
    have := hH.1
    omega
  obtain ⟨S, hSd⟩ : ∃ S : Nat → Nat, ∀ t, S t = smf (fun w => 12 ^ w * (2 * X t w + rsd κ D t w)) (us κ) := ⟨_, fun _ => rfl⟩
  have hp : ∀ t, t ≤ T → ∀ w, w < us κ → pl (S t) w = 2 * X t w + rsd κ D t w := fun t ht w hw => by
    rw [hSd]
    exact pl_sm _ hu (fun w hw => by have := hX t ht w hw; have := rsd_le κ D t w; omega) hw
  have hr : ∀ t, t ≤ T → ∀ w, w < us κ → rm (S t) w = X t w := fun t ht w hw => by
    have := hp t ht w hw
    have := rsd_le κ D t w
    unfold rm; omega
  have hl : ∀ t, t ≤ T → S t < nst κ := fun t ht => by
    rw [hSd]
    unfold nst
    have b : ∀ n, n ≤ us κ → smf (fun w => 12 ^ w * (2 * X t w + rsd κ D t w)) n < 12 ^ n := by
      intro n
      induction n with
      | zero => intro _; simp [smf]
      | succ n ih =>
        intro hn
        have := ih (by omega)
        have := hX t ht n (by omega)
        have := rsd_le κ D t n
        unfold smf
        rw [Nat.pow_succ]
        have h2 : 12 ^ n * (2 * X t n + rsd κ D t n) ≤ 12 ^ n * 11 := Nat.mul_le_mul_left _ (by omega)
        omega
    exact b _ (Nat.le_refl _)
  have hst : ∀ t, t < T → ∃ c, c < mal κ (t : Int) (S t) ∧ (∀ w, w < us κ → mvd κ (t : Int) (S t) c w = D t w) ∧ S (t + 1) = nxt κ (t : Int) (S t) c := fun t ht => by
    obtain ⟨c, h1, h2⟩ := mv_all hH (t := (t : Int)) (s := S t) (q := fun w => (D t w, ((2 * X (t + 1) w + rsd κ D (t + 1) w : Nat) : Int))) (fun w hw => by
      rw [mvl_in, hr t (by omega) w hw]
      rcases h.2.2.1 t ht w hw with ⟨e1, e2⟩ | ⟨e, e1, e2, e3, e4, e5⟩
      · left
        have : rsd κ D (t + 1) w = 0 := by rw [rsd_s, if_neg (by omega)]
        rw [this, e1, e2]
        rfl
      · right
        refine ⟨?_, e, e2, ?_, ?_⟩
        · rw [hp t (by omega) w hw]
          cases t with
          | zero => show (2 * X 0 w + 0) % 2 = 0; omega
          | succ t =>
            have : rsd κ D (t + 1) w = 0 := by
              rw [rsd_s, if_neg]
              rintro ⟨z1, z2⟩
              have := h.2.2.2 t (by omega) w hw z1 z2
              omega
            rw [this]; omega
        · unfold mcd
          rw [Bool.and_eq_true, Bool.or_eq_true, beq_iff_eq, beq_iff_eq, hr t (by omega) w hw]
          exact ⟨e3, by rw [e4]; rfl⟩
        · unfold mto
          rw [e1, hr t (by omega) w hw]
          refine Prod.ext rfl ?_
          show ((2 * X (t + 1) w + rsd κ D (t + 1) w : Nat) : Int) = _
          by_cases z : κ 8 (2 * (w : Int)) = 2
          · have : rsd κ D (t + 1) w = 1 := by rw [rsd_s, if_pos ⟨z, by omega⟩]
            rw [this, if_pos z]; omega
          · have : rsd κ D (t + 1) w = 0 := by rw [rsd_s, if_neg (fun y => z y.1)]
            rw [this, if_neg z]; omega)
    refine ⟨c, h1, fun w hw => (h2 w hw).1, ?_⟩
    rw [hSd]
    unfold nxt
    refine smf_congr (fun w hw => ?_)
    rw [(h2 w hw).2]
    rfl
  obtain ⟨C, hC⟩ := pick hst
  refine ⟨S, C, ⟨⟨hl 0 (Nat.zero_le _), (begb_i (nst_1728 hH hS (hl 0 (Nat.zero_le _)))).mpr ⟨(h.2.1 0 (Nat.zero_le _)).cg (fun w hw => hr 0 (Nat.zero_le _) w hw), fun w hw => ⟨?_, ?_⟩⟩⟩, fun t ht => ⟨(hC t ht).1, ?_, (hC t ht).2.2⟩⟩, hr, fun t ht => (hC t ht).2.1⟩
  · rw [hp 0 (Nat.zero_le _) w hw]
    show (2 * X 0 w + 0) % 2 = 0
    omega
  · rw [hr 0 (Nat.zero_le _) w hw]; exact h.1 w hw
  · unfold lov
    rw [← (hC t ht).2.2]
    exact (okb_r (nst_1728 hH hS (hl (t + 1) (by omega)))).mpr ((h.2.1 (t + 1) (by omega)).cg (fun w hw => hr (t + 1) (by omega) w hw))
/-- one chain for a reading -/
theorem ch_un (hH : iHs κ) (hS : iSc κ) {S' C' : Nat → Nat} (h : isCh κ v T S C) (h' : isCh κ v T S' C') (hr : ∀ w, w < us κ → rm (S 0) w = rm (S' 0) w) (hd : ∀ t, t < T → ∀ w, w < us κ → mvd κ (t : Int) (S t) (C t) w = mvd κ (t : Int) (S' t) (C' t) w) : ∀ t, t ≤ T → S t = S' t ∧ (t < T → C t = C' t) := by
  have key : ∀ t, t < T → S t = S' t → C t = C' t := fun t ht e => by
    have hd := hd t ht
    obtain ⟨a, -, -⟩ := h.2 t ht
    obtain ⟨a', -, -⟩ := h'.2 t ht
    rw [← e] at hd a'
    refine mx_un (fun w => (mvl κ (t : Int) (S t) w).length) (us κ) _ _ a a' (fun w hw => ?_)
    obtain ⟨q, h1, h2, -, -⟩ := mix_at hH (t : Int) (S t) (C t) w
    obtain ⟨q', h1', h2', -, -⟩ := mix_at hH (t : Int) (S t) (C' t) w
    exact pw_ix mvl_pw h1 h1' (by rw [← h2, ← h2']; exact hd w hw)
  intro t
  induction t with
  | zero =>
    intro _
    have e : S 0 = S' 0 := by
      refine st_ex (us_le hH hS).1 h.1.1 h'.1.1 (fun w hw => ?_)
      have a := ((begb_i (nst_1728 hH hS h.1.1)).mp h.1.2).2 w hw
      have a' := ((begb_i (nst_1728 hH hS h'.1.1)).mp h'.1.2).2 w hw
      have := hr w hw
      unfold rm at this
      omega
    exact ⟨e, fun ht => key 0 ht e⟩
  | succ t ih =>
    intro ht
    obtain ⟨e1, e2⟩ := ih (by omega)
    have e2 := e2 (by omega)
    have e : S (t + 1) = S' (t + 1) := by
      rw [(h.2 t (by omega)).2.2, (h'.2 t (by omega)).2.2, e1, e2]
    exact ⟨e, fun ht => key _ ht e⟩
end

/-! THE MIRROR: prices. -/
section
variable {κ κ' : MI} {m f : Int}
def cs_ (κ : MI) (m f : Int) (S C : Nat → Nat) (T : Nat) : Int := smi (fun i => cst κ m f i (S i) (C i)) T
theorem cst_nn (hm : 0 ≤ m) (hf : 0 ≤ f) (t s c : Nat) : 0 ≤ cst κ m f t s c := by
  have h1 : 0 ≤ mis κ t s c := (pc_r _).1
  have h2 : 0 ≤ slf κ t s c := (pc_r _).1
  have := Int.mul_nonneg hm h1
  have := Int.mul_nonneg hf h2
  unfold cst
  omega
theorem cb_i (hH : iHs κ) (hS : iSc κ) (hm : 0 ≤ m) (hf : 0 ≤ f) : ∀ t x, x < nst κ → OPT true (cbV κ m f t x) (fun v => ∃ S C, isCh κ (lov κ) t S C ∧ S t = x ∧ v = cs_ κ m f S C t)
  | 0, x, hx => by
    show OPT true (if begb κ x then 0 else -1) _
    by_cases hb : begb κ x = true
    · rw [if_pos hb]
      refine Or.inr ⟨⟨fun _ => x, fun _ => 0, ⟨⟨hx, hb⟩, fun i hi => absurd hi (Nat.not_lt_zero i)⟩, rfl, rfl⟩, Int.le_refl _, ?_⟩
      rintro v ⟨S, C, -, -, rfl⟩
      exact Int.le_refl _
    · rw [if_neg hb]
      refine Or.inl ⟨rfl, ?_⟩
      rintro v ⟨S, C, h, rfl, -⟩
      exact hb h.1.2
  | t + 1, x, hx => by
    have h := cb_opt (κ := κ) (m := m) (f := f) (t := t) (V := cbV κ m f t) (fun s c h => by have := cst_nn (κ := κ) hm hf t s c; omega) x
    have lo : ∀ S C, isCh κ (lov κ) (t + 1) S C → S (t + 1) = x → ∃ w, w ≤ cs_ κ m f S C (t + 1) ∧ ∃ s c, s < nst κ ∧ 0 ≤ cbV κ m f t s ∧ c < mal κ (t : Int) s ∧ okb κ ((t : Int) + 1) (nxt κ (t : Int) s c) = true ∧ nxt κ (t : Int) s c = x ∧ w = cbV κ m f t s + cst κ m f t s c := by
      intro S C a e
      obtain ⟨b1, b2, b3⟩ := a.2 t (by omega)
      have hl := a.lt hH hS t (by omega)
      have pre : ∃ S' C', isCh κ (lov κ) t S' C' ∧ S' t = S t ∧ cs_ κ m f S C t = cs_ κ m f S' C' t := ⟨S, C, a.pre (by omega), rfl, rfl⟩
      rcases cb_i hH hS hm hf t (S t) hl with ⟨-, no⟩ | ⟨-, h0, hmin⟩
      · exact absurd pre (no _)
      · have h2 := hmin _ pre
        simp only [if_true] at h2
        refine ⟨cbV κ m f t (S t) + cst κ m f t (S t) (C t), ?_, S t, C t, hl, h0, b1, b2, by rw [← b3, e], rfl⟩
        show _ ≤ cs_ κ m f S C t + cst κ m f t (S t) (C t)
        omega
    rcases h with ⟨h1, h2⟩ | ⟨⟨s, c, h1, h2, h3, h4, h5, h6⟩, h7, h8⟩
    · refine Or.inl ⟨h1, ?_⟩
      rintro v ⟨S, C, a, e, rfl⟩
      obtain ⟨w, -, hw⟩ := lo S C a e
      exact h2 w hw
    · refine Or.inr ⟨?_, h7, ?_⟩
      · rcases cb_i hH hS hm hf t s h1 with ⟨q, -⟩ | ⟨⟨S, C, a, rfl, q⟩, -, -⟩
        · omega
        · obtain ⟨S', C', a', b', d', e', f'⟩ := a.ext h3 h4
          refine ⟨S', C', a', by rw [f', h5], ?_⟩
          have e1 : cs_ κ m f S' C' t = cs_ κ m f S C t := smi_cg _ (fun i hi => by rw [b' i (by omega), d' i hi])
          show _ = cs_ κ m f S' C' t + cst κ m f t (S' t) (C' t)
          rw [e1, b' t (Nat.le_refl _), e', ← q]
          exact h6
      · rintro v ⟨S, C, a, e, rfl⟩
        obtain ⟨w, hw1, hw⟩ := lo S C a e
        have h9 := h8 w hw
        simp only [if_true] at h9 ⊢
        exact Int.le_trans h9 hw1
theorem cbB_i {V : Nat → Int} : ∀ n, (cbB V n = -9 ∧ ∀ s, s < n → V s < 0) ∨ ((∃ s, s < n ∧ 0 ≤ V s ∧ cbB V n = V s) ∧ ∀ s, s < n → 0 ≤ V s → cbB V n ≤ V s)
  | 0 => Or.inl ⟨rfl, fun s hs => absurd hs (Nat.not_lt_zero s)⟩
  | n + 1 => by
    unfold cbB
    split
    · rename_i h
      right
      refine ⟨⟨n, by omega, h.1, rfl⟩, fun s hs h0 => ?_⟩
      by_cases e : s = n
      · subst e; exact Int.le_refl _
      · rcases cbB_i (V := V) n with ⟨-, h2⟩ | ⟨⟨s1, h1, h2, h3⟩, h4⟩
        · have := h2 s (by omega); omega
        · have := h4 s (by omega) h0
          rcases h.2 with q | q <;> omega
    · rename_i h
      rcases cbB_i (V := V) n with ⟨h1, h2⟩ | ⟨⟨s1, h1, h2, h3⟩, h4⟩
      · left
        refine ⟨h1, fun s hs => ?_⟩
        by_cases e : s = n
        · subst e
          by_cases q : V s < 0
          · exact q
          · exact absurd ⟨by omega, Or.inl h1⟩ h
        · exact h2 s (by omega)
      · right
        refine ⟨⟨s1, by omega, h2, h3⟩, fun s hs h0 => ?_⟩
        by_cases e : s = n
        · subst e
          by_cases q : V s < cbB V s
          · exact absurd ⟨h0, Or.inr q⟩ h
          · omega
        · exact h4 s (by omega) h0
/-- the prices that there are; the least one -/
def CBs (κ : MI) (m f v : Int) : Prop := ∃ S C, isCh κ (lov κ) (lst κ) S C ∧ v = cs_ κ m f S C (lst κ)
def cB_ (κ : MI) (m f : Int) : Int := cbB (cbV κ m f (lst κ)) (nst κ)
theorem cb_all (hH : iHs κ) (hS : iSc κ) (hm : 0 ≤ m) (hf : 0 ≤ f) : (cB_ κ m f = -9 ∧ ∀ v, ¬ CBs κ m f v) ∨ (CBs κ m f (cB_ κ m f) ∧ 0 ≤ cB_ κ m f ∧ ∀ v, CBs κ m f v → cB_ κ m f ≤ v) := by
  unfold cB_
  rcases cbB_i (V := cbV κ m f (lst κ)) (nst κ) with ⟨h1, h2⟩ | ⟨⟨s, h1, h2, h3⟩, h4⟩
  · refine Or.inl ⟨h1, ?_⟩
    rintro v ⟨S, C, a, e⟩
    have hl := a.lt hH hS (lst κ) (Nat.le_refl _)
    rcases cb_i hH hS hm hf (lst κ) _ hl with ⟨-, q⟩ | ⟨-, q, -⟩
    · exact q v ⟨S, C, a, rfl, e⟩
    · have := h2 _ hl; omega
  · refine Or.inr ⟨?_, by omega, ?_⟩
    · rcases cb_i hH hS hm hf (lst κ) s h1 with ⟨q, -⟩ | ⟨⟨S, C, a, -, q⟩, -, -⟩
      · omega
      · exact ⟨S, C, a, by rw [h3]; exact q⟩
    · rintro v ⟨S, C, a, e⟩
      have hl := a.lt hH hS (lst κ) (Nat.le_refl _)
      rcases cb_i hH hS hm hf (lst κ) _ hl with ⟨-, q⟩ | ⟨-, q, q2⟩
      · exact absurd ⟨S, C, a, rfl, e⟩ (q v)
      · have h5 := h4 _ hl q
        have h6 := q2 v ⟨S, C, a, rfl, e⟩
        simp only [if_true] at h6
        omega
theorem m_CBs (hH : iHs κ) (hS : iSc κ) (hH' : iHs κ') (hS' : iSc κ') (mi : Mir κ κ') {v : Int} (h : CBs κ m f v) : CBs κ' m f v := by
  obtain ⟨S, C, a, rfl⟩ := h
  obtain ⟨S', C', b, r⟩ := mir_lo hH hS hH' hS' mi a
  refine ⟨S', C', b, ?_⟩
  unfold cs_
  rw [mi.1.2.1]
  refine (smi_rev _ _ _ (fun t u e => ?_)).symm
  unfold cst mis slf
  rw [r.pa_ mi e, mi.1.2.2.2.2.1, (mi.2.2.2.1 t u e).1]
theorem m_cB (hH : iHs κ) (hS : iSc κ) (hH' : iHs κ') (hS' : iSc κ') (mi : Mir κ κ') (mi' : Mir κ' κ) (hm : 0 ≤ m) (hf : 0 ≤ f) : cB_ κ' m f = cB_ κ m f := by
  rcases cb_all hH hS hm hf with ⟨h1, h2⟩ | ⟨h1, h2, h3⟩ <;> rcases cb_all hH' hS' hm hf with ⟨k1, k2⟩ | ⟨k1, k2, k3⟩
  · rw [h1, k1]
  · exact absurd (m_CBs hH' hS' hH hS mi' k1) (h2 _)
  · exact absurd (m_CBs hH hS hH' hS' mi h1) (k2 _)
  · have a := h3 _ (m_CBs hH' hS' hH hS mi' k1)
    have b := k3 _ (m_CBs hH hS hH' hS' mi h1)
    omega
/-- a price, by misses and selves -/
theorem smi_mul (k : Int) (g : Nat → Int) : ∀ n, smi (fun i => k * g i) n = k * smi g n
  | 0 => (Int.mul_zero k).symm
  | n + 1 => by
    show smi (fun i => k * g i) n + k * g n = k * (smi g n + g n)
    rw [smi_mul k g n, Int.mul_add]
def mS_ (κ : MI) (S C : Nat → Nat) : Int := smi (fun i => mis κ i (S i) (C i)) (lst κ)
def fS_ (κ : MI) (S C : Nat → Nat) : Int := smi (fun i => slf κ i (S i) (C i)) (lst κ)
theorem cs_mf (S C : Nat → Nat) : cs_ κ m f S C (lst κ) = 1000 * (m * mS_ κ S C + f * fS_ κ S C) + mS_ κ S C := by
  unfold cs_ mS_ fS_ cst
  rw [smi_add, smi_mul, smi_add, smi_mul, smi_mul]
theorem mS_r (hH : iHs κ) (hS : iSc κ) {S C : Nat → Nat} (h : isCh κ (lov κ) (lst κ) S C) : (0 ≤ mS_ κ S C ∧ mS_ κ S C < 1000) ∧ 0 ≤ fS_ κ S C := by
  have hl : lst κ ≤ 30 := by have := hH.2.2.2.1; unfold lst; omega
  have b : ∀ n, n ≤ lst κ → smi (fun i => mis κ i (S i) (C i)) n ≤ 8 * n := by
    intro n
    induction n with
    | zero => intro _; exact Int.le_refl _
    | succ n ih =>
      intro hn
      have := ih (by omega)
      have := (mis_r hH (nst_1728 hH hS (h.lt hH hS n (by omega))) (t := n) (C n)).2
      unfold smi
      omega
  have := b (lst κ) (Nat.le_refl _)
  refine ⟨⟨smi_nn _ (fun i _ => (pc_r _).1), ?_⟩, smi_nn _ (fun i _ => (pc_r _).1)⟩
  unfold mS_
  omega
/-- who pays nothing walks a way -/
theorem free_way (hH : iHs κ) (hS : iSc κ) (hM : iMs κ) (h36 : κ 0 36 < 0) (hb : ∀ t : Nat, t < lst κ → ∀ k, k < 32 → tb (κ 13 (t : Int)) k = true → tb (κ 0 35) k = true) {S C : Nat → Nat} (h : isCh κ (lov κ) (lst κ) S C) (e1 : mS_ κ S C = 0) (e2 : fS_ κ S C = 0) : isCh κ (tgv κ) (lst κ) S C := by
  refine ⟨h.1, fun t ht => ⟨(h.2 t ht).1, ?_, (h.2 t ht).2.2⟩⟩
  have hs := nst_1728 hH hS (h.lt hH hS t (by omega))
  have z0 : ∀ {x : Int}, 0 ≤ x ∧ x ≤ 2147483647 → pc x = 0 → x = 0 := by
    intro x hx hp
    rw [pc_smi hx] at hp
    refine tb_ext (by omega) (by omega) (fun k hk => ?_)
    rw [tb_0]
    have := smi_at (f := fun k => if tb x k = true then 1 else 0) 32 (fun i _ => by split <;> omega) k hk
    rw [hp] at this
    by_cases q : tb x k = true
    · simp only [if_pos q] at this; omega
    · simpa using q
  have m1 : mis κ t (S t) (C t) = 0 := by
    have a := smi_at (f := fun i => mis κ i (S i) (C i)) (lst κ) (fun i _ => (pc_r _).1) t ht
    have b : 0 ≤ mis κ t (S t) (C t) := (pc_r _).1
    unfold mS_ at e1
    omega
  have m2 : slf κ t (S t) (C t) = 0 := by
    have a := smi_at (f := fun i => slf κ i (S i) (C i)) (lst κ) (fun i _ => (pc_r _).1) t ht
    have b : 0 ≤ slf κ t (S t) (C t) := (pc_r _).1
    unfold fS_ at e2
    omega
  have s1 := sm8_r (sm8_and (y := z_xor (κ 13 (t : Int)) (-1)) (sm8_and (y := κ 0 35) (pas_sm hH hs (C t) (t := t))))
  have s2 := sm8_r (sm8_and (y := z_xor (pas κ (t : Int) (S t) (C t)) (-1)) (hM.2 (t : Int)))
  have q1 := z_not_in.mp (z0 (by omega) m1)
  have q2 := z_not_in.mp (z0 (by omega) m2)
  unfold tgv vld
  rw [Bool.and_eq_true, beq_iff_eq]
  refine ⟨?_, (h.2 t ht).2.1⟩
  rw [byK_n h36]
  refine tb_ext (z_and_r _ _) (by have := sm8_r (hM.2 (t : Int)); omega) (fun k hk => ?_)
  rw [Bool.eq_iff_iff]
  constructor
  · exact q1 k hk
  · intro q
    rw [tb_and, q2 k hk q, hb t ht k hk q]
    rfl
theorem cB_pos (hH : iHs κ) (hS : iSc κ) (hM : iMs κ) (h36 : κ 0 36 < 0) (hb : ∀ t : Nat, t < lst κ → ∀ k, k < 32 → tb (κ 13 (t : Int)) k = true → tb (κ 0 35) k = true) (h9 : fst0 κ ≠ -9) (hm : 0 < m) (hf : 0 < f) (hn : cB_ κ m f ≠ -9) : 0 < cB_ κ m f / 1000 := by
  rcases cb_all hH hS (Int.le_of_lt hm) (Int.le_of_lt hf) with ⟨h1, -⟩ | ⟨⟨S, C, a, e⟩, h2, -⟩
  · exact absurd h1 hn
  · obtain ⟨b1, b2⟩ := mS_r hH hS a
    rw [cs_mf] at e
    have p1 := Int.mul_nonneg (Int.le_of_lt hm) b1.1
    have p2 := Int.mul_nonneg (Int.le_of_lt hf) b2
    have : ¬ (m * mS_ κ S C + f * fS_ κ S C = 0) := by
      intro z
      have z1 : m * mS_ κ S C = 0 := by omega
      have z2 : f * fS_ κ S C = 0 := by omega
      have y1 : mS_ κ S C = 0 := by rcases Int.mul_eq_zero.mp z1 with q | q <;> omega
      have y2 : fS_ κ S C = 0 := by rcases Int.mul_eq_zero.mp z2 with q | q <;> omega
      exact h9 ((fst_ch hH hS).mpr ⟨S, C, free_way hH hS hM h36 hb a y1 y2⟩)
    omega
theorem cB_le (hH : iHs κ) (hS : iSc κ) {m' f' : Int} (h0 : 0 ≤ m' ∧ 0 ≤ f') (hm : m' ≤ m) (hf : f' ≤ f) (hn : cB_ κ m f ≠ -9) : cB_ κ m' f' ≠ -9 ∧ cB_ κ m' f' ≤ cB_ κ m f := by
  rcases cb_all (m := m) (f := f) hH hS (by omega) (by omega) with ⟨h1, -⟩ | ⟨⟨S, C, a, e⟩, h2, -⟩
  · exact absurd h1 hn
  · rcases cb_all hH hS h0.1 h0.2 with ⟨-, k2⟩ | ⟨-, k2, k3⟩
    · exact absurd ⟨S, C, a, rfl⟩ (k2 _)
    · refine ⟨by omega, ?_⟩
      obtain ⟨b1, b2⟩ := mS_r hH hS a
      have := k3 _ ⟨S, C, a, rfl⟩
      rw [cs_mf] at e this
      have := Int.mul_le_mul_of_nonneg_right hm b1.1
      have := Int.mul_le_mul_of_nonneg_right hf b2
      omega
theorem cB_00 (hH : iHs κ) (hS : iSc κ) (hn : cB_ κ 0 0 ≠ -9) : cB_ κ 0 0 / 1000 = 0 := by
  rcases cb_all (m := 0) (f := 0) hH hS (by omega) (by omega) with ⟨h1, -⟩ | ⟨⟨S, C, a, e⟩, h2, -⟩
  · exact absurd h1 hn
  · obtain ⟨b1, b2⟩ := mS_r hH hS a
    rw [cs_mf] at e
    omega
end

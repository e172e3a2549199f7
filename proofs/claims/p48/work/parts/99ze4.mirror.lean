/-! THE MIRROR: a night back to front, rooms the other way round. -/
def mr_ (κ : MI) (r : Nat) : Nat := (κ 0 11).toNat - 1 - r
def mm_ (R x : Int) : Int := if x < 0 then x else R - 1 - x
def Mir (κ κ' : MI) : Prop :=
  (us κ' = us κ ∧ lst κ' = lst κ ∧ κ' 0 12 = κ 0 12 ∧ κ' 0 11 = κ 0 11 ∧ κ' 0 35 = κ 0 35 ∧ κ 0 36 < 0 ∧ κ' 0 36 < 0) ∧
  (∀ e : Nat, (e : Int) < κ 0 12 → κ' 7 (3 * (e : Int)) = κ 0 11 - 1 - κ 7 (3 * (e : Int) + 1) ∧ κ' 7 (3 * (e : Int) + 1) = κ 0 11 - 1 - κ 7 (3 * (e : Int)) ∧ κ' 7 (3 * (e : Int) + 2) = κ 7 (3 * (e : Int) + 2)) ∧
  (∀ w : Nat, w < us κ → κ' 8 (2 * (w : Int)) = κ 8 (2 * (w : Int)) ∧ ∀ r : Nat, (r : Int) < κ 0 11 → tb (κ' 8 (2 * (w : Int) + 1)) r = true) ∧
  (∀ t u : Nat, t + u + 1 = lst κ → κ' 13 (u : Int) = κ 13 (t : Int) ∧ κ' 14 (u : Int) = κ 14 (t : Int)) ∧
  ∀ t u : Nat, t + u = lst κ → (∀ k, k < 32 → tb (κ' 15 (u : Int)) k = true → (k : Int) < κ 0 11) ∧ (∀ r q : Nat, (r : Int) + q + 1 = κ 0 11 → tb (κ' 15 (u : Int)) q = tb (κ 15 (t : Int)) r ∧ tb (κ' 16 (u : Int)) q = tb (κ 16 (t : Int)) r) ∧ ∀ w : Nat, w < us κ → κ' 17 (3 * (u : Int) + w) = mm_ (κ 0 11) (κ 17 (3 * (t : Int) + w))
section
variable {κ κ' : MI}
theorem mr_r {r : Nat} (h : (r : Int) < κ 0 11) : ((mr_ κ r : Nat) : Int) = κ 0 11 - 1 - r := by unfold mr_; omega
theorem mr_mr {r : Nat} (h : (r : Int) < κ 0 11) : mr_ κ (mr_ κ r) = r := by unfold mr_; omega
theorem Wy_m (hH : iHs κ) (m : Mir κ κ') {X : Nat → Nat → Nat} {D : Nat → Nat → Int} (h : Wy κ (lst κ) X D) : Wy κ' (lst κ) (fun u w => mr_ κ (X (lst κ - u) w)) (fun u w => D (lst κ - 1 - u) w) := by
  obtain ⟨⟨mu, ml, m12, m11, m35, -, -⟩, md, mw, ms, mk⟩ := m
  have hR : ∀ t, t ≤ lst κ → ∀ w, w < us κ → ((X t w : Nat) : Int) < κ 0 11 := fun t ht w hw => ((h.2.1 t ht).2 w hw).2.1
  refine ⟨fun w hw => ?_, fun u hu => ?_, fun u hu w hw => ?_, fun u hu w hw hp hd => ?_⟩
  · rw [mu] at hw
    refine (mw w hw).2 _ ?_
    have := hR (lst κ - 0) (by omega) w hw
    rw [mr_r this]; omega
  · obtain ⟨k1, k2, k3⟩ := mk (lst κ - u) u (by omega)
    obtain ⟨h1, h2⟩ := h.2.1 (lst κ - u) (by omega)
    refine ⟨fun k hk hb => ?_, fun w hw => ?_⟩
    · have hkR := k1 k hk hb
      have e : (((mr_ κ k : Nat) : Int) + k + 1 = κ 0 11) := by rw [mr_r hkR]; omega
      rw [(k2 (mr_ κ k) k e).1] at hb
      have := hH.1
      obtain ⟨w, hw, q⟩ := h1 (mr_ κ k) (by omega) hb
      refine ⟨w, by rw [mu]; exact hw, ?_⟩
      show k = mr_ κ (X (lst κ - u) w)
      rw [← q, mr_mr hkR]
    · rw [mu] at hw
      show tb (κ' 16 (u : Int)) (mr_ κ (X (lst κ - u) w)) = false ∧ ((mr_ κ (X (lst κ - u) w) : Nat) : Int) < κ' 0 11 ∧ (κ' 17 (3 * (u : Int) + w) = -1 ∨ κ' 17 (3 * (u : Int) + w) = ((mr_ κ (X (lst κ - u) w) : Nat) : Int))
      obtain ⟨a, b, c⟩ := h2 w hw
      have e : ((X (lst κ - u) w : Nat) : Int) + (mr_ κ (X (lst κ - u) w) : Nat) + 1 = κ 0 11 := by rw [mr_r b]; omega
      refine ⟨by rw [(k2 _ _ e).2]; exact a, by rw [m11, mr_r b]; omega, ?_⟩
      rw [k3 w hw, mr_r b]
      rcases c with c | c
      · left; rw [c]; rfl
      · right; rw [c]; unfold mm_; rw [if_neg (by omega)]
  · rw [mu] at hw
    obtain ⟨t, ht⟩ : ∃ t, t + u + 1 = lst κ := ⟨lst κ - 1 - u, by omega⟩
    show sOK κ' u (mr_ κ (X (lst κ - u) w)) (D (lst κ - 1 - u) w) (mr_ κ (X (lst κ - (u + 1)) w))
    rw [show lst κ - u = t + 1 by omega, show lst κ - 1 - u = t by omega, show lst κ - (u + 1) = t by omega]
    have h1 := hR t (by omega) w hw
    have h2 := hR (t + 1) (by omega) w hw
    rcases h.2.2.1 t (by omega) w hw with ⟨a, b⟩ | ⟨e, a, b, c, d, f⟩
    · left; exact ⟨a, by rw [b]⟩
    · right
      obtain ⟨e1, e2, -⟩ := md e b
      refine ⟨e, a, by rw [m12]; exact b, ?_, by rw [(ms t u ht).2]; exact d, ?_⟩
      · rw [e1, e2, mr_r h2]; omega
      · rw [e1, e2, mr_r h2, mr_r h1]; omega
  · rw [mu] at hw
    rw [(mw w hw).1] at hp
    obtain ⟨t, ht⟩ : ∃ t, t + u + 2 = lst κ := ⟨lst κ - 2 - u, by omega⟩
    have q1 : lst κ - 1 - u = t + 1 := by omega
    have q2 : lst κ - 1 - (u + 1) = t := by omega
    have hd : 0 ≤ D (lst κ - 1 - u) w := hd
    show D (lst κ - 1 - (u + 1)) w = -1
    rw [q1] at hd
    rw [q2]
    have h3 := h.2.2.2 t (by omega) w hw hp
    rcases h.2.2.1 t (by omega) w hw with ⟨a, -⟩ | ⟨e, a, -⟩
    · exact a
    · have := h3 (by omega); omega
/-- two chains, one the other's mirror -/
def RM (κ κ' : MI) (S C S' C' : Nat → Nat) : Prop := (∀ t u, t + u = lst κ → ∀ w, w < us κ → ((rm (S t) w : Nat) : Int) < κ 0 11 ∧ rm (S' u) w = mr_ κ (rm (S t) w)) ∧ ∀ t u, t + u + 1 = lst κ → ∀ w, w < us κ → mvd κ' (u : Int) (S' u) (C' u) w = mvd κ (t : Int) (S t) (C t) w
theorem RM.pa_ (m : Mir κ κ') {S C S' C' : Nat → Nat} (h : RM κ κ' S C S' C') {t u : Nat} (e : t + u + 1 = lst κ) : pas κ' (u : Int) (S' u) (C' u) = pas κ (t : Int) (S t) (C t) := by
  unfold pas
  rw [m.1.1]
  exact orf_congr (fun w hw => by rw [h.2 t u e w hw])
theorem lov_ok {κ : MI} (t s c : Nat) (h : lov κ t s c = true) : okb κ ((t : Int) + 1) (nxt κ (t : Int) s c) = true := h
theorem tgv_ok {κ : MI} (t s c : Nat) (h : tgv κ t s c = true) : okb κ ((t : Int) + 1) (nxt κ (t : Int) s c) = true := by
  unfold tgv vld at h
  rw [Bool.and_eq_true] at h
  exact h.2
theorem isCh.lo {κ : MI} {T : Nat} {S C : Nat → Nat} (h : isCh κ (tgv κ) T S C) : isCh κ (lov κ) T S C := ⟨h.1, fun i hi => ⟨(h.2 i hi).1, tgv_ok _ _ _ (h.2 i hi).2.1, (h.2 i hi).2.2⟩⟩
theorem mir_lo (hH : iHs κ) (hS : iSc κ) (hH' : iHs κ') (hS' : iSc κ') (m : Mir κ κ') {S C : Nat → Nat} (h : isCh κ (lov κ) (lst κ) S C) : ∃ S' C', isCh κ' (lov κ') (lst κ') S' C' ∧ RM κ κ' S C S' C' := by
  have hW := ch_Wy hH hS lov_ok h
  obtain ⟨S', C', a, b, c⟩ := Wy_ch hH' hS' (Wy_m hH m hW)
  refine ⟨S', C', by rw [m.1.2.1]; exact a, fun t u e w hw => ⟨((hW.2.1 t (by omega)).2 w hw).2.1, ?_⟩, fun t u e w hw => ?_⟩
  · rw [b u (by omega) w (by rw [m.1.1]; exact hw), show lst κ - u = t by omega]
  · rw [c u (by omega) w (by rw [m.1.1]; exact hw), show lst κ - 1 - u = t by omega]
theorem byK_n {κ : MI} {t : Int} (h : κ 0 36 < 0) : byK κ t = κ 0 35 := by unfold byK; rw [if_neg (by omega)]
theorem mir_tg (hH : iHs κ) (hS : iSc κ) (hH' : iHs κ') (hS' : iSc κ') (m : Mir κ κ') {S C : Nat → Nat} (h : isCh κ (tgv κ) (lst κ) S C) : ∃ S' C', isCh κ' (tgv κ') (lst κ') S' C' ∧ RM κ κ' S C S' C' := by
  obtain ⟨S', C', a, b⟩ := mir_lo hH hS hH' hS' m h.lo
  refine ⟨S', C', ⟨a.1, fun u hu => ⟨(a.2 u hu).1, ?_, (a.2 u hu).2.2⟩⟩, b⟩
  have hl := m.1.2.1
  obtain ⟨t, ht⟩ : ∃ t, t + u + 1 = lst κ := ⟨lst κ - 1 - u, by omega⟩
  have ho := (a.2 u hu).2.1
  have hv := (h.2 t (by omega)).2.1
  unfold tgv vld at hv ⊢
  unfold lov at ho
  rw [Bool.and_eq_true, beq_iff_eq] at hv ⊢
  refine ⟨?_, ho⟩
  rw [b.pa_ m ht, byK_n m.1.2.2.2.2.2.2, m.1.2.2.2.2.1, (m.2.2.2.1 t u ht).1, ← byK_n (t := (t : Int)) m.1.2.2.2.2.2.1]
  exact hv.1
theorem m_fst (hH : iHs κ) (hS : iSc κ) (hH' : iHs κ') (hS' : iSc κ') (m : Mir κ κ') (h : fst0 κ = -9) : fst0 κ' = -9 := by
  obtain ⟨S, C, h⟩ := (fst_ch hH hS).mp h
  obtain ⟨S', C', a, -⟩ := mir_tg hH hS hH' hS' m h
  exact (fst_ch hH' hS').mpr ⟨S', C', a⟩
/-- rooms of a minute -/
theorem mnI_m {s s' : Nat} {r q : Nat} (e : (r : Int) + q + 1 = κ 0 11) : ∀ n, (∀ w, w < n → ((rm s w : Nat) : Int) < κ 0 11 ∧ rm s' w = mr_ κ (rm s w)) → mnI s' (q : Int) n = mnI s (r : Int) n
  | 0, _ => rfl
  | n + 1, h => by
    unfold mnI
    rw [mnI_m e n (fun w hw => h w (by omega))]
    obtain ⟨a, b⟩ := h n (by omega)
    have := mr_r a
    rw [b, ifc (show ((mr_ κ (rm s n) : Nat) : Int) = (q : Int) ↔ ((rm s n : Nat) : Int) = (r : Int) by omega)]
theorem al_ch (hH : iHs κ) (hS : iSc κ) {t s : Nat} (ht : t ≤ lst κ) (hs : s < nst κ) (ha : alv κ t s = true) : ∃ S C, isCh κ (tgv κ) (lst κ) S C ∧ S t = s := (alv_ch hH hS ht hs).mp ha
theorem m_fi (hH : iHs κ) (hS : iSc κ) (hH' : iHs κ') (hS' : iSc κ') (m : Mir κ κ') (h9 : fst0 κ = -9) {r q t u : Nat} (er : (r : Int) + q + 1 = κ 0 11) (et : t + u = lst κ) : fiF κ' (q : Int) u (nst κ') ≤ fiF κ (r : Int) t (nst κ) := by
  rcases fiF_at (κ := κ) (t := t) (r := (r : Int)) (nst κ) with h | ⟨s, h1, h2, h3⟩
  · obtain ⟨s, hs, ha⟩ := alv_some h9 u t et
    have h1 := fiF_le (κ := κ) (t := t) (r := (r : Int)) (nst κ) hs ha
    have h2 := mnI_r s (r : Int) (us κ)
    have := us_le hH hS
    omega
  · obtain ⟨S, C, h4, rfl⟩ := al_ch hH hS (by omega) h1 h2
    obtain ⟨S', C', a, b⟩ := mir_tg hH hS hH' hS' m h4
    have hl := m.1.2.1
    have h5 := fiF_le (κ := κ') (t := u) (r := (q : Int)) (nst κ') (a.lt hH' hS' u (by omega)) (ch_alv hH' hS' a (lst κ' - u) u (by omega))
    rw [m.1.1, mnI_m er (us κ) (fun w hw => b.1 t u et w hw)] at h5
    omega
theorem m_mo (hH : iHs κ) (hS : iSc κ) (hH' : iHs κ') (hS' : iSc κ') (m : Mir κ κ') {r q t u : Nat} (er : (r : Int) + q + 1 = κ 0 11) (et : t + u = lst κ) : moF κ (r : Int) t (nst κ) ≤ moF κ' (q : Int) u (nst κ') := by
  rcases moF_at (κ := κ) (t := t) (r := (r : Int)) (nst κ) with h | ⟨s, h1, h2, h3⟩
  · have := moF_r κ' (q : Int) u (nst κ')
    omega
  · obtain ⟨S, C, h4, rfl⟩ := al_ch hH hS (by omega) h1 h2
    obtain ⟨S', C', a, b⟩ := mir_tg hH hS hH' hS' m h4
    have hl := m.1.2.1
    have h5 := moF_le (κ := κ') (t := u) (r := (q : Int)) (nst κ') (a.lt hH' hS' u (by omega)) (ch_alv hH' hS' a (lst κ' - u) u (by omega))
    rw [m.1.1, mnI_m er (us κ) (fun w hw => b.1 t u et w hw)] at h5
    omega
theorem tb_wh {w t r : Nat} (hr : r < 6) (hw : ∀ s, s < nst κ → alv κ t s = true → rm s w < 6) : tb (whF κ w t (nst κ)) r = true ↔ ∃ s, s < nst κ ∧ alv κ t s = true ∧ rm s w = r := by
  unfold whF
  rw [tb_orf]
  constructor
  · rintro ⟨s, h1, h2⟩
    split at h2
    · rename_i ha
      rw [tb_sh1 (by have := hw s h1 ha; omega) (by omega), decide_eq_true_eq] at h2
      exact ⟨s, h1, ha, by omega⟩
    · rw [tb_0] at h2; cases h2
  · rintro ⟨s, h1, h2, rfl⟩
    refine ⟨s, h1, ?_⟩
    rw [if_pos h2, tb_sh1 (by omega) (by omega), decide_eq_true_eq]
    omega
theorem rm6 (hH : iHs κ) (hS : iSc κ) {s : Nat} (hs : s < nst κ) (w : Nat) : rm s w < 6 := rm_lt (nst_1728 hH hS hs)
theorem m_wh (hH : iHs κ) (hS : iSc κ) (hH' : iHs κ') (hS' : iSc κ') (m : Mir κ κ') {w r q t u : Nat} (hw : w < us κ) (er : (r : Int) + q + 1 = κ 0 11) (et : t + u = lst κ) (h : tb (whF κ w t (nst κ)) r = true) : tb (whF κ' w u (nst κ')) q = true := by
  have hR := hH.1
  obtain ⟨s, h1, h2, h3⟩ := (tb_wh (by omega) (fun s hs _ => rm6 hH hS hs w)).mp h
  obtain ⟨S, C, h4, rfl⟩ := al_ch hH hS (by omega) h1 h2
  obtain ⟨S', C', a, b⟩ := mir_tg hH hS hH' hS' m h4
  have hl := m.1.2.1
  refine (tb_wh (by omega) (fun s hs _ => rm6 hH' hS' hs w)).mpr ⟨S' u, a.lt hH' hS' u (by omega), ch_alv hH' hS' a (lst κ' - u) u (by omega), ?_⟩
  obtain ⟨b1, b2⟩ := b.1 t u et w hw
  have := mr_r b1
  rw [b2]
  omega
end

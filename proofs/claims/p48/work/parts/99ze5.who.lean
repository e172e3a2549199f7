/-! THE MIRROR: who passes, who is there, who meets, who stands. -/
section
variable {κ κ' : MI}
theorem RM.ps_ (m : Mir κ κ') {S C S' C' : Nat → Nat} (h : RM κ κ' S C S' C') {t u : Nat} (e : t + u + 1 = lst κ) (d : Int) : pst κ' d u (S' u) (C' u) = pst κ d t (S t) (C t) := by
  unfold pst
  rw [m.1.1]
  exact orf_congr (fun w hw => by rw [h.2 t u e w hw])
theorem SR_m (hH : iHs κ) (hS : iSc κ) (hH' : iHs κ') (hS' : iSc κ') (m : Mir κ κ') {t u s c : Nat} (e : t + u + 1 = lst κ) (h : SR κ t s c) : ∃ s' c', SR κ' u s' c' ∧ ∀ d, pst κ' d u s' c' = pst κ d t s c := by
  obtain ⟨S, C, a, rfl, rfl⟩ := (SR_ch hH hS (by omega)).mp h
  obtain ⟨S', C', b, r⟩ := mir_tg hH hS hH' hS' m a
  have hl := m.1.2.1
  exact ⟨S' u, C' u, (SR_ch hH' hS' (by omega)).mpr ⟨S', C', b, rfl, rfl⟩, fun d => r.ps_ m e d⟩
theorem us34 (hH : iHs κ) (hS : iSc κ) (hH' : iHs κ') (hS' : iSc κ') (m : Mir κ κ') : κ' 0 34 = κ 0 34 := by
  have a := (us_le hH hS).2
  have b := (us_le hH' hS').2
  rw [m.1.1] at b
  omega
theorem pMay_b {d : Int} {t b : Nat} : tb (pMay κ d t (nst κ)) b = true ↔ ∃ s c, SR κ t s c ∧ tb (pst κ d t s c) b = true := by
  unfold pMay
  rw [paF_ex (T := fun x : Int => tb x b = true) (Q := fun s c => tb (pst κ d t s c) b = true) (fun s c x => by rw [tb_or, Bool.or_eq_true])]
  rw [tb_0]
  simp
theorem pMus_b {d : Int} {t b : Nat} : tb (pMus κ d t (nst κ)) b = true ↔ tb (z_shl 1 (κ 0 34) - 1) b = true ∧ ∀ s c, SR κ t s c → tb (pst κ d t s c) b = true := by
  unfold pMus
  exact paF_al (T := fun x : Int => tb x b = true) (Q := fun s c => tb (pst κ d t s c) b = true) (fun s c x => by rw [tb_and, Bool.and_eq_true]) _
theorem pMay_r (κ : MI) (d : Int) (t : Nat) : rI (pMay κ d t (nst κ)) := paF_inv (T := fun x : Int => rI x) (fun _ _ _ _ => z_or_r _ _) (by omega)
theorem shl34 (hH : iHs κ) (hS : iSc κ) : rI (z_shl 1 (κ 0 34) - 1) := by
  have := us_le hH hS
  have h : ∀ n : Nat, n ≤ 3 → rI (z_shl 1 (n : Int) - 1) := by decide
  rw [← this.2]
  exact h _ this.1
theorem pMus_r (hH : iHs κ) (hS : iSc κ) (d : Int) (t : Nat) : rI (pMus κ d t (nst κ)) := paF_inv (T := fun x : Int => rI x) (fun _ _ _ _ => z_and_r _ _) (shl34 hH hS)
theorem m_pMay (hH : iHs κ) (hS : iSc κ) (hH' : iHs κ') (hS' : iSc κ') (m : Mir κ κ') (m' : Mir κ' κ) {t u : Nat} (e : t + u + 1 = lst κ) (d : Int) : pMay κ' d u (nst κ') = pMay κ d t (nst κ) := by
  refine tb_ext (pMay_r _ _ _) (pMay_r _ _ _) (fun b _ => ?_)
  rw [Bool.eq_iff_iff, pMay_b, pMay_b]
  constructor
  · rintro ⟨s, c, h1, h2⟩
    obtain ⟨s', c', h3, h4⟩ := SR_m hH' hS' hH hS m' (t := u) (u := t) (by rw [m.1.2.1]; omega) h1
    exact ⟨s', c', h3, by rw [h4]; exact h2⟩
  · rintro ⟨s, c, h1, h2⟩
    obtain ⟨s', c', h3, h4⟩ := SR_m hH hS hH' hS' m e h1
    exact ⟨s', c', h3, by rw [h4]; exact h2⟩
theorem m_pMus (hH : iHs κ) (hS : iSc κ) (hH' : iHs κ') (hS' : iSc κ') (m : Mir κ κ') (m' : Mir κ' κ) {t u : Nat} (e : t + u + 1 = lst κ) (d : Int) : pMus κ' d u (nst κ') = pMus κ d t (nst κ) := by
  refine tb_ext (pMus_r hH' hS' _ _) (pMus_r hH hS _ _) (fun b _ => ?_)
  rw [Bool.eq_iff_iff, pMus_b, pMus_b, us34 hH hS hH' hS' m]
  constructor
  · rintro ⟨h0, h1⟩
    refine ⟨h0, fun s c h2 => ?_⟩
    obtain ⟨s', c', h3, h4⟩ := SR_m hH hS hH' hS' m e h2
    rw [← h4]; exact h1 s' c' h3
  · rintro ⟨h0, h1⟩
    refine ⟨h0, fun s c h2 => ?_⟩
    obtain ⟨s', c', h3, h4⟩ := SR_m hH' hS' hH hS m' (t := u) (u := t) (by rw [m.1.2.1]; omega) h2
    rw [← h4]; exact h1 s' c' h3
theorem pAny_i {d : Int} {t : Nat} : pAny κ d t (nst κ) = true ↔ ∃ s c, SR κ t s c ∧ pst κ d t s c ≠ 0 := by
  unfold pAny
  rw [paF_ex (T := fun x : Bool => x = true) (Q := fun s c => pst κ d t s c ≠ 0) (fun s c x => by rw [Bool.or_eq_true, decide_eq_true_eq])]
  simp
theorem pAll_i {d : Int} {t : Nat} : pAll κ d t (nst κ) = true ↔ ∀ s c, SR κ t s c → pst κ d t s c ≠ 0 := by
  unfold pAll
  rw [paF_al (T := fun x : Bool => x = true) (Q := fun s c => pst κ d t s c ≠ 0) (fun s c x => by rw [Bool.and_eq_true, decide_eq_true_eq])]
  simp
theorem m_pAny (hH : iHs κ) (hS : iSc κ) (hH' : iHs κ') (hS' : iSc κ') (m : Mir κ κ') (m' : Mir κ' κ) {t u : Nat} (e : t + u + 1 = lst κ) (d : Int) : pAny κ' d u (nst κ') = pAny κ d t (nst κ) := by
  rw [Bool.eq_iff_iff, pAny_i, pAny_i]
  constructor
  · rintro ⟨s, c, h1, h2⟩
    obtain ⟨s', c', h3, h4⟩ := SR_m hH' hS' hH hS m' (t := u) (u := t) (by rw [m.1.2.1]; omega) h1
    exact ⟨s', c', h3, by rw [h4]; exact h2⟩
  · rintro ⟨s, c, h1, h2⟩
    obtain ⟨s', c', h3, h4⟩ := SR_m hH hS hH' hS' m e h1
    exact ⟨s', c', h3, by rw [h4]; exact h2⟩
theorem m_pAll (hH : iHs κ) (hS : iSc κ) (hH' : iHs κ') (hS' : iSc κ') (m : Mir κ κ') (m' : Mir κ' κ) {t u : Nat} (e : t + u + 1 = lst κ) (d : Int) : pAll κ' d u (nst κ') = pAll κ d t (nst κ) := by
  rw [Bool.eq_iff_iff, pAll_i, pAll_i]
  constructor
  · intro h1 s c h2
    obtain ⟨s', c', h3, h4⟩ := SR_m hH hS hH' hS' m e h2
    rw [← h4]; exact h1 s' c' h3
  · intro h1 s c h2
    obtain ⟨s', c', h3, h4⟩ := SR_m hH' hS' hH hS m' (t := u) (u := t) (by rw [m.1.2.1]; omega) h2
    rw [← h4]; exact h1 s' c' h3
theorem smi_cons (g : Nat → Int) : ∀ n, smi g (n + 1) = g 0 + smi (fun i => g (i + 1)) n
  | 0 => by show 0 + g 0 = g 0 + 0; omega
  | n + 1 => by
    show smi g (n + 1) + g (n + 1) = g 0 + (smi (fun i => g (i + 1)) n + g (n + 1))
    rw [smi_cons g n]; omega
theorem smi_rev : ∀ (n : Nat) (f g : Nat → Int), (∀ t u, t + u + 1 = n → g u = f t) → smi g n = smi f n
  | 0, _, _, _ => rfl
  | n + 1, f, g, h => by
    rw [smi_cons g n]
    show _ = smi f n + f n
    rw [smi_rev n f (fun i => g (i + 1)) (fun t u e => h t (u + 1) (by omega)), h n 0 (by omega)]
    omega
theorem m_pmn (hH : iHs κ) (hS : iSc κ) (hH' : iHs κ') (hS' : iSc κ') (m : Mir κ κ') (m' : Mir κ' κ) (d : Int) : pmn κ' d = pmn κ d := by
  unfold pmn
  rw [mnF_smi, mnF_smi, m.1.2.1]
  exact smi_rev _ _ _ (fun t u e => by rw [m_pAny hH hS hH' hS' m m' e d])
theorem m_pmx (hH : iHs κ) (hS : iSc κ) (hH' : iHs κ') (hS' : iSc κ') (m : Mir κ κ') (m' : Mir κ' κ) (d : Int) : pmx κ' d = pmx κ d := by
  unfold pmx
  rw [mnF_smi, mnF_smi, m.1.2.1]
  exact smi_rev _ _ _ (fun t u e => by rw [m_pAll hH hS hH' hS' m m' e d])
/-- must is within may -/
theorem pmx_le (h9 : fst0 κ = -9) (d : Int) : pmx κ d ≤ pmn κ d ∧ pmn κ d ≤ lst κ := by
  refine ⟨?_, (mnF_r _ _).2⟩
  unfold pmn pmx
  rw [mnF_smi, mnF_smi]
  refine smi_le _ (fun t ht => ?_)
  by_cases q : pAll κ d t (nst κ) = true
  · rw [if_pos q, if_pos]
    · omega
    · obtain ⟨s, c, h⟩ := SR_some ht h9
      exact pAny_i.mpr ⟨s, c, h, pAll_i.mp q s c h⟩
  · rw [if_neg q]
    split <;> omega
theorem m_th (hH : iHs κ) (hS : iSc κ) (hH' : iHs κ') (hS' : iSc κ') (m : Mir κ κ') (m' : Mir κ' κ) : ∀ n : Nat, (n : Int) ≤ κ 0 12 → thF κ' n = thF κ n
  | 0, _ => rfl
  | n + 1, hn => by
    unfold thF
    rw [m_th hH hS hH' hS' m m' n (by omega), m_pmn hH hS hH' hS' m m', m_pmx hH hS hH' hS' m m', (m.2.1 n (by omega)).2.2]
theorem smMay_b {a : Int} {t b : Nat} : tb (smMay κ a t (nst κ)) b = true ↔ ∃ s, s < nst κ ∧ alv κ t s = true ∧ tb (smS κ a s) b = true := by
  unfold smMay
  rw [foC_ex (T := fun x : Int => tb x b = true) (Q := fun s => tb (smS κ a s) b = true) (fun s x => by rw [tb_or, Bool.or_eq_true]), tb_0]
  simp
theorem smMus_b {a : Int} {t b : Nat} : tb (smMus κ a t (nst κ)) b = true ↔ tb (z_shl 1 (κ 0 34) - 1) b = true ∧ ∀ s, s < nst κ → alv κ t s = true → tb (smS κ a s) b = true := by
  unfold smMus
  exact foC_al (T := fun x : Int => tb x b = true) (Q := fun s => tb (smS κ a s) b = true) (fun s x => by rw [tb_and, Bool.and_eq_true]) _ _
theorem al_m (hH : iHs κ) (hS : iSc κ) (hH' : iHs κ') (hS' : iSc κ') (m : Mir κ κ') {t u s : Nat} (e : t + u = lst κ) (hs : s < nst κ) (ha : alv κ t s = true) : ∃ s', s' < nst κ' ∧ alv κ' u s' = true ∧ ∀ w, w < us κ → ((rm s w : Nat) : Int) < κ 0 11 ∧ rm s' w = mr_ κ (rm s w) := by
  obtain ⟨S, C, h4, rfl⟩ := al_ch hH hS (by omega) hs ha
  obtain ⟨S', C', a, b⟩ := mir_tg hH hS hH' hS' m h4
  have hl := m.1.2.1
  exact ⟨S' u, a.lt hH' hS' u (by omega), ch_alv hH' hS' a (lst κ' - u) u (by omega), b.1 t u e⟩
theorem smS_m (m : Mir κ κ') {s s' r q : Nat} (e : (r : Int) + q + 1 = κ 0 11) (h : ∀ w, w < us κ → ((rm s w : Nat) : Int) < κ 0 11 ∧ rm s' w = mr_ κ (rm s w)) : smS κ' (q : Int) s' = smS κ (r : Int) s := by
  unfold smS
  rw [m.1.1]
  refine orf_congr (fun w hw => ?_)
  obtain ⟨a, b⟩ := h w hw
  have := mr_r a
  rw [b, ifc (show ((mr_ κ (rm s w) : Nat) : Int) = (q : Int) ↔ ((rm s w : Nat) : Int) = (r : Int) by omega)]
theorem m_sm (hH : iHs κ) (hS : iSc κ) (hH' : iHs κ') (hS' : iSc κ') (m : Mir κ κ') (m' : Mir κ' κ) {r q t u : Nat} (er : (r : Int) + q + 1 = κ 0 11) (e : t + u = lst κ) : smMay κ' (q : Int) u (nst κ') = smMay κ (r : Int) t (nst κ) ∧ smMus κ' (q : Int) u (nst κ') = smMus κ (r : Int) t (nst κ) := by
  have R1 : ∀ (κ : MI) (a : Int) (t n : Nat), rI (smMay κ a t n) := fun κ a t n => foC_inv (T := fun x : Int => rI x) (fun _ _ _ => z_or_r _ _) (by omega) n
  have R2 : ∀ (κ : MI), iHs κ → iSc κ → ∀ (a : Int) (t n : Nat), rI (smMus κ a t n) := fun κ hH hS a t n => foC_inv (T := fun x : Int => rI x) (fun _ _ _ => z_and_r _ _) (shl34 hH hS) n
  have er' : (q : Int) + r + 1 = κ' 0 11 := by rw [m.1.2.2.2.1]; omega
  have e' : u + t = lst κ' := by rw [m.1.2.1]; omega
  constructor
  · refine tb_ext (R1 _ _ _ _) (R1 _ _ _ _) (fun b _ => ?_)
    rw [Bool.eq_iff_iff, smMay_b, smMay_b]
    constructor
    · rintro ⟨s, h1, h2, h3⟩
      obtain ⟨s', h4, h5, h6⟩ := al_m hH' hS' hH hS m' e' h1 h2
      exact ⟨s', h4, h5, by rw [smS_m m' er' h6]; exact h3⟩
    · rintro ⟨s, h1, h2, h3⟩
      obtain ⟨s', h4, h5, h6⟩ := al_m hH hS hH' hS' m e h1 h2
      exact ⟨s', h4, h5, by rw [smS_m m er h6]; exact h3⟩
  · refine tb_ext (R2 _ hH' hS' _ _ _) (R2 _ hH hS _ _ _) (fun b _ => ?_)
    rw [Bool.eq_iff_iff, smMus_b, smMus_b, us34 hH hS hH' hS' m]
    constructor
    · rintro ⟨h0, h⟩
      refine ⟨h0, fun s h1 h2 => ?_⟩
      obtain ⟨s', h4, h5, h6⟩ := al_m hH hS hH' hS' m e h1 h2
      rw [← smS_m m er h6]; exact h s' h4 h5
    · rintro ⟨h0, h⟩
      refine ⟨h0, fun s h1 h2 => ?_⟩
      obtain ⟨s', h4, h5, h6⟩ := al_m hH' hS' hH hS m' e' h1 h2
      rw [← smS_m m' er' h6]; exact h s' h4 h5
/-- who meets -/
def mt1 (κ : MI) (w o : Nat) : Prop := ∃ S C, isCh κ (tgv κ) (lst κ) S C ∧ ∃ t, t ≤ lst κ ∧ rm (S t) w = rm (S t) o
def mt2 (κ : MI) (w o : Nat) : Prop := ∃ S C, isCh κ (tgv κ) (lst κ) S C ∧ ∀ t, t ≤ lst κ → ¬ rm (S t) w = rm (S t) o
theorem meF_i {w o : Nat} : ∀ n t, meF κ w o n t = -9 ↔ ∀ i, t ≤ i → i < t + n → ¬ arF κ w o i (nst κ) = true
  | 0, t => ⟨fun _ i h1 h2 => by omega, fun _ => rfl⟩
  | n + 1, t => by
    unfold meF
    split
    · rename_i h
      constructor
      · intro q; omega
      · intro q; exact absurd h (q t (Nat.le_refl _) (by omega))
    · rename_i h
      rw [meF_i n (t + 1)]
      constructor
      · intro q i h1 h2
        by_cases e : i = t
        · subst e; exact h
        · exact q i (by omega) (by omega)
      · intro q i h1 h2
        exact q i (by omega) (by omega)
theorem me_1 (hH : iHs κ) (hS : iSc κ) {w o : Nat} : meF κ w o (lst κ + 1) 0 = -9 ↔ ¬ mt1 κ w o := by
  rw [meF_i]
  constructor
  · rintro h ⟨S, C, a, t, ht, e⟩
    exact h t (Nat.zero_le _) (by omega) ((arF_iff _).mpr ⟨S t, a.lt hH hS t ht, ch_alv hH hS a (lst κ - t) t (by omega), e⟩)
  · intro h i _ hi q
    obtain ⟨s, h1, h2, h3⟩ := (arF_iff _).mp q
    obtain ⟨S, C, a, rfl⟩ := al_ch hH hS (by omega) h1 h2
    exact h ⟨S, C, a, i, by omega, h3⟩
theorem cm_i (hH : iHs κ) (hS : iSc κ) {w o : Nat} : ∀ t s, t ≤ lst κ → s < nst κ → (0 ≤ cmV κ w o t s ↔ ∃ S C, isCh κ (tgv κ) t S C ∧ S t = s ∧ alv κ t s = true ∧ ∀ i, i ≤ t → ¬ rm (S i) w = rm (S i) o)
  | 0, s, _, hs => by
    show 0 ≤ cmf w o (bgV κ 0) s ↔ _
    unfold cmf bgV
    constructor
    · intro h
      split at h
      · omega
      · rename_i h1
        split at h
        · rename_i h2
          have hb := (alv_iff.mp h2).1
          obtain ⟨S, C, a, rfl⟩ := (Fr_ch hH hS 0 s hs).mp hb
          exact ⟨S, C, a, rfl, h2, fun i hi => by rw [show i = 0 by omega]; exact h1⟩
        · omega
    · rintro ⟨S, C, a, rfl, h2, h3⟩
      rw [if_neg (h3 0 (Nat.le_refl _)), if_pos h2]
      omega
  | t + 1, s, ht, hs => by
    show 0 ≤ cmf w o (gW κ t (cmV κ w o t)) s ↔ _
    unfold cmf
    constructor
    · intro h
      split at h
      · omega
      · rename_i h1
        obtain ⟨s0, c, h2, h3, h4, h5, h6, h7⟩ := gW_iff.mp h
        obtain ⟨S, C, a, rfl, h8, h9⟩ := (cm_i hH hS t s0 (by omega) h2).mp h3
        obtain ⟨S', C', a', b', d', e', f'⟩ := a.ext h4 h5
        refine ⟨S', C', a', by rw [f', h7], by rw [← h7]; exact h6, fun i hi => ?_⟩
        by_cases q : i ≤ t
        · rw [b' i q]; exact h9 i q
        · rw [show i = t + 1 by omega, f', h7]; exact h1
    · rintro ⟨S, C, a, rfl, h2, h3⟩
      rw [if_neg (h3 (t + 1) (Nat.le_refl _))]
      obtain ⟨b1, b2, b3⟩ := a.2 t (by omega)
      have hl := a.lt hH hS t (by omega)
      have a1 : alv κ t (S t) = true := alv_b (by omega) hl ((Fr_ch hH hS _ _ hl).mpr ⟨S, C, a.pre (by omega), rfl⟩) b1 b2 (by rw [← b3]; exact h2)
      exact gW_iff.mpr ⟨S t, C t, hl, (cm_i hH hS t (S t) (by omega) hl).mpr ⟨S, C, a.pre (by omega), rfl, a1, fun i hi => h3 i (by omega)⟩, b1, b2, by rw [← b3]; exact h2, b3.symm⟩
theorem me_2 (hH : iHs κ) (hS : iSc κ) {w o : Nat} : anv (cmV κ w o (lst κ)) (nst κ) = true ↔ mt2 κ w o := by
  rw [anv_iff]
  constructor
  · rintro ⟨s, h1, h2⟩
    obtain ⟨S, C, a, -, -, h3⟩ := (cm_i hH hS _ s (Nat.le_refl _) h1).mp h2
    exact ⟨S, C, a, h3⟩
  · rintro ⟨S, C, a, h⟩
    have hl := a.lt hH hS (lst κ) (Nat.le_refl _)
    exact ⟨S (lst κ), hl, (cm_i hH hS _ _ (Nat.le_refl _) hl).mpr ⟨S, C, a, rfl, ch_alv hH hS a 0 (lst κ) rfl, h⟩⟩
theorem mt1_s {w o : Nat} (h : mt1 κ w o) : mt1 κ o w := by
  obtain ⟨S, C, a, t, h1, h2⟩ := h
  exact ⟨S, C, a, t, h1, h2.symm⟩
theorem mt2_s {w o : Nat} (h : mt2 κ w o) : mt2 κ o w := by
  obtain ⟨S, C, a, h1⟩ := h
  exact ⟨S, C, a, fun t ht e => h1 t ht e.symm⟩
theorem m_mt1 (hH : iHs κ) (hS : iSc κ) (hH' : iHs κ') (hS' : iSc κ') (m : Mir κ κ') {w o : Nat} (hw : w < us κ) (ho : o < us κ) (h : mt1 κ w o) : mt1 κ' w o := by
  obtain ⟨S, C, a, t, h1, h2⟩ := h
  obtain ⟨S', C', b, r⟩ := mir_tg hH hS hH' hS' m a
  have hl := m.1.2.1
  refine ⟨S', C', b, lst κ - t, by omega, ?_⟩
  rw [(r.1 t (lst κ - t) (by omega) w hw).2, (r.1 t (lst κ - t) (by omega) o ho).2, h2]
theorem m_mt2 (hH : iHs κ) (hS : iSc κ) (hH' : iHs κ') (hS' : iSc κ') (m : Mir κ κ') {w o : Nat} (hw : w < us κ) (ho : o < us κ) (h : mt2 κ w o) : mt2 κ' w o := by
  obtain ⟨S, C, a, h1⟩ := h
  obtain ⟨S', C', b, r⟩ := mir_tg hH hS hH' hS' m a
  have hl := m.1.2.1
  refine ⟨S', C', b, fun u hu e => h1 (lst κ - u) (by omega) ?_⟩
  obtain ⟨a1, a2⟩ := r.1 (lst κ - u) u (by omega) w hw
  obtain ⟨b1, b2⟩ := r.1 (lst κ - u) u (by omega) o ho
  rw [a2, b2] at e
  rw [← mr_mr a1, e, mr_mr b1]
/-- who stands -/
def rl_ (κ : MI) (w : Nat) (S C : Nat → Nat) : Nat → Nat
  | 0 => 0
  | t + 1 => if mvd κ (t : Int) (S t) (C t) w < 0 then rl_ κ w S C t + 1 else 0
theorem rl_cg {w : Nat} {S C S' C' : Nat → Nat} : ∀ t, (∀ i, i < t → S' i = S i) → (∀ i, i < t → C' i = C i) → rl_ κ w S' C' t = rl_ κ w S C t
  | 0, _, _ => rfl
  | t + 1, h, h' => by
    unfold rl_
    rw [rl_cg t (fun i hi => h i (by omega)) (fun i hi => h' i (by omega)), h t (by omega), h' t (by omega)]
theorem rl_iff {w : Nat} {S C : Nat → Nat} : ∀ n t, n ≤ rl_ κ w S C t ↔ n ≤ t ∧ ∀ j, t ≤ j + n → j < t → mvd κ (j : Int) (S j) (C j) w < 0
  | 0, t => ⟨fun _ => ⟨Nat.zero_le _, fun j h1 h2 => by omega⟩, fun _ => Nat.zero_le _⟩
  | n + 1, 0 => by
    constructor
    · intro h; have : rl_ κ w S C 0 = 0 := rfl; omega
    · intro h; omega
  | n + 1, t + 1 => by
    have ih := rl_iff (w := w) (S := S) (C := C) n t
    unfold rl_
    constructor
    · intro h
      split at h
      · rename_i hm
        obtain ⟨a, b⟩ := ih.mp (by omega)
        refine ⟨by omega, fun j h1 h2 => ?_⟩
        by_cases e : j = t
        · subst e; exact hm
        · exact b j (by omega) (by omega)
      · omega
    · rintro ⟨a, b⟩
      rw [if_pos (b t (by omega) (by omega))]
      have := ih.mpr ⟨by omega, fun j h1 h2 => b j (by omega) (by omega)⟩
      omega
/-- a chain has a standing of n minutes -/
def hr_ (κ : MI) (w n : Nat) (S C : Nat → Nat) : Prop := ∃ a, a + n ≤ lst κ ∧ ∀ j, a ≤ j → j < a + n → mvd κ (j : Int) (S j) (C j) w < 0
theorem hr_iff {w n : Nat} {S C : Nat → Nat} : hr_ κ w n S C ↔ ∃ i, i ≤ lst κ ∧ n ≤ rl_ κ w S C i := by
  constructor
  · rintro ⟨a, h1, h2⟩
    exact ⟨a + n, h1, (rl_iff n _).mpr ⟨by omega, fun j h3 h4 => h2 j (by omega) h4⟩⟩
  · rintro ⟨i, h1, h2⟩
    obtain ⟨h3, h4⟩ := (rl_iff n i).mp h2
    exact ⟨i - n, by omega, fun j h5 h6 => h4 j (by omega) (by omega)⟩
theorem stI_i (hH : iHs κ) (hS : iSc κ) {w n : Nat} (hn : 1 ≤ n) : ∀ t s b, t ≤ lst κ → (stI κ w n t s b ↔ ∃ S C, isCh κ (tgv κ) t S C ∧ S t = s ∧ alv κ t s = true ∧ b = rl_ κ w S C t ∧ ∀ i, i ≤ t → rl_ κ w S C i < n)
  | 0, s, b, _ => by
    show (s < nst κ ∧ alv κ 0 s = true ∧ b = 0) ↔ _
    constructor
    · rintro ⟨h1, h2, rfl⟩
      obtain ⟨S, C, a, rfl⟩ := (Fr_ch hH hS 0 s h1).mp (alv_iff.mp h2).1
      exact ⟨S, C, a, rfl, h2, rfl, fun i hi => by rw [show i = 0 by omega]; show 0 < n; omega⟩
    · rintro ⟨S, C, a, rfl, h2, h3, -⟩
      exact ⟨a.1.1, h2, h3⟩
  | t + 1, s, b, ht => by
    show (∃ s0 c b0, SR κ t s0 c ∧ nxt κ (t : Int) s0 c = s ∧ stI κ w n t s0 b0 ∧ b = (if mvd κ (t : Int) s0 c w < 0 then b0 + 1 else 0) ∧ b < n) ↔ _
    constructor
    · rintro ⟨s0, c, b0, h1, rfl, h3, h4, h5⟩
      obtain ⟨S, C, a, rfl, h6, rfl, h8⟩ := (stI_i hH hS hn t s0 b0 (by omega)).mp h3
      obtain ⟨S', C', a', b', d', e', f'⟩ := a.ext h1.2.2.1 h1.2.2.2.1
      have er : ∀ i, i ≤ t → rl_ κ w S' C' i = rl_ κ w S C i := fun i hi => rl_cg i (fun j hj => b' j (by omega)) (fun j hj => d' j (by omega))
      have e1 : rl_ κ w S' C' (t + 1) = b := by
        rw [h4]
        show (if mvd κ (t : Int) (S' t) (C' t) w < 0 then rl_ κ w S' C' t + 1 else 0) = _
        rw [er t (Nat.le_refl _), b' t (Nat.le_refl _), e']
      refine ⟨S', C', a', f', h1.2.2.2.2, e1.symm, fun i hi => ?_⟩
      by_cases q : i ≤ t
      · rw [er i q]; exact h8 i q
      · rw [show i = t + 1 by omega, e1]; exact h5
    · rintro ⟨S, C, a, rfl, h2, h3, h4⟩
      obtain ⟨b1, b2, b3⟩ := a.2 t (by omega)
      have hl := a.lt hH hS t (by omega)
      have a1 : alv κ t (S t) = true := alv_b (by omega) hl ((Fr_ch hH hS _ _ hl).mpr ⟨S, C, a.pre (by omega), rfl⟩) b1 b2 (by rw [← b3]; exact h2)
      exact ⟨S t, C t, rl_ κ w S C t, ⟨hl, a1, b1, b2, by rw [← b3]; exact h2⟩, b3.symm, (stI_i hH hS hn t _ _ (by omega)).mpr ⟨S, C, a.pre (by omega), rfl, a1, rfl, fun i hi => h4 i (by omega)⟩, h3, by rw [h3]; exact h4 _ (Nat.le_refl _)⟩
theorem stJ_i (hH : iHs κ) (hS : iSc κ) {w n : Nat} (hn : 1 ≤ n) : ∀ t s, t ≤ lst κ → (stJ1 κ w n t s ↔ ∃ S C, isCh κ (tgv κ) t S C ∧ S t = s ∧ alv κ t s = true ∧ ∃ i, i ≤ t ∧ n ≤ rl_ κ w S C i)
  | 0, s, _ => by
    show False ↔ _
    refine ⟨fun h => h.elim, ?_⟩
    rintro ⟨S, C, -, -, -, i, h1, h2⟩
    have : rl_ κ w S C i = 0 := by rw [show i = 0 by omega]; rfl
    omega
  | t + 1, s, ht => by
    show (∃ s0 c, SR κ t s0 c ∧ nxt κ (t : Int) s0 c = s ∧ (stJ1 κ w n t s0 ∨ ∃ b, stI κ w n t s0 b ∧ mvd κ (t : Int) s0 c w < 0 ∧ n ≤ b + 1)) ↔ _
    constructor
    · rintro ⟨s0, c, h1, rfl, h3⟩
      rcases h3 with h3 | ⟨b, h3, h4, h5⟩
      · obtain ⟨S, C, a, rfl, h6, i, h7, h8⟩ := (stJ_i hH hS hn t s0 (by omega)).mp h3
        obtain ⟨S', C', a', b', d', e', f'⟩ := a.ext h1.2.2.1 h1.2.2.2.1
        refine ⟨S', C', a', f', h1.2.2.2.2, i, by omega, ?_⟩
        rw [rl_cg i (fun j hj => b' j (by omega)) (fun j hj => d' j (by omega))]
        exact h8
      · obtain ⟨S, C, a, rfl, h6, rfl, h8⟩ := (stI_i hH hS hn t s0 b (by omega)).mp h3
        obtain ⟨S', C', a', b', d', e', f'⟩ := a.ext h1.2.2.1 h1.2.2.2.1
        refine ⟨S', C', a', f', h1.2.2.2.2, t + 1, Nat.le_refl _, ?_⟩
        show n ≤ if mvd κ (t : Int) (S' t) (C' t) w < 0 then rl_ κ w S' C' t + 1 else 0
        rw [rl_cg t (fun j hj => b' j (by omega)) (fun j hj => d' j (by omega)), b' t (Nat.le_refl _), e', if_pos h4]
        exact h5
    · rintro ⟨S, C, a, rfl, h2, i, h3, h4⟩
      obtain ⟨b1, b2, b3⟩ := a.2 t (by omega)
      have hl := a.lt hH hS t (by omega)
      have a1 : alv κ t (S t) = true := alv_b (by omega) hl ((Fr_ch hH hS _ _ hl).mpr ⟨S, C, a.pre (by omega), rfl⟩) b1 b2 (by rw [← b3]; exact h2)
      refine ⟨S t, C t, ⟨hl, a1, b1, b2, by rw [← b3]; exact h2⟩, b3.symm, ?_⟩
      by_cases q : ∃ j, j ≤ t ∧ n ≤ rl_ κ w S C j
      · obtain ⟨j, q1, q2⟩ := q
        exact Or.inl ((stJ_i hH hS hn t _ (by omega)).mpr ⟨S, C, a.pre (by omega), rfl, a1, j, q1, q2⟩)
      · have hj : ∀ j, j ≤ t → rl_ κ w S C j < n := fun j hj => Nat.lt_of_not_le (fun z => q ⟨j, hj, z⟩)
        have ei : i = t + 1 := by
          by_cases z : i ≤ t
          · have := hj i z; omega
          · omega
        subst ei
        have h4 : n ≤ if mvd κ (t : Int) (S t) (C t) w < 0 then rl_ κ w S C t + 1 else 0 := h4
        split at h4
        · rename_i hm
          exact Or.inr ⟨_, (stI_i hH hS hn t _ _ (by omega)).mpr ⟨S, C, a.pre (by omega), rfl, a1, rfl, hj⟩, hm, h4⟩
        · omega
def sd1 (κ : MI) (w n : Nat) : Prop := ∃ S C, isCh κ (tgv κ) (lst κ) S C ∧ hr_ κ w n S C
def sd2 (κ : MI) (w n : Nat) : Prop := ∃ S C, isCh κ (tgv κ) (lst κ) S C ∧ ¬ hr_ κ w n S C
theorem sd_f (hH : iHs κ) (hS : iSc κ) {w n : Nat} (hn : 1 ≤ n) : stA κ w (n : Int) false = true ↔ sd1 κ w n := by
  rw [stA_f hH hS hn]
  constructor
  · rintro ⟨s, h⟩
    obtain ⟨S, C, a, -, -, h2⟩ := (stJ_i hH hS hn _ s (Nat.le_refl _)).mp h
    exact ⟨S, C, a, hr_iff.mpr h2⟩
  · rintro ⟨S, C, a, h⟩
    exact ⟨S (lst κ), (stJ_i hH hS hn _ _ (Nat.le_refl _)).mpr ⟨S, C, a, rfl, ch_alv hH hS a 0 _ rfl, hr_iff.mp h⟩⟩
theorem sd_t (hH : iHs κ) (hS : iSc κ) {w n : Nat} (hn : 1 ≤ n) : stA κ w (n : Int) true = true ↔ sd2 κ w n := by
  rw [stA_t hH hS hn]
  constructor
  · rintro ⟨s, b, h⟩
    obtain ⟨S, C, a, -, -, -, h2⟩ := (stI_i hH hS hn _ s b (Nat.le_refl _)).mp h
    refine ⟨S, C, a, fun z => ?_⟩
    obtain ⟨i, h3, h4⟩ := hr_iff.mp z
    have := h2 i h3
    omega
  · rintro ⟨S, C, a, h⟩
    exact ⟨S (lst κ), _, (stI_i hH hS hn _ _ _ (Nat.le_refl _)).mpr ⟨S, C, a, rfl, ch_alv hH hS a 0 _ rfl, rfl, fun i hi => Nat.lt_of_not_le (fun z => h (hr_iff.mpr ⟨i, hi, z⟩))⟩⟩
theorem m_hr (m : Mir κ κ') {S C S' C' : Nat → Nat} (r : RM κ κ' S C S' C') {w n : Nat} (hw : w < us κ) : hr_ κ' w n S' C' ↔ hr_ κ w n S C := by
  have hl := m.1.2.1
  constructor
  · rintro ⟨a, h1, h2⟩
    refine ⟨lst κ - n - a, by omega, fun j h3 h4 => ?_⟩
    have e := r.2 j (lst κ - 1 - j) (by omega) w hw
    rw [← e]
    exact h2 _ (by omega) (by omega)
  · rintro ⟨a, h1, h2⟩
    refine ⟨lst κ - n - a, by omega, fun j h3 h4 => ?_⟩
    have e := r.2 (lst κ - 1 - j) j (by omega) w hw
    rw [e]
    exact h2 _ (by omega) (by omega)
theorem m_sd (hH : iHs κ) (hS : iSc κ) (hH' : iHs κ') (hS' : iSc κ') (m : Mir κ κ') {w n : Nat} (hw : w < us κ) : (sd1 κ w n → sd1 κ' w n) ∧ (sd2 κ w n → sd2 κ' w n) := by
  constructor
  · rintro ⟨S, C, a, h⟩
    obtain ⟨S', C', b, r⟩ := mir_tg hH hS hH' hS' m a
    exact ⟨S', C', b, (m_hr m r hw).mpr h⟩
  · rintro ⟨S, C, a, h⟩
    obtain ⟨S', C', b, r⟩ := mir_tg hH hS hH' hS' m a
    exact ⟨S', C', b, fun z => h ((m_hr m r hw).mp z)⟩
theorem hr_mono {w n k : Nat} (hk : k ≤ n) {S C : Nat → Nat} (h : hr_ κ w n S C) : hr_ κ w k S C := by
  obtain ⟨a, h1, h2⟩ := h
  exact ⟨a, by omega, fun j h3 h4 => h2 j h3 (by omega)⟩
end

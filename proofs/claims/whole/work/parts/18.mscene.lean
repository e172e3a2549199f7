/-! THE REFERENCE'S SCENE, out of what lasts. -/
noncomputable def pm (I : MI) : MI := fun c j => @ite Int (per c j) (Classical.propDecidable _) (I c j) 0
theorem pm_at {I : MI} {c : Nat} {j : Int} (h : per c j) : pm I c j = I c j := by unfold pm; rw [if_pos h]
theorem pm_pe {I I' : MI} (h : Pe I I') : pm I' = pm I := by
  funext c j
  by_cases q : per c j
  · rw [pm_at q, pm_at q, h c j q]
  · unfold pm; rw [if_neg q, if_neg q]
def bdF (κ : MI) (d : Nat) : Int := if κ 7 (3 * (d : Int) + 2) = 1 then z_shl 1 (d : Int) else 0
def sc0 (κ : MI) (k : Int) : MI := fun c j =>
  if c = 0 then (if j = 34 then k else if j = 35 then orf (bdF κ) (κ 0 12).toNat else if j = 36 then -9 else if j = 37 then 0 else κ 0 j)
  else if c = 13 ∨ c = 14 ∨ c = 15 ∨ c = 16 then 0 else if c = 17 then -1 else κ c j
def scn (κ : MI) (wo k : Int) : Nat → MI
  | 0 => sc0 κ k
  | e + 1 => if tb wo e then scn κ wo k e else noteM (e : Int) (scn κ wo k e)
def gdF (κ : MI) (wo k : Int) (e : Nat) : Bool := tb wo e || !(decide (κ 11 (4 * (e : Int) + 0) = 3)) || decide (κ 11 (4 * (e : Int) + 2) < k)
noncomputable def kap (I : MI) (wo k : Int) : MI := scn (pm I) wo k (I 0 25).toNat
noncomputable def gd (I : MI) (wo k : Int) : Bool := al (gdF (pm I) wo k) (I 0 25).toNat
theorem ntM_13 {k a b t : Int} {J : MI} (j : Int) : ntM k a b t J 13 j = if k = 1 ∧ j = t then z_or (J 13 j) (z_shl 1 a) else J 13 j := rfl
theorem ntM_14 {k a b t : Int} {J : MI} (j : Int) : ntM k a b t J 14 j = if k = 5 ∧ t ≤ j ∧ j ≤ b then z_or (J 14 j) (z_shl 1 a) else J 14 j := rfl
theorem ntM_15 {k a b t : Int} {J : MI} (j : Int) : ntM k a b t J 15 j = if k = 2 ∧ j = t then z_or (J 15 j) (z_shl 1 a) else J 15 j := rfl
theorem ntM_16 {k a b t : Int} {J : MI} (j : Int) : ntM k a b t J 16 j = if k = 4 ∧ j = t then z_or (J 16 j) (z_shl 1 a) else J 16 j := rfl
theorem ntM_17 {k a b t : Int} {J : MI} (j : Int) : ntM k a b t J 17 j = if k = 3 ∧ j = 3 * t + b then (if J 17 j = -1 ∨ J 17 j = a then a else -2) else J 17 j := rfl
theorem noteM_ot {e : Int} {J : MI} {c : Nat} (h : c < 13 ∨ 17 < c) (j : Int) : noteM e J c j = J c j := by
  unfold noteM ntM
  rw [if_neg (by omega), if_neg (by omega), if_neg (by omega), if_neg (by omega), if_neg (by omega)]
theorem scn_ot {κ : MI} {wo k : Int} {c : Nat} (h : (1 ≤ c ∧ c < 13) ∨ 17 < c) (j : Int) : ∀ e, scn κ wo k e c j = κ c j
  | 0 => by unfold scn sc0; rw [if_neg (by omega), if_neg (by omega), if_neg (by omega)]
  | e + 1 => by
    unfold scn
    split
    · exact scn_ot h j e
    · rw [noteM_ot (by omega)]; exact scn_ot h j e
theorem scn_0 {κ : MI} {wo k : Int} {j : Int} : ∀ e, scn κ wo k e 0 j = sc0 κ k 0 j
  | 0 => rfl
  | e + 1 => by
    unfold scn
    split
    · exact scn_0 e
    · rw [noteM_ot (by omega)]; exact scn_0 e
theorem noteM_e1 {e : Int} {κ J : MI} (h : E1 κ J) : E1 (noteM e κ) (noteM e J) := by
  intro c j hc
  have h11 : ∀ x, J 11 x = κ 11 x := fun x => h 11 x (by unfold sce per; omega)
  unfold noteM
  rw [h11, h11, h11, h11]
  have := h c j hc
  by_cases c13 : c = 13
  · subst c13; rw [ntM_13, ntM_13, this]
  by_cases c14 : c = 14
  · subst c14; rw [ntM_14, ntM_14, this]
  by_cases c15 : c = 15
  · subst c15; rw [ntM_15, ntM_15, this]
  by_cases c16 : c = 16
  · subst c16; rw [ntM_16, ntM_16, this]
  by_cases c17 : c = 17
  · subst c17; rw [ntM_17, ntM_17, this]
  unfold ntM
  rw [if_neg c13, if_neg c14, if_neg c15, if_neg c16, if_neg c17, if_neg c13, if_neg c14, if_neg c15, if_neg c16, if_neg c17, this]
/-- the masks of a scene are ints -/
theorem scn_r {κ : MI} {wo k : Int} {c : Nat} (h : c = 13 ∨ c = 14 ∨ c = 15 ∨ c = 16) (j : Int) : ∀ e, rI (scn κ wo k e c j)
  | 0 => by unfold scn sc0; rw [if_neg (by omega), if_pos h]; omega
  | e + 1 => by
    have ih := scn_r (κ := κ) (wo := wo) (k := k) h j e
    unfold scn
    split
    · exact ih
    · unfold noteM
      rcases h with rfl | rfl | rfl | rfl
      · rw [ntM_13]; split; exact z_or_r _ _; exact ih
      · rw [ntM_14]; split; exact z_or_r _ _; exact ih
      · rw [ntM_15]; split; exact z_or_r _ _; exact ih
      · rw [ntM_16]; split; exact z_or_r _ _; exact ih
def iEvs (I : MI) : Prop := (0 ≤ I 0 25 ∧ I 0 25 ≤ 24) ∧ ∀ e : Nat, (e : Int) < I 0 25 → iEv I e
theorem scn_17 {κ : MI} {wo k : Int} (j : Int) : ∀ e : Nat, (∀ i : Nat, i < e → iEv κ i) → -2 ≤ scn κ wo k e 17 j ∧ scn κ wo k e 17 j ≤ 7
  | 0, _ => by unfold scn sc0; rw [if_neg (by omega), if_pos rfl]; omega
  | e + 1, h => by
    have ih := scn_17 (κ := κ) (wo := wo) (k := k) j e (fun i hi => h i (by omega))
    unfold scn
    split
    · exact ih
    · unfold noteM
      rw [ntM_17]
      have ha := (h e (by omega)).2.1
      rw [scn_ot (c := 11) (by omega) (4 * (e : Int) + 1)]
      split
      · split <;> omega
      · exact ih
theorem iEv_eq {I J : MI} {e : Int} (h : ∀ j, J 11 j = I 11 j) (k : iEv I e) : iEv J e := by unfold iEv at *; simp only [h]; exact k
theorem iHs_pm {I : MI} (h : iHs I) : iHs (pm I) := by
  unfold iHs
  have a11 : pm I 0 11 = I 0 11 := pm_at (by unfold per; omega)
  have a12 : pm I 0 12 = I 0 12 := pm_at (by unfold per; omega)
  have a13 : pm I 0 13 = I 0 13 := pm_at (by unfold per; omega)
  have a14 : pm I 0 14 = I 0 14 := pm_at (by unfold per; omega)
  have a7 : ∀ j, pm I 7 j = I 7 j := fun j => pm_at (by unfold per; omega)
  have a8 : ∀ j, pm I 8 j = I 8 j := fun j => pm_at (by unfold per; omega)
  simp only [a11, a12, a13, a14, a7, a8]
  exact h
theorem iHs_scn {κ : MI} (h : iHs κ) (wo k : Int) (e : Nat) : iHs (scn κ wo k e) := by
  have a : ∀ j, j = 11 ∨ j = 12 ∨ j = 13 ∨ j = 14 → scn κ wo k e 0 j = κ 0 j := fun j hj => by
    rw [scn_0]; unfold sc0; rw [if_pos rfl, if_neg (by omega), if_neg (by omega), if_neg (by omega), if_neg (by omega)]
  have a7 : ∀ j, scn κ wo k e 7 j = κ 7 j := fun j => scn_ot (by omega) j e
  have a8 : ∀ j, scn κ wo k e 8 j = κ 8 j := fun j => scn_ot (by omega) j e
  unfold iHs
  rw [a 11 (by omega), a 12 (by omega), a 13 (by omega), a 14 (by omega)]
  simp only [a7, a8]
  exact h
theorem iSc_scn {κ : MI} {wo k : Int} {e : Nat} (hk : 0 ≤ k ∧ k ≤ κ 0 13) (h : ∀ i : Nat, i < e → iEv κ i) : iSc (scn κ wo k e) := by
  unfold iSc
  refine ⟨?_, ?_, ?_, ?_, fun t h1 h2 => ⟨scn_r (by omega) t e, scn_r (by omega) t e, scn_r (by omega) t e, scn_r (by omega) t e, fun w h3 h4 => ?_⟩⟩
  · rw [scn_0, scn_0]; unfold sc0; simp; exact hk
  · rw [scn_0]; unfold sc0; simp
  · rw [scn_0]; unfold sc0; simp
  · rw [scn_0]; unfold sc0; simp; exact orf_r _ _
  · have := scn_17 (κ := κ) (wo := wo) (k := k) (3 * t + w) e h
    omega
theorem iEv_pm {I : MI} (h : iEvs I) (i : Nat) (hi : i < (I 0 25).toNat) : iEv (pm I) i := iEv_eq (fun j => pm_at (by unfold per; omega)) (h.2 i (by omega))
theorem kap_H {I : MI} (h : iHs I) (wo k : Int) : iHs (kap I wo k) := iHs_scn (iHs_pm h) wo k _
theorem kap_S {I : MI} (h : iEvs I) {wo k : Int} (hk : 0 ≤ k ∧ k ≤ I 0 13) : iSc (kap I wo k) := iSc_scn (by rw [pm_at (by unfold per; omega)]; exact hk) (iEv_pm h)
theorem kap_per {I : MI} {wo k : Int} {c : Nat} {j : Int} (h : per c j) : kap I wo k c j = I c j := by
  unfold kap
  by_cases hc : c = 0
  · subst hc
    rw [scn_0]
    unfold sc0
    have : ¬ (j = 34) ∧ ¬ (j = 35) ∧ ¬ (j = 36) ∧ ¬ (j = 37) := by unfold per at h; omega
    rw [if_pos rfl, if_neg this.1, if_neg this.2.1, if_neg this.2.2.1, if_neg this.2.2.2, pm_at h]
  · rw [scn_ot (by unfold per at h; omega), pm_at h]
theorem kap_pe {I I' : MI} {wo k : Int} (h : E1 (kap I wo k) I') : Pe I I' := fun c j q => by rw [h c j (Or.inl q), kap_per q]
theorem kap_eq {I I' : MI} (h : Pe I I') (wo k : Int) : kap I' wo k = kap I wo k := by
  unfold kap
  rw [pm_pe h, h 0 25 (by unfold per; omega)]
theorem gd_eq {I I' : MI} (h : Pe I I') (wo k : Int) : gd I' wo k = gd I wo k := by
  unfold gd
  rw [pm_pe h, h 0 25 (by unfold per; omega)]
theorem iHs_pe {I I' : MI} (h : Pe I I') (k : iHs I) : iHs I' := by
  unfold iHs
  have a7 : ∀ j, I' 7 j = I 7 j := fun j => h 7 j (by unfold per; omega)
  have a8 : ∀ j, I' 8 j = I 8 j := fun j => h 8 j (by unfold per; omega)
  rw [h 0 11 (by unfold per; omega), h 0 12 (by unfold per; omega), h 0 13 (by unfold per; omega), h 0 14 (by unfold per; omega)]
  simp only [a7, a8]
  exact k
theorem iEvs_pe {I I' : MI} (h : Pe I I') (k : iEvs I) : iEvs I' := by
  unfold iEvs
  rw [h 0 25 (by unfold per; omega)]
  exact ⟨k.1, fun e he => iEv_eq (fun j => h 11 j (by unfold per; omega)) (k.2 e he)⟩
theorem kap_us {I : MI} {wo k : Int} : us (kap I wo k) = k.toNat := by unfold us kap; rw [scn_0]; unfold sc0; simp
/-- places of the masks behind the t-th turn -/
def mtf (J : MI) (t q : Int) : MI := fun c j => if (c = 13 ∨ c = 14 ∨ c = 15 ∨ c = 16) ∧ 0 ≤ j ∧ j < t then 0 else if c = 17 ∧ 0 ≤ j ∧ j < q then -1 else J c j
theorem mtf_t {J : MI} {t q : Int} (ht : 0 ≤ t) : m_up (m_up (m_up (m_up (mtf J t q) 13 t 0) 14 t 0) 15 t 0) 16 t 0 = mtf J (t + 1) q := by
  funext c j
  unfold m_up mtf
  by_cases e : (c = 13 ∨ c = 14 ∨ c = 15 ∨ c = 16) ∧ j = t
  · obtain ⟨e1, rfl⟩ := e
    rw [if_pos (show (c = 13 ∨ c = 14 ∨ c = 15 ∨ c = 16) ∧ 0 ≤ j ∧ j < j + 1 by omega)]
    rcases e1 with rfl | rfl | rfl | rfl <;> simp
  · rw [if_neg (by omega), if_neg (by omega), if_neg (by omega), if_neg (by omega)]
    by_cases e2 : (c = 13 ∨ c = 14 ∨ c = 15 ∨ c = 16) ∧ 0 ≤ j ∧ j < t
    · rw [if_pos e2, if_pos (by omega)]
    · rw [if_neg e2, if_neg (show ¬ ((c = 13 ∨ c = 14 ∨ c = 15 ∨ c = 16) ∧ 0 ≤ j ∧ j < t + 1) by omega)]
theorem mtf_q {J : MI} {t q : Int} (hq : 0 ≤ q) : m_up (mtf J t q) 17 q (-1) = mtf J t (q + 1) := by
  funext c j
  unfold m_up mtf
  by_cases e : c = 17 ∧ j = q
  · obtain ⟨rfl, rfl⟩ := e
    rw [if_pos ⟨rfl, rfl⟩, if_neg (by omega), if_pos (by omega)]
  · rw [if_neg e]
    by_cases e2 : (c = 13 ∨ c = 14 ∨ c = 15 ∨ c = 16) ∧ 0 ≤ j ∧ j < t
    · rw [if_pos e2, if_pos e2]
    · rw [if_neg e2, if_neg e2]
      by_cases e3 : c = 17 ∧ 0 ≤ j ∧ j < q
      · rw [if_pos e3, if_pos (by omega)]
      · rw [if_neg e3, if_neg (by omega)]
theorem m_up_up {f : MI} {a : Nat} {i v w : Int} : m_up (m_up f a i v) a i w = m_up f a i w := by
  funext c j
  unfold m_up
  split <;> rfl
section
variable {G : GT} {sh : MS} {I L : MI} {R : MR} {κ : MI}

set_option maxHeartbeats 4000000 in
theorem s_X8_layNight {wo k : Int} (hH : iHs I) (hE : iEvs I) (hk : 0 ≤ k ∧ k ≤ I 0 13) : Sp G mtX8_layNight [mr 0, mi wo, mi k] shM I L rM (qi (fun z I' L' R' => z = b01 (gd I wo k = true) ∧ E1 (kap I wo k) I' ∧ L = L' ∧ R' = rM)) := by
  refine Sp.of pnX8_layNight rfl ?_
  show Rn G mtX8_layNight _ 0 [(0, mr 0), (1, mi wo), (2, mi k)] [] shM I L rM
  generalize hQ : (qi (fun z I' L' R' => z = b01 (gd I wo k = true) ∧ E1 (kap I wo k) I' ∧ L = L' ∧ R' = rM)) = Q
  have hD := hH.2.1
  have hW := hH.2.2.1
  have hE1 := hE.1
  have ev : ∀ e, e ≤ (I 0 25).toNat → ∀ (J : MI) (g : Int), E1 (scn (pm I) wo k e) J → g = b01 (al (gdF (pm I) wo k) e = true) → Rn G mtX8_layNight Q 135 [(0, mr 0), (1, mi wo), (2, mi k), (3, mi g), (4, mi (e : Int))] [] shM J L rM := by
    refine lpn (I 0 25).toNat (fun e he ih => ?_) ?_
    · intro J g hJ hg
      have hg2 : 0 ≤ g ∧ g ≤ 1 := by rw [hg]; exact b01_r _
      have j25 : J 0 25 = I 0 25 := by rw [hJ.at (by unfold sce per; omega), scn_0]; unfold sc0; simp; exact pm_at (by unfold per; omega)
      have j34 : J 0 34 = k := by rw [hJ.at (by unfold sce per; omega), scn_0]; unfold sc0; simp
      have j11 : ∀ j, J 11 j = I 11 j := fun j => by rw [hJ.at (by unfold sce per; omega), scn_ot (by omega)]; exact pm_at (by unfold per; omega)
      have hev := hE.2 e (by omega)
      have hj17 : ∀ j, 0 ≤ j → j < 93 → rI (J 17 j) := fun j h1 h2 => by
        rw [hJ.at (by unfold sce per; omega)]
        have := scn_17 (κ := pm I) (wo := wo) (k := k) j e (fun i hi => iEv_pm hE i (by omega))
        omega
      have p0 : pm I 11 (4 * (e : Int) + 0) = I 11 (4 * (e : Int) + 0) := pm_at (by unfold per; omega)
      have p2 : pm I 11 (4 * (e : Int) + 2) = I 11 (4 * (e : Int) + 2) := pm_at (by unfold per; omega)
      have i0 := j11 (4 * (e : Int) + 0)
      have i2 := j11 (4 * (e : Int) + 2)
      have hst : ∀ (c : Int), (c = 1 ∧ g ≠ 0 ∧ (tb wo e = true ∨ (J 11 (4 * (e : Int) + 0) = 3 → J 11 (4 * (e : Int) + 2) < J 0 34))) ∨ (c = 0 ∧ (g = 0 ∨ (¬ tb wo e = true ∧ ¬ (J 11 (4 * (e : Int) + 0) = 3 → J 11 (4 * (e : Int) + 2) < J 0 34)))) → c = b01 (al (gdF (pm I) wo k) (e + 1) = true) := by
        intro c hc
        have hgi : gdF (pm I) wo k e = true ↔ (tb wo e = true ∨ (J 11 (4 * (e : Int) + 0) = 3 → J 11 (4 * (e : Int) + 2) < J 0 34)) := by
          unfold gdF
          rw [i0, i2, j34, p0, p2, Bool.or_eq_true, Bool.or_eq_true, Bool.not_eq_true', decide_eq_false_iff_not, decide_eq_true_eq, or_assoc]
          have : (¬ I 11 (4 * (e : Int) + 0) = 3 ∨ I 11 (4 * (e : Int) + 2) < k) ↔ (I 11 (4 * (e : Int) + 0) = 3 → I 11 (4 * (e : Int) + 2) < k) := by omega
          rw [this]
        have hgg : g ≠ 0 ↔ al (gdF (pm I) wo k) e = true := by rw [hg]; exact b01_ne
        rcases hc with ⟨rfl, h2, h1⟩ | ⟨rfl, h1⟩
        · exact b01_t (by unfold al; rw [Bool.and_eq_true]; exact ⟨hgg.mp h2, hgi.mpr h1⟩)
        · exact b01_f (by
            unfold al
            rw [Bool.and_eq_true]
            rintro ⟨x1, x2⟩
            rcases h1 with h1 | ⟨h1, h3⟩
            · exact hgg.mpr x1 h1
            · rcases hgi.mp x2 with q | q
              · exact h1 q
              · exact h3 q)
      refine x_iload dX8_layNight_135 4 rfl ?_
      refine x_aload_n dX8_layNight_137 0 rfl rfl ?_
      refine x_getI dX8_layNight_138 flX8_217 rfl rfl ?_
      refine x_ic_ge (tgt := 178) dX8_layNight_141 (by decide) (by omega) (fun h141 => ?_) (fun h141 => ?_)
      · exfalso; omega
      · refine x_iload_n dX8_layNight_144 1 rfl rfl ?_
        refine x_iload dX8_layNight_145 4 rfl ?_
        refine x_callSi (as := [_, _]) dX8_layNight_147 lvX8_252 rfl rfl rfl rfl ⟨rfl, rfl⟩ (s_X8_has (by omega)) (fun z147 I147 L147 R147 hq147 => ?_)
        obtain ⟨rfl, rfl, rfl, rfl⟩ := hq147
        rw [Int.toNat_natCast]
        refine y_ifb_ne (tgt := 162) dX8_layNight_150 (by decide) (fun h150 => ?_) (fun h150 => ?_)
        · refine x_iload_n dX8_layNight_162 3 rfl rfl ?_
          refine x_if_eq (tgt := 170) dX8_layNight_163 (by decide) (by omega) (fun h163 => ?_) (fun h163 => ?_)
          · refine x_iconst dX8_layNight_170 ?_
            refine x_istore_n (lv' := [(0, _), (1, _), (2, _), (3, _), (4, _)]) dX8_layNight_171 rfl rfl rfl ?_
            refine x_iinc (lv' := [(0, _), (1, _), (2, _), (3, _), (4, _)]) dX8_layNight_172 4 rfl rfl rfl ?_
            refine x_goto (tgt := 135) dX8_layNight_175 (by decide) ?_
            first
            | (have hw : tb wo e = true := by assumption
               have hsc : E1 (scn (pm I) wo k (e + 1)) J := by unfold scn; rw [if_pos hw]; exact hJ
               first
               | (refine ih _ _ hsc (hst _ ?_)
                  left
                  exact ⟨rfl, by assumption, Or.inl hw⟩)
               | (refine ih _ _ hsc (hst _ ?_)
                  right
                  exact ⟨rfl, Or.inl (by assumption)⟩))
            | (have hw : ¬ tb wo e = true := by assumption
               have hsc : E1 (scn (pm I) wo k (e + 1)) (noteM (e : Int) J) := by unfold scn; rw [if_neg hw]; exact noteM_e1 hJ
               first
               | (refine ih _ _ hsc (hst _ ?_)
                  left
                  exact ⟨rfl, by assumption, Or.inr (by assumption)⟩)
               | (refine ih _ _ hsc (hst _ ?_)
                  right
                  exact ⟨rfl, Or.inl (by assumption)⟩)
               | (refine ih _ _ hsc (hst _ ?_)
                  right
                  exact ⟨rfl, Or.inr ⟨hw, by assumption⟩⟩))
          · refine x_iconst dX8_layNight_166 ?_
            refine x_goto (tgt := 171) dX8_layNight_167 (by decide) ?_
            refine x_istore_n (lv' := [(0, _), (1, _), (2, _), (3, _), (4, _)]) dX8_layNight_171 rfl rfl rfl ?_
            refine x_iinc (lv' := [(0, _), (1, _), (2, _), (3, _), (4, _)]) dX8_layNight_172 4 rfl rfl rfl ?_
            refine x_goto (tgt := 135) dX8_layNight_175 (by decide) ?_
            first
            | (have hw : tb wo e = true := by assumption
               have hsc : E1 (scn (pm I) wo k (e + 1)) J := by unfold scn; rw [if_pos hw]; exact hJ
               first
               | (refine ih _ _ hsc (hst _ ?_)
                  left
                  exact ⟨rfl, by assumption, Or.inl hw⟩)
               | (refine ih _ _ hsc (hst _ ?_)
                  right
                  exact ⟨rfl, Or.inl (by assumption)⟩))
            | (have hw : ¬ tb wo e = true := by assumption
               have hsc : E1 (scn (pm I) wo k (e + 1)) (noteM (e : Int) J) := by unfold scn; rw [if_neg hw]; exact noteM_e1 hJ
               first
               | (refine ih _ _ hsc (hst _ ?_)
                  left
                  exact ⟨rfl, by assumption, Or.inr (by assumption)⟩)
               | (refine ih _ _ hsc (hst _ ?_)
                  right
                  exact ⟨rfl, Or.inl (by assumption)⟩)
               | (refine ih _ _ hsc (hst _ ?_)
                  right
                  exact ⟨rfl, Or.inr ⟨hw, by assumption⟩⟩))
        · refine x_aload_n dX8_layNight_153 0 rfl rfl ?_
          refine x_iload dX8_layNight_154 4 rfl ?_
          refine x_callVi (as := [_]) dX8_layNight_156 lvX8_255 rfl rfl rfl rfl rfl rfl rfl ⟨rfl, rfl⟩ (s_X8_note (by omega) (iEv_eq j11 hev) hj17 (by rw [j34]; omega)) (fun z156 I156 L156 R156 hq156 => ?_)
          obtain ⟨rfl, rfl, rfl, rfl⟩ := hq156
          refine y_ifb_eq (tgt := 170) dX8_layNight_159 (by decide) (fun h159 => ?_) (fun h159 => ?_)
          · refine x_iconst dX8_layNight_170 ?_
            refine x_istore_n (lv' := [(0, _), (1, _), (2, _), (3, _), (4, _)]) dX8_layNight_171 rfl rfl rfl ?_
            refine x_iinc (lv' := [(0, _), (1, _), (2, _), (3, _), (4, _)]) dX8_layNight_172 4 rfl rfl rfl ?_
            refine x_goto (tgt := 135) dX8_layNight_175 (by decide) ?_
            first
            | (have hw : tb wo e = true := by assumption
               have hsc : E1 (scn (pm I) wo k (e + 1)) J := by unfold scn; rw [if_pos hw]; exact hJ
               first
               | (refine ih _ _ hsc (hst _ ?_)
                  left
                  exact ⟨rfl, by assumption, Or.inl hw⟩)
               | (refine ih _ _ hsc (hst _ ?_)
                  right
                  exact ⟨rfl, Or.inl (by assumption)⟩))
            | (have hw : ¬ tb wo e = true := by assumption
               have hsc : E1 (scn (pm I) wo k (e + 1)) (noteM (e : Int) J) := by unfold scn; rw [if_neg hw]; exact noteM_e1 hJ
               first
               | (refine ih _ _ hsc (hst _ ?_)
                  left
                  exact ⟨rfl, by assumption, Or.inr (by assumption)⟩)
               | (refine ih _ _ hsc (hst _ ?_)
                  right
                  exact ⟨rfl, Or.inl (by assumption)⟩)
               | (refine ih _ _ hsc (hst _ ?_)
                  right
                  exact ⟨rfl, Or.inr ⟨hw, by assumption⟩⟩))
          · refine x_iload_n dX8_layNight_162 3 rfl rfl ?_
            refine x_if_eq (tgt := 170) dX8_layNight_163 (by decide) (by omega) (fun h163 => ?_) (fun h163 => ?_)
            · refine x_iconst dX8_layNight_170 ?_
              refine x_istore_n (lv' := [(0, _), (1, _), (2, _), (3, _), (4, _)]) dX8_layNight_171 rfl rfl rfl ?_
              refine x_iinc (lv' := [(0, _), (1, _), (2, _), (3, _), (4, _)]) dX8_layNight_172 4 rfl rfl rfl ?_
              refine x_goto (tgt := 135) dX8_layNight_175 (by decide) ?_
              first
              | (have hw : tb wo e = true := by assumption
                 have hsc : E1 (scn (pm I) wo k (e + 1)) J := by unfold scn; rw [if_pos hw]; exact hJ
                 first
                 | (refine ih _ _ hsc (hst _ ?_)
                    left
                    exact ⟨rfl, by assumption, Or.inl hw⟩)
                 | (refine ih _ _ hsc (hst _ ?_)
                    right
                    exact ⟨rfl, Or.inl (by assumption)⟩))
              | (have hw : ¬ tb wo e = true := by assumption
                 have hsc : E1 (scn (pm I) wo k (e + 1)) (noteM (e : Int) J) := by unfold scn; rw [if_neg hw]; exact noteM_e1 hJ
                 first
                 | (refine ih _ _ hsc (hst _ ?_)
                    left
                    exact ⟨rfl, by assumption, Or.inr (by assumption)⟩)
                 | (refine ih _ _ hsc (hst _ ?_)
                    right
                    exact ⟨rfl, Or.inl (by assumption)⟩)
                 | (refine ih _ _ hsc (hst _ ?_)
                    right
                    exact ⟨rfl, Or.inr ⟨hw, by assumption⟩⟩))
            · refine x_iconst dX8_layNight_166 ?_
              refine x_goto (tgt := 171) dX8_layNight_167 (by decide) ?_
              refine x_istore_n (lv' := [(0, _), (1, _), (2, _), (3, _), (4, _)]) dX8_layNight_171 rfl rfl rfl ?_
              refine x_iinc (lv' := [(0, _), (1, _), (2, _), (3, _), (4, _)]) dX8_layNight_172 4 rfl rfl rfl ?_
              refine x_goto (tgt := 135) dX8_layNight_175 (by decide) ?_
              first
              | (have hw : tb wo e = true := by assumption
                 have hsc : E1 (scn (pm I) wo k (e + 1)) J := by unfold scn; rw [if_pos hw]; exact hJ
                 first
                 | (refine ih _ _ hsc (hst _ ?_)
                    left
                    exact ⟨rfl, by assumption, Or.inl hw⟩)
                 | (refine ih _ _ hsc (hst _ ?_)
                    right
                    exact ⟨rfl, Or.inl (by assumption)⟩))
              | (have hw : ¬ tb wo e = true := by assumption
                 have hsc : E1 (scn (pm I) wo k (e + 1)) (noteM (e : Int) J) := by unfold scn; rw [if_neg hw]; exact noteM_e1 hJ
                 first
                 | (refine ih _ _ hsc (hst _ ?_)
                    left
                    exact ⟨rfl, by assumption, Or.inr (by assumption)⟩)
                 | (refine ih _ _ hsc (hst _ ?_)
                    right
                    exact ⟨rfl, Or.inl (by assumption)⟩)
                 | (refine ih _ _ hsc (hst _ ?_)
                    right
                    exact ⟨rfl, Or.inr ⟨hw, by assumption⟩⟩))
    · intro J g hJ hg
      have hg2 : 0 ≤ g ∧ g ≤ 1 := by rw [hg]; exact b01_r _
      have j25 : J 0 25 = I 0 25 := by rw [hJ.at (by unfold sce per; omega), scn_0]; unfold sc0; simp; exact pm_at (by unfold per; omega)
      refine x_iload dX8_layNight_135 4 rfl ?_
      refine x_aload_n dX8_layNight_137 0 rfl rfl ?_
      refine x_getI dX8_layNight_138 flX8_217 rfl rfl ?_
      refine x_ic_ge (tgt := 178) dX8_layNight_141 (by decide) (by omega) (fun h141 => ?_) (fun h141 => ?_)
      · refine x_iload_n dX8_layNight_178 3 rfl rfl ?_
        refine x_zret dX8_layNight_179 rfl (by omega) ?_
        rw [← hQ]
        exact ⟨_, rfl, hg, hJ, rfl, rfl⟩
      · exfalso; omega
  have J1 : ∃ J1 : MI, J1 = m_up (m_up (m_up I 0 34 k) 0 36 (-9)) 0 37 0 := ⟨_, rfl⟩
  obtain ⟨J1, hJ1⟩ := J1
  have hfin : E1 (scn (pm I) wo k 0) (mtf (m_up J1 0 35 (orf (bdF I) (I 0 12).toNat)) 31 93) := by
    intro c j hc
    show _ = sc0 (pm I) k c j
    have hb : orf (bdF I) (I 0 12).toNat = orf (bdF (pm I)) (pm I 0 12).toNat := by
      rw [pm_at (I := I) (c := 0) (j := 12) (by unfold per; omega)]
      exact orf_congr (fun d _ => by unfold bdF; rw [pm_at (by unfold per; omega)])
    unfold mtf sc0
    rw [← hb, hJ1]
    unfold m_up
    by_cases c0 : c = 0
    · subst c0
      rw [if_neg (by omega), if_neg (by omega), if_pos rfl]
      by_cases e34 : j = 34
      · subst e34; simp
      by_cases e35 : j = 35
      · subst e35; simp
      by_cases e36 : j = 36
      · subst e36; simp
      by_cases e37 : j = 37
      · subst e37; simp
      simp only [e34, e35, e36, e37, and_false, if_false]
      exact (pm_at (by unfold sce per at hc; unfold per; omega)).symm
    · rw [if_neg c0]
      by_cases c1 : c = 13 ∨ c = 14 ∨ c = 15 ∨ c = 16
      · rw [if_pos c1, if_pos (by unfold sce per at hc; omega)]
      · rw [if_neg c1, if_neg (by omega)]
        by_cases c2 : c = 17
        · rw [if_pos c2, if_pos (by unfold sce per at hc; omega)]
        · rw [if_neg c2, if_neg (by omega), if_neg (by omega), if_neg (by omega), if_neg (by omega), if_neg (by omega)]
          refine (pm_at ?_).symm
          rcases hc with h | h | h | h
          · exact h
          · omega
          · omega
          · omega
  have J2 : ∃ J2 : MI, J2 = m_up J1 0 35 (orf (bdF I) (I 0 12).toNat) := ⟨_, rfl⟩
  obtain ⟨J2, hJ2⟩ := J2
  have ts : ∀ t : Nat, t ≤ 31 → Rn G mtX8_layNight Q 63 [(0, mr 0), (1, mi wo), (2, mi k), (3, mi (t : Int))] [] shM (mtf J2 (t : Int) (3 * (t : Int))) L rM := by
    refine lpn 31 (fun t ht ih => ?_) ?_
    · have wl : ∀ w : Nat, w ≤ 3 → Rn G mtX8_layNight Q 100 [(0, mr 0), (1, mi wo), (2, mi k), (3, mi (t : Int)), (4, mi (w : Int))] [] shM (mtf J2 ((t : Int) + 1) (3 * (t : Int) + (w : Int))) L rM := by
        refine lpn 3 (fun w hw ihw => ?_) ?_
        · refine x_iload dX8_layNight_100 4 rfl ?_
          refine x_iconst dX8_layNight_102 ?_
          refine x_ic_ge (tgt := 124) dX8_layNight_103 (by decide) (by omega) (fun h103 => ?_) (fun h103 => ?_)
          · exfalso; omega
          · refine x_aload_n dX8_layNight_106 0 rfl rfl ?_
            refine x_getR dX8_layNight_107 flX8_59 rfl rfl rfl ?_
            refine x_iconst dX8_layNight_110 ?_
            refine x_iload_n dX8_layNight_111 3 rfl rfl ?_
            refine x_imul dX8_layNight_112 ?_
            refine x_iload dX8_layNight_113 4 rfl ?_
            refine x_iadd dX8_layNight_115 ?_
            refine x_iconst dX8_layNight_116 ?_
            refine x_iast dX8_layNight_117 rfl (by omega) ?_
            refine x_iinc (lv' := [(0, _), (1, _), (2, _), (3, _), (4, _)]) dX8_layNight_118 4 rfl rfl rfl ?_
            refine x_goto (tgt := 100) dX8_layNight_121 (by decide) ?_
            rw [mtf_q (by omega), show 3 * (t : Int) + (w : Int) + 1 = 3 * (t : Int) + ((w + 1 : Nat) : Int) by omega]
            exact ihw
        · refine x_iload dX8_layNight_100 4 rfl ?_
          refine x_iconst dX8_layNight_102 ?_
          refine x_ic_ge (tgt := 124) dX8_layNight_103 (by decide) (by omega) (fun h103 => ?_) (fun h103 => ?_)
          · refine x_iinc (lv' := [(0, _), (1, _), (2, _), (3, _), (4, _)]) dX8_layNight_124 3 rfl rfl rfl ?_
            refine x_goto (tgt := 63) dX8_layNight_127 (by decide) ?_
            refine x_top (lv' := [(0, _), (1, _), (2, _), (3, _)]) 4 rfl ?_
            rw [show 3 * (t : Int) + ((3 : Nat) : Int) = 3 * ((t + 1 : Nat) : Int) by omega]
            exact ih
          · exfalso; omega
      refine x_iload_n dX8_layNight_63 3 rfl rfl ?_
      refine x_bipush dX8_layNight_64 (by decide) ?_
      refine x_ic_gt (tgt := 130) dX8_layNight_66 (by decide) (by omega) (fun h66 => ?_) (fun h66 => ?_)
      · exfalso; omega
      · refine x_aload_n dX8_layNight_69 0 rfl rfl ?_
        refine x_getR dX8_layNight_70 flX8_47 rfl rfl rfl ?_
        refine x_iload_n dX8_layNight_73 3 rfl rfl ?_
        refine x_iconst dX8_layNight_74 ?_
        refine x_iast dX8_layNight_75 rfl (by omega) ?_
        refine x_aload_n dX8_layNight_76 0 rfl rfl ?_
        refine x_getR dX8_layNight_77 flX8_50 rfl rfl rfl ?_
        refine x_iload_n dX8_layNight_80 3 rfl rfl ?_
        refine x_iconst dX8_layNight_81 ?_
        refine x_iast dX8_layNight_82 rfl (by omega) ?_
        refine x_aload_n dX8_layNight_83 0 rfl rfl ?_
        refine x_getR dX8_layNight_84 flX8_53 rfl rfl rfl ?_
        refine x_iload_n dX8_layNight_87 3 rfl rfl ?_
        refine x_iconst dX8_layNight_88 ?_
        refine x_iast dX8_layNight_89 rfl (by omega) ?_
        refine x_aload_n dX8_layNight_90 0 rfl rfl ?_
        refine x_getR dX8_layNight_91 flX8_56 rfl rfl rfl ?_
        refine x_iload_n dX8_layNight_94 3 rfl rfl ?_
        refine x_iconst dX8_layNight_95 ?_
        refine x_iast dX8_layNight_96 rfl (by omega) ?_
        refine x_iconst dX8_layNight_97 ?_
        refine x_istore (lv' := [(0, _), (1, _), (2, _), (3, _), (4, _)]) dX8_layNight_98 rfl rfl ?_
        have h1 := wl 0 (by omega)
        rw [show 3 * (t : Int) + ((0 : Nat) : Int) = 3 * (t : Int) by omega] at h1
        rw [mtf_t (by omega)]
        exact h1
    · refine x_iload_n dX8_layNight_63 3 rfl rfl ?_
      refine x_bipush dX8_layNight_64 (by decide) ?_
      refine x_ic_gt (tgt := 130) dX8_layNight_66 (by decide) (by omega) (fun h66 => ?_) (fun h66 => ?_)
      · refine x_iconst dX8_layNight_130 ?_
        refine x_istore_n (lv' := [(0, _), (1, _), (2, _), (3, _)]) dX8_layNight_131 rfl rfl rfl ?_
        refine x_iconst dX8_layNight_132 ?_
        refine x_istore (lv' := [(0, _), (1, _), (2, _), (3, _), (4, _)]) dX8_layNight_133 rfl rfl ?_
        refine ev 0 (by omega) _ _ ?_ (by unfold al; exact b01_t rfl)
        rw [hJ2]
        exact hfin
      · exfalso; omega
  have bd : ∀ d, d ≤ (I 0 12).toNat → Rn G mtX8_layNight Q 23 [(0, mr 0), (1, mi wo), (2, mi k), (3, mi (d : Int))] [] shM (m_up J1 0 35 (orf (bdF I) d)) L rM := by
    have j7 : ∀ j, J1 7 j = I 7 j := fun j => by rw [hJ1, m_up_ne (by decide), m_up_ne (by decide), m_up_ne (by decide)]
    have j12 : J1 0 12 = I 0 12 := by rw [hJ1, m_up_nj (by decide), m_up_nj (by decide), m_up_nj (by decide)]
    refine lpn (I 0 12).toNat (fun d hd ih => ?_) ?_
    · have hdo := hH.2.2.2.2.1 (d : Int) (by omega) (by omega)
      have e7 := j7 (3 * (d : Int) + 2)
      have j12b : m_up J1 0 35 (orf (bdF I) d) 0 12 = I 0 12 := by rw [m_up_nj (by decide)]; exact j12
      have bk : ∀ c : Int, c = bdF I d → Rn G mtX8_layNight Q 51 [(0, mr 0), (1, mi wo), (2, mi k), (3, mi (d : Int))] [mi c, mi (orf (bdF I) d), mr 0] shM (m_up J1 0 35 (orf (bdF I) d)) L rM := by
        intro c hc
        refine x_ior dX8_layNight_51 ?_
        refine x_putI dX8_layNight_52 flX8_249 rfl rfl rfl ?_
        refine x_iinc (lv' := [(0, _), (1, _), (2, _), (3, _)]) dX8_layNight_55 3 rfl rfl rfl ?_
        refine x_goto (tgt := 23) dX8_layNight_58 (by decide) ?_
        rw [m_up_up, hc]
        exact ih
      refine x_iload_n dX8_layNight_23 3 rfl rfl ?_
      refine x_aload_n dX8_layNight_24 0 rfl rfl ?_
      refine x_getI dX8_layNight_25 flX8_183 rfl rfl ?_
      refine x_ic_ge (tgt := 61) dX8_layNight_28 (by decide) (by omega) (fun h28 => ?_) (fun h28 => ?_)
      · exfalso; omega
      · refine x_aload_n dX8_layNight_31 0 rfl rfl ?_
        refine x_dup dX8_layNight_32 rfl ?_
        refine x_getI dX8_layNight_33 flX8_249 rfl rfl ?_
        rw [m_up_eq]
        refine x_aload_n dX8_layNight_36 0 rfl rfl ?_
        refine x_iload_n dX8_layNight_37 3 rfl rfl ?_
        refine x_callVi (as := [_]) dX8_layNight_38 lvX8_195 rfl rfl rfl rfl rfl rfl rfl ⟨rfl, rfl⟩ (s_X8_hasBoard (by omega) (by rw [m_up_ne (by decide), e7]; omega)) (fun z38 I38 L38 R38 hq38 => ?_)
        obtain ⟨rfl, rfl, rfl, rfl⟩ := hq38
        refine y_ifb_eq (tgt := 50) dX8_layNight_41 (by decide) (fun h41 => ?_) (fun h41 => ?_)
        · refine x_iconst dX8_layNight_50 ?_
          refine bk _ ?_
          have e8 : m_up J1 0 35 (orf (bdF I) d) 7 (3 * (d : Int) + 2) = I 7 (3 * (d : Int) + 2) := by rw [m_up_ne (by decide)]; exact e7
          unfold bdF
          first | (rw [if_pos (by omega)]) | (rw [if_neg (by omega)])
        · refine x_iconst dX8_layNight_44 ?_
          refine x_iload_n dX8_layNight_45 3 rfl rfl ?_
          refine x_ishl dX8_layNight_46 ?_
          refine x_goto (tgt := 51) dX8_layNight_47 (by decide) ?_
          refine bk _ ?_
          have e8 : m_up J1 0 35 (orf (bdF I) d) 7 (3 * (d : Int) + 2) = I 7 (3 * (d : Int) + 2) := by rw [m_up_ne (by decide)]; exact e7
          unfold bdF
          first | (rw [if_pos (by omega)]) | (rw [if_neg (by omega)])
    · have j12b : m_up J1 0 35 (orf (bdF I) (I 0 12).toNat) 0 12 = I 0 12 := by rw [m_up_nj (by decide)]; exact j12
      refine x_iload_n dX8_layNight_23 3 rfl rfl ?_
      refine x_aload_n dX8_layNight_24 0 rfl rfl ?_
      refine x_getI dX8_layNight_25 flX8_183 rfl rfl ?_
      refine x_ic_ge (tgt := 61) dX8_layNight_28 (by decide) (by omega) (fun h28 => ?_) (fun h28 => ?_)
      · refine x_iconst dX8_layNight_61 ?_
        refine x_istore_n (lv' := [(0, _), (1, _), (2, _), (3, _)]) dX8_layNight_62 rfl rfl rfl ?_
        have h1 := ts 0 (by omega)
        rw [hJ2] at h1
        refine Eq.mp (congrArg (fun J => Rn G mtX8_layNight Q 63 _ _ shM J L rM) ?_) h1
        funext c j
        unfold mtf
        rw [if_neg (by omega), if_neg (by omega)]
      · exfalso; omega
  refine x_aload_n dX8_layNight_0 0 rfl rfl ?_
  refine x_iload_n dX8_layNight_1 2 rfl rfl ?_
  refine x_putI dX8_layNight_2 flX8_240 rfl rfl rfl ?_
  refine x_aload_n dX8_layNight_5 0 rfl rfl ?_
  refine x_bipush dX8_layNight_6 (by decide) ?_
  refine x_putI dX8_layNight_8 flX8_243 rfl rfl rfl ?_
  refine x_aload_n dX8_layNight_11 0 rfl rfl ?_
  refine x_iconst dX8_layNight_12 ?_
  refine x_putI dX8_layNight_13 flX8_246 rfl rfl rfl ?_
  refine x_aload_n dX8_layNight_16 0 rfl rfl ?_
  refine x_iconst dX8_layNight_17 ?_
  refine x_putI dX8_layNight_18 flX8_249 rfl rfl rfl ?_
  refine x_iconst dX8_layNight_21 ?_
  refine x_istore_n (lv' := [(0, _), (1, _), (2, _), (3, _)]) dX8_layNight_22 rfl rfl rfl ?_
  have h1 := bd 0 (by omega)
  rw [hJ1] at h1
  exact h1
end

/-! THE REFERENCE'S SCENE, out of what lasts. -/
noncomputable def pm (I : MI) : MI := fun c j => @ite Int (per c j) (Classical.propDecidable _) (I c j) 0
theorem pm_at {I : MI} {c : Nat} {j : Int} (h : per c j) : pm I c j = I c j := by unfold pm; rw [if_pos h]
def bdF (κ : MI) (d : Nat) : Int := if κ 7 (3 * (d : Int) + 2) = 1 then z_shl 1 (d : Int) else 0
def sc0 (κ : MI) (k : Int) : MI := fun c j =>
  if c = 0 then (if j = 34 then k else if j = 35 then orf (bdF κ) (κ 0 12).toNat else if j = 36 then -9 else if j = 37 then 0 else κ 0 j)
  else if c = 13 ∨ c = 14 ∨ c = 15 ∨ c = 16 then 0 else if c = 17 then -1 else κ c j
def scn (κ : MI) (wo k : Int) : Nat → MI
  | 0 => sc0 κ k
  | e + 1 => if tb wo e then scn κ wo k e else noteM (e : Int) (scn κ wo k e)
def gdF (κ : MI) (wo k : Int) (e : Nat) : Bool := tb wo e || !(decide (κ 11 (4 * (e : Int) + 0) = 3)) || decide (κ 11 (4 * (e : Int) + 2) < k)
noncomputable def kap (I : MI) (wo k : Int) : MI := scn (pm I) wo k (I 0 25).toNat
noncomputable def gd (I : MI) (wo k : Int) : Bool := al (gdF (pm I) wo k) (I 0 25).toNat
theorem ntM_13 {k a b t : Int} {J : MI} (j : Int) : ntM k a b t J 13 j = if k = 1 ∧ j = t then z_or (J 13 j) (z_shl 1 a) else J 13 j := rfl
theorem ntM_14 {k a b t : Int} {J : MI} (j : Int) : ntM k a b t J 14 j = if k = 5 ∧ t ≤ j ∧ j ≤ b then z_or (J 14 j) (z_shl 1 a) else J 14 j := rfl
theorem ntM_15 {k a b t : Int} {J : MI} (j : Int) : ntM k a b t J 15 j = if k = 2 ∧ j = t then z_or (J 15 j) (z_shl 1 a) else J 15 j := rfl
theorem ntM_16 {k a b t : Int} {J : MI} (j : Int) : ntM k a b t J 16 j = if k = 4 ∧ j = t then z_or (J 16 j) (z_shl 1 a) else J 16 j := rfl
theorem ntM_17 {k a b t : Int} {J : MI} (j : Int) : ntM k a b t J 17 j = if k = 3 ∧ j = 3 * t + b then (if J 17 j = -1 ∨ J 17 j = a then a else -2) else J 17 j := rfl
theorem noteM_ot {e : Int} {J : MI} {c : Nat} (h : c < 13 ∨ 17 < c) (j : Int) : noteM e J c j = J c j := by
  unfold noteM ntM
  rw [if_neg (by omega), if_neg (by omega), if_neg (by omega), if_neg (by omega), if_neg (by omega)]
theorem scn_ot {κ : MI} {wo k : Int} {c : Nat} (h : (1 ≤ c ∧ c < 13) ∨ 17 < c) (j : Int) : ∀ e, scn κ wo k e c j = κ c j
  | 0 => by unfold scn sc0; rw [if_neg (by omega), if_neg (by omega), if_neg (by omega)]
  | e + 1 => by
    unfold scn
    split
    · exact scn_ot h j e
    · rw [noteM_ot (by omega)]; exact scn_ot h j e
theorem scn_0 {κ : MI} {wo k : Int} {j : Int} : ∀ e, scn κ wo k e 0 j = sc0 κ k 0 j
  | 0 => rfl
  | e + 1 => by
    unfold scn
    split
    · exact scn_0 e
    · rw [noteM_ot (by omega)]; exact scn_0 e
/-- the masks of a scene are ints -/
theorem scn_r {κ : MI} {wo k : Int} {c : Nat} (h : c = 13 ∨ c = 14 ∨ c = 15 ∨ c = 16) (j : Int) : ∀ e, rI (scn κ wo k e c j)
  | 0 => by unfold scn sc0; rw [if_neg (by omega), if_pos h]; omega
  | e + 1 => by
    have ih := scn_r (κ := κ) (wo := wo) (k := k) h j e
    unfold scn
    split
    · exact ih
    · unfold noteM
      rcases h with rfl | rfl | rfl | rfl
      · rw [ntM_13]; split; exact z_or_r _ _; exact ih
      · rw [ntM_14]; split; exact z_or_r _ _; exact ih
      · rw [ntM_15]; split; exact z_or_r _ _; exact ih
      · rw [ntM_16]; split; exact z_or_r _ _; exact ih
def iEvs (I : MI) : Prop := (0 ≤ I 0 25 ∧ I 0 25 ≤ 24) ∧ ∀ e : Nat, (e : Int) < I 0 25 → iEv I e
theorem scn_17 {κ : MI} {wo k : Int} (j : Int) : ∀ e : Nat, (∀ i : Nat, i < e → iEv κ i) → -2 ≤ scn κ wo k e 17 j ∧ scn κ wo k e 17 j ≤ 7
  | 0, _ => by unfold scn sc0; rw [if_neg (by omega), if_pos rfl]; omega
  | e + 1, h => by
    have ih := scn_17 (κ := κ) (wo := wo) (k := k) j e (fun i hi => h i (by omega))
    unfold scn
    split
    · exact ih
    · unfold noteM
      rw [ntM_17]
      have ha := (h e (by omega)).2.1
      rw [scn_ot (c := 11) (by omega) (4 * (e : Int) + 1)]
      split
      · split <;> omega
      · exact ih
theorem iEv_eq {I J : MI} {e : Int} (h : ∀ j, J 11 j = I 11 j) (k : iEv I e) : iEv J e := by unfold iEv at *; simp only [h]; exact k
theorem iHs_pm {I : MI} (h : iHs I) : iHs (pm I) := by
  unfold iHs
  have a11 : pm I 0 11 = I 0 11 := pm_at (by unfold per; omega)
  have a12 : pm I 0 12 = I 0 12 := pm_at (by unfold per; omega)
  have a13 : pm I 0 13 = I 0 13 := pm_at (by unfold per; omega)
  have a14 : pm I 0 14 = I 0 14 := pm_at (by unfold per; omega)
  have a7 : ∀ j, pm I 7 j = I 7 j := fun j => pm_at (by unfold per; omega)
  have a8 : ∀ j, pm I 8 j = I 8 j := fun j => pm_at (by unfold per; omega)
  simp only [a11, a12, a13, a14, a7, a8]
  exact h
theorem iHs_scn {κ : MI} (h : iHs κ) (wo k : Int) (e : Nat) : iHs (scn κ wo k e) := by
  have a : ∀ j, j = 11 ∨ j = 12 ∨ j = 13 ∨ j = 14 → scn κ wo k e 0 j = κ 0 j := fun j hj => by
    rw [scn_0]; unfold sc0; rw [if_pos rfl, if_neg (by omega), if_neg (by omega), if_neg (by omega), if_neg (by omega)]
  have a7 : ∀ j, scn κ wo k e 7 j = κ 7 j := fun j => scn_ot (by omega) j e
  have a8 : ∀ j, scn κ wo k e 8 j = κ 8 j := fun j => scn_ot (by omega) j e
  unfold iHs
  rw [a 11 (by omega), a 12 (by omega), a 13 (by omega), a 14 (by omega)]
  simp only [a7, a8]
  exact h
theorem iSc_scn {κ : MI} {wo k : Int} {e : Nat} (hk : 0 ≤ k ∧ k ≤ κ 0 13) (h : ∀ i : Nat, i < e → iEv κ i) : iSc (scn κ wo k e) := by
  unfold iSc
  refine ⟨?_, ?_, ?_, ?_, fun t h1 h2 => ⟨scn_r (by omega) t e, scn_r (by omega) t e, scn_r (by omega) t e, scn_r (by omega) t e, fun w h3 h4 => ?_⟩⟩
  · rw [scn_0, scn_0]; unfold sc0; simp; exact hk
  · rw [scn_0]; unfold sc0; simp
  · rw [scn_0]; unfold sc0; simp
  · rw [scn_0]; unfold sc0; simp; exact orf_r _ _
  · have := scn_17 (κ := κ) (wo := wo) (k := k) (3 * t + w) e h
    omega
theorem iEv_pm {I : MI} (h : iEvs I) (i : Nat) (hi : i < (I 0 25).toNat) : iEv (pm I) i := iEv_eq (fun j => pm_at (by unfold per; omega)) (h.2 i (by omega))
theorem kap_H {I : MI} (h : iHs I) (wo k : Int) : iHs (kap I wo k) := iHs_scn (iHs_pm h) wo k _
theorem kap_S {I : MI} (h : iEvs I) {wo k : Int} (hk : 0 ≤ k ∧ k ≤ I 0 13) : iSc (kap I wo k) := iSc_scn (by rw [pm_at (by unfold per; omega)]; exact hk) (iEv_pm h)
theorem kap_per {I : MI} {wo k : Int} {c : Nat} {j : Int} (h : per c j) : kap I wo k c j = I c j := by
  unfold kap
  by_cases hc : c = 0
  · subst hc
    rw [scn_0]
    unfold sc0
    have : ¬ (j = 34) ∧ ¬ (j = 35) ∧ ¬ (j = 36) ∧ ¬ (j = 37) := by unfold per at h; omega
    rw [if_pos rfl, if_neg this.1, if_neg this.2.1, if_neg this.2.2.1, if_neg this.2.2.2, pm_at h]
  · rw [scn_ot (by unfold per at h; omega), pm_at h]
theorem kap_us {I : MI} {wo k : Int} : us (kap I wo k) = k.toNat := by unfold us kap; rw [scn_0]; unfold sc0; simp
section
variable {G : GT} {sh : MS} {I L : MI} {R : MR} {κ : MI}
end

/-! THE MIRROR of what is told: a house and a night, the other way round. -/
/-- an event and its mirror -/
def EvM (M M' : MI) (e : Nat) : Prop :=
  M' 11 (4 * (e : Int) + 0) = M 11 (4 * (e : Int) + 0) ∧
  ((M 11 (4 * (e : Int) + 0) = 1 ∨ M 11 (4 * (e : Int) + 0) = 5) → M' 11 (4 * (e : Int) + 1) = M 11 (4 * (e : Int) + 1)) ∧
  ((M 11 (4 * (e : Int) + 0) = 2 ∨ M 11 (4 * (e : Int) + 0) = 3 ∨ M 11 (4 * (e : Int) + 0) = 4) → M' 11 (4 * (e : Int) + 1) = M 0 11 - 1 - M 11 (4 * (e : Int) + 1) ∧ M' 11 (4 * (e : Int) + 3) = M 0 14 - M 11 (4 * (e : Int) + 3)) ∧
  (M 11 (4 * (e : Int) + 0) = 1 → M' 11 (4 * (e : Int) + 3) = M 0 14 - 1 - M 11 (4 * (e : Int) + 3)) ∧
  (M 11 (4 * (e : Int) + 0) = 5 → M' 11 (4 * (e : Int) + 3) = M 0 14 - 1 - M 11 (4 * (e : Int) + 2) ∧ M' 11 (4 * (e : Int) + 2) = M 0 14 - 1 - M 11 (4 * (e : Int) + 3)) ∧
  (M 11 (4 * (e : Int) + 0) = 3 → M' 11 (4 * (e : Int) + 2) = M 11 (4 * (e : Int) + 2))
def MirM (M M' : MI) : Prop :=
  (M' 0 11 = M 0 11 ∧ M' 0 12 = M 0 12 ∧ M' 0 13 = M 0 13 ∧ M' 0 14 = M 0 14 ∧ M' 0 25 = M 0 25) ∧
  (∀ e : Nat, (e : Int) < M 0 12 → M' 7 (3 * (e : Int)) = M 0 11 - 1 - M 7 (3 * (e : Int) + 1) ∧ M' 7 (3 * (e : Int) + 1) = M 0 11 - 1 - M 7 (3 * (e : Int)) ∧ M' 7 (3 * (e : Int) + 2) = M 7 (3 * (e : Int) + 2)) ∧
  (∀ w : Nat, (w : Int) < M 0 13 → M' 8 (2 * (w : Int)) = M 8 (2 * (w : Int)) ∧ ∀ r : Nat, (r : Int) < M 0 11 → tb (M 8 (2 * (w : Int) + 1)) r = true ∧ tb (M' 8 (2 * (w : Int) + 1)) r = true) ∧
  ∀ e : Nat, (e : Int) < M 0 25 → EvM M M' e
theorem MirM.sy {M M' : MI} (m : MirM M M') (hE : iEvs M) : MirM M' M := by
  obtain ⟨⟨a1, a2, a3, a4, a5⟩, md, mw, me⟩ := m
  refine ⟨⟨a1.symm, a2.symm, a3.symm, a4.symm, a5.symm⟩, fun e he => ?_, fun w hw => ?_, fun e he => ?_⟩
  · rw [a2] at he
    obtain ⟨b1, b2, b3⟩ := md e he
    rw [a1]
    omega
  · rw [a3] at hw
    obtain ⟨b1, b2⟩ := mw w hw
    refine ⟨b1.symm, fun r hr => ?_⟩
    rw [a1] at hr
    exact ⟨(b2 r hr).2, (b2 r hr).1⟩
  · rw [a5] at he
    obtain ⟨b1, b2, b3, b4, b5, b6⟩ := me e he
    unfold EvM
    rw [a1, a4, b1]
    refine ⟨rfl, fun h => (b2 h).symm, fun h => ?_, fun h => ?_, fun h => ?_, fun h => (b6 h).symm⟩
    · have := b3 h; omega
    · have := b4 h; omega
    · have := b5 h; omega
theorem pm_11 {M : MI} (x : Int) : pm M 11 x = M 11 x := pm_at (by unfold per; omega)
theorem scn_11 {M : MI} {wo k : Int} (e : Nat) (x : Int) : scn (pm M) wo k e 11 x = M 11 x := by rw [scn_ot (by omega), pm_11]
theorem scn_s {κ : MI} {wo k : Int} (e : Nat) : scn κ wo k (e + 1) = if tb wo e then scn κ wo k e else noteM (e : Int) (scn κ wo k e) := rfl
/-- only rooms that there are were seen -/
theorem scn_15 {M : MI} (hE : iEvs M) (hL : iEvL M) {wo k j : Int} {r : Nat} (hr : r < 32) : ∀ e : Nat, (e : Int) ≤ M 0 25 → tb (scn (pm M) wo k e 15 j) r = true → (r : Int) < M 0 11
  | 0, _, h => by
    have : scn (pm M) wo k 0 15 j = 0 := rfl
    rw [this, tb_0] at h
    cases h
  | e + 1, he, h => by
    rw [scn_s] at h
    split at h
    · exact scn_15 hE hL hr e (by omega) h
    · unfold noteM at h
      rw [ntM_15] at h
      simp only [scn_11] at h
      split at h
      · rename_i hk
        rw [tb_or, Bool.or_eq_true] at h
        rcases h with h | h
        · exact scn_15 hE hL hr e (by omega) h
        · have h1 := (hE.2 e (by omega)).2.1
          have h2 := (hL e (by omega) (by omega)).2.2.2.1 (Or.inl hk.1)
          rw [tb_sh1 (by omega) hr, decide_eq_true_eq] at h
          omega
      · exact scn_15 hE hL hr e (by omega) h
/-- only boards that there are were heard -/
theorem scn_13 {M : MI} (hE : iEvs M) (hL : iEvL M) {wo k j : Int} {r : Nat} (hr : r < 32) : ∀ e : Nat, (e : Int) ≤ M 0 25 → tb (scn (pm M) wo k e 13 j) r = true → (r : Int) < M 0 12 ∧ M 7 (3 * (r : Int) + 2) = 1
  | 0, _, h => by
    have : scn (pm M) wo k 0 13 j = 0 := rfl
    rw [this, tb_0] at h
    cases h
  | e + 1, he, h => by
    rw [scn_s] at h
    split at h
    · exact scn_13 hE hL hr e (by omega) h
    · unfold noteM at h
      rw [ntM_13] at h
      simp only [scn_11] at h
      split at h
      · rename_i hk
        rw [tb_or, Bool.or_eq_true] at h
        rcases h with h | h
        · exact scn_13 hE hL hr e (by omega) h
        · have h1 := (hE.2 e (by omega)).2.1
          have h2 := hL e (by omega) (by omega)
          rw [tb_sh1 (by omega) hr, decide_eq_true_eq] at h
          have e1 : (r : Int) = M 11 (4 * (e : Int) + 1) := by omega
          rw [e1]
          exact ⟨(h2.1 (Or.inl hk.1)).1, h2.2.1 hk.1⟩
      · exact scn_13 hE hL hr e (by omega) h
def Qs_ (R T : Int) (J J' : MI) : Prop :=
  (∀ t u : Nat, (t : Int) + u + 1 = T → J' 13 (u : Int) = J 13 (t : Int) ∧ J' 14 (u : Int) = J 14 (t : Int)) ∧
  ∀ t u : Nat, (t : Int) + u = T → (∀ r q : Nat, (r : Int) + q + 1 = R → tb (J' 15 (u : Int)) q = tb (J 15 (t : Int)) r ∧ tb (J' 16 (u : Int)) q = tb (J 16 (t : Int)) r) ∧ ∀ w : Nat, w < 3 → J' 17 (3 * (u : Int) + w) = mm_ R (J 17 (3 * (t : Int) + w)) ∧ J 17 (3 * (t : Int) + w) < R ∧ -2 ≤ J 17 (3 * (t : Int) + w)
theorem scn_m {M M' : MI} (hH : iHs M) (hE : iEvs M) (hL : iEvL M) (m : MirM M M') {wo k : Int} : ∀ e : Nat, (e : Int) ≤ M 0 25 → Qs_ (M 0 11) (M 0 14) (scn (pm M) wo k e) (scn (pm M') wo k e)
  | 0, _ => by
    have hR := hH.1
    refine ⟨fun t u h => ⟨rfl, rfl⟩, fun t u h => ⟨fun r q h => ?_, fun w hw => ?_⟩⟩
    · have e1 : ∀ (M : MI) (j : Int), scn (pm M) wo k 0 15 j = 0 := fun _ _ => rfl
      have e2 : ∀ (M : MI) (j : Int), scn (pm M) wo k 0 16 j = 0 := fun _ _ => rfl
      rw [e1, e1, e2, e2, tb_0, tb_0]
      exact ⟨rfl, rfl⟩
    · have e1 : ∀ (M : MI) (j : Int), scn (pm M) wo k 0 17 j = -1 := fun _ _ => rfl
      rw [e1, e1]
      exact ⟨rfl, by omega, by omega⟩
  | e + 1, he => by
    have ih := scn_m hH hE hL m (wo := wo) (k := k) e (by omega)
    have hR := hH.1
    rw [scn_s, scn_s]
    by_cases hw : tb wo e = true
    · rw [if_pos hw, if_pos hw]; exact ih
    · rw [if_neg hw, if_neg hw]
      obtain ⟨b1, b2, b3, b4, b5, b6⟩ := m.2.2.2 e (by omega)
      obtain ⟨v1, v2, v3, v4, v5, v6⟩ := hE.2 e (by omega)
      obtain ⟨l1, l2, l3, l4, l5⟩ := hL e (by omega) (by omega)
      have n1 : ∀ (M : MI), noteM (e : Int) (scn (pm M) wo k e) = ntM (M 11 (4 * (e : Int) + 0)) (M 11 (4 * (e : Int) + 1)) (M 11 (4 * (e : Int) + 2)) (M 11 (4 * (e : Int) + 3)) (scn (pm M) wo k e) := fun M => by
        unfold noteM
        rw [scn_11, scn_11, scn_11, scn_11]
      rw [n1, n1, b1]
      generalize M 11 (4 * (e : Int) + 0) = kd at *
      generalize M 11 (4 * (e : Int) + 1) = a at *
      generalize M 11 (4 * (e : Int) + 2) = b at *
      generalize M 11 (4 * (e : Int) + 3) = t0 at *
      generalize M' 11 (4 * (e : Int) + 1) = a' at *
      generalize M' 11 (4 * (e : Int) + 2) = b' at *
      generalize M' 11 (4 * (e : Int) + 3) = t0' at *
      generalize scn (pm M) wo k e = J at *
      generalize scn (pm M') wo k e = J' at *
      generalize M 0 11 = R at *
      generalize M 0 14 = T at *
      obtain ⟨ih1, ih2⟩ := ih
      refine ⟨fun t u h => ?_, fun t u h => ⟨fun r q hq => ?_, fun w hw3 => ?_⟩⟩
      · obtain ⟨i1, i2⟩ := ih1 t u h
        rw [ntM_13, ntM_13, ntM_14, ntM_14, i1, i2]
        constructor
        · by_cases c : kd = 1 ∧ (t : Int) = t0
          · have := b4 c.1
            have := b2 (Or.inl c.1)
            rw [if_pos ⟨c.1, by omega⟩, if_pos c, this]
          · rw [if_neg c, if_neg]
            rintro ⟨z1, z2⟩
            have := b4 z1
            exact c ⟨z1, by omega⟩
        · by_cases c : kd = 5 ∧ t0 ≤ (t : Int) ∧ (t : Int) ≤ b
          · have := b5 c.1
            have := b2 (Or.inr c.1)
            rw [if_pos ⟨c.1, by omega, by omega⟩, if_pos c, this]
          · rw [if_neg c, if_neg]
            rintro ⟨z1, z2, z3⟩
            have := b5 z1
            exact c ⟨z1, by omega, by omega⟩
      · obtain ⟨i1, i2⟩ := (ih2 t u h).1 r q hq
        rw [ntM_15, ntM_15, ntM_16, ntM_16]
        constructor
        · by_cases c : kd = 2 ∧ (t : Int) = t0
          · have := b3 (Or.inl c.1)
            have := l4 (Or.inl c.1)
            rw [if_pos ⟨c.1, by omega⟩, if_pos c, tb_or, tb_or, i1, tb_sh1 (by omega) (by omega), tb_sh1 (by omega) (by omega)]
            congr 1
            rw [decide_eq_decide]
            omega
          · rw [if_neg c, if_neg]
            · exact i1
            · rintro ⟨z1, z2⟩
              have := b3 (Or.inl z1)
              exact c ⟨z1, by omega⟩
        · by_cases c : kd = 4 ∧ (t : Int) = t0
          · have := b3 (Or.inr (Or.inr c.1))
            have := l4 (Or.inr (Or.inr c.1))
            rw [if_pos ⟨c.1, by omega⟩, if_pos c, tb_or, tb_or, i2, tb_sh1 (by omega) (by omega), tb_sh1 (by omega) (by omega)]
            congr 1
            rw [decide_eq_decide]
            omega
          · rw [if_neg c, if_neg]
            · exact i2
            · rintro ⟨z1, z2⟩
              have := b3 (Or.inr (Or.inr z1))
              exact c ⟨z1, by omega⟩
      · obtain ⟨i1, i2, i3⟩ := (ih2 t u h).2 w hw3
        rw [ntM_17, ntM_17, i1]
        by_cases c : kd = 3 ∧ 3 * (t : Int) + w = 3 * t0 + b
        · have h3 := b3 (Or.inr (Or.inl c.1))
          have h4 := l4 (Or.inr (Or.inl c.1))
          have h5 := v5 c.1
          have h6 := b6 c.1
          rw [if_pos ⟨c.1, by omega⟩, if_pos c]
          by_cases d : J 17 (3 * (t : Int) + w) = -1 ∨ J 17 (3 * (t : Int) + w) = a
          · have d' : mm_ R (J 17 (3 * (t : Int) + w)) = -1 ∨ mm_ R (J 17 (3 * (t : Int) + w)) = a' := by
              unfold mm_
              split <;> omega
            rw [if_pos d, if_pos d']
            refine ⟨?_, by omega, by omega⟩
            unfold mm_
            rw [if_neg (by omega)]
            omega
          · have d' : ¬ (mm_ R (J 17 (3 * (t : Int) + w)) = -1 ∨ mm_ R (J 17 (3 * (t : Int) + w)) = a') := by
              unfold mm_
              split <;> omega
            rw [if_neg d, if_neg d']
            exact ⟨rfl, by omega, by omega⟩
        · have c' : ¬ (kd = 3 ∧ 3 * (u : Int) + w = 3 * t0' + b') := by
            rintro ⟨z1, z2⟩
            have h3 := b3 (Or.inr (Or.inl z1))
            have h5 := v5 z1
            have h6 := b6 z1
            exact c ⟨z1, by omega⟩
          rw [if_neg c, if_neg c']
          exact ⟨rfl, i2, i3⟩
theorem kap_0 {M : MI} {wo k j : Int} : kap M wo k 0 j = sc0 (pm M) k 0 j := by unfold kap; rw [scn_0]
theorem kap_36 {M : MI} {wo k : Int} : kap M wo k 0 36 = -9 := by rw [kap_0]; rfl
theorem kap_m {M M' : MI} (hH : iHs M) (hE : iEvs M) (hL : iEvL M) (hH' : iHs M') (hE' : iEvs M') (hL' : iEvL M') (m : MirM M M') {wo k : Int} (hk : 0 ≤ k ∧ k ≤ M 0 13) : Mir (kap M wo k) (kap M' wo k) := by
  have q := scn_m hH hE hL m (wo := wo) (k := k) (M 0 25).toNat (by have := hE.1; omega)
  have hl := KA_lst hH (wo := wo) (k := k)
  have hl' := KA_lst hH' (wo := wo) (k := k)
  obtain ⟨⟨a1, a2, a3, a4, a5⟩, md, mw, me⟩ := m
  have hu : us (kap M wo k) = k.toNat := kap_us
  have p11 : ∀ (M : MI), kap M wo k 0 11 = M 0 11 := fun M => kap_per (by unfold per; omega)
  have p12 : ∀ (M : MI), kap M wo k 0 12 = M 0 12 := fun M => kap_per (by unfold per; omega)
  have p7 : ∀ (M : MI) (j : Int), kap M wo k 7 j = M 7 j := fun M j => kap_per (by unfold per; omega)
  have p8 : ∀ (M : MI) (j : Int), kap M wo k 8 j = M 8 j := fun M j => kap_per (by unfold per; omega)
  have hW := hH.2.2.1
  refine ⟨⟨by rw [kap_us, kap_us], by omega, by rw [p12, p12, a2], by rw [p11, p11, a1], ?_, by rw [kap_36]; omega, by rw [kap_36]; omega⟩, fun e he => ?_, fun w hw => ?_, fun t u e => ?_, fun t u e => ⟨fun r hr hb => ?_, fun r q' e' => ?_, fun w hw => ?_⟩⟩
  · rw [kap_35v, kap_35v, a2]
    refine orf_congr (fun d hd => ?_)
    unfold bdF
    rw [(md d (by omega)).2.2]
  · rw [p12] at he
    rw [p7, p7, p7, p7, p7, p7, p11]
    exact md e he
  · rw [hu] at hw
    rw [p8, p8, p8, p11]
    exact ⟨(mw w (by omega)).1, fun r hr => ((mw w (by omega)).2 r hr).2⟩
  · have := q.1 t u (by omega)
    unfold kap
    rw [a5]
    exact this
  · rw [p11]
    have := scn_15 hE' hL' hr (M' 0 25).toNat (by have := hE'.1; omega) hb
    omega
  · rw [p11] at e'
    have := (q.2 t u (by omega)).1 r q' e'
    unfold kap
    rw [a5]
    exact this
  · rw [hu] at hw
    rw [p11]
    have := ((q.2 t u (by omega)).2 w (by omega)).1
    unfold kap
    rw [a5]
    exact this
/-- two memories, one the other's mirror, as they are laid -/
def PM (M M' : MI) : Prop := (iHs M ∧ iEvs M ∧ iEvL M) ∧ (iHs M' ∧ iEvs M' ∧ iEvL M') ∧ MirM M M'
theorem PM.sy {M M' : MI} (h : PM M M') : PM M' M := ⟨h.2.1, h.1, h.2.2.sy h.1.2.1⟩
/-- what two scenes are together -/
def KP (κ κ' : MI) : Prop := (iHs κ ∧ iSc κ) ∧ (iHs κ' ∧ iSc κ') ∧ Mir κ κ' ∧ Mir κ' κ
theorem PM.kp {M M' : MI} (h : PM M M') {wo k : Int} (hk : 0 ≤ k ∧ k ≤ M 0 13) : KP (kap M wo k) (kap M' wo k) := by
  have h' := h.sy
  have hk' : 0 ≤ k ∧ k ≤ M' 0 13 := by rw [h.2.2.1.2.2.1]; exact hk
  exact ⟨⟨kap_H h.1.1 _ _, kap_S h.1.2.1 hk⟩, ⟨kap_H h.2.1.1 _ _, kap_S h.2.1.2.1 hk'⟩, kap_m h.1.1 h.1.2.1 h.1.2.2 h.2.1.1 h.2.1.2.1 h.2.1.2.2 h.2.2 hk, kap_m h'.1.1 h'.1.2.1 h'.1.2.2 h'.2.1.1 h'.2.1.2.1 h'.2.1.2.2 h'.2.2 hk'⟩

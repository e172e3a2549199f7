/-! THE REFERENCE: houses, nights, events. -/
noncomputable def BY (I : MI) (t : Int) : Nat → Int := fun i => a_by I t (i : Int)
def s_fault0 (t : Int) (I : MI) : Bool := decide (t < 0 ∨ 3 < t)
noncomputable def s_fault (t nb : Int) (I : MI) : Int × MI := if t < 0 ∨ 3 < t then (-1, I) else if I 5 t < 0 then (-3, a_mt I 1) else (if nb ≠ 0 then (nigF (BY I t) I (I 5 t).toNat).1 else (houF (BY I t) (I 5 t).toNat).1, I)
/-- a house taken over -/
def hsI (I : MI) (R : Int) (σ : HS) (I' : MI) : Prop := I' 0 11 = R ∧ I' 0 12 = (σ.2.1.length : Int) ∧ I' 0 13 = (σ.2.2.1.length : Int) ∧ I' 0 14 = σ.2.2.2 ∧ (∀ (i : Nat) q, σ.2.1[i]? = some q → I' 7 (3 * (i : Int)) = q.1 ∧ I' 7 (3 * (i : Int) + 1) = q.2.1 ∧ I' 7 (3 * (i : Int) + 2) = q.2.2) ∧ (∀ (i : Nat) q, σ.2.2.1[i]? = some q → I' 8 (2 * (i : Int)) = q.1 ∧ I' 8 (2 * (i : Int) + 1) = q.2) ∧ I' 0 25 = 0 ∧
  (∀ c j, per c j → c ≠ 7 → c ≠ 8 → ¬ (c = 0 ∧ (j = 11 ∨ j = 12 ∨ j = 13 ∨ j = 14 ∨ j = 25)) → I' c j = I c j) ∧ σ.2.1.length ≤ 8 ∧ σ.2.2.1.length ≤ 3
def okH (t : Int) (I : MI) : Prop := (0 ≤ t ∧ t ≤ 3) ∧ 0 ≤ I 5 t ∧ (houF (BY I t) (I 5 t).toNat).1 = -9
def s_house1 (t : Int) (I : MI) : Int × MI := if t < 0 ∨ 3 < t then (-1, I) else if I 5 t < 0 then (-3, a_mt I 1) else (-4, I)
/-- events come behind -/
def nsI (I : MI) (es : List EV) (I' : MI) : Prop := I' 0 25 = I 0 25 + (es.length : Int) ∧ (∀ (i : Nat) q, es[i]? = some q → I' 11 (4 * (I 0 25 + (i : Int))) = q.1 ∧ I' 11 (4 * (I 0 25 + (i : Int)) + 1) = q.2.1 ∧ I' 11 (4 * (I 0 25 + (i : Int)) + 2) = q.2.2.1 ∧ I' 11 (4 * (I 0 25 + (i : Int)) + 3) = q.2.2.2) ∧
  (∀ c j, per c j → ¬ (c = 11 ∧ 4 * I 0 25 ≤ j) → ¬ (c = 0 ∧ j = 25) → I' c j = I c j)
def okN (t : Int) (I : MI) : Prop := (0 ≤ t ∧ t ≤ 3) ∧ 0 ≤ I 5 t ∧ (nigF (BY I t) I (I 5 t).toNat).1 = -9 ∧ I 0 25 + ((nigF (BY I t) I (I 5 t).toNat).2.2.length : Int) ≤ 24
noncomputable def s_night1 (t : Int) (I : MI) : Int × MI := if t < 0 ∨ 3 < t then (-1, I) else if I 5 t < 0 then (-3, a_mt I 1) else if (nigF (BY I t) I (I 5 t).toNat).1 ≠ -9 then (-4, I) else (-2, I)
def etQ (I : MI) (k a b t : Int) : Bool :=
  if k = 1 then decide (((0 ≤ a ∧ a ≤ I 0 12 - 1) ∧ I 7 (3 * a + 2) = 1) ∧ 0 ≤ t ∧ t ≤ I 0 14 - 1) else if k = 2 then decide ((0 ≤ a ∧ a ≤ I 0 11 - 1) ∧ 0 ≤ t ∧ t ≤ I 0 14)
  else if k = 3 then decide (((0 ≤ a ∧ a ≤ I 0 11 - 1) ∧ 0 ≤ b ∧ b ≤ I 0 13 - 1) ∧ 0 ≤ t ∧ t ≤ I 0 14) else if k = 4 then decide ((0 ≤ a ∧ a ≤ I 0 11 - 1) ∧ 0 ≤ t ∧ t ≤ I 0 14)
  else if k = 5 then decide (((0 ≤ a ∧ a ≤ I 0 12 - 1) ∧ 0 ≤ t ∧ t ≤ I 0 14 - 1) ∧ t ≤ b ∧ b ≤ I 0 14 - 1) else false
/-- an event comes -/
def cmE (I : MI) (k a b t : Int) : MI := m_up (m_up (m_up (m_up (m_up I 11 (4 * I 0 25) k) 11 (4 * I 0 25 + 1) a) 11 (4 * I 0 25 + 2) b) 11 (4 * I 0 25 + 3) t) 0 25 (I 0 25 + 1)
def s_event (k a b t : Int) (I : MI) : Int × MI := if etQ I k a b t = false then (-1, I) else if I 0 25 = 24 then (-2, I) else (I 0 25, cmE I k a (if k = 3 ∨ k = 5 then b else 0) t)
def s_back (n : Int) (I : MI) : Int × MI := if n < 0 ∨ I 0 25 < n then (-1, I) else (I 0 25 - n, m_up I 0 25 n)
def s_told (e w : Int) (I : MI) : Int × MI := if e < 0 ∨ I 0 25 ≤ e ∨ w < 0 ∨ 3 < w then (-1, I) else (1, a_tl I (I 11 (4 * e + w)))
def s_mark (e k : Int) (I : MI) : Int × MI := if e < 0 ∨ I 0 25 ≤ e ∨ k < 1 ∨ 5 < k then (-1, I) else if ¬ (I 11 (4 * e + 0) = k ∨ k = 2 ∧ I 11 (4 * e + 0) = 3) then (-3, a_mt I 3)
  else if k = 3 then (I 11 (4 * e + 2), I) else if k = 5 then (I 11 (4 * e + 2) - I 11 (4 * e + 3) + 1, I) else (I 11 (4 * e + 1), I)
def s_door (d w : Int) (I : MI) : Int × MI := if d < 0 ∨ I 0 12 ≤ d ∨ w < 0 ∨ 2 < w then (-1, I) else (1, a_tl I (I 7 (3 * d + w)))
def s_walker (d w : Int) (I : MI) : Int × MI := if d < 0 ∨ I 0 13 ≤ d ∨ w < 0 ∨ 1 < w then (-1, I) else (1, a_tl I (I 8 (2 * d + w)))
theorem evP_pe {B : Nat → Int} {I J : MI} (h : Pe I J) (p : Nat) : evP B J p = evP B I p := by
  have e11 := h 0 11 (by unfold per; omega)
  have e12 := h 0 12 (by unfold per; omega)
  have e13 := h 0 13 (by unfold per; omega)
  have e14 := h 0 14 (by unfold per; omega)
  have e7 : ∀ j, J 7 j = I 7 j := fun j => h 7 j (by unfold per; omega)
  unfold evP evT abQ
  simp only [e11, e12, e13, e14, e7]
theorem skF_le (B : Nat → Int) : ∀ n p, skF B n p ≤ p + n
  | 0, p => Nat.le_refl _
  | n + 1, p => by
    unfold skF
    split
    · have := skF_le B n (p + 1); omega
    · omega
theorem houL_r {B : Nat → Int} {R : Int} {n : Nat} : ∀ (k : Nat) (σ : HS), -9 ≤ (houL B R n k σ).1 ∧ (houL B R n k σ).1 ≤ (σ.1 : Int) + 200 * k
  | 0, σ => by unfold houL; simp only; omega
  | k + 1, σ => by
    have h1 := itmP_r B R σ
    unfold houL
    split
    · simp only; omega
    · split
      · have h4 : skp B (itmP B R σ).2.1 ≤ (itmP B R σ).2.1 + 100 := skF_le B 100 _
        have h5 := houL_r (B := B) (R := R) (n := n) k (skp B (itmP B R σ).2.1, (itmP B R σ).2.2)
        simp only at h5
        omega
      · simp only; omega
theorem houF_r (B : Nat → Int) (n : Nat) : rI (houF B n).1 := by
  have h4 : skp B 0 ≤ 0 + 100 := skF_le B 100 _
  have h5 : skp B (skp B 0 + 2) ≤ (skp B 0 + 2) + 100 := skF_le B 100 _
  have h6 := houL_r (B := B) (R := B (skp B 0 + 1) - 48) (n := n) 81 (skp B (skp B 0 + 2), [], [], 12)
  unfold houF
  repeat' split
  all_goals (simp only at h6 ⊢; omega)
theorem nigL_r {B : Nat → Int} {κ : MI} {n : Nat} : ∀ (k : Nat) (σ : Nat × List EV), -9 ≤ (nigL B κ n k σ).1 ∧ (nigL B κ n k σ).1 ≤ (σ.1 : Int) + 200 * k
  | 0, σ => by unfold nigL; simp only; omega
  | k + 1, σ => by
    have h1 := evP_r B κ σ.1
    unfold nigL
    split
    · simp only; omega
    · split
      · have h4 : skp B (evP B κ σ.1).2.1 ≤ (evP B κ σ.1).2.1 + 100 := skF_le B 100 _
        have h5 := nigL_r (B := B) (κ := κ) (n := n) k (skp B (evP B κ σ.1).2.1, σ.2 ++ [(evP B κ σ.1).2.2])
        simp only at h5
        omega
      · simp only; omega
theorem nigF_r (B : Nat → Int) (κ : MI) (n : Nat) : rI (nigF B κ n).1 := by
  have h4 : skp B 0 ≤ 0 + 100 := skF_le B 100 _
  have h6 := nigL_r (B := B) (κ := κ) (n := n) 81 (skp B 0, [])
  unfold nigF
  simp only at h6
  omega
section
variable {G : GT} {sh : MS} {I L : MI} {R : MR} {κ : MI} {t : Int} {B : Nat → Int}

set_option maxHeartbeats 2000000 in
theorem s_X8_nightFault  (hT : RT t B I) (hH : iHs I) (hs : 0 ≤ I 5 t) : Sp G mtX8_nightFault [mr 0, mi t] shM I L rM (qi (fun z I' L' R' => z = (nigF B I (I 5 t).toNat).1 ∧ RE I I' ∧ L = L' ∧ R' = rM ∧ (z = -9 → NR I (nigF B I (I 5 t).toNat).2 I' ∧ (nigF B I (I 5 t).toNat).2.2.length ≤ 20))) := by
  refine Sp.of pnX8_nightFault rfl ?_
  show Rn G mtX8_nightFault _ 0 [(0, mr 0), (1, mi t)] [] shM I L rM
  generalize hQ : (qi (fun z I' L' R' => z = (nigF B I (I 5 t).toNat).1 ∧ RE I I' ∧ L = L' ∧ R' = rM ∧ (z = -9 → NR I (nigF B I (I 5 t).toNat).2 I' ∧ (nigF B I (I 5 t).toNat).2.2.length ≤ 20))) = Q
  have hsz := hT.1.1 t hT.2.1.1 hT.2.1.2
  have ht3 := hT.2.1
  have hz0 : ∀ i : Nat, I 5 t ≤ i → B i = 0 := fun i hi => hT.z hi
  have hsk := fun p => skF_r B hz0 100 p
  have s0 := hsk 0
  have e0 : skp B 0 = skF B 100 0 := rfl
  obtain ⟨I1, hI1⟩ : ∃ I1 : MI, I1 = m_up (m_up I 0 17 0) 0 27 0 := ⟨_, rfl⟩
  have q17 : I1 0 17 = ((0 : Nat) : Int) := by rw [hI1, m_up_nj (by decide), m_up_eq]; rfl
  have q27 : I1 0 27 = 0 := by rw [hI1, m_up_eq]
  have qE : RE I I1 := by rw [hI1]; exact ((RE.rf I).up (by unfold rsc; omega)).up (by unfold rsc; omega)
  have hT1 : RT t B I1 := qE.rt hT
  have loop : ∀ (n : Nat) (σ : Nat × List EV) (J : MI), NR I σ J → σ.1 ≤ 200 → (σ.1 ≤ 100 ∨ I 5 t ≤ σ.1) → 4 * σ.2.length ≤ σ.1 → (σ.2.length ≤ 20) → (I 5 t - σ.1 < (n : Int) ∧ 0 < n) → nigF B I (I 5 t).toNat = nigL B I (I 5 t).toNat n σ → Rn G mtX8_nightFault Q 15 [(0, mr 0), (1, mi t)] [] shM J L rM := by
    intro n
    induction n with
    | zero => intro σ J _ _ _ _ _ h; omega
    | succ n ih =>
      intro σ J hJ hp hp2 h4 h20 hn hf
      have hTJ : RT t B J := hJ.1.rt hT
      have hHJ := iHs_pe hJ.1.pe hH
      have j5 : J 5 t = I 5 t := hJ.1 5 t (by unfold rsc; omega)
      have j17 := hJ.2.1
      have hev := evP_pe (B := B) hJ.1.pe σ.1
      have hir := evP_r B I σ.1
      have s3 := hsk (evP B I σ.1).2.1
      have e3 : skp B (evP B I σ.1).2.1 = skF B 100 (evP B I σ.1).2.1 := rfl
      refine x_aload_n dX8_nightFault_15 0 rfl rfl ?_
      refine x_getI dX8_nightFault_16 flX8_136 rfl rfl ?_
      rw [j17]
      refine x_aload_n dX8_nightFault_19 0 rfl rfl ?_
      refine x_getR dX8_nightFault_20 flX8_22 rfl rfl rfl ?_
      refine x_iload_n dX8_nightFault_23 1 rfl rfl ?_
      refine x_iald dX8_nightFault_24 rfl (by omega) ?_
      rw [j5]
      refine x_ic_ge (tgt := 49) dX8_nightFault_25 (by decide) (by omega) (fun h25 => ?_) (fun h25 => ?_)
      · refine x_bipush dX8_nightFault_49 (by decide) ?_
        refine x_iret dX8_nightFault_51 rfl ?_
        rw [nigL_e (by omega)] at hf
        rw [← hQ, hf]
        exact ⟨_, rfl, rfl, hJ.1, rfl, rfl, fun _ => ⟨hJ, h20⟩⟩
      · refine x_aload_n dX8_nightFault_28 0 rfl rfl ?_
        refine x_iload_n dX8_nightFault_29 1 rfl rfl ?_
        refine x_callVi (as := [_]) dX8_nightFault_30 lvX8_208 rfl rfl rfl rfl rfl rfl rfl ⟨rfl, rfl⟩ (s_X8_readsEvent hTJ hHJ j17 (by omega) hJ.2.2.1 (by omega)) (fun z30 I30 L30 R30 hq30 => ?_)
        rw [hev] at hq30
        obtain ⟨rfl, d1, d2, d3, d4, d5, rfl, rfl⟩ := hq30
        refine y_ifb_ne (tgt := 41) dX8_nightFault_33 (by decide) (fun h33 => ?_) (fun h33 => ?_)
        · have hok : (evP B I σ.1).1 = true := by assumption
          refine x_aload_n dX8_nightFault_41 0 rfl rfl ?_
          refine x_iload_n dX8_nightFault_42 1 rfl rfl ?_
          refine x_callVv (as := [_]) dX8_nightFault_43 lvX8_176 rfl rfl rfl rfl rfl rfl rfl ⟨rfl, rfl⟩ (s_X8_pass (p := (evP B I σ.1).2.1) (B := B) (d1.rt hTJ) d2 (by omega)) (fun I43 L43 R43 hq43 => ?_)
          obtain ⟨hI43, rfl, rfl⟩ := hq43
          obtain ⟨a43, c43⟩ := fr_sig hI43
          refine x_goto (tgt := 15) dX8_nightFault_46 (by decide) ?_
          have h44 := hir.2.2 hok
          rw [nigL_t (by omega) hok] at hf
          rw [if_pos hok] at d3
          refine ih _ _ ⟨(hJ.1.tr d1).tr c43.re, a43, ?_, fun i q hq => ?_⟩ ?_ ?_ ?_ ?_ ?_ hf
          · rw [c43 0 27 (by omega), d3, List.length_append]
            rfl
          · rw [c43 12 _ (by omega), c43 12 _ (by omega), c43 12 _ (by omega), c43 12 _ (by omega)]
            simp only at hq
            by_cases hil : i < σ.2.length
            · rw [List.getElem?_append_left hil] at hq
              rw [d4 _ (by omega), d4 _ (by omega), d4 _ (by omega), d4 _ (by omega)]
              exact hJ.2.2.2 i q hq
            · have hie : i = σ.2.length := by
                have := (List.getElem?_eq_some_iff.mp hq).1
                rw [List.length_append] at this
                simp at this
                omega
              subst hie
              rw [List.getElem?_append_right (Nat.le_refl _)] at hq
              simp at hq
              subst hq
              exact d5 hok
          · simp only; omega
          · simp only; omega
          · simp only [List.length_append, List.length_cons, List.length_nil]; omega
          · simp only [List.length_append, List.length_cons, List.length_nil]; omega
          · simp only; omega
        · refine x_aload_n dX8_nightFault_36 0 rfl rfl ?_
          refine x_getI dX8_nightFault_37 flX8_136 rfl rfl ?_
          refine x_iret dX8_nightFault_40 rfl ?_
          rw [nigL_f (by omega) (by assumption)] at hf
          rw [← hQ, hf]
          refine ⟨_, rfl, d2, hJ.1.tr d1, rfl, rfl, fun q => ?_⟩
          rw [d2] at q
          exfalso
          omega
  refine x_aload_n dX8_nightFault_0 0 rfl rfl ?_
  refine x_iconst dX8_nightFault_1 ?_
  refine x_putI dX8_nightFault_2 flX8_136 rfl rfl rfl ?_
  refine x_aload_n dX8_nightFault_5 0 rfl rfl ?_
  refine x_iconst dX8_nightFault_6 ?_
  refine x_putI dX8_nightFault_7 flX8_189 rfl rfl rfl ?_
  rw [← hI1]
  refine x_aload_n dX8_nightFault_10 0 rfl rfl ?_
  refine x_iload_n dX8_nightFault_11 1 rfl rfl ?_
  refine x_callVv (as := [_]) dX8_nightFault_12 lvX8_176 rfl rfl rfl rfl rfl rfl rfl ⟨rfl, rfl⟩ (s_X8_pass (p := 0) (B := B) hT1 q17 (by omega)) (fun I12 L12 R12 hq12 => ?_)
  obtain ⟨hI12, rfl, rfl⟩ := hq12
  obtain ⟨a12, c12⟩ := fr_sig hI12
  refine loop 81 (skp B 0, []) _ ⟨qE.tr c12.re, a12, ?_, fun i q hq => by simp at hq⟩ (by simp only; omega) (by simp only; omega) (by simp) (by simp) (by simp only; omega) rfl
  rw [c12 0 27 (by omega), q27]
  rfl
end

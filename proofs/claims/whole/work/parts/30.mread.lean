/-! READING, in words of bytes alone; the reference's readers. -/
def sgP (B : Nat → Int) (b : Int) (p : Nat) : Nat := if B p = b then p + 1 else p
def fgQ (B : Nat → Int) (lo hi : Int) (p : Nat) : Bool := decide ((0 ≤ B p - 48 ∧ B p - 48 ≤ 9) ∧ lo ≤ B p - 48 ∧ B p - 48 ≤ hi)
def dgt (B : Nat → Int) (p : Nat) : Bool := decide (48 ≤ B p ∧ B p ≤ 57)
def mnV (B : Nat → Int) (p : Nat) : Int := if dgt B p then (if dgt B (p + 1) then 10 * (B p - 48) + (B (p + 1) - 48) else B p - 48) else 0
def mnP (B : Nat → Int) (p : Nat) : Nat := if dgt B p then (if dgt B (p + 1) then p + 2 else p + 1) else p
def mnQ (B : Nat → Int) (lo hi : Int) (p : Nat) : Bool := dgt B p && decide (lo ≤ mnV B p ∧ mnV B p ≤ hi)
def skF (B : Nat → Int) : Nat → Nat → Nat
  | 0, p => p
  | n + 1, p => if B p = 32 then skF B n (p + 1) else p
def skp (B : Nat → Int) (p : Nat) : Nat := skF B 100 p
def dorP (B : Nat → Int) (R : Int) (nd p : Nat) : Bool × Nat × Int × Int :=
  if nd = 8 then (false, p, 0, 0) else if fgQ B 0 (R - 1) (p + 1) = false then (false, p + 1, 0, 0) else if B (p + 2) ≠ 45 then (false, p + 2, 0, 0)
  else if B (p + 3) = B (p + 1) ∨ fgQ B 0 (R - 1) (p + 3) = false then (false, p + 3, 0, 0)
  else (true, p + 4, (if B (p + 1) < B (p + 3) then B (p + 1) - 48 else B (p + 3) - 48), (if B (p + 1) < B (p + 3) then B (p + 3) - 48 else B (p + 1) - 48))
def risP (B : Nat → Int) (R : Int) : Nat → Nat → Int → Int → Bool × Nat × Int
  | 0, p, set, _ => (true, p, set)
  | n + 1, p, set, low => if dgt B p then (if fgQ B low (R - 1) p then risP B R n (p + 1) (z_or set (z_shl 1 (B p - 48))) (B p - 48 + 1) else (false, p, set)) else (true, p, set)
def wlkP (B : Nat → Int) (R : Int) (nw p : Nat) : Bool × Nat × Int × Int :=
  if nw = 3 then (false, p, 0, 0) else if fgQ B 1 2 (p + 1) = false then (false, p + 1, 0, 0) else if B (p + 2) ≠ 58 then (false, p + 2, 0, 0)
  else if B (p + 3) = 42 then (true, p + 4, B (p + 1) - 48, z_shl 1 R - 1)
  else ((risP B R 8 (p + 3) 0 0).1 && decide (0 < (risP B R 8 (p + 3) 0 0).2.2), (risP B R 8 (p + 3) 0 0).2.1, B (p + 1) - 48, (risP B R 8 (p + 3) 0 0).2.2)
/-- place, doors, walkers, last -/
abbrev HS : Type := Nat × List (Int × Int × Int) × List (Int × Int) × Int
def itmP (B : Nat → Int) (R : Int) (σ : HS) : Bool × HS :=
  if B σ.1 = 100 ∨ B σ.1 = 68 then ((dorP B R σ.2.1.length σ.1).1, (dorP B R σ.2.1.length σ.1).2.1, (if (dorP B R σ.2.1.length σ.1).1 then σ.2.1 ++ [((dorP B R σ.2.1.length σ.1).2.2.1, (dorP B R σ.2.1.length σ.1).2.2.2, if B σ.1 = 68 then 1 else 0)] else σ.2.1), σ.2.2)
  else if B σ.1 = 109 then (mnQ B 1 30 (σ.1 + 1), mnP B (σ.1 + 1), σ.2.1, σ.2.2.1, mnV B (σ.1 + 1))
  else if B σ.1 = 119 then ((wlkP B R σ.2.2.1.length σ.1).1, (wlkP B R σ.2.2.1.length σ.1).2.1, σ.2.1, (if (wlkP B R σ.2.2.1.length σ.1).1 then σ.2.2.1 ++ [((wlkP B R σ.2.2.1.length σ.1).2.2.1, (wlkP B R σ.2.2.1.length σ.1).2.2.2)] else σ.2.2.1), σ.2.2.2)
  else (false, σ)
def houL (B : Nat → Int) (R : Int) (n : Nat) : Nat → HS → Int × HS
  | 0, σ => (-9, σ)
  | k + 1, σ => if n ≤ σ.1 then (-9, σ) else if (itmP B R σ).1 then houL B R n k (skp B (itmP B R σ).2.1, (itmP B R σ).2.2) else (((itmP B R σ).2.1 : Int), (itmP B R σ).2)
/-- the fault of a house's text, its rooms, what was read -/
def houF (B : Nat → Int) (n : Nat) : Int × Int × HS :=
  if B (skp B 0) ≠ 114 then ((skp B 0 : Nat), 0, (0, [], [], 12)) else if fgQ B 1 6 (skp B 0 + 1) = false then ((skp B 0 + 1 : Nat), 0, (0, [], [], 12))
  else ((houL B (B (skp B 0 + 1) - 48) n 81 (skp B (skp B 0 + 2), [], [], 12)).1, B (skp B 0 + 1) - 48, (houL B (B (skp B 0 + 1) - 48) n 81 (skp B (skp B 0 + 2), [], [], 12)).2)
theorem fgQ_r {B : Nat → Int} {lo hi : Int} {p : Nat} (h : fgQ B lo hi p = true) : (48 ≤ B p ∧ B p ≤ 57) ∧ lo ≤ B p - 48 ∧ B p - 48 ≤ hi := by
  unfold fgQ at h
  rw [decide_eq_true_eq] at h
  omega
/-- text t holds the bytes B -/
def RT (t : Int) (B : Nat → Int) (J : MI) : Prop := iTexts J ∧ (0 ≤ t ∧ t ≤ 3) ∧ ∀ i : Nat, a_by J t i = B i
theorem RT.up {t : Int} {B : Nat → Int} {J : MI} (h : RT t B J) {c : Nat} (hc : c ≠ 5) (hc2 : c ≠ 6) (j v : Int) : RT t B (m_up J c j v) := by
  have e5 : ∀ x, m_up J c j v 5 x = J 5 x := fun x => m_up_ne (Ne.symm hc) x
  have e6 : ∀ x, m_up J c j v 6 x = J 6 x := fun x => m_up_ne (Ne.symm hc2) x
  refine ⟨?_, h.2.1, fun i => ?_⟩
  · unfold iTexts; simp only [e5, e6]; exact h.1
  · unfold a_by; rw [e5, e6]; exact h.2.2 i
theorem RT.r {t : Int} {B : Nat → Int} {J : MI} (h : RT t B J) (i : Nat) : -128 ≤ B i ∧ B i ≤ 127 := by
  have h1 := h.1.1 t h.2.1.1 h.2.1.2
  have h0 := h.2.1
  rw [← h.2.2 i]
  unfold a_by
  split
  · exact h.1.2 _ (by omega) (by omega)
  · omega
theorem RT.z {t : Int} {B : Nat → Int} {J : MI} (h : RT t B J) {i : Nat} (hi : J 5 t ≤ i) : B i = 0 := by
  rw [← h.2.2 i]
  unfold a_by
  rw [if_neg (by omega)]
/-- the reference's places of reading -/
def rsc (c : Nat) (j : Int) : Prop := c = 9 ∨ c = 10 ∨ c = 12 ∨ (c = 0 ∧ ((17 ≤ j ∧ j ≤ 22) ∨ j = 27))
def RE (I I' : MI) : Prop := ∀ c j, ¬ rsc c j → I' c j = I c j
theorem RE.rf (I : MI) : RE I I := fun _ _ _ => rfl
theorem RE.tr {I J K : MI} (h : RE I J) (k : RE J K) : RE I K := fun c j q => (k c j q).trans (h c j q)
theorem RE.up {I I' : MI} {c : Nat} {j v : Int} (h : RE I I') (hs : rsc c j) : RE I (m_up I' c j v) := fun a i q => by
  unfold m_up
  by_cases e : a = c ∧ i = j
  · obtain ⟨rfl, rfl⟩ := e; exact absurd hs q
  · rw [if_neg e]; exact h a i q
theorem RE.pe {I I' : MI} (h : RE I I') : Pe I I' := fun c j q => h c j (fun r => by unfold rsc at r; unfold per at q; omega)
theorem RE.rt {t : Int} {B : Nat → Int} {I I' : MI} (h : RE I I') (k : RT t B I) : RT t B I' := by
  have e5 : ∀ x, I' 5 x = I 5 x := fun x => h 5 x (by unfold rsc; omega)
  have e6 : ∀ x, I' 6 x = I 6 x := fun x => h 6 x (by unfold rsc; omega)
  refine ⟨?_, k.2.1, fun i => ?_⟩
  · unfold iTexts; simp only [e5, e6]; exact k.1
  · unfold a_by; rw [e5, e6]; exact k.2.2 i
section
variable {G : GT} {sh : MS} {I L : MI} {R : MR} {κ : MI} {t : Int} {B : Nat → Int}

theorem s_X8_sign {b : Int} (hT : RT t B I) {p : Nat} (hp : I 0 17 = (p : Int)) (hp2 : p ≤ 1000) (hb : rI b) : Sp G mtX8_sign [mr 0, mi t, mi b] shM I L rM (qi (fun z I' L' R' => z = b01 (B p = b) ∧ I' = m_up I 0 17 (sgP B b p) ∧ L = L' ∧ R' = rM)) := by
  refine Sp.of pnX8_sign rfl ?_
  show Rn G mtX8_sign _ 0 [(0, mr 0), (1, mi t), (2, mi b)] [] shM I L rM
  generalize hQ : (qi (fun z I' L' R' => z = b01 (B p = b) ∧ I' = m_up I 0 17 (sgP B b p) ∧ L = L' ∧ R' = rM)) = Q
  have hbr := hT.r p
  refine x_aload_n dX8_sign_0 0 rfl rfl ?_
  refine x_iload_n dX8_sign_1 1 rfl rfl ?_
  refine x_aload_n dX8_sign_2 0 rfl rfl ?_
  refine x_getI dX8_sign_3 flX8_136 rfl rfl ?_
  rw [hp]
  refine x_callVi (as := [_, _]) dX8_sign_6 lvX8_139 rfl rfl rfl rfl rfl rfl rfl ⟨rfl, rfl⟩ (s_X8_byteAt hT.1 hT.2.1 (by omega)) (fun z6 I6 L6 R6 hq6 => ?_)
  obtain ⟨rfl, rfl, rfl, rfl⟩ := hq6
  rw [hT.2.2 p]
  refine x_iload_n dX8_sign_9 2 rfl rfl ?_
  refine x_ic_ne (tgt := 17) dX8_sign_10 (by decide) (by first | omega | exact z_and_r _ _ | exact z_or_r _ _ | exact z_xor_r _ _) (fun h10 => ?_) (fun h10 => ?_)
  · refine x_iconst dX8_sign_17 ?_
    refine x_istore_n (lv' := [(0, _), (1, _), (2, _), (3, _)]) dX8_sign_18 rfl rfl rfl ?_
    refine x_aload_n dX8_sign_19 0 rfl rfl ?_
    refine x_dup dX8_sign_20 rfl ?_
    refine x_getI dX8_sign_21 flX8_136 rfl rfl ?_
    rw [hp]
    refine x_iload_n dX8_sign_24 3 rfl rfl ?_
    refine x_if_eq (tgt := 32) dX8_sign_25 (by decide) (by first | omega | exact z_and_r _ _ | exact z_or_r _ _ | exact z_xor_r _ _) (fun h25 => ?_) (fun h25 => ?_)
    · refine x_iconst dX8_sign_32 ?_
      refine x_iadd dX8_sign_33 ?_
      refine x_putI dX8_sign_34 flX8_136 rfl rfl rfl ?_
      refine x_iload_n dX8_sign_37 3 rfl rfl ?_
      refine x_zret dX8_sign_38 rfl (by omega) ?_
      rw [← hQ]
      first
      | (have hx : B p = b := by assumption
         refine ⟨_, rfl, b01_t hx, ?_, rfl, rfl⟩
         unfold sgP
         rw [if_pos hx]
         rfl)
      | (have hx : ¬ B p = b := by assumption
         refine ⟨_, rfl, b01_f hx, ?_, rfl, rfl⟩
         unfold sgP
         rw [if_neg hx, Int.add_zero])
    · exfalso; omega
  · refine x_iconst dX8_sign_13 ?_
    refine x_goto (tgt := 18) dX8_sign_14 (by decide) ?_
    refine x_istore_n (lv' := [(0, _), (1, _), (2, _), (3, _)]) dX8_sign_18 rfl rfl rfl ?_
    refine x_aload_n dX8_sign_19 0 rfl rfl ?_
    refine x_dup dX8_sign_20 rfl ?_
    refine x_getI dX8_sign_21 flX8_136 rfl rfl ?_
    rw [hp]
    refine x_iload_n dX8_sign_24 3 rfl rfl ?_
    refine x_if_eq (tgt := 32) dX8_sign_25 (by decide) (by first | omega | exact z_and_r _ _ | exact z_or_r _ _ | exact z_xor_r _ _) (fun h25 => ?_) (fun h25 => ?_)
    · exfalso; omega
    · refine x_iconst dX8_sign_28 ?_
      refine x_goto (tgt := 33) dX8_sign_29 (by decide) ?_
      refine x_iadd dX8_sign_33 ?_
      refine x_putI dX8_sign_34 flX8_136 rfl rfl rfl ?_
      refine x_iload_n dX8_sign_37 3 rfl rfl ?_
      refine x_zret dX8_sign_38 rfl (by omega) ?_
      rw [← hQ]
      first
      | (have hx : B p = b := by assumption
         refine ⟨_, rfl, b01_t hx, ?_, rfl, rfl⟩
         unfold sgP
         rw [if_pos hx]
         rfl)
      | (have hx : ¬ B p = b := by assumption
         refine ⟨_, rfl, b01_f hx, ?_, rfl, rfl⟩
         unfold sgP
         rw [if_neg hx, Int.add_zero])
theorem s_X8_figure {lo hi : Int} (hT : RT t B I) {p : Nat} (hp : I 0 17 = (p : Int)) (hp2 : p ≤ 1000) (h1 : rI lo) (h2 : rI hi) : Sp G mtX8_figure [mr 0, mi t, mi lo, mi hi] shM I L rM (qi (fun z I' L' R' => z = b01 (fgQ B lo hi p = true) ∧ I' = m_up (m_up I 0 18 (B p - 48)) 0 17 (if fgQ B lo hi p then (p + 1 : Nat) else p) ∧ L = L' ∧ R' = rM)) := by
  refine Sp.of pnX8_figure rfl ?_
  show Rn G mtX8_figure _ 0 [(0, mr 0), (1, mi t), (2, mi lo), (3, mi hi)] [] shM I L rM
  generalize hQ : (qi (fun z I' L' R' => z = b01 (fgQ B lo hi p = true) ∧ I' = m_up (m_up I 0 18 (B p - 48)) 0 17 (if fgQ B lo hi p then (p + 1 : Nat) else p) ∧ L = L' ∧ R' = rM)) = Q
  have hbr := hT.r p
  have hq : fgQ B lo hi p = true ↔ (0 ≤ B p - 48 ∧ B p - 48 ≤ 9) ∧ lo ≤ B p - 48 ∧ B p - 48 ≤ hi := by unfold fgQ; rw [decide_eq_true_eq]
  refine x_aload_n dX8_figure_0 0 rfl rfl ?_
  refine x_aload_n dX8_figure_1 0 rfl rfl ?_
  refine x_iload_n dX8_figure_2 1 rfl rfl ?_
  refine x_aload_n dX8_figure_3 0 rfl rfl ?_
  refine x_getI dX8_figure_4 flX8_136 rfl rfl ?_
  rw [hp]
  refine x_callVi (as := [_, _]) dX8_figure_7 lvX8_139 rfl rfl rfl rfl rfl rfl rfl ⟨rfl, rfl⟩ (s_X8_byteAt hT.1 hT.2.1 (by omega)) (fun z7 I7 L7 R7 hq7 => ?_)
  obtain ⟨rfl, rfl, rfl, rfl⟩ := hq7
  rw [hT.2.2 p]
  refine x_bipush dX8_figure_10 (by decide) ?_
  refine x_isub dX8_figure_12 ?_
  refine x_putI dX8_figure_13 flX8_142 rfl rfl rfl ?_
  refine x_aload_n dX8_figure_16 0 rfl rfl ?_
  refine y_getI dX8_figure_17 flX8_142 rfl rfl (m_up_eq) ?_
  refine x_iconst dX8_figure_20 ?_
  refine x_bipush dX8_figure_21 (by decide) ?_
  refine x_callSi (as := [_, _, _]) dX8_figure_23 lvX8_105 rfl rfl rfl rfl ⟨rfl, rfl⟩ (s_X8_in (by omega) (by omega) (by omega)) (fun z23 I23 L23 R23 hq23 => ?_)
  obtain ⟨rfl, rfl, rfl, rfl⟩ := hq23
  refine y_ifb_eq (tgt := 45) dX8_figure_26 (by decide) (fun h26 => ?_) (fun h26 => ?_)
  · refine x_iconst dX8_figure_45 ?_
    refine x_istore (lv' := [(0, _), (1, _), (2, _), (3, _), (4, _)]) dX8_figure_46 rfl rfl ?_
    refine x_aload_n dX8_figure_48 0 rfl rfl ?_
    refine x_dup dX8_figure_49 rfl ?_
    refine y_getI dX8_figure_50 flX8_136 rfl rfl (m_up_nj (by decide)) ?_
    rw [hp]
    refine x_iload dX8_figure_53 4 rfl ?_
    refine x_if_eq (tgt := 62) dX8_figure_55 (by decide) (by first | omega | exact z_and_r _ _ | exact z_or_r _ _ | exact z_xor_r _ _) (fun h55 => ?_) (fun h55 => ?_)
    · refine x_iconst dX8_figure_62 ?_
      refine x_iadd dX8_figure_63 ?_
      refine x_putI dX8_figure_64 flX8_136 rfl rfl rfl ?_
      refine x_iload dX8_figure_67 4 rfl ?_
      refine x_zret dX8_figure_69 rfl (by omega) ?_
      rw [← hQ]
      first
      | (have hx : fgQ B lo hi p = true := hq.mpr ⟨by assumption, by assumption⟩
         refine ⟨_, rfl, b01_t hx, ?_, rfl, rfl⟩
         rw [if_pos hx]
         rfl)
      | (have hx : ¬ fgQ B lo hi p = true := by
           rw [hq]
           rintro ⟨x1, x2⟩
           contradiction
         refine ⟨_, rfl, b01_f hx, ?_, rfl, rfl⟩
         rw [if_neg hx, Int.add_zero])
    · exfalso; omega
  · refine x_aload_n dX8_figure_29 0 rfl rfl ?_
    refine y_getI dX8_figure_30 flX8_142 rfl rfl (m_up_eq) ?_
    refine x_iload_n dX8_figure_33 2 rfl rfl ?_
    refine x_iload_n dX8_figure_34 3 rfl rfl ?_
    refine x_callSi (as := [_, _, _]) dX8_figure_35 lvX8_105 rfl rfl rfl rfl ⟨rfl, rfl⟩ (s_X8_in (by omega) (by omega) (by omega)) (fun z35 I35 L35 R35 hq35 => ?_)
    obtain ⟨rfl, rfl, rfl, rfl⟩ := hq35
    refine y_ifb_eq (tgt := 45) dX8_figure_38 (by decide) (fun h38 => ?_) (fun h38 => ?_)
    · refine x_iconst dX8_figure_45 ?_
      refine x_istore (lv' := [(0, _), (1, _), (2, _), (3, _), (4, _)]) dX8_figure_46 rfl rfl ?_
      refine x_aload_n dX8_figure_48 0 rfl rfl ?_
      refine x_dup dX8_figure_49 rfl ?_
      refine y_getI dX8_figure_50 flX8_136 rfl rfl (m_up_nj (by decide)) ?_
      rw [hp]
      refine x_iload dX8_figure_53 4 rfl ?_
      refine x_if_eq (tgt := 62) dX8_figure_55 (by decide) (by first | omega | exact z_and_r _ _ | exact z_or_r _ _ | exact z_xor_r _ _) (fun h55 => ?_) (fun h55 => ?_)
      · refine x_iconst dX8_figure_62 ?_
        refine x_iadd dX8_figure_63 ?_
        refine x_putI dX8_figure_64 flX8_136 rfl rfl rfl ?_
        refine x_iload dX8_figure_67 4 rfl ?_
        refine x_zret dX8_figure_69 rfl (by omega) ?_
        rw [← hQ]
        first
        | (have hx : fgQ B lo hi p = true := hq.mpr ⟨by assumption, by assumption⟩
           refine ⟨_, rfl, b01_t hx, ?_, rfl, rfl⟩
           rw [if_pos hx]
           rfl)
        | (have hx : ¬ fgQ B lo hi p = true := by
             rw [hq]
             rintro ⟨x1, x2⟩
             contradiction
           refine ⟨_, rfl, b01_f hx, ?_, rfl, rfl⟩
           rw [if_neg hx, Int.add_zero])
      · exfalso; omega
    · refine x_iconst dX8_figure_41 ?_
      refine x_goto (tgt := 46) dX8_figure_42 (by decide) ?_
      refine x_istore (lv' := [(0, _), (1, _), (2, _), (3, _), (4, _)]) dX8_figure_46 rfl rfl ?_
      refine x_aload_n dX8_figure_48 0 rfl rfl ?_
      refine x_dup dX8_figure_49 rfl ?_
      refine y_getI dX8_figure_50 flX8_136 rfl rfl (m_up_nj (by decide)) ?_
      rw [hp]
      refine x_iload dX8_figure_53 4 rfl ?_
      refine x_if_eq (tgt := 62) dX8_figure_55 (by decide) (by first | omega | exact z_and_r _ _ | exact z_or_r _ _ | exact z_xor_r _ _) (fun h55 => ?_) (fun h55 => ?_)
      · exfalso; omega
      · refine x_iconst dX8_figure_58 ?_
        refine x_goto (tgt := 63) dX8_figure_59 (by decide) ?_
        refine x_iadd dX8_figure_63 ?_
        refine x_putI dX8_figure_64 flX8_136 rfl rfl rfl ?_
        refine x_iload dX8_figure_67 4 rfl ?_
        refine x_zret dX8_figure_69 rfl (by omega) ?_
        rw [← hQ]
        first
        | (have hx : fgQ B lo hi p = true := hq.mpr ⟨by assumption, by assumption⟩
           refine ⟨_, rfl, b01_t hx, ?_, rfl, rfl⟩
           rw [if_pos hx]
           rfl)
        | (have hx : ¬ fgQ B lo hi p = true := by
             rw [hq]
             rintro ⟨x1, x2⟩
             contradiction
           refine ⟨_, rfl, b01_f hx, ?_, rfl, rfl⟩
           rw [if_neg hx, Int.add_zero])
theorem s_X8_minute {lo hi : Int} (hT : RT t B I) {p : Nat} (hp : I 0 17 = (p : Int)) (hp2 : p ≤ 1000) (h1 : rI lo) (h2 : rI hi) : Sp G mtX8_minute [mr 0, mi t, mi lo, mi hi] shM I L rM (qi (fun z I' L' R' => z = b01 (mnQ B lo hi p = true) ∧ I' = m_up (m_up I 0 17 (mnP B p : Nat)) 0 18 (mnV B p) ∧ L = L' ∧ R' = rM)) := by
  refine Sp.of pnX8_minute rfl ?_
  show Rn G mtX8_minute _ 0 [(0, mr 0), (1, mi t), (2, mi lo), (3, mi hi)] [] shM I L rM
  generalize hQ : (qi (fun z I' L' R' => z = b01 (mnQ B lo hi p = true) ∧ I' = m_up (m_up I 0 17 (mnP B p : Nat)) 0 18 (mnV B p) ∧ L = L' ∧ R' = rM)) = Q
  have hb0 := hT.r p
  have hb1 := hT.r (p + 1)
  have d0 : dgt B p = true ↔ 48 ≤ B p ∧ B p ≤ 57 := by unfold dgt; rw [decide_eq_true_eq]
  have d1 : dgt B (p + 1) = true ↔ 48 ≤ B (p + 1) ∧ B (p + 1) ≤ 57 := by unfold dgt; rw [decide_eq_true_eq]
  have hself : m_up I 0 17 (p : Int) = I := by
    funext c j
    unfold m_up
    by_cases e : c = 0 ∧ j = 17
    · rw [if_pos e, e.1, e.2, hp]
    · rw [if_neg e]
  have fin : ∀ (n : Nat) (v : Int) (q : Nat), mnP B p = q → mnV B p = v → (n = 0 ↔ ¬ dgt B p = true) → n ≤ 2 → rI v → Rn G mtX8_minute Q 67 [(0, mr 0), (1, mi t), (2, mi lo), (3, mi hi), (4, mi (n : Int)), (5, mi v)] [] shM (m_up I 0 17 (q : Int)) L rM := by
    intro n v q hq hv hn hn2 hvr
    have hmq : mnQ B lo hi p = true ↔ n ≠ 0 ∧ lo ≤ v ∧ v ≤ hi := by
      unfold mnQ
      rw [Bool.and_eq_true, decide_eq_true_eq, hv]
      constructor
      · rintro ⟨x1, x2⟩
        exact ⟨fun e => (hn.mp e) x1, x2⟩
      · rintro ⟨x1, x2⟩
        exact ⟨Classical.byContradiction fun e => x1 (hn.mpr e), x2⟩
    refine x_aload_n dX8_minute_67 0 rfl rfl ?_
    refine x_iload dX8_minute_68 5 rfl ?_
    refine x_putI dX8_minute_70 flX8_142 rfl rfl rfl ?_
    refine x_iload dX8_minute_73 4 rfl ?_
    refine x_if_le (tgt := 92) dX8_minute_75 (by decide) (by first | omega | exact z_and_r _ _ | exact z_or_r _ _ | exact z_xor_r _ _) (fun h75 => ?_) (fun h75 => ?_)
    · refine x_iconst dX8_minute_92 ?_
      refine x_zret dX8_minute_93 rfl (by omega) ?_
      rw [← hQ, hq, hv]
      first
      | exact ⟨_, rfl, b01_t (hmq.mpr ⟨by omega, by assumption⟩), rfl, rfl, rfl⟩
      | exact ⟨_, rfl, b01_f (fun q => by have := hmq.mp q; omega), rfl, rfl, rfl⟩
    · refine x_iload dX8_minute_78 5 rfl ?_
      refine x_iload_n dX8_minute_80 2 rfl rfl ?_
      refine x_iload_n dX8_minute_81 3 rfl rfl ?_
      refine x_callSi (as := [_, _, _]) dX8_minute_82 lvX8_105 rfl rfl rfl rfl ⟨rfl, rfl⟩ (s_X8_in (by omega) (by omega) (by omega)) (fun z82 I82 L82 R82 hq82 => ?_)
      obtain ⟨rfl, rfl, rfl, rfl⟩ := hq82
      refine y_ifb_eq (tgt := 92) dX8_minute_85 (by decide) (fun h85 => ?_) (fun h85 => ?_)
      · refine x_iconst dX8_minute_92 ?_
        refine x_zret dX8_minute_93 rfl (by omega) ?_
        rw [← hQ, hq, hv]
        first
        | exact ⟨_, rfl, b01_t (hmq.mpr ⟨by omega, by assumption⟩), rfl, rfl, rfl⟩
        | exact ⟨_, rfl, b01_f (fun q => by have := hmq.mp q; omega), rfl, rfl, rfl⟩
      · refine x_iconst dX8_minute_88 ?_
        refine x_goto (tgt := 93) dX8_minute_89 (by decide) ?_
        refine x_zret dX8_minute_93 rfl (by omega) ?_
        rw [← hQ, hq, hv]
        first
        | exact ⟨_, rfl, b01_t (hmq.mpr ⟨by omega, by assumption⟩), rfl, rfl, rfl⟩
        | exact ⟨_, rfl, b01_f (fun q => by have := hmq.mp q; omega), rfl, rfl, rfl⟩
  have l2 : dgt B p = true → dgt B (p + 1) = true → Rn G mtX8_minute Q 6 [(0, mr 0), (1, mi t), (2, mi lo), (3, mi hi), (4, mi 2), (5, mi (10 * (B p - 48) + (B (p + 1) - 48)))] [] shM (m_up I 0 17 ((p + 2 : Nat) : Int)) L rM := by
    intro e0 e1
    have q0 := d0.mp e0
    have q1 := d1.mp e1
    refine x_iload dX8_minute_6 4 rfl ?_
    refine x_iconst dX8_minute_8 ?_
    refine x_ic_ge (tgt := 67) dX8_minute_9 (by decide) (by first | omega | exact z_and_r _ _ | exact z_or_r _ _ | exact z_xor_r _ _) (fun h9 => ?_) (fun h9 => ?_)
    · exact fin 2 _ (p + 2) (by unfold mnP; rw [if_pos e0, if_pos e1]) (by unfold mnV; rw [if_pos e0, if_pos e1]) (by simp [e0]) (by omega) (by omega)
    · exfalso; omega
  have l1 : dgt B p = true → Rn G mtX8_minute Q 6 [(0, mr 0), (1, mi t), (2, mi lo), (3, mi hi), (4, mi 1), (5, mi (B p - 48))] [] shM (m_up I 0 17 ((p + 1 : Nat) : Int)) L rM := by
    intro e0
    have q0 := d0.mp e0
    have hT1 : RT t B (m_up I 0 17 ((p + 1 : Nat) : Int)) := hT.up (by decide) (by decide) _ _
    refine x_iload dX8_minute_6 4 rfl ?_
    refine x_iconst dX8_minute_8 ?_
    refine x_ic_ge (tgt := 67) dX8_minute_9 (by decide) (by first | omega | exact z_and_r _ _ | exact z_or_r _ _ | exact z_xor_r _ _) (fun h9 => ?_) (fun h9 => ?_)
    · first
      | (exfalso; omega)
      | (have e1 : ¬ dgt B (p + 1) = true := fun q => by have := d1.mp q; contradiction
         exact fin 1 _ (p + 1) (by unfold mnP; rw [if_pos e0, if_neg e1]) (by unfold mnV; rw [if_pos e0, if_neg e1]) (by simp [e0]) (by omega) (by omega))
    · refine x_aload_n dX8_minute_12 0 rfl rfl ?_
      refine x_iload_n dX8_minute_13 1 rfl rfl ?_
      refine x_aload_n dX8_minute_14 0 rfl rfl ?_
      refine x_getI dX8_minute_15 flX8_136 rfl rfl ?_
      rw [m_up_eq]
      refine x_callVi (as := [_, _]) dX8_minute_18 lvX8_139 rfl rfl rfl rfl rfl rfl rfl ⟨rfl, rfl⟩ (s_X8_byteAt hT1.1 hT1.2.1 (by omega)) (fun z18 I18 L18 R18 hq18 => ?_)
      obtain ⟨rfl, rfl, rfl, rfl⟩ := hq18
      rw [hT1.2.2 (p + 1)]
      refine x_bipush dX8_minute_21 (by decide) ?_
      refine x_bipush dX8_minute_23 (by decide) ?_
      refine x_callSi (as := [_, _, _]) dX8_minute_25 lvX8_105 rfl rfl rfl rfl ⟨rfl, rfl⟩ (s_X8_in (by omega) (by omega) (by omega)) (fun z25 I25 L25 R25 hq25 => ?_)
      obtain ⟨rfl, rfl, rfl, rfl⟩ := hq25
      refine y_ifb_eq (tgt := 67) dX8_minute_28 (by decide) (fun h28 => ?_) (fun h28 => ?_)
      · first
        | (exfalso; omega)
        | (have e1 : ¬ dgt B (p + 1) = true := fun q => by have := d1.mp q; contradiction
           exact fin 1 _ (p + 1) (by unfold mnP; rw [if_pos e0, if_neg e1]) (by unfold mnV; rw [if_pos e0, if_neg e1]) (by simp [e0]) (by omega) (by omega))
      · refine x_bipush dX8_minute_31 (by decide) ?_
        refine x_iload dX8_minute_33 5 rfl ?_
        refine x_imul dX8_minute_35 ?_
        refine x_aload_n dX8_minute_36 0 rfl rfl ?_
        refine x_iload_n dX8_minute_37 1 rfl rfl ?_
        refine x_aload_n dX8_minute_38 0 rfl rfl ?_
        refine x_getI dX8_minute_39 flX8_136 rfl rfl ?_
        rw [m_up_eq]
        refine x_callVi (as := [_, _]) dX8_minute_42 lvX8_139 rfl rfl rfl rfl rfl rfl rfl ⟨rfl, rfl⟩ (s_X8_byteAt hT1.1 hT1.2.1 (by omega)) (fun z42 I42 L42 R42 hq42 => ?_)
        obtain ⟨rfl, rfl, rfl, rfl⟩ := hq42
        rw [hT1.2.2 (p + 1)]
        refine x_iadd dX8_minute_45 ?_
        refine x_bipush dX8_minute_46 (by decide) ?_
        refine x_isub dX8_minute_48 ?_
        refine x_istore (lv' := [(0, _), (1, _), (2, _), (3, _), (4, _), (5, _)]) dX8_minute_49 rfl rfl ?_
        refine x_aload_n dX8_minute_51 0 rfl rfl ?_
        refine x_dup dX8_minute_52 rfl ?_
        refine x_getI dX8_minute_53 flX8_136 rfl rfl ?_
        rw [m_up_eq]
        refine x_iconst dX8_minute_56 ?_
        refine x_iadd dX8_minute_57 ?_
        refine x_putI dX8_minute_58 flX8_136 rfl rfl rfl ?_
        refine x_iinc (lv' := [(0, _), (1, _), (2, _), (3, _), (4, _), (5, _)]) dX8_minute_61 4 rfl rfl rfl ?_
        refine x_goto (tgt := 6) dX8_minute_64 (by decide) ?_
        have e1 : dgt B (p + 1) = true := d1.mpr (by assumption)
        have h9 := l2 e0 e1
        rw [m_up_up, show 10 * (B p - 48) + B (p + 1) - 48 = 10 * (B p - 48) + (B (p + 1) - 48) by omega]
        exact h9
  have l0 : Rn G mtX8_minute Q 6 [(0, mr 0), (1, mi t), (2, mi lo), (3, mi hi), (4, mi 0), (5, mi 0)] [] shM I L rM := by
    refine x_iload dX8_minute_6 4 rfl ?_
    refine x_iconst dX8_minute_8 ?_
    refine x_ic_ge (tgt := 67) dX8_minute_9 (by decide) (by first | omega | exact z_and_r _ _ | exact z_or_r _ _ | exact z_xor_r _ _) (fun h9 => ?_) (fun h9 => ?_)
    · by_cases q9 : (2 : Int) ≤ 0
      · exfalso; omega
      have e0 : ¬ dgt B p = true := fun q => by have := d0.mp q; contradiction
      have h9 := fin 0 0 p (by unfold mnP; rw [if_neg e0]) (by unfold mnV; rw [if_neg e0]) (by simp [e0]) (by omega) (by omega)
      rw [hself] at h9
      exact h9
    · refine x_aload_n dX8_minute_12 0 rfl rfl ?_
      refine x_iload_n dX8_minute_13 1 rfl rfl ?_
      refine x_aload_n dX8_minute_14 0 rfl rfl ?_
      refine x_getI dX8_minute_15 flX8_136 rfl rfl ?_
      rw [hp]
      refine x_callVi (as := [_, _]) dX8_minute_18 lvX8_139 rfl rfl rfl rfl rfl rfl rfl ⟨rfl, rfl⟩ (s_X8_byteAt hT.1 hT.2.1 (by omega)) (fun z18 I18 L18 R18 hq18 => ?_)
      obtain ⟨rfl, rfl, rfl, rfl⟩ := hq18
      rw [hT.2.2 p]
      refine x_bipush dX8_minute_21 (by decide) ?_
      refine x_bipush dX8_minute_23 (by decide) ?_
      refine x_callSi (as := [_, _, _]) dX8_minute_25 lvX8_105 rfl rfl rfl rfl ⟨rfl, rfl⟩ (s_X8_in (by omega) (by omega) (by omega)) (fun z25 I25 L25 R25 hq25 => ?_)
      obtain ⟨rfl, rfl, rfl, rfl⟩ := hq25
      refine y_ifb_eq (tgt := 67) dX8_minute_28 (by decide) (fun h28 => ?_) (fun h28 => ?_)
      · by_cases q9 : (2 : Int) ≤ 0
        · exfalso; omega
        have e0 : ¬ dgt B p = true := fun q => by have := d0.mp q; contradiction
        have h9 := fin 0 0 p (by unfold mnP; rw [if_neg e0]) (by unfold mnV; rw [if_neg e0]) (by simp [e0]) (by omega) (by omega)
        rw [hself] at h9
        exact h9
      · refine x_bipush dX8_minute_31 (by decide) ?_
        refine x_iload dX8_minute_33 5 rfl ?_
        refine x_imul dX8_minute_35 ?_
        refine x_aload_n dX8_minute_36 0 rfl rfl ?_
        refine x_iload_n dX8_minute_37 1 rfl rfl ?_
        refine x_aload_n dX8_minute_38 0 rfl rfl ?_
        refine x_getI dX8_minute_39 flX8_136 rfl rfl ?_
        rw [hp]
        refine x_callVi (as := [_, _]) dX8_minute_42 lvX8_139 rfl rfl rfl rfl rfl rfl rfl ⟨rfl, rfl⟩ (s_X8_byteAt hT.1 hT.2.1 (by omega)) (fun z42 I42 L42 R42 hq42 => ?_)
        obtain ⟨rfl, rfl, rfl, rfl⟩ := hq42
        rw [hT.2.2 p]
        refine x_iadd dX8_minute_45 ?_
        refine x_bipush dX8_minute_46 (by decide) ?_
        refine x_isub dX8_minute_48 ?_
        refine x_istore (lv' := [(0, _), (1, _), (2, _), (3, _), (4, _), (5, _)]) dX8_minute_49 rfl rfl ?_
        refine x_aload_n dX8_minute_51 0 rfl rfl ?_
        refine x_dup dX8_minute_52 rfl ?_
        refine x_getI dX8_minute_53 flX8_136 rfl rfl ?_
        rw [hp]
        refine x_iconst dX8_minute_56 ?_
        refine x_iadd dX8_minute_57 ?_
        refine x_putI dX8_minute_58 flX8_136 rfl rfl rfl ?_
        refine x_iinc (lv' := [(0, _), (1, _), (2, _), (3, _), (4, _), (5, _)]) dX8_minute_61 4 rfl rfl rfl ?_
        refine x_goto (tgt := 6) dX8_minute_64 (by decide) ?_
        have e0 : dgt B p = true := d0.mpr (by assumption)
        have h9 := l1 e0
        rw [show B p - 48 = 10 * 0 + B p - 48 by omega] at h9
        exact h9
  refine x_iconst dX8_minute_0 ?_
  refine x_istore (lv' := [(0, _), (1, _), (2, _), (3, _), (4, _)]) dX8_minute_1 rfl rfl ?_
  refine x_iconst dX8_minute_3 ?_
  refine x_istore (lv' := [(0, _), (1, _), (2, _), (3, _), (4, _), (5, _)]) dX8_minute_4 rfl rfl ?_
  exact l0
theorem s_X8_pass  (hT : RT t B I) {p : Nat} (hp : I 0 17 = (p : Int)) (hp2 : p ≤ 900) : Sp G mtX8_pass [mr 0, mi t] shM I L rM (qv (fun I' L' R' => I' = m_up I 0 17 (skp B p : Nat) ∧ L = L' ∧ R' = rM)) := by
  refine Sp.of pnX8_pass rfl ?_
  show Rn G mtX8_pass _ 0 [(0, mr 0), (1, mi t)] [] shM I L rM
  generalize hQ : (qv (fun I' L' R' => I' = m_up I 0 17 (skp B p : Nat) ∧ L = L' ∧ R' = rM)) = Q
  have hsz := hT.1.1 t hT.2.1.1 hT.2.1.2
  have hself : m_up I 0 17 (p : Int) = I := by
    funext c j
    unfold m_up
    by_cases e : c = 0 ∧ j = 17
    · rw [if_pos e, e.1, e.2, hp]
    · rw [if_neg e]
  have loop : ∀ (n q : Nat), I 5 t - (q : Int) < (n : Int) → q ≤ 1000 → skF B n q = skp B p → (q ≤ p ∨ (q : Int) ≤ I 5 t) → Rn G mtX8_pass Q 0 [(0, mr 0), (1, mi t)] [] shM (m_up I 0 17 (q : Int)) L rM := by
    intro n
    induction n with
    | zero =>
      intro q h1 h2 h3 h4
      have hT1 : RT t B (m_up I 0 17 (q : Int)) := hT.up (by decide) (by decide) _ _
      have hbz : B q = 0 := hT.z (by omega)
      have h5 : q = skp B p := h3
      refine x_aload_n dX8_pass_0 0 rfl rfl ?_
      refine x_iload_n dX8_pass_1 1 rfl rfl ?_
      refine x_aload_n dX8_pass_2 0 rfl rfl ?_
      refine x_getI dX8_pass_3 flX8_136 rfl rfl ?_
      rw [m_up_eq]
      refine x_callVi (as := [_, _]) dX8_pass_6 lvX8_139 rfl rfl rfl rfl rfl rfl rfl ⟨rfl, rfl⟩ (s_X8_byteAt hT1.1 hT1.2.1 (by omega)) (fun z6 I6 L6 R6 hq6 => ?_)
      obtain ⟨rfl, rfl, rfl, rfl⟩ := hq6
      rw [hT1.2.2 q]
      refine x_bipush dX8_pass_9 (by decide) ?_
      refine x_ic_ne (tgt := 27) dX8_pass_11 (by decide) (by first | omega | exact z_and_r _ _ | exact z_or_r _ _ | exact z_xor_r _ _) (fun h11 => ?_) (fun h11 => ?_)
      · refine x_vret dX8_pass_27 rfl ?_
        rw [← hQ, h5]
        exact ⟨rfl, rfl, rfl, rfl⟩
      · exfalso; omega
    | succ n ih =>
      intro q h1 h2 h3 h4
      have hT1 : RT t B (m_up I 0 17 (q : Int)) := hT.up (by decide) (by decide) _ _
      have hbr := hT.r q
      have hz : I 5 t ≤ q → B q = 0 := fun h => hT.z h
      unfold skF at h3
      refine x_aload_n dX8_pass_0 0 rfl rfl ?_
      refine x_iload_n dX8_pass_1 1 rfl rfl ?_
      refine x_aload_n dX8_pass_2 0 rfl rfl ?_
      refine x_getI dX8_pass_3 flX8_136 rfl rfl ?_
      rw [m_up_eq]
      refine x_callVi (as := [_, _]) dX8_pass_6 lvX8_139 rfl rfl rfl rfl rfl rfl rfl ⟨rfl, rfl⟩ (s_X8_byteAt hT1.1 hT1.2.1 (by omega)) (fun z6 I6 L6 R6 hq6 => ?_)
      obtain ⟨rfl, rfl, rfl, rfl⟩ := hq6
      rw [hT1.2.2 q]
      refine x_bipush dX8_pass_9 (by decide) ?_
      refine x_ic_ne (tgt := 27) dX8_pass_11 (by decide) (by first | omega | exact z_and_r _ _ | exact z_or_r _ _ | exact z_xor_r _ _) (fun h11 => ?_) (fun h11 => ?_)
      · refine x_vret dX8_pass_27 rfl ?_
        rw [if_neg (by assumption)] at h3
        rw [← hQ, h3]
        exact ⟨rfl, rfl, rfl, rfl⟩
      · refine x_aload_n dX8_pass_14 0 rfl rfl ?_
        refine x_dup dX8_pass_15 rfl ?_
        refine x_getI dX8_pass_16 flX8_136 rfl rfl ?_
        rw [m_up_eq]
        refine x_iconst dX8_pass_19 ?_
        refine x_iadd dX8_pass_20 ?_
        refine x_putI dX8_pass_21 flX8_136 rfl rfl rfl ?_
        refine x_goto (tgt := 0) dX8_pass_24 (by decide) ?_
        rw [if_pos (by assumption)] at h3
        rw [m_up_up]
        exact ih (q + 1) (by omega) (by omega) h3 (by omega)
  have h0 := loop 100 p (by omega) (by omega) rfl (by omega)
  rw [hself] at h0
  exact h0
end

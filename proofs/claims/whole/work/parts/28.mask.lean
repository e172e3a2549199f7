/-! THE REFERENCE'S QUESTIONS, part ten. -/
/-- a stuck board's scene -/
noncomputable def skK (I : MI) (d s : Int) : MI := m_up (m_up (kap I 0 (I 0 13)) 0 36 d) 0 37 s
noncomputable def skS (I : MI) (d : Int) : Nat → Int
  | 0 => -9
  | s + 1 => if fst0 (skK I d s) = -9 then 100 * d + s else skS I d s
noncomputable def skD (I : MI) : Nat → Nat → Int
  | 0, _ => -9
  | n + 1, d => if I 7 (3 * (d : Int) + 2) = 1 ∧ skS I d (I 0 14).toNat ≠ -9 then skS I d (I 0 14).toNat else skD I n (d + 1)
noncomputable def s_stuck (I : MI) : Int := if okA I = true then -4 else skD I (I 0 12).toNat 0
noncomputable def quW (I : MI) : Nat → Int
  | 0 => 0
  | e + 1 => z_or (quW I e) (if fst0 (kap I (z_or (quW I e) (z_shl 1 (e : Int))) (I 0 13)) ≠ -9 then z_shl 1 (e : Int) else 0)
noncomputable def s_quarrel (I : MI) : Int × (MI → MI) := if okA I = true then (-4, fun L => L) else (I 0 25 - pc (quW I (I 0 25).toNat), fun L => m_up L 0 3 (z_landl (z_shll 1 (I 0 25) - 1) (z_xor (quW I (I 0 25).toNat) (-1))))
theorem quW_b (I : MI) : ∀ n k : Nat, n ≤ 24 → n ≤ k → k < 32 → tb (quW I n) k = false
  | 0, k, _, _, _ => tb_0 k
  | n + 1, k, h0, h1, h2 => by
    unfold quW
    rw [tb_or, quW_b I n k (by omega) (by omega) h2]
    split
    · rw [tb_sh1 (by omega) h2]; simp; omega
    · rw [tb_0]; rfl
theorem quW_r (I : MI) (n : Nat) (h : n ≤ 24) : 0 ≤ quW I n ∧ quW I n < 16777216 := by
  have hr : rI (quW I n) := by cases n with
    | zero => unfold quW; omega
    | succ n => exact z_or_r _ _
  have := (tb_up hr 24 (by omega)).mpr (fun k h1 h2 => quW_b I n k h (by omega) h2)
  omega
def wyB (κ : MI) (t s : Nat) : Int := if alv κ t s then Fr κ t s * Re κ t s else 0
def chS (κ : MI) (r : Int) (t : Nat) : Nat → Int
  | 0 => 0
  | s + 1 => chS κ r t s + (if 0 < mnI s r (us κ) then wyB κ t s else 0)
def lkS (κ : MI) (w t r : Nat) : Nat → Int
  | 0 => 0
  | s + 1 => lkS κ w t r s + (if rm s w = r then wyB κ t s else 0)
def lkB (f : Nat → Int) : Nat → Nat
  | 0 => 0
  | r + 1 => if f (lkB f r) < f (r + 1) then r + 1 else lkB f r
theorem lkB_r (f : Nat → Int) : ∀ n, lkB f n ≤ n
  | 0 => Nat.le_refl _
  | n + 1 => by have := lkB_r f n; unfold lkB; split <;> omega
/-- the counts are true ones: to be shown of every scene -/
def cntOK (κ : MI) : Prop := aw κ ≤ 1000000000000000 → 0 < aw κ ∧ ∀ t, t ≤ lst κ → (∀ r, 0 ≤ chS κ r t (nst κ) ∧ chS κ r t (nst κ) ≤ 1000000000000000) ∧ ∀ w r, 0 ≤ lkS κ w t r (nst κ) ∧ lkS κ w t r (nst κ) ≤ 1000000000000000
def frT (u l : Int) (L : MI) : MI := m_up (m_up L 0 4 (u.tdiv (a_gcd u l))) 0 5 (l.tdiv (a_gcd u l))
noncomputable def s_chance (r t : Int) (I : MI) : Int × MI := if r < 0 ∨ I 0 11 ≤ r ∨ t < 0 ∨ I 0 14 < t then (-1, I) else if okA I = false then (-3, a_mt I 4) else if 1000000000000000 < aw (kap I 0 (I 0 13)) then (-6, I) else (1, I)
noncomputable def l_chance (r t : Int) (I : MI) (L : MI) : MI := if r < 0 ∨ I 0 11 ≤ r ∨ t < 0 ∨ I 0 14 < t then L else if okA I = false then L else if 1000000000000000 < aw (kap I 0 (I 0 13)) then L else frT (chS (kap I 0 (I 0 13)) r t.toNat (nst (kap I 0 (I 0 13)))) (aw (kap I 0 (I 0 13))) L
noncomputable def s_likely (w t : Int) (I : MI) : Int × MI := if w < 0 ∨ I 0 13 ≤ w ∨ t < 0 ∨ I 0 14 < t then (-1, I) else if okA I = false then (-3, a_mt I 4) else if 1000000000000000 < aw (kap I 0 (I 0 13)) then (-6, I) else ((lkB (fun r => lkS (kap I 0 (I 0 13)) w.toNat t.toNat r (nst (kap I 0 (I 0 13)))) 5 : Nat), I)
noncomputable def l_likely (w t : Int) (I : MI) (L : MI) : MI := if w < 0 ∨ I 0 13 ≤ w ∨ t < 0 ∨ I 0 14 < t then L else if okA I = false then L else if 1000000000000000 < aw (kap I 0 (I 0 13)) then L else frT (lkS (kap I 0 (I 0 13)) w.toNat t.toNat (lkB (fun r => lkS (kap I 0 (I 0 13)) w.toNat t.toNat r (nst (kap I 0 (I 0 13)))) 5) (nst (kap I 0 (I 0 13)))) (aw (kap I 0 (I 0 13))) L
theorem LF.pl {L L' : MI} (h : LF L L') : PeL L L' := fun j _ => h 0 j (by decide) (by decide)
theorem seF_s {I : MI} {m f h : Int} (k : Nat) : seF I m f h (k + 1) = if chB I k m f ≠ -9 ∧ ((seF I m f h k).1 = -9 ∨ chB I k m f / 1000 + h * k < (seF I m f h k).2) then ((k : Int), chB I k m f / 1000 + h * k) else seF I m f h k := rfl
theorem seF_r {I : MI} (hH : iHs I) (hE : iEvs I) {m f h : Int} (hm : 0 ≤ m ∧ m ≤ 99) (hf : 0 ≤ f ∧ f ≤ 99) (hh : 0 ≤ h ∧ h ≤ 99) : ∀ n : Nat, (n : Int) ≤ I 0 13 + 1 → -9 ≤ (seF I m f h n).1 ∧ (seF I m f h n).1 < n ∧ 0 ≤ (seF I m f h n).2 ∧ (seF I m f h n).2 ≤ 100000
  | 0, _ => by unfold seF; simp
  | n + 1, hn => by
    have h1 := seF_r hH hE hm hf hh n (by omega)
    have hW := hH.2.2.1
    have h2 := chB_r hH hE (k := n) (m := m) (f := f) (by omega) hm hf
    have h3 : 0 ≤ h * (n : Int) ∧ h * (n : Int) ≤ 99 * 3 := ⟨Int.mul_nonneg hh.1 (by omega), Int.mul_le_mul hh.2 (by omega) (by omega) (by omega)⟩
    unfold seF
    split
    · simp only; omega
    · omega
section
variable {G : GT} {sh : MS} {I L : MI} {R : MR} {κ : MI}

theorem s_X8_isPrice {p : Int} (h : rI p) : Sp G mtX8_isPrice [mi p] sh I L R (qi (pu (b01 (0 ≤ p ∧ p ≤ 99)) I L R)) := by
  refine Sp.of pnX8_isPrice rfl ?_
  show Rn G mtX8_isPrice _ 0 [(0, mi p)] [] sh I L R
  generalize hQ : (qi (pu (b01 (0 ≤ p ∧ p ≤ 99)) I L R)) = Q
  refine x_iload_n dX8_isPrice_0 0 rfl rfl ?_
  refine x_iconst dX8_isPrice_1 ?_
  refine x_bipush dX8_isPrice_2 (by decide) ?_
  refine x_callSi (as := [_, _, _]) dX8_isPrice_4 lvX8_105 rfl rfl rfl rfl ⟨rfl, rfl⟩ (s_X8_in (by omega) (by omega) (by omega)) (fun z4 I4 L4 R4 hq4 => ?_)
  obtain ⟨rfl, rfl, rfl, rfl⟩ := hq4
  refine x_zret dX8_isPrice_7 rfl (b01_z _) ?_
  rw [← hQ]
  exact ⟨_, rfl, rfl, rfl, rfl, rfl⟩
theorem s_X8_cheapest {m f : Int} (hH : iHs I) (hE : iEvs I) (h1 : rI m) (h2 : rI f) : Sp G mtX8_cheapest [mr 0, mi m, mi f] shM I L rM (qi (fun z I' L' R' => z = (s_cheapest m f I).1 ∧ Pe (s_cheapest m f I).2 I' ∧ L = L' ∧ R' = rM)) := by
  refine Sp.of pnX8_cheapest rfl ?_
  show Rn G mtX8_cheapest _ 0 [(0, mr 0), (1, mi m), (2, mi f)] [] shM I L rM
  generalize hQ : (qi (fun z I' L' R' => z = (s_cheapest m f I).1 ∧ Pe (s_cheapest m f I).2 I' ∧ L = L' ∧ R' = rM)) = Q
  have hW := hH.2.2.1
  refine x_iload_n dX8_cheapest_0 1 rfl rfl ?_
  refine x_callSi (as := [_]) dX8_cheapest_1 lvX8_416 rfl rfl rfl rfl ⟨rfl, rfl⟩ (s_X8_isPrice (by omega)) (fun z1 I1 L1 R1 hq1 => ?_)
  obtain ⟨rfl, rfl, rfl, rfl⟩ := hq1
  refine y_ifb_eq (tgt := 14) dX8_cheapest_4 (by decide) (fun h4 => ?_) (fun h4 => ?_)
  · refine x_iconst dX8_cheapest_14 ?_
    refine x_iret dX8_cheapest_15 rfl ?_
    rw [← hQ]
    have hs : s_cheapest m f I = (-1, I) := by unfold s_cheapest; rw [if_pos (by omega)]
    rw [hs]
    exact ⟨_, rfl, rfl, Pe.rf _, rfl, rfl⟩
  · refine x_iload_n dX8_cheapest_7 2 rfl rfl ?_
    refine x_callSi (as := [_]) dX8_cheapest_8 lvX8_416 rfl rfl rfl rfl ⟨rfl, rfl⟩ (s_X8_isPrice (by omega)) (fun z8 I8 L8 R8 hq8 => ?_)
    obtain ⟨rfl, rfl, rfl, rfl⟩ := hq8
    refine y_ifb_ne (tgt := 16) dX8_cheapest_11 (by decide) (fun h11 => ?_) (fun h11 => ?_)
    · refine x_aload_n dX8_cheapest_16 0 rfl rfl ?_
      have hcr := chB_r hH hE (k := I 0 13) (m := m) (f := f) (by omega) (by omega) (by omega)
      refine x_aload_n dX8_cheapest_17 0 rfl rfl ?_
      refine x_getI dX8_cheapest_18 flX8_186 rfl rfl ?_
      refine x_iload_n dX8_cheapest_21 1 rfl rfl ?_
      refine x_iload_n dX8_cheapest_22 2 rfl rfl ?_
      refine x_callVi (as := [_, _, _]) dX8_cheapest_23 lvX8_419 rfl rfl rfl rfl rfl rfl rfl ⟨rfl, rfl⟩ (s_X8_cheapestBy hH hE (by omega) (by omega) (by omega)) (fun z23 I23 L23 R23 hq23 => ?_)
      obtain ⟨rfl, hPe, rfl, rfl⟩ := hq23
      refine x_istore_n (lv' := [(0, _), (1, _), (2, _), (3, _)]) dX8_cheapest_26 rfl rfl rfl ?_
      refine x_iload_n dX8_cheapest_27 3 rfl rfl ?_
      refine x_bipush dX8_cheapest_28 (by decide) ?_
      refine x_ic_ne (tgt := 38) dX8_cheapest_30 (by decide) (by first | omega | exact z_and_r _ _ | exact z_or_r _ _ | exact z_xor_r _ _) (fun h30 => ?_) (fun h30 => ?_)
      · refine x_aload_n dX8_cheapest_38 0 rfl rfl ?_
        refine x_iload_n dX8_cheapest_39 3 rfl rfl ?_
        refine x_sipush dX8_cheapest_40 (by decide) ?_
        refine y_irem dX8_cheapest_43 (by first | omega | exact z_and_r _ _ | exact z_or_r _ _ | exact z_xor_r _ _) (by first | omega | exact z_and_r _ _ | exact z_or_r _ _ | exact z_xor_r _ _) ?_
        refine x_iload_n dX8_cheapest_44 3 rfl rfl ?_
        refine x_sipush dX8_cheapest_45 (by decide) ?_
        refine y_idiv dX8_cheapest_48 (by first | omega | exact z_and_r _ _ | exact z_or_r _ _ | exact z_xor_r _ _) (by first | omega | exact z_and_r _ _ | exact z_or_r _ _ | exact z_xor_r _ _) ?_
        refine x_callVi (as := [_, _]) dX8_cheapest_49 lvX8_130 rfl rfl rfl rfl rfl rfl rfl ⟨rfl, rfl⟩ (s_X8_tells) (fun z49 I49 L49 R49 hq49 => ?_)
        obtain ⟨rfl, rfl, rfl, rfl⟩ := hq49
        refine x_iret dX8_cheapest_52 rfl ?_
        rw [← hQ]
        first
        | (have hs : s_cheapest m f I = (-9, I) := by unfold s_cheapest; rw [if_neg (by omega), if_pos (by omega)]
           rw [hs]
           exact ⟨_, rfl, rfl, hPe, rfl, rfl⟩)
        | (have hs : s_cheapest m f I = (chB I (I 0 13) m f / 1000, a_tl I (chB I (I 0 13) m f % 1000)) := by unfold s_cheapest; rw [if_neg (by omega), if_neg (by omega)]
           rw [hs]
           exact ⟨_, rfl, rfl, hPe.tl _, rfl, rfl⟩)
      · refine x_bipush dX8_cheapest_33 (by decide) ?_
        refine x_goto (tgt := 52) dX8_cheapest_35 (by decide) ?_
        refine x_iret dX8_cheapest_52 rfl ?_
        rw [← hQ]
        first
        | (have hs : s_cheapest m f I = (-9, I) := by unfold s_cheapest; rw [if_neg (by omega), if_pos (by omega)]
           rw [hs]
           exact ⟨_, rfl, rfl, hPe, rfl, rfl⟩)
        | (have hs : s_cheapest m f I = (chB I (I 0 13) m f / 1000, a_tl I (chB I (I 0 13) m f % 1000)) := by unfold s_cheapest; rw [if_neg (by omega), if_neg (by omega)]
           rw [hs]
           exact ⟨_, rfl, rfl, hPe.tl _, rfl, rfl⟩)
    · refine x_iconst dX8_cheapest_14 ?_
      refine x_iret dX8_cheapest_15 rfl ?_
      rw [← hQ]
      have hs : s_cheapest m f I = (-1, I) := by unfold s_cheapest; rw [if_pos (by omega)]
      rw [hs]
      exact ⟨_, rfl, rfl, Pe.rf _, rfl, rfl⟩
theorem s_X8_settle {m f h : Int} (hH : iHs I) (hE : iEvs I) (h1 : rI m) (h2 : rI f) (h3 : rI h) : Sp G mtX8_settle [mr 0, mi m, mi f, mi h] shM I L rM (qi (fun z I' L' R' => z = (s_settle m f h I).1 ∧ Pe (s_settle m f h I).2 I' ∧ L = L' ∧ R' = rM)) := by
  refine Sp.of pnX8_settle rfl ?_
  show Rn G mtX8_settle _ 0 [(0, mr 0), (1, mi m), (2, mi f), (3, mi h)] [] shM I L rM
  generalize hQ : (qi (fun z I' L' R' => z = (s_settle m f h I).1 ∧ Pe (s_settle m f h I).2 I' ∧ L = L' ∧ R' = rM)) = Q
  have hW := hH.2.2.1
  refine x_iload_n dX8_settle_0 1 rfl rfl ?_
  refine x_callSi (as := [_]) dX8_settle_1 lvX8_416 rfl rfl rfl rfl ⟨rfl, rfl⟩ (s_X8_isPrice (by omega)) (fun z1 I1 L1 R1 hq1 => ?_)
  obtain ⟨rfl, rfl, rfl, rfl⟩ := hq1
  refine y_ifb_eq (tgt := 21) dX8_settle_4 (by decide) (fun h4 => ?_) (fun h4 => ?_)
  · refine x_iconst dX8_settle_21 ?_
    refine x_iret dX8_settle_22 rfl ?_
    rw [← hQ]
    have hs : s_settle m f h I = (-1, I) := by unfold s_settle; rw [if_pos (by omega)]
    rw [hs]
    exact ⟨_, rfl, rfl, Pe.rf _, rfl, rfl⟩
  · refine x_iload_n dX8_settle_7 2 rfl rfl ?_
    refine x_callSi (as := [_]) dX8_settle_8 lvX8_416 rfl rfl rfl rfl ⟨rfl, rfl⟩ (s_X8_isPrice (by omega)) (fun z8 I8 L8 R8 hq8 => ?_)
    obtain ⟨rfl, rfl, rfl, rfl⟩ := hq8
    refine y_ifb_eq (tgt := 21) dX8_settle_11 (by decide) (fun h11 => ?_) (fun h11 => ?_)
    · refine x_iconst dX8_settle_21 ?_
      refine x_iret dX8_settle_22 rfl ?_
      rw [← hQ]
      have hs : s_settle m f h I = (-1, I) := by unfold s_settle; rw [if_pos (by omega)]
      rw [hs]
      exact ⟨_, rfl, rfl, Pe.rf _, rfl, rfl⟩
    · refine x_iload_n dX8_settle_14 3 rfl rfl ?_
      refine x_callSi (as := [_]) dX8_settle_15 lvX8_416 rfl rfl rfl rfl ⟨rfl, rfl⟩ (s_X8_isPrice (by omega)) (fun z15 I15 L15 R15 hq15 => ?_)
      obtain ⟨rfl, rfl, rfl, rfl⟩ := hq15
      refine y_ifb_ne (tgt := 23) dX8_settle_18 (by decide) (fun h18 => ?_) (fun h18 => ?_)
      · refine x_bipush dX8_settle_23 (by decide) ?_
        refine x_istore (lv' := [(0, _), (1, _), (2, _), (3, _), (4, _)]) dX8_settle_25 rfl rfl ?_
        refine x_iconst dX8_settle_27 ?_
        refine x_istore (lv' := [(0, _), (1, _), (2, _), (3, _), (4, _), (5, _)]) dX8_settle_28 rfl rfl ?_
        refine x_iconst dX8_settle_30 ?_
        refine x_istore (lv' := [(0, _), (1, _), (2, _), (3, _), (4, _), (5, _), (6, _)]) dX8_settle_31 rfl rfl ?_
        have loop : ∀ k : Nat, k ≤ (I 0 13 + 1).toNat → ∀ J : MI, Pe I J → ∀ lv8, (lv8 = [(0, mr 0), (1, mi m), (2, mi f), (3, mi h), (4, mi (seF I m f h k).1), (5, mi (seF I m f h k).2), (6, mi (k : Int))]) → Rn G mtX8_settle Q 33 lv8 [] shM J L rM := by
          refine lpn _ (fun k hk ih => ?_) ?_
          · intro J hJ lv8 hlv
            subst hlv
            have j13 : J 0 13 = I 0 13 := hJ 0 13 (by unfold per; omega)
            have hHJ := iHs_pe hJ hH
            have hEJ := iEvs_pe hJ hE
            have hcr := chB_r hHJ hEJ (k := (k : Int)) (m := m) (f := f) (by omega) (by omega) (by omega)
            have htd : chB J k m f ≠ -9 → (chB J k m f).tdiv 1000 = chB J k m f / 1000 := fun q => Int.tdiv_eq_ediv_of_nonneg (by omega)
            have htr : -1 ≤ (chB J k m f).tdiv 1000 ∧ (chB J k m f).tdiv 1000 ≤ 47521 := by
              by_cases q : chB J k m f = -9
              · rw [q]; decide
              · rw [htd q]; omega
            have hce : chB J k m f = chB I k m f := by unfold chB; rw [kap_eq hJ, gd_eq hJ]
            have hsr := seF_r hH hE (m := m) (f := f) (h := h) (by omega) (by omega) (by omega) k (by omega)
            have h3 : 0 ≤ h * (k : Int) ∧ h * (k : Int) ≤ 99 * 3 := ⟨Int.mul_nonneg (by omega) (by omega), Int.mul_le_mul (by omega) (by omega) (by omega) (by omega)⟩
            have hst : ∀ (J2 : MI) (a b : Int), Pe J J2 → (a, b) = seF I m f h (k + 1) → ∀ lv8, lv8 = [(0, mr 0), (1, mi m), (2, mi f), (3, mi h), (4, mi a), (5, mi b), (6, mi (k : Int))] → Rn G mtX8_settle Q 94 lv8 [] shM J2 L rM := by
              intro J2 a b hJ2 hab lv8 hlv
              subst hlv
              have h9 := ih J2 (hJ.tr hJ2) _ rfl
              rw [← hab] at h9
              refine x_iinc (lv' := [(0, _), (1, _), (2, _), (3, _), (4, _), (5, _), (6, _)]) dX8_settle_94 6 rfl rfl rfl ?_
              refine x_goto (tgt := 33) dX8_settle_97 (by decide) ?_
              exact h9
            refine x_iload dX8_settle_33 6 rfl ?_
            refine x_aload_n dX8_settle_35 0 rfl rfl ?_
            refine x_getI dX8_settle_36 flX8_186 rfl rfl ?_
            refine x_ic_gt (tgt := 100) dX8_settle_39 (by decide) (by omega) (fun h39 => ?_) (fun h39 => ?_)
            · exfalso; omega
            · refine x_aload_n dX8_settle_42 0 rfl rfl ?_
              refine x_iload dX8_settle_43 6 rfl ?_
              refine x_iload_n dX8_settle_45 1 rfl rfl ?_
              refine x_iload_n dX8_settle_46 2 rfl rfl ?_
              refine x_callVi (as := [_, _, _]) dX8_settle_47 lvX8_419 rfl rfl rfl rfl rfl rfl rfl ⟨rfl, rfl⟩ (s_X8_cheapestBy hHJ hEJ (by omega) (by omega) (by omega)) (fun z47 I47 L47 R47 hq47 => ?_)
              obtain ⟨rfl, hPe, rfl, rfl⟩ := hq47
              refine x_istore (lv' := [(0, _), (1, _), (2, _), (3, _), (4, _), (5, _), (6, _), (7, _)]) dX8_settle_50 rfl rfl ?_
              refine x_iload dX8_settle_52 7 rfl ?_
              refine x_sipush dX8_settle_54 (by decide) ?_
              refine x_idiv dX8_settle_57 (by omega) (by omega) ?_
              refine x_iload_n dX8_settle_58 3 rfl rfl ?_
              refine x_iload dX8_settle_59 6 rfl ?_
              refine x_imul dX8_settle_61 ?_
              refine x_iadd dX8_settle_62 ?_
              refine x_istore (lv' := [(0, _), (1, _), (2, _), (3, _), (4, _), (5, _), (6, _), (7, _), (8, _)]) dX8_settle_63 rfl rfl ?_
              refine x_iload dX8_settle_65 7 rfl ?_
              refine x_bipush dX8_settle_67 (by decide) ?_
              refine x_ic_eq (tgt := 94) dX8_settle_69 (by decide) (by omega) (fun h69 => ?_) (fun h69 => ?_)
              · refine x_top (lv' := [(0, _), (1, _), (2, _), (3, _), (4, _), (5, _), (6, _)]) 7 rfl ?_
                first
                | (refine hst _ _ _ hPe ?_ _ rfl
                   rw [seF_s, ← hce, if_pos ⟨by omega, by omega⟩, htd (by omega)])
                | (refine hst _ _ _ hPe ?_ _ rfl
                   rw [seF_s, ← hce, if_neg (by rintro ⟨x1, x2⟩; have := htd; omega)])
              · refine x_iload dX8_settle_72 4 rfl ?_
                refine x_bipush dX8_settle_74 (by decide) ?_
                refine x_ic_eq (tgt := 86) dX8_settle_76 (by decide) (by omega) (fun h76 => ?_) (fun h76 => ?_)
                · refine x_iload dX8_settle_86 6 rfl ?_
                  refine x_istore (lv' := [(0, _), (1, _), (2, _), (3, _), (4, _), (5, _), (6, _), (7, _), (8, _)]) dX8_settle_88 rfl rfl ?_
                  refine x_iload dX8_settle_90 8 rfl ?_
                  refine x_istore (lv' := [(0, _), (1, _), (2, _), (3, _), (4, _), (5, _), (6, _), (7, _), (8, _)]) dX8_settle_92 rfl rfl ?_
                  refine x_top (lv' := [(0, _), (1, _), (2, _), (3, _), (4, _), (5, _), (6, _)]) 7 rfl ?_
                  first
                  | (refine hst _ _ _ hPe ?_ _ rfl
                     rw [seF_s, ← hce, if_pos ⟨by omega, by omega⟩, htd (by omega)])
                  | (refine hst _ _ _ hPe ?_ _ rfl
                     rw [seF_s, ← hce, if_neg (by rintro ⟨x1, x2⟩; have := htd; omega)])
                · refine x_iload dX8_settle_79 8 rfl ?_
                  refine x_iload dX8_settle_81 5 rfl ?_
                  refine x_ic_ge (tgt := 94) dX8_settle_83 (by decide) (by omega) (fun h83 => ?_) (fun h83 => ?_)
                  · refine x_top (lv' := [(0, _), (1, _), (2, _), (3, _), (4, _), (5, _), (6, _)]) 7 rfl ?_
                    first
                    | (refine hst _ _ _ hPe ?_ _ rfl
                       rw [seF_s, ← hce, if_pos ⟨by omega, by omega⟩, htd (by omega)])
                    | (refine hst _ _ _ hPe ?_ _ rfl
                       rw [seF_s, ← hce, if_neg (by rintro ⟨x1, x2⟩; have := htd; omega)])
                  · refine x_iload dX8_settle_86 6 rfl ?_
                    refine x_istore (lv' := [(0, _), (1, _), (2, _), (3, _), (4, _), (5, _), (6, _), (7, _), (8, _)]) dX8_settle_88 rfl rfl ?_
                    refine x_iload dX8_settle_90 8 rfl ?_
                    refine x_istore (lv' := [(0, _), (1, _), (2, _), (3, _), (4, _), (5, _), (6, _), (7, _), (8, _)]) dX8_settle_92 rfl rfl ?_
                    refine x_top (lv' := [(0, _), (1, _), (2, _), (3, _), (4, _), (5, _), (6, _)]) 7 rfl ?_
                    first
                    | (refine hst _ _ _ hPe ?_ _ rfl
                       rw [seF_s, ← hce, if_pos ⟨by omega, by omega⟩, htd (by omega)])
                    | (refine hst _ _ _ hPe ?_ _ rfl
                       rw [seF_s, ← hce, if_neg (by rintro ⟨x1, x2⟩; have := htd; omega)])
          · intro J hJ lv8 hlv
            subst hlv
            have j13 : J 0 13 = I 0 13 := hJ 0 13 (by unfold per; omega)
            have hsr := seF_r hH hE (m := m) (f := f) (h := h) (by omega) (by omega) (by omega) (I 0 13 + 1).toNat (by omega)
            refine x_iload dX8_settle_33 6 rfl ?_
            refine x_aload_n dX8_settle_35 0 rfl rfl ?_
            refine x_getI dX8_settle_36 flX8_186 rfl rfl ?_
            refine x_ic_gt (tgt := 100) dX8_settle_39 (by decide) (by omega) (fun h39 => ?_) (fun h39 => ?_)
            · refine x_iload dX8_settle_100 4 rfl ?_
              refine x_bipush dX8_settle_102 (by decide) ?_
              refine x_ic_ne (tgt := 112) dX8_settle_104 (by decide) (by omega) (fun h104 => ?_) (fun h104 => ?_)
              · refine x_aload_n dX8_settle_112 0 rfl rfl ?_
                refine x_iload dX8_settle_113 5 rfl ?_
                refine x_iload dX8_settle_115 4 rfl ?_
                refine x_callVi (as := [_, _]) dX8_settle_117 lvX8_130 rfl rfl rfl rfl rfl rfl rfl ⟨rfl, rfl⟩ (s_X8_tells) (fun z117 I117 L117 R117 hq117 => ?_)
                obtain ⟨rfl, rfl, rfl, rfl⟩ := hq117
                refine x_iret dX8_settle_120 rfl ?_
                rw [← hQ]
                first
                | (have hs : s_settle m f h I = (-9, I) := by unfold s_settle; rw [if_neg (by omega), if_pos (by omega)]
                   rw [hs]
                   exact ⟨_, rfl, rfl, hJ, rfl, rfl⟩)
                | (have hs : s_settle m f h I = ((seF I m f h (I 0 13 + 1).toNat).1, a_tl I (seF I m f h (I 0 13 + 1).toNat).2) := by unfold s_settle; rw [if_neg (by omega), if_neg (by omega)]
                   rw [hs]
                   exact ⟨_, rfl, rfl, hJ.tl _, rfl, rfl⟩)
              · refine x_bipush dX8_settle_107 (by decide) ?_
                refine x_goto (tgt := 120) dX8_settle_109 (by decide) ?_
                refine x_iret dX8_settle_120 rfl ?_
                rw [← hQ]
                first
                | (have hs : s_settle m f h I = (-9, I) := by unfold s_settle; rw [if_neg (by omega), if_pos (by omega)]
                   rw [hs]
                   exact ⟨_, rfl, rfl, hJ, rfl, rfl⟩)
                | (have hs : s_settle m f h I = ((seF I m f h (I 0 13 + 1).toNat).1, a_tl I (seF I m f h (I 0 13 + 1).toNat).2) := by unfold s_settle; rw [if_neg (by omega), if_neg (by omega)]
                   rw [hs]
                   exact ⟨_, rfl, rfl, hJ.tl _, rfl, rfl⟩)
            · exfalso; omega
        exact loop 0 (by omega) I (Pe.rf _) _ rfl
      · refine x_iconst dX8_settle_21 ?_
        refine x_iret dX8_settle_22 rfl ?_
        rw [← hQ]
        have hs : s_settle m f h I = (-1, I) := by unfold s_settle; rw [if_pos (by omega)]
        rw [hs]
        exact ⟨_, rfl, rfl, Pe.rf _, rfl, rfl⟩
theorem s_X8_stuck  (hH : iHs I) (hE : iEvs I) : Sp G mtX8_stuck [mr 0] shM I L rM (qi (fun z I' L' R' => z = s_stuck I ∧ Pe I I' ∧ LF L L' ∧ R' = rM)) := by
  refine Sp.of pnX8_stuck rfl ?_
  show Rn G mtX8_stuck _ 0 [(0, mr 0)] [] shM I L rM
  generalize hQ : (qi (fun z I' L' R' => z = s_stuck I ∧ Pe I I' ∧ LF L L' ∧ R' = rM)) = Q
  have hW := hH.2.2.1
  have hf := fst0_r (kap I 0 (I 0 13)) (lst (kap I 0 (I 0 13)) + 1) 0
  have hT := hH.2.2.2.1
  have hDn := hH.2.1
  have hEn := hE.1
  have hl := KA_lst hH (wo := 0) (k := I 0 13)
  have hms : ∀ d s : Int, iHs (skK I d s) := fun d s => by
    have := KA_H hH
    unfold iHs skK at *
    simp only [m_up]
    simpa using this
  have hss : ∀ d s : Int, -9 ≤ d → d ≤ 7 → 0 ≤ s → s ≤ 30 → iSc (skK I d s) := fun d s h1 h2 h3 h4 => by
    obtain ⟨a, b, c, e, g⟩ := KA_S hH hE
    have e34 : skK I d s 0 34 = kap I 0 (I 0 13) 0 34 := by unfold skK; rw [m_up_nj (by decide), m_up_nj (by decide)]
    have e13 : skK I d s 0 13 = kap I 0 (I 0 13) 0 13 := by unfold skK; rw [m_up_nj (by decide), m_up_nj (by decide)]
    have e35 : skK I d s 0 35 = kap I 0 (I 0 13) 0 35 := by unfold skK; rw [m_up_nj (by decide), m_up_nj (by decide)]
    have e36 : skK I d s 0 36 = d := by unfold skK; rw [m_up_nj (by decide), m_up_eq]
    have e37 : skK I d s 0 37 = s := by unfold skK; rw [m_up_eq]
    have eo : ∀ c j, c ≠ 0 → skK I d s c j = kap I 0 (I 0 13) c j := fun c j hc => by unfold skK; rw [m_up_ne hc, m_up_ne hc]
    unfold iSc
    rw [e34, e13, e35, e36, e37]
    refine ⟨a, ⟨h1, h2⟩, ⟨h3, h4⟩, e, fun t t1 t2 => ?_⟩
    have q := g t t1 t2
    rw [eo 13 _ (by decide), eo 14 _ (by decide), eo 15 _ (by decide), eo 16 _ (by decide)]
    exact ⟨q.1, q.2.1, q.2.2.1, q.2.2.2.1, fun w w1 w2 => by rw [eo 17 _ (by decide)]; exact q.2.2.2.2 w w1 w2⟩
  have main : ¬ okA I = true → ∀ (J K : MI), E1 (kap I 0 (I 0 13)) J → LF L K → Rn G mtX8_stuck Q 21 [(0, mr 0)] [] shM J K rM := by
    intro hok J0 K0 hJ0 hK0
    have hsk : s_stuck I = skD I (I 0 12).toNat 0 := if_neg hok
    obtain ⟨F0, hF0⟩ : ∃ x, x = skD I (I 0 12).toNat 0 := ⟨_, rfl⟩
    have agr : ∀ (d s : Int) (J : MI), (∀ c j, sce c j → ¬ (c = 0 ∧ (j = 36 ∨ j = 37)) → J c j = (kap I 0 (I 0 13)) c j) → J 0 36 = d → J 0 37 = s → E1 (skK I d s) J := by
      intro d s J h1 h2 h3 c j q
      unfold skK m_up
      by_cases a : c = 0 ∧ j = 37
      · rw [if_pos a, a.1, a.2]; exact h3
      · rw [if_neg a]
        by_cases b : c = 0 ∧ j = 36
        · rw [if_pos b, b.1, b.2]; exact h2
        · rw [if_neg b]; exact h1 c j q (by omega)
    have dl : ∀ d : Nat, d ≤ (I 0 12).toNat → ∀ (J K : MI), (∀ c j, sce c j → ¬ (c = 0 ∧ (j = 36 ∨ j = 37)) → J c j = (kap I 0 (I 0 13)) c j) → LF L K → F0 = skD I ((I 0 12).toNat - d) d → ∀ lv8, lv8 = [(0, mr 0), (1, mi (d : Int))] → Rn G mtX8_stuck Q 23 lv8 [] shM J K rM := by
      refine lpn _ (fun d hd ih => ?_) ?_
      · intro J K hJ hK hFd lv8 hlv
        subst hlv
        have j12 : J 0 12 = I 0 12 := by rw [hJ 0 12 (by unfold sce per; omega) (by omega), kap_per (by unfold per; omega)]
        have j14 : J 0 14 = I 0 14 := by rw [hJ 0 14 (by unfold sce per; omega) (by omega), kap_per (by unfold per; omega)]
        have hdo := hH.2.2.2.2.1 (d : Int) (by omega) (by omega)
        rw [show (I 0 12).toNat - d = ((I 0 12).toNat - (d + 1)) + 1 by omega] at hFd
        unfold skD at hFd
        have nx : ∀ (J2 K2 : MI) lv8, lv8 = [(0, mr 0), (1, mi (d : Int))] → (∀ c j, sce c j → ¬ (c = 0 ∧ (j = 36 ∨ j = 37)) → J2 c j = (kap I 0 (I 0 13)) c j) → LF L K2 → ¬ (I 7 (3 * (d : Int) + 2) = 1 ∧ skS I d (I 0 14).toNat ≠ -9) → Rn G mtX8_stuck Q 82 lv8 [] shM J2 K2 rM := by
          intro J2 K2 lv8 hlv hJ2 hK2 hn
          subst hlv
          rw [if_neg hn] at hFd
          refine x_iinc (lv' := [(0, _), (1, _)]) dX8_stuck_82 1 rfl rfl rfl ?_
          refine x_goto (tgt := 23) dX8_stuck_85 (by decide) ?_
          exact ih _ _ hJ2 hK2 hFd _ rfl
        have sl : ∀ s : Nat, s ≤ (I 0 14).toNat → ∀ (J K : MI), (∀ c j, sce c j → ¬ (c = 0 ∧ (j = 36 ∨ j = 37)) → J c j = (kap I 0 (I 0 13)) c j) → LF L K → (I 7 (3 * (d : Int) + 2) = 1 → skS I d (I 0 14).toNat = skS I d s) → Rn G mtX8_stuck Q 38 [(0, mr 0), (1, mi (d : Int)), (2, mi ((s : Int) + (-1)))] [] shM J K rM := by
          intro s
          induction s with
          | zero =>
            intro _ J K hJ hK hs
            refine x_iload_n dX8_stuck_38 2 rfl rfl ?_
            refine x_if_lt (tgt := 82) dX8_stuck_39 (by decide) (by first | omega | exact z_and_r _ _ | exact z_or_r _ _ | exact z_xor_r _ _) (fun h39 => ?_) (fun h39 => ?_)
            · refine x_top (lv' := [(0, _), (1, _)]) 2 rfl ?_
              exact nx J K _ rfl hJ hK (fun h => h.2 (hs h.1))
            · exfalso; omega
          | succ s ihs =>
            intro hs1 J K hJ hK hs
            have j7 : J 7 (3 * (d : Int) + 2) = I 7 (3 * (d : Int) + 2) := by rw [hJ 7 _ (by unfold sce per; omega) (by omega), kap_per (by unfold per; omega)]
            rw [show ((s + 1 : Nat) : Int) + (-1) = (s : Int) by omega]
            have hfr := fst0_r (skK I d s) (lst (skK I d s) + 1) 0
            have hlk : lst (skK I d s) = lst (kap I 0 (I 0 13)) := by unfold lst skK; rw [m_up_nj (by decide), m_up_nj (by decide)]
            have hag : E1 (skK I d s) (m_up (m_up J 0 36 d) 0 37 s) := agr _ _ _ (fun c j q1 q2 => by unfold m_up; rw [if_neg (by omega), if_neg (by omega)]; exact hJ c j q1 q2) (by rw [m_up_nj (by decide), m_up_eq]) m_up_eq
            refine x_iload_n dX8_stuck_38 2 rfl rfl ?_
            refine x_if_lt (tgt := 82) dX8_stuck_39 (by decide) (by first | omega | exact z_and_r _ _ | exact z_or_r _ _ | exact z_xor_r _ _) (fun h39 => ?_) (fun h39 => ?_)
            · refine x_top (lv' := [(0, _), (1, _)]) 2 rfl ?_
              first
              | (exfalso; omega)
              | exact nx J K _ rfl hJ hK (fun h => by omega)
            · refine x_aload_n dX8_stuck_42 0 rfl rfl ?_
              refine x_iload_n dX8_stuck_43 1 rfl rfl ?_
              refine x_callVi (as := [_]) dX8_stuck_44 lvX8_195 rfl rfl rfl rfl rfl rfl rfl ⟨rfl, rfl⟩ (s_X8_hasBoard (by omega) (by rw [j7]; omega)) (fun z44 I44 L44 R44 hq44 => ?_)
              obtain ⟨rfl, rfl, rfl, rfl⟩ := hq44
              refine y_ifb_eq (tgt := 82) dX8_stuck_47 (by decide) (fun h47 => ?_) (fun h47 => ?_)
              · refine x_top (lv' := [(0, _), (1, _)]) 2 rfl ?_
                first
                | (exfalso; omega)
                | exact nx J K _ rfl hJ hK (fun h => by omega)
              · refine x_aload_n dX8_stuck_50 0 rfl rfl ?_
                refine x_iload_n dX8_stuck_51 1 rfl rfl ?_
                refine x_putI dX8_stuck_52 flX8_243 rfl rfl rfl ?_
                refine x_aload_n dX8_stuck_55 0 rfl rfl ?_
                refine x_iload_n dX8_stuck_56 2 rfl rfl ?_
                refine x_putI dX8_stuck_57 flX8_246 rfl rfl rfl ?_
                refine x_aload_n dX8_stuck_60 0 rfl rfl ?_
                refine x_callVi (as := []) dX8_stuck_61 lvX8_313 rfl rfl rfl rfl rfl rfl rfl ⟨rfl, rfl⟩ (s_X8_layFront hag (hms _ _) (hss _ _ (by omega) (by omega) (by omega) (by omega))) (fun z61 I61 L61 R61 hq61 => ?_)
                obtain ⟨hz, hE3, rfl, hL3, hF3⟩ := hq61
                have hzr : rI z61 := by rw [hz]; unfold fst0; omega
                refine x_bipush dX8_stuck_64 (by decide) ?_
                refine x_ic_ne (tgt := 76) dX8_stuck_66 (by decide) (by first | omega | exact z_and_r _ _ | exact z_or_r _ _ | exact z_xor_r _ _) (fun h66 => ?_) (fun h66 => ?_)
                · refine x_iinc (lv' := [(0, _), (1, _), (2, _)]) dX8_stuck_76 2 rfl rfl rfl ?_
                  refine x_goto (tgt := 38) dX8_stuck_79 (by decide) ?_
                  refine ihs (by omega) _ _ (fun c j q1 q2 => ?_) (hK.tr (fun a j h1 _ => hL3 a j h1)) (fun hb => ?_)
                  · rw [hE3 c j q1]
                    unfold skK m_up
                    rw [if_neg (by omega), if_neg (by omega)]
                  · rw [hs hb]
                    show (if fst0 (skK I d s) = -9 then _ else _) = _
                    rw [if_neg (by omega)]
                · refine x_bipush dX8_stuck_69 (by decide) ?_
                  refine x_iload_n dX8_stuck_71 1 rfl rfl ?_
                  refine x_imul dX8_stuck_72 ?_
                  refine x_iload_n dX8_stuck_73 2 rfl rfl ?_
                  refine x_iadd dX8_stuck_74 ?_
                  refine x_iret dX8_stuck_75 rfl ?_
                  have hs2 : skS I d (I 0 14).toNat = 100 * (d : Int) + (s : Int) := by
                    rw [hs (by omega)]
                    show (if fst0 (skK I d s) = -9 then _ else _) = _
                    rw [if_pos (by omega)]
                  rw [if_pos ⟨by omega, by omega⟩, hs2] at hFd
                  rw [← hQ, hsk, ← hF0, hFd]
                  exact ⟨_, rfl, rfl, fun c j q => by rw [hE3 c j (Or.inl q)]; unfold skK m_up; rw [if_neg (by unfold per at q; omega), if_neg (by unfold per at q; omega), kap_per q], hK.tr (fun a j h1 _ => hL3 a j h1), rfl⟩
        refine x_iload_n dX8_stuck_23 1 rfl rfl ?_
        refine x_aload_n dX8_stuck_24 0 rfl rfl ?_
        refine x_getI dX8_stuck_25 flX8_183 rfl rfl ?_
        refine x_ic_ge (tgt := 88) dX8_stuck_28 (by decide) (by first | omega | exact z_and_r _ _ | exact z_or_r _ _ | exact z_xor_r _ _) (fun h28 => ?_) (fun h28 => ?_)
        · exfalso; omega
        · refine x_aload_n dX8_stuck_31 0 rfl rfl ?_
          refine x_getI dX8_stuck_32 flX8_99 rfl rfl ?_
          refine x_iconst dX8_stuck_35 ?_
          refine x_isub dX8_stuck_36 ?_
          refine x_istore_n (lv' := [(0, _), (1, _), (2, _)]) dX8_stuck_37 rfl rfl rfl ?_
          have h9 := sl (I 0 14).toNat (Nat.le_refl _) J K hJ hK (fun _ => rfl)
          rw [show (((I 0 14).toNat : Nat) : Int) + (-1) = J 0 14 - 1 by omega] at h9
          exact h9
      · intro J K hJ hK hFd lv8 hlv
        subst hlv
        have j12 : J 0 12 = I 0 12 := by rw [hJ 0 12 (by unfold sce per; omega) (by omega), kap_per (by unfold per; omega)]
        refine x_iload_n dX8_stuck_23 1 rfl rfl ?_
        refine x_aload_n dX8_stuck_24 0 rfl rfl ?_
        refine x_getI dX8_stuck_25 flX8_183 rfl rfl ?_
        refine x_ic_ge (tgt := 88) dX8_stuck_28 (by decide) (by first | omega | exact z_and_r _ _ | exact z_or_r _ _ | exact z_xor_r _ _) (fun h28 => ?_) (fun h28 => ?_)
        · refine x_bipush dX8_stuck_88 (by decide) ?_
          refine x_iret dX8_stuck_90 rfl ?_
          rw [Nat.sub_self] at hFd
          rw [← hQ, hsk, ← hF0, hFd]
          exact ⟨_, rfl, rfl, fun c j q => by rw [hJ c j (Or.inl q) (by unfold per at q; omega), kap_per q], hK, rfl⟩
        · exfalso; omega
    refine x_iconst dX8_stuck_21 ?_
    refine x_istore_n (lv' := [(0, _), (1, _)]) dX8_stuck_22 rfl rfl rfl ?_
    exact dl 0 (by omega) _ _ (fun c j q _ => hJ0 c j q) hK0 hF0 _ rfl
  refine x_aload_n dX8_stuck_0 0 rfl rfl ?_
  refine x_iconst dX8_stuck_1 ?_
  refine x_aload_n dX8_stuck_2 0 rfl rfl ?_
  refine x_getI dX8_stuck_3 flX8_186 rfl rfl ?_
  refine x_callVi (as := [_, _]) dX8_stuck_6 lvX8_310 rfl rfl rfl rfl rfl rfl rfl ⟨rfl, rfl⟩ (s_X8_layNight hH hE ⟨by omega, Int.le_refl _⟩) (fun z6 I6 L6 R6 hq6 => ?_)
  obtain ⟨rfl, hE2, rfl, rfl⟩ := hq6
  refine y_ifb_eq (tgt := 21) dX8_stuck_9 (by decide) (fun h9 => ?_) (fun h9 => ?_)
  · first
    | exact main (fun h => absurd (okA_iff.mp h).1 (by assumption)) _ _ hE2 (LF.rf _)
    | exact main (fun h => by have := (okA_iff.mp h).2; omega) _ _ hE3 (fun a j h1 _ => hL3 a j h1)
  · refine x_aload_n dX8_stuck_12 0 rfl rfl ?_
    refine x_callVi (as := []) dX8_stuck_13 lvX8_313 rfl rfl rfl rfl rfl rfl rfl ⟨rfl, rfl⟩ (s_X8_layFront hE2 (KA_H hH) (KA_S hH hE)) (fun z13 I13 L13 R13 hq13 => ?_)
    obtain ⟨hz, hE3, rfl, hL3, hF3⟩ := hq13
    have hzr : rI z13 := by rw [hz]; unfold fst0; omega
    refine x_bipush dX8_stuck_16 (by decide) ?_
    refine x_ic_eq (tgt := 91) dX8_stuck_18 (by decide) (by first | omega | exact z_and_r _ _ | exact z_or_r _ _ | exact z_xor_r _ _) (fun h18 => ?_) (fun h18 => ?_)
    · refine x_bipush dX8_stuck_91 (by decide) ?_
      refine x_iret dX8_stuck_93 rfl ?_
      rw [← hQ]
      have hs : s_stuck I = -4 := if_pos (okA_iff.mpr ⟨by assumption, by omega⟩)
      rw [hs]
      exact ⟨_, rfl, rfl, kap_pe hE3, fun a j h1 _ => hL3 a j h1, rfl⟩
    · first
      | exact main (fun h => absurd (okA_iff.mp h).1 (by assumption)) _ _ hE2 (LF.rf _)
      | exact main (fun h => by have := (okA_iff.mp h).2; omega) _ _ hE3 (fun a j h1 _ => hL3 a j h1)
theorem s_X8_quarrel  (hH : iHs I) (hE : iEvs I) : Sp G mtX8_quarrel [mr 0] shM I L rM (qi (fun z I' L' R' => z = (s_quarrel I).1 ∧ Pe I I' ∧ LF ((s_quarrel I).2 L) L' ∧ R' = rM)) := by
  refine Sp.of pnX8_quarrel rfl ?_
  show Rn G mtX8_quarrel _ 0 [(0, mr 0)] [] shM I L rM
  generalize hQ : (qi (fun z I' L' R' => z = (s_quarrel I).1 ∧ Pe I I' ∧ LF ((s_quarrel I).2 L) L' ∧ R' = rM)) = Q
  have hW := hH.2.2.1
  have hf := fst0_r (kap I 0 (I 0 13)) (lst (kap I 0 (I 0 13)) + 1) 0
  have hT := hH.2.2.2.1
  have hDn := hH.2.1
  have hEn := hE.1
  have hl := KA_lst hH (wo := 0) (k := I 0 13)
  have main : ¬ okA I = true → ∀ (J K : MI), Pe I J → LF L K → Rn G mtX8_quarrel Q 24 [(0, mr 0)] [] shM J K rM := by
    intro hok J0 K0 hJ0 hK0
    have hsq : s_quarrel I = (I 0 25 - pc (quW I (I 0 25).toNat), fun L => m_up L 0 3 (z_landl (z_shll 1 (I 0 25) - 1) (z_xor (quW I (I 0 25).toNat) (-1)))) := if_neg hok
    have el : ∀ e : Nat, e ≤ (I 0 25).toNat → ∀ (J K : MI), Pe I J → LF L K → ∀ lv8, lv8 = [(0, mr 0), (1, mi (quW I e)), (2, mi (e : Int))] → Rn G mtX8_quarrel Q 28 lv8 [] shM J K rM := by
      refine lpn _ (fun e he ih => ?_) ?_
      · intro J K hJ hK lv8 hlv
        subst hlv
        have j25 : J 0 25 = I 0 25 := hJ 0 25 (by unfold per; omega)
        have j13 : J 0 13 = I 0 13 := hJ 0 13 (by unfold per; omega)
        have hHJ := iHs_pe hJ hH
        have hEJ := iEvs_pe hJ hE
        obtain ⟨wo, hwo⟩ : ∃ wo, wo = z_or (quW I e) (z_shl 1 (e : Int)) := ⟨_, rfl⟩
        have hfr := fst0_r (kap J wo (J 0 13)) (lst (kap J wo (J 0 13)) + 1) 0
        have hlk := KA_lst hHJ (wo := wo) (k := J 0 13)
        have hTJ := hHJ.2.2.2.1
        have hke : kap J wo (J 0 13) = kap I wo (I 0 13) := by rw [kap_eq hJ, j13]
        have hq : quW I (e + 1) = z_or (quW I e) (if fst0 (kap I wo (I 0 13)) ≠ -9 then z_shl 1 (e : Int) else 0) := by rw [hwo]; rfl
        refine x_iload_n dX8_quarrel_28 2 rfl rfl ?_
        refine x_aload_n dX8_quarrel_29 0 rfl rfl ?_
        refine x_getI dX8_quarrel_30 flX8_217 rfl rfl ?_
        refine x_ic_ge (tgt := 75) dX8_quarrel_33 (by decide) (by first | omega | exact z_and_r _ _ | exact z_or_r _ _ | exact z_xor_r _ _) (fun h33 => ?_) (fun h33 => ?_)
        · exfalso; omega
        · refine x_aload_n dX8_quarrel_36 0 rfl rfl ?_
          refine x_iload_n dX8_quarrel_37 1 rfl rfl ?_
          refine x_iconst dX8_quarrel_38 ?_
          refine x_iload_n dX8_quarrel_39 2 rfl rfl ?_
          refine x_ishl dX8_quarrel_40 ?_
          refine x_ior dX8_quarrel_41 ?_
          rw [← hwo]
          refine x_aload_n dX8_quarrel_42 0 rfl rfl ?_
          refine x_getI dX8_quarrel_43 flX8_186 rfl rfl ?_
          refine x_callVi (as := [_, _]) dX8_quarrel_46 lvX8_310 rfl rfl rfl rfl rfl rfl rfl ⟨rfl, rfl⟩ (s_X8_layNight hHJ hEJ ⟨by omega, Int.le_refl _⟩) (fun z46 I46 L46 R46 hq46 => ?_)
          obtain ⟨rfl, hE2, rfl, rfl⟩ := hq46
          refine x_pop dX8_quarrel_49 rfl ?_
          refine x_iload_n dX8_quarrel_50 1 rfl rfl ?_
          refine x_aload_n dX8_quarrel_51 0 rfl rfl ?_
          refine x_callVi (as := []) dX8_quarrel_52 lvX8_313 rfl rfl rfl rfl rfl rfl rfl ⟨rfl, rfl⟩ (s_X8_layFront hE2 (kap_H hHJ _ _) (kap_S hEJ ⟨by omega, Int.le_refl _⟩)) (fun z52 I52 L52 R52 hq52 => ?_)
          obtain ⟨hz, hE3, rfl, hL3, hF3⟩ := hq52
          have hzr : rI z52 := by rw [hz]; unfold fst0; omega
          refine x_bipush dX8_quarrel_55 (by decide) ?_
          refine x_ic_eq (tgt := 66) dX8_quarrel_57 (by decide) (by first | omega | exact z_and_r _ _ | exact z_or_r _ _ | exact z_xor_r _ _) (fun h57 => ?_) (fun h57 => ?_)
          · refine x_iconst dX8_quarrel_66 ?_
            refine x_ior dX8_quarrel_67 ?_
            refine x_istore_n (lv' := [(0, _), (1, _), (2, _)]) dX8_quarrel_68 rfl rfl rfl ?_
            refine x_iinc (lv' := [(0, _), (1, _), (2, _)]) dX8_quarrel_69 2 rfl rfl rfl ?_
            refine x_goto (tgt := 28) dX8_quarrel_72 (by decide) ?_
            refine ih _ _ (hJ.tr (kap_pe hE3)) (hK.tr (fun a j h1 _ => hL3 a j h1)) _ ?_
            rw [hq, ← hke]
            first | (rw [if_pos (by omega)]; rfl) | (rw [if_neg (by omega)]; rfl)
          · refine x_iconst dX8_quarrel_60 ?_
            refine x_iload_n dX8_quarrel_61 2 rfl rfl ?_
            refine x_ishl dX8_quarrel_62 ?_
            refine x_goto (tgt := 67) dX8_quarrel_63 (by decide) ?_
            refine x_ior dX8_quarrel_67 ?_
            refine x_istore_n (lv' := [(0, _), (1, _), (2, _)]) dX8_quarrel_68 rfl rfl rfl ?_
            refine x_iinc (lv' := [(0, _), (1, _), (2, _)]) dX8_quarrel_69 2 rfl rfl rfl ?_
            refine x_goto (tgt := 28) dX8_quarrel_72 (by decide) ?_
            refine ih _ _ (hJ.tr (kap_pe hE3)) (hK.tr (fun a j h1 _ => hL3 a j h1)) _ ?_
            rw [hq, ← hke]
            first | (rw [if_pos (by omega)]; rfl) | (rw [if_neg (by omega)]; rfl)
      · intro J K hJ hK lv8 hlv
        subst hlv
        have j25 : J 0 25 = I 0 25 := hJ 0 25 (by unfold per; omega)
        have hqr := quW_r I (I 0 25).toNat (by omega)
        refine x_iload_n dX8_quarrel_28 2 rfl rfl ?_
        refine x_aload_n dX8_quarrel_29 0 rfl rfl ?_
        refine x_getI dX8_quarrel_30 flX8_217 rfl rfl ?_
        refine x_ic_ge (tgt := 75) dX8_quarrel_33 (by decide) (by first | omega | exact z_and_r _ _ | exact z_or_r _ _ | exact z_xor_r _ _) (fun h33 => ?_) (fun h33 => ?_)
        · refine x_aload_n dX8_quarrel_75 0 rfl rfl ?_
          refine x_lconst 1 dX8_quarrel_76 rfl ?_
          refine x_aload_n dX8_quarrel_77 0 rfl rfl ?_
          refine x_getI dX8_quarrel_78 flX8_217 rfl rfl ?_
          rw [j25]
          refine x_lshl dX8_quarrel_81 ?_
          refine x_lconst 1 dX8_quarrel_82 rfl ?_
          refine x_lsub dX8_quarrel_83 ?_
          refine x_iload_n dX8_quarrel_84 1 rfl rfl ?_
          refine x_iconst dX8_quarrel_85 ?_
          refine x_ixor dX8_quarrel_86 ?_
          refine x_i2l dX8_quarrel_87 (by first | omega | exact z_and_r _ _ | exact z_or_r _ _ | exact z_xor_r _ _) ?_
          refine x_land dX8_quarrel_88 ?_
          refine x_putL dX8_quarrel_89 flX8_112 rfl rfl rfl ?_
          refine x_aload_n dX8_quarrel_92 0 rfl rfl ?_
          refine x_getI dX8_quarrel_93 flX8_217 rfl rfl ?_
          refine x_iload_n dX8_quarrel_96 1 rfl rfl ?_
          refine x_callSi (as := [_]) dX8_quarrel_97 lvX8_413 rfl rfl rfl rfl ⟨rfl, rfl⟩ (s_X8_bits (by omega)) (fun z97 I97 L97 R97 hq97 => ?_)
          obtain ⟨rfl, rfl, rfl, rfl⟩ := hq97
          refine x_isub dX8_quarrel_100 ?_
          refine x_iret dX8_quarrel_101 rfl ?_
          rw [← hQ, hsq]
          refine ⟨_, rfl, ?_, hJ, fun a j h1 h2 => ?_, rfl⟩
          · rw [j25]
          · show m_up _ 0 3 _ a j = m_up _ 0 3 _ a j
            unfold m_up
            split
            · rfl
            · exact hK a j h1 h2
        · exfalso; omega
    refine x_iconst dX8_quarrel_24 ?_
    refine x_istore_n (lv' := [(0, _), (1, _)]) dX8_quarrel_25 rfl rfl rfl ?_
    refine x_iconst dX8_quarrel_26 ?_
    refine x_istore_n (lv' := [(0, _), (1, _), (2, _)]) dX8_quarrel_27 rfl rfl rfl ?_
    exact el 0 (by omega) _ _ hJ0 hK0 _ rfl
  refine x_aload_n dX8_quarrel_0 0 rfl rfl ?_
  refine x_iconst dX8_quarrel_1 ?_
  refine x_aload_n dX8_quarrel_2 0 rfl rfl ?_
  refine x_getI dX8_quarrel_3 flX8_186 rfl rfl ?_
  refine x_callVi (as := [_, _]) dX8_quarrel_6 lvX8_310 rfl rfl rfl rfl rfl rfl rfl ⟨rfl, rfl⟩ (s_X8_layNight hH hE ⟨by omega, Int.le_refl _⟩) (fun z6 I6 L6 R6 hq6 => ?_)
  obtain ⟨rfl, hE2, rfl, rfl⟩ := hq6
  refine y_ifb_eq (tgt := 24) dX8_quarrel_9 (by decide) (fun h9 => ?_) (fun h9 => ?_)
  · first
    | exact main (fun h => absurd (okA_iff.mp h).1 (by assumption)) _ _ (kap_pe hE2) (LF.rf _)
    | exact main (fun h => by have := (okA_iff.mp h).2; omega) _ _ (kap_pe hE3) (fun a j h1 _ => hL3 a j h1)
  · refine x_aload_n dX8_quarrel_12 0 rfl rfl ?_
    refine x_callVi (as := []) dX8_quarrel_13 lvX8_313 rfl rfl rfl rfl rfl rfl rfl ⟨rfl, rfl⟩ (s_X8_layFront hE2 (KA_H hH) (KA_S hH hE)) (fun z13 I13 L13 R13 hq13 => ?_)
    obtain ⟨hz, hE3, rfl, hL3, hF3⟩ := hq13
    have hzr : rI z13 := by rw [hz]; unfold fst0; omega
    refine x_bipush dX8_quarrel_16 (by decide) ?_
    refine x_ic_ne (tgt := 24) dX8_quarrel_18 (by decide) (by first | omega | exact z_and_r _ _ | exact z_or_r _ _ | exact z_xor_r _ _) (fun h18 => ?_) (fun h18 => ?_)
    · first
      | exact main (fun h => absurd (okA_iff.mp h).1 (by assumption)) _ _ (kap_pe hE2) (LF.rf _)
      | exact main (fun h => by have := (okA_iff.mp h).2; omega) _ _ (kap_pe hE3) (fun a j h1 _ => hL3 a j h1)
    · refine x_bipush dX8_quarrel_21 (by decide) ?_
      refine x_iret dX8_quarrel_23 rfl ?_
      rw [← hQ]
      have hs : s_quarrel I = (-4, fun L => L) := if_pos (okA_iff.mpr ⟨by assumption, by omega⟩)
      rw [hs]
      exact ⟨_, rfl, rfl, kap_pe hE3, fun a j h1 _ => hL3 a j h1, rfl⟩
theorem s_X8_needCounted  (hH : iHs I) (hE : iEvs I) : Sp G mtX8_needCounted [mr 0] shM I L rM (qi (fun z I' L' R' => z = (if okA I = false then -3 else if 1000000000000000 < aw (kap I 0 (I 0 13)) then -6 else 0) ∧ (okA I = false → Pe (a_mt I 4) I') ∧ (okA I = true → E1 (kap I 0 (I 0 13)) I' ∧ Tb (kap I 0 (I 0 13)) L') ∧ LF L L' ∧ R' = rM)) := by
  refine Sp.of pnX8_needCounted rfl ?_
  show Rn G mtX8_needCounted _ 0 [(0, mr 0)] [] shM I L rM
  generalize hQ : (qi (fun z I' L' R' => z = (if okA I = false then -3 else if 1000000000000000 < aw (kap I 0 (I 0 13)) then -6 else 0) ∧ (okA I = false → Pe (a_mt I 4) I') ∧ (okA I = true → E1 (kap I 0 (I 0 13)) I' ∧ Tb (kap I 0 (I 0 13)) L') ∧ LF L L' ∧ R' = rM)) = Q
  have hW := hH.2.2.1
  have hf := fst0_r (kap I 0 (I 0 13)) (lst (kap I 0 (I 0 13)) + 1) 0
  have hT := hH.2.2.2.1
  have hDn := hH.2.1
  have hEn := hE.1
  have hl := KA_lst hH (wo := 0) (k := I 0 13)
  have har := awF_r (kap I 0 (I 0 13)) (nst (kap I 0 (I 0 13)))
  have haw : aw (kap I 0 (I 0 13)) = awF (kap I 0 (I 0 13)) (nst (kap I 0 (I 0 13))) := rfl
  refine x_aload_n dX8_needCounted_0 0 rfl rfl ?_
  refine x_callVi (as := []) dX8_needCounted_1 lvX8_342 rfl rfl rfl rfl rfl rfl rfl ⟨rfl, rfl⟩ (s_X8_layAll hH hE) (fun z1 I1 L1 R1 hq1 => ?_)
  obtain ⟨rfl, hE2, hLF, rfl, hTb⟩ := hq1
  refine y_ifb_ne (tgt := 15) dX8_needCounted_4 (by decide) (fun h4 => ?_) (fun h4 => ?_)
  · refine x_aload_n dX8_needCounted_15 0 rfl rfl ?_
    refine x_callVl (as := []) dX8_needCounted_16 lvX8_323 rfl rfl rfl rfl rfl rfl rfl ⟨rfl, rfl⟩ (s_X8_allWays hE2 (KA_H hH) (KA_S hH hE) (fun s hs => (hTb (b01_1.mpr (by assumption)) _ s (Nat.le_refl _) hs).1)) (fun z16 I16 L16 R16 hq16 => ?_)
    obtain ⟨rfl, rfl, rfl, rfl⟩ := hq16
    refine x_ldc2 (1000000000000000) dX8_needCounted_19 lkX8_282 ?_
    refine x_lc_le (tgt := 31) dX8_needCounted_22 dX8_needCounted_23 (by decide) (by first | omega | exact z_and_r _ _ | exact z_or_r _ _ | exact z_xor_r _ _) (fun h22 => ?_) (fun h22 => ?_)
    · refine x_iconst dX8_needCounted_31 ?_
      refine x_iret dX8_needCounted_32 rfl ?_
      rw [← hQ]
      first
      | (have hn : ¬ okA I = true := by assumption
         rw [if_pos (by rw [← Bool.not_eq_true]; exact hn)]
         exact ⟨_, rfl, rfl, fun _ => (kap_pe hE2).mt 4, fun h => absurd h hn, hLF, rfl⟩)
      | (have hn : okA I = true := by assumption
         rw [if_neg (by rw [hn]; decide)]
         refine ⟨_, rfl, ?_, fun h => absurd h (by rw [hn]; decide), fun _ => ⟨hE2, hTb (b01_1.mpr hn)⟩, hLF, rfl⟩
         first | (rw [if_pos (by omega)]) | (rw [if_neg (by omega)]))
    · refine x_bipush dX8_needCounted_26 (by decide) ?_
      refine x_goto (tgt := 32) dX8_needCounted_28 (by decide) ?_
      refine x_iret dX8_needCounted_32 rfl ?_
      rw [← hQ]
      first
      | (have hn : ¬ okA I = true := by assumption
         rw [if_pos (by rw [← Bool.not_eq_true]; exact hn)]
         exact ⟨_, rfl, rfl, fun _ => (kap_pe hE2).mt 4, fun h => absurd h hn, hLF, rfl⟩)
      | (have hn : okA I = true := by assumption
         rw [if_neg (by rw [hn]; decide)]
         refine ⟨_, rfl, ?_, fun h => absurd h (by rw [hn]; decide), fun _ => ⟨hE2, hTb (b01_1.mpr hn)⟩, hLF, rfl⟩
         first | (rw [if_pos (by omega)]) | (rw [if_neg (by omega)]))
  · refine x_aload_n dX8_needCounted_7 0 rfl rfl ?_
    refine x_iconst dX8_needCounted_8 ?_
    refine x_callVi (as := [_]) dX8_needCounted_9 lvX8_122 rfl rfl rfl rfl rfl rfl rfl ⟨rfl, rfl⟩ (s_X8_meets (by omega)) (fun z9 I9 L9 R9 hq9 => ?_)
    obtain ⟨rfl, rfl, rfl, rfl⟩ := hq9
    refine x_goto (tgt := 32) dX8_needCounted_12 (by decide) ?_
    refine x_iret dX8_needCounted_32 rfl ?_
    rw [← hQ]
    first
    | (have hn : ¬ okA I = true := by assumption
       rw [if_pos (by rw [← Bool.not_eq_true]; exact hn)]
       exact ⟨_, rfl, rfl, fun _ => (kap_pe hE2).mt 4, fun h => absurd h hn, hLF, rfl⟩)
    | (have hn : okA I = true := by assumption
       rw [if_neg (by rw [hn]; decide)]
       refine ⟨_, rfl, ?_, fun h => absurd h (by rw [hn]; decide), fun _ => ⟨hE2, hTb (b01_1.mpr hn)⟩, hLF, rfl⟩
       first | (rw [if_pos (by omega)]) | (rw [if_neg (by omega)]))
theorem s_X8_waysBy {t s : Nat} (hH : iHs κ) (hS : iSc κ) (hB : Tb κ L) (ht : t ≤ lst κ) (hs : s < nst κ) : Sp G mtX8_waysBy [mr 0, mi ↑t, mi ↑s] shM I L rM (ql (pu (wyB κ t s) I L rM)) := by
  refine Sp.of pnX8_waysBy rfl ?_
  show Rn G mtX8_waysBy _ 0 [(0, mr 0), (1, mi ↑t), (2, mi ↑s)] [] shM I L rM
  generalize hQ : (ql (pu (wyB κ t s) I L rM)) = Q
  have hu := us_le hH hS
  have hnn := (nst_le hH hS).2
  have hT := hH.2.2.2.1
  have hlt : (lst κ : Int) = κ 0 14 := by unfold lst; omega
  have hB2 := hB t s ht hs
  refine x_aload_n dX8_waysBy_0 0 rfl rfl ?_
  refine x_iload_n dX8_waysBy_1 1 rfl rfl ?_
  refine x_iload_n dX8_waysBy_2 2 rfl rfl ?_
  refine x_callVi (as := [_, _]) dX8_waysBy_3 lvX8_333 rfl rfl rfl rfl rfl rfl rfl ⟨rfl, rfl⟩ (s_X8_isAlive hH hS ht hs hB2.1 hB2.2) (fun z3 I3 L3 R3 hq3 => ?_)
  obtain ⟨rfl, rfl, rfl, rfl⟩ := hq3
  refine y_ifb_eq (tgt := 37) dX8_waysBy_6 (by decide) (fun h6 => ?_) (fun h6 => ?_)
  · refine x_lconst 0 dX8_waysBy_37 rfl ?_
    refine x_lret dX8_waysBy_38 rfl ?_
    rw [← hQ]
    refine ⟨_, rfl, ?_, rfl, rfl, rfl⟩
    unfold wyB
    first | (rw [if_pos (by assumption), hB2.1, hB2.2]) | (rw [if_neg (by assumption)])
  · refine x_aload_n dX8_waysBy_9 0 rfl rfl ?_
    refine x_getR dX8_waysBy_10 flX8_75 rfl rfl rfl ?_
    refine x_sipush dX8_waysBy_13 (by decide) ?_
    refine x_iload_n dX8_waysBy_16 1 rfl rfl ?_
    refine x_imul dX8_waysBy_17 ?_
    refine x_iload_n dX8_waysBy_18 2 rfl rfl ?_
    refine x_iadd dX8_waysBy_19 ?_
    refine x_lald dX8_waysBy_20 rfl (by omega) ?_
    refine x_aload_n dX8_waysBy_21 0 rfl rfl ?_
    refine x_getR dX8_waysBy_22 flX8_79 rfl rfl rfl ?_
    refine x_sipush dX8_waysBy_25 (by decide) ?_
    refine x_iload_n dX8_waysBy_28 1 rfl rfl ?_
    refine x_imul dX8_waysBy_29 ?_
    refine x_iload_n dX8_waysBy_30 2 rfl rfl ?_
    refine x_iadd dX8_waysBy_31 ?_
    refine x_lald dX8_waysBy_32 rfl (by omega) ?_
    refine x_lmul dX8_waysBy_33 ?_
    refine x_goto (tgt := 38) dX8_waysBy_34 (by decide) ?_
    refine x_lret dX8_waysBy_38 rfl ?_
    rw [← hQ]
    refine ⟨_, rfl, ?_, rfl, rfl, rfl⟩
    unfold wyB
    first | (rw [if_pos (by assumption), hB2.1, hB2.2]) | (rw [if_neg (by assumption)])
end

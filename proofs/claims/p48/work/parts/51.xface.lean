/-! THE CLASS: small methods of the face; the Reader opened. -/
theorem a_gcd_comm (a b : Int) : a_gcd a b = a_gcd b a := by unfold a_gcd; rw [Nat.gcd_comm]
def tpL (u l : Int) (L : MI) : MI := m_up (m_up L 0 17 (u.tdiv (a_gcd u l))) 0 18 (l.tdiv (a_gcd u l))
theorem eu_half {x y : Int} (h : 0 < y ∧ y ≤ x) {m : Int} (hm : 0 ≤ m) : y * (x.tmod y) * (m * 2) ≤ x * y * m := by
  obtain ⟨a, rfl⟩ : ∃ a : Nat, x = (a : Int) := ⟨x.toNat, by omega⟩
  obtain ⟨b, rfl⟩ : ∃ b : Nat, y = (b : Int) := ⟨y.toNat, by omega⟩
  have e : ((a : Int).tmod (b : Int)) = ((a % b : Nat) : Int) := by rw [Int.tmod_eq_emod_of_nonneg (by omega)]; rfl
  rw [e]
  have h1 : a % b < b := Nat.mod_lt _ (by omega)
  have h2 : a % b ≤ a - b := by rw [Nat.mod_eq_sub_mod (by omega)]; exact Nat.mod_le _ _
  have h3 : 2 * ((a % b : Nat) : Int) ≤ (a : Int) := by omega
  have h4 : (b : Int) * (2 * ((a % b : Nat) : Int)) ≤ (b : Int) * (a : Int) := Int.mul_le_mul_of_nonneg_left h3 (by omega)
  have h5 := Int.mul_le_mul_of_nonneg_right h4 hm
  calc (b : Int) * ((a % b : Nat) : Int) * (m * 2) = (b : Int) * (2 * ((a % b : Nat) : Int)) * m := by ac_rfl
    _ ≤ (b : Int) * (a : Int) * m := h5
    _ = (a : Int) * (b : Int) * m := by ac_rfl
section
variable {G : GT} {I L : MI} {R : MR} {tx : Nat}

theorem s_X7_found {w : Int} (hR : okR R) (hw : 0 ≤ w ∧ w < 6) : Sp G mtX7_found [mr 0, mi w] shX I L R (qi (fun z I' L' R' => z = -3 ∧ I' = m_up (m_up I 0 14 w) 68 w (I 68 w + 1) ∧ L = L' ∧ R = R')) := by
  refine Sp.of pnX7_found rfl ?_
  show Rn G mtX7_found _ 0 [(0, mr 0), (1, mi w)] [] shX I L R
  generalize hQ : (qi (fun z I' L' R' => z = -3 ∧ I' = m_up (m_up I 0 14 w) 68 w (I 68 w + 1) ∧ L = L' ∧ R = R')) = Q
  refine x_aload_n dX7_found_0 0 rfl rfl ?_
  refine x_iload_n dX7_found_1 1 rfl rfl ?_
  refine x_putI dX7_found_2 flX7_333 rfl rfl rfl ?_
  refine x_aload_n dX7_found_5 0 rfl rfl ?_
  refine x_getR dX7_found_6 flX7_67 rfl rfl (hR 0 15 68 rfl) ?_
  refine x_iload_n dX7_found_9 1 rfl rfl ?_
  refine x_dup2 dX7_found_10 rfl rfl ?_
  refine y_iald dX7_found_11 rfl (by omega) (m_up_ne (by decide) _) ?_
  refine x_iconst dX7_found_12 ?_
  refine x_iadd dX7_found_13 ?_
  refine x_iast dX7_found_14 rfl (by omega) ?_
  refine x_bipush dX7_found_15 (by decide) ?_
  refine x_iret dX7_found_17 rfl ?_
  rw [← hQ]
  exact ⟨_, rfl, rfl, rfl, rfl, rfl⟩
theorem s_X7_isPrice {w : Int} (hw : rI w) : Sp G mtX7_isPrice [mi w] shX I L R (qi (pu (b01 (0 ≤ w ∧ w ≤ 99)) I L R)) := by
  refine Sp.of pnX7_isPrice rfl ?_
  show Rn G mtX7_isPrice _ 0 [(0, mi w)] [] shX I L R
  generalize hQ : (qi (pu (b01 (0 ≤ w ∧ w ≤ 99)) I L R)) = Q
  refine x_iload_n dX7_isPrice_0 0 rfl rfl ?_
  refine x_if_lt (tgt := 14) dX7_isPrice_1 (by decide) (by first | omega | exact z_and_r _ _ | exact z_or_r _ _ | exact z_xor_r _ _) (fun h1 => ?_) (fun h1 => ?_)
  · refine x_iconst dX7_isPrice_14 ?_
    refine x_zret dX7_isPrice_15 rfl (by omega) ?_
    rw [← hQ]
    first | exact ⟨_, rfl, b01_t (by omega), rfl, rfl, rfl⟩ | exact ⟨_, rfl, b01_f (by omega), rfl, rfl, rfl⟩
  · refine x_iload_n dX7_isPrice_4 0 rfl rfl ?_
    refine x_bipush dX7_isPrice_5 (by decide) ?_
    refine x_ic_gt (tgt := 14) dX7_isPrice_7 (by decide) (by first | omega | exact z_and_r _ _ | exact z_or_r _ _ | exact z_xor_r _ _) (fun h7 => ?_) (fun h7 => ?_)
    · refine x_iconst dX7_isPrice_14 ?_
      refine x_zret dX7_isPrice_15 rfl (by omega) ?_
      rw [← hQ]
      first | exact ⟨_, rfl, b01_t (by omega), rfl, rfl, rfl⟩ | exact ⟨_, rfl, b01_f (by omega), rfl, rfl, rfl⟩
    · refine x_iconst dX7_isPrice_10 ?_
      refine x_goto (tgt := 15) dX7_isPrice_11 (by decide) ?_
      refine x_zret dX7_isPrice_15 rfl (by omega) ?_
      rw [← hQ]
      first | exact ⟨_, rfl, b01_t (by omega), rfl, rfl, rfl⟩ | exact ⟨_, rfl, b01_f (by omega), rfl, rfl, rfl⟩
theorem s_X7_roomBit {w r : Int}  : Sp G mtX7_roomBit [mi w, mi r] shX I L R (qi (pu (z_shl 1 (6 * w + r)) I L R)) := by
  refine Sp.of pnX7_roomBit rfl ?_
  show Rn G mtX7_roomBit _ 0 [(0, mi w), (1, mi r)] [] shX I L R
  generalize hQ : (qi (pu (z_shl 1 (6 * w + r)) I L R)) = Q
  refine x_iconst dX7_roomBit_0 ?_
  refine x_bipush dX7_roomBit_1 (by decide) ?_
  refine x_iload_n dX7_roomBit_3 0 rfl rfl ?_
  refine x_imul dX7_roomBit_4 ?_
  refine x_iload_n dX7_roomBit_5 1 rfl rfl ?_
  refine x_iadd dX7_roomBit_6 ?_
  refine x_ishl dX7_roomBit_7 ?_
  refine x_iret dX7_roomBit_8 rfl ?_
  rw [← hQ]
  exact ⟨_, rfl, rfl, rfl, rfl, rfl⟩
theorem s_X7_roomsOf {s w : Int}  : Sp G mtX7_roomsOf [mi s, mi w] shX I L R (qi (pu (z_and (z_shr s (6 * w)) 63) I L R)) := by
  refine Sp.of pnX7_roomsOf rfl ?_
  show Rn G mtX7_roomsOf _ 0 [(0, mi s), (1, mi w)] [] shX I L R
  generalize hQ : (qi (pu (z_and (z_shr s (6 * w)) 63) I L R)) = Q
  refine x_iload_n dX7_roomsOf_0 0 rfl rfl ?_
  refine x_bipush dX7_roomsOf_1 (by decide) ?_
  refine x_iload_n dX7_roomsOf_3 1 rfl rfl ?_
  refine x_imul dX7_roomsOf_4 ?_
  refine x_ishr dX7_roomsOf_5 ?_
  refine x_bipush dX7_roomsOf_6 (by decide) ?_
  refine x_iand dX7_roomsOf_8 ?_
  refine x_iret dX7_roomsOf_9 rfl ?_
  rw [← hQ]
  exact ⟨_, rfl, rfl, rfl, rfl, rfl⟩
theorem s_X7_capped {w : Int} (hw : 0 ≤ w ∧ w ≤ 9223372036854775807) : Sp G mtX7_capped [ml w] shX I L R (ql (pu (if w ≤ 1000000000000001 then w else 1000000000000001) I L R)) := by
  refine Sp.of pnX7_capped rfl ?_
  show Rn G mtX7_capped _ 0 [(0, ml w)] [] shX I L R
  generalize hQ : (ql (pu (if w ≤ 1000000000000001 then w else 1000000000000001) I L R)) = Q
  refine x_lload_n dX7_capped_0 0 rfl rfl ?_
  refine x_ldc2 (1000000000000001) dX7_capped_1 lkX7_382 ?_
  refine x_lc_le (tgt := 14) dX7_capped_4 dX7_capped_5 (by decide) (by first | omega | exact z_and_r _ _ | exact z_or_r _ _ | exact z_xor_r _ _) (fun h4 => ?_) (fun h4 => ?_)
  · refine x_lload_n dX7_capped_14 0 rfl rfl ?_
    refine x_lret dX7_capped_15 rfl ?_
    rw [← hQ]
    refine ⟨_, rfl, ?_, rfl, rfl, rfl⟩
    first
    | (rw [if_pos (by omega)])
    | (rw [if_neg (by omega)])
  · refine x_ldc2 (1000000000000001) dX7_capped_8 lkX7_382 ?_
    refine x_goto (tgt := 15) dX7_capped_11 (by decide) ?_
    refine x_lret dX7_capped_15 rfl ?_
    rw [← hQ]
    refine ⟨_, rfl, ?_, rfl, rfl, rfl⟩
    first
    | (rw [if_pos (by omega)])
    | (rw [if_neg (by omega)])
theorem s_X7_tellPart {u l : Int} (hu : 0 ≤ u ∧ u ≤ l) (hl : 0 < l ∧ l ≤ 1000000000000001) : Sp G mtX7_tellPart [mr 0, ml u, ml l] shX I L R (qv (fun I' L' R' => I = I' ∧ L' = tpL u l L ∧ R = R')) := by
  refine Sp.of pnX7_tellPart rfl ?_
  show Rn G mtX7_tellPart _ 0 [(0, mr 0), (1, ml u), (3, ml l)] [] shX I L R
  generalize hQ : (qv (fun I' L' R' => I = I' ∧ L' = tpL u l L ∧ R = R')) = Q
  have hgp : 0 < a_gcd u l := by
    unfold a_gcd
    have : 0 < Nat.gcd u.toNat l.toNat := Nat.gcd_pos_of_pos_right _ (by omega)
    omega
  have ex : ∀ (x y i : Int) (lv8 : List (Nat × MV)), x = a_gcd u l → y = 0 → (lv8 = [(0, mr 0), (1, ml u), (3, ml l), (5, ml x), (7, ml y), (9, mi i)] ∨ ∃ r : Int, lv8 = [(0, mr 0), (1, ml u), (3, ml l), (5, ml x), (7, ml y), (9, mi i), (10, ml r)]) → Rn G mtX7_tellPart Q 44 lv8 [] shX I L R := by
    intro x y i lv8 hx hy hlv
    subst hx
    have hgl : a_gcd u l ≤ l := by
      unfold a_gcd
      have := Nat.gcd_le_right u.toNat (n := l.toNat) (by omega)
      omega
    rcases hlv with rfl | ⟨r, rfl⟩
    · refine x_lload dX7_tellPart_44 3 rfl ?_
      refine x_lconst 0 dX7_tellPart_46 rfl ?_
      refine x_lc_ne (tgt := 52) dX7_tellPart_47 dX7_tellPart_48 (by decide) (by omega) (fun h47 => ?_) (fun h47 => ?_)
      · refine x_aload_n dX7_tellPart_52 0 rfl rfl ?_
        refine x_lload_n dX7_tellPart_53 1 rfl rfl ?_
        refine x_lload dX7_tellPart_54 3 rfl ?_
        refine x_ldiv dX7_tellPart_56 (by omega) (by omega) ?_
        refine x_putL dX7_tellPart_57 flX7_324 rfl rfl rfl ?_
        refine x_aload_n dX7_tellPart_60 0 rfl rfl ?_
        refine x_lload_n dX7_tellPart_61 2 rfl rfl ?_
        refine x_lload dX7_tellPart_62 3 rfl ?_
        refine x_ldiv dX7_tellPart_64 (by omega) (by omega) ?_
        refine x_putL dX7_tellPart_65 flX7_71 rfl rfl rfl ?_
        refine x_vret dX7_tellPart_68 rfl ?_
        first
        | (exfalso; omega)
        | (rw [← hQ]; exact ⟨rfl, rfl, rfl, rfl⟩)
      · refine x_vret dX7_tellPart_51 rfl ?_
        first
        | (exfalso; omega)
        | (rw [← hQ]; exact ⟨rfl, rfl, rfl, rfl⟩)
    · refine x_lload dX7_tellPart_44 3 rfl ?_
      refine x_lconst 0 dX7_tellPart_46 rfl ?_
      refine x_lc_ne (tgt := 52) dX7_tellPart_47 dX7_tellPart_48 (by decide) (by omega) (fun h47 => ?_) (fun h47 => ?_)
      · refine x_aload_n dX7_tellPart_52 0 rfl rfl ?_
        refine x_lload_n dX7_tellPart_53 1 rfl rfl ?_
        refine x_lload dX7_tellPart_54 3 rfl ?_
        refine x_ldiv dX7_tellPart_56 (by omega) (by omega) ?_
        refine x_putL dX7_tellPart_57 flX7_324 rfl rfl rfl ?_
        refine x_aload_n dX7_tellPart_60 0 rfl rfl ?_
        refine x_lload_n dX7_tellPart_61 2 rfl rfl ?_
        refine x_lload dX7_tellPart_62 3 rfl ?_
        refine x_ldiv dX7_tellPart_64 (by omega) (by omega) ?_
        refine x_putL dX7_tellPart_65 flX7_71 rfl rfl rfl ?_
        refine x_vret dX7_tellPart_68 rfl ?_
        first
        | (exfalso; omega)
        | (rw [← hQ]; exact ⟨rfl, rfl, rfl, rfl⟩)
      · refine x_vret dX7_tellPart_51 rfl ?_
        first
        | (exfalso; omega)
        | (rw [← hQ]; exact ⟨rfl, rfl, rfl, rfl⟩)
  have loop : ∀ i : Nat, i ≤ 100 → ∀ (x y : Int) (lv8 : List (Nat × MV)), 0 < x ∧ x ≤ l → 0 ≤ y ∧ y ≤ x → a_gcd x y = a_gcd u l → x * y * 2 ^ i ≤ l * u → (lv8 = [(0, mr 0), (1, ml u), (3, ml l), (5, ml x), (7, ml y), (9, mi (i : Int))] ∨ ∃ r : Int, lv8 = [(0, mr 0), (1, ml u), (3, ml l), (5, ml x), (7, ml y), (9, mi (i : Int)), (10, ml r)]) → Rn G mtX7_tellPart Q 9 lv8 [] shX I L R := by
    refine lpn 100 (fun i hi ih => ?_) ?_
    · intro x y lv8 hx hy hg hp hlv
      have hst : 0 < y → 0 < y ∧ y ≤ l := fun _ => by omega
      have hst2 : 0 < y → (0 ≤ x.tmod y ∧ x.tmod y ≤ y) ∧ a_gcd y (x.tmod y) = a_gcd u l ∧ y * x.tmod y * 2 ^ (i + 1) ≤ l * u := fun q => by
        refine ⟨?_, by rw [a_gcd_step (by omega)]; exact hg, ?_⟩
        · rw [Int.tmod_eq_emod_of_nonneg (by omega)]
          have := Int.emod_nonneg x (show y ≠ 0 by omega)
          have := Int.emod_lt_of_pos x q
          omega
        · have := eu_half (x := x) (y := y) ⟨q, by omega⟩ (m := 2 ^ i) (Int.pow_nonneg (by omega))
          rw [Int.pow_succ]
          omega
      rcases hlv with rfl | ⟨r, rfl⟩
      · refine x_iload dX7_tellPart_9 5 rfl ?_
        refine x_bipush dX7_tellPart_11 (by decide) ?_
        refine x_ic_ge (tgt := 44) dX7_tellPart_13 (by decide) (by omega) (fun h13 => ?_) (fun h13 => ?_)
        · first
          | (exfalso; omega)
          | exact ex x y _ _ (by rw [show y = 0 by omega, a_gcd_0 (by omega)] at hg; exact hg) (by omega) (Or.inl rfl)
        · refine x_lload dX7_tellPart_16 4 rfl ?_
          refine x_lconst 0 dX7_tellPart_18 rfl ?_
          refine x_lc_eq (tgt := 44) dX7_tellPart_19 dX7_tellPart_20 (by decide) (by omega) (fun h19 => ?_) (fun h19 => ?_)
          · first
            | (exfalso; omega)
            | exact ex x y _ _ (by rw [show y = 0 by omega, a_gcd_0 (by omega)] at hg; exact hg) (by omega) (Or.inl rfl)
          · refine x_lload dX7_tellPart_23 3 rfl ?_
            refine x_lload dX7_tellPart_25 4 rfl ?_
            refine x_lrem dX7_tellPart_27 (by omega) (by omega) ?_
            refine x_lstore (lv' := [(0, _), (1, _), (3, _), (5, _), (7, _), (9, _), (10, _)]) dX7_tellPart_28 rfl rfl ?_
            refine x_lload dX7_tellPart_30 4 rfl ?_
            refine x_lstore (lv' := [(0, _), (1, _), (3, _), (5, _), (7, _), (9, _), (10, _)]) dX7_tellPart_32 rfl rfl ?_
            refine x_lload dX7_tellPart_34 6 rfl ?_
            refine x_lstore (lv' := [(0, _), (1, _), (3, _), (5, _), (7, _), (9, _), (10, _)]) dX7_tellPart_36 rfl rfl ?_
            refine x_iinc (lv' := [(0, _), (1, _), (3, _), (5, _), (7, _), (9, _), (10, _)]) dX7_tellPart_38 5 rfl rfl rfl ?_
            refine x_goto (tgt := 9) dX7_tellPart_41 (by decide) ?_
            have q : 0 < y := by omega
            exact ih y (x.tmod y) _ (hst q) (hst2 q).1 (hst2 q).2.1 (hst2 q).2.2 (Or.inr ⟨_, rfl⟩)
      · refine x_iload dX7_tellPart_9 5 rfl ?_
        refine x_bipush dX7_tellPart_11 (by decide) ?_
        refine x_ic_ge (tgt := 44) dX7_tellPart_13 (by decide) (by omega) (fun h13 => ?_) (fun h13 => ?_)
        · first
          | (exfalso; omega)
          | exact ex x y _ _ (by rw [show y = 0 by omega, a_gcd_0 (by omega)] at hg; exact hg) (by omega) (Or.inr ⟨_, rfl⟩)
        · refine x_lload dX7_tellPart_16 4 rfl ?_
          refine x_lconst 0 dX7_tellPart_18 rfl ?_
          refine x_lc_eq (tgt := 44) dX7_tellPart_19 dX7_tellPart_20 (by decide) (by omega) (fun h19 => ?_) (fun h19 => ?_)
          · first
            | (exfalso; omega)
            | exact ex x y _ _ (by rw [show y = 0 by omega, a_gcd_0 (by omega)] at hg; exact hg) (by omega) (Or.inr ⟨_, rfl⟩)
          · refine x_lload dX7_tellPart_23 3 rfl ?_
            refine x_lload dX7_tellPart_25 4 rfl ?_
            refine x_lrem dX7_tellPart_27 (by omega) (by omega) ?_
            refine x_lstore (lv' := [(0, _), (1, _), (3, _), (5, _), (7, _), (9, _), (10, _)]) dX7_tellPart_28 rfl rfl ?_
            refine x_lload dX7_tellPart_30 4 rfl ?_
            refine x_lstore (lv' := [(0, _), (1, _), (3, _), (5, _), (7, _), (9, _), (10, _)]) dX7_tellPart_32 rfl rfl ?_
            refine x_lload dX7_tellPart_34 6 rfl ?_
            refine x_lstore (lv' := [(0, _), (1, _), (3, _), (5, _), (7, _), (9, _), (10, _)]) dX7_tellPart_36 rfl rfl ?_
            refine x_iinc (lv' := [(0, _), (1, _), (3, _), (5, _), (7, _), (9, _), (10, _)]) dX7_tellPart_38 5 rfl rfl rfl ?_
            refine x_goto (tgt := 9) dX7_tellPart_41 (by decide) ?_
            have q : 0 < y := by omega
            exact ih y (x.tmod y) _ (hst q) (hst2 q).1 (hst2 q).2.1 (hst2 q).2.2 (Or.inr ⟨_, rfl⟩)
    · intro x y lv8 hx hy hg hp hlv
      have hy0 : y = 0 := by
        apply Classical.byContradiction
        intro q
        have h1 : 1 ≤ x * y := Int.mul_pos hx.1 (by omega)
        have h2 : l * u ≤ 1000000000000001 * 1000000000000001 := Int.mul_le_mul (by omega) (by omega) (by omega) (by omega)
        have h3 : 1 * (2 ^ 100 : Int) ≤ x * y * 2 ^ 100 := Int.mul_le_mul_of_nonneg_right h1 (by decide)
        have h4 : (1000000000000001 : Int) * 1000000000000001 < 1 * 2 ^ 100 := by decide
        omega
      rw [hy0, a_gcd_0 (by omega)] at hg
      have e44 := ex x y (100 : Nat) lv8 hg hy0 hlv
      rcases hlv with rfl | ⟨r, rfl⟩
      · refine x_iload dX7_tellPart_9 5 rfl ?_
        refine x_bipush dX7_tellPart_11 (by decide) ?_
        refine x_ic_ge (tgt := 44) dX7_tellPart_13 (by decide) (by omega) (fun h13 => ?_) (fun h13 => ?_)
        · exact e44
        · exfalso; omega
      · refine x_iload dX7_tellPart_9 5 rfl ?_
        refine x_bipush dX7_tellPart_11 (by decide) ?_
        refine x_ic_ge (tgt := 44) dX7_tellPart_13 (by decide) (by omega) (fun h13 => ?_) (fun h13 => ?_)
        · exact e44
        · exfalso; omega
  refine x_lload_n dX7_tellPart_0 2 rfl rfl ?_
  refine x_lstore (lv' := [(0, _), (1, _), (3, _), (5, _)]) dX7_tellPart_1 rfl rfl ?_
  refine x_lload_n dX7_tellPart_3 1 rfl rfl ?_
  refine x_lstore (lv' := [(0, _), (1, _), (3, _), (5, _), (7, _)]) dX7_tellPart_4 rfl rfl ?_
  refine x_iconst dX7_tellPart_6 ?_
  refine x_istore (lv' := [(0, _), (1, _), (3, _), (5, _), (7, _), (9, _)]) dX7_tellPart_7 rfl rfl ?_
  exact loop 0 (by omega) l u _ ⟨hl.1, by omega⟩ hu (a_gcd_comm _ _) (by rw [Int.pow_zero, Int.mul_one]; omega) (Or.inl rfl)
theorem s_X4_open {n : Int} (ht : 12 ≤ tx ∧ tx ≤ 15) (hn : rI n) : Sp G mtX4_open [mr 17, mr tx, mi n] shX I L R (qv (fun I' L' R' => I' = m_up (m_up (m_up I 17 1 (min n 80)) 17 2 0) 17 3 0 ∧ L = L' ∧ R' = m_up R 17 0 (some tx))) := by
  refine Sp.of pnX4_open rfl ?_
  show Rn G mtX4_open _ 0 [(0, mr 17), (1, mr tx), (2, mi n)] [] shX I L R
  generalize hQ : (qv (fun I' L' R' => I' = m_up (m_up (m_up I 17 1 (min n 80)) 17 2 0) 17 3 0 ∧ L = L' ∧ R' = m_up R 17 0 (some tx))) = Q
  refine x_aload_n dX4_open_0 0 rfl rfl ?_
  refine x_aload_n dX4_open_1 1 rfl rfl ?_
  refine x_putR dX4_open_2 flX4_9 rfl rfl rfl ?_
  refine x_aload_n dX4_open_5 0 rfl rfl ?_
  refine x_iload_n dX4_open_6 2 rfl rfl ?_
  refine x_aload_n dX4_open_7 1 rfl rfl ?_
  refine x_alen dX4_open_8 (shT ht) rfl ?_
  refine x_imin dX4_open_9 lvX4_15 rfl (by first | omega | exact z_and_r _ _ | exact z_or_r _ _ | exact z_xor_r _ _) ?_
  refine x_putI dX4_open_12 flX4_21 rfl rfl rfl ?_
  refine x_aload_n dX4_open_15 0 rfl rfl ?_
  refine x_iconst dX4_open_16 ?_
  refine x_putI dX4_open_17 flX4_25 rfl rfl rfl ?_
  refine x_aload_n dX4_open_20 0 rfl rfl ?_
  refine x_iconst dX4_open_21 ?_
  refine x_putZ dX4_open_22 flX4_28 rfl rfl rfl (by omega) ?_
  refine x_vret dX4_open_25 rfl ?_
  rw [← hQ]
  exact ⟨rfl, rfl, rfl, rfl⟩
end

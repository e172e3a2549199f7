/-! THE CLASS: small methods of the Walks, part two. -/
def noX (L : MI) (a : Nat) : Nat → Bool
  | 0 => true
  | n + 1 => noX L a n && decide (L a (n : Int) = 0)
theorem noX_f {L : MI} {a j : Nat} : ∀ n, j < n → L a (j : Int) ≠ 0 → noX L a n = false
  | n + 1, h, h2 => by
    unfold noX
    by_cases e : j = n
    · subst e
      rw [decide_eq_false h2, Bool.and_false]
    · rw [noX_f n (by omega) h2, Bool.false_and]
theorem noX_iff {L : MI} {a : Nat} : ∀ n, noX L a n = true ↔ ∀ j : Nat, j < n → L a (j : Int) = 0
  | 0 => ⟨fun _ j hj => by omega, fun _ => rfl⟩
  | n + 1 => by
    unfold noX
    rw [Bool.and_eq_true, decide_eq_true_eq, noX_iff n]
    constructor
    · rintro ⟨h1, h2⟩ j hj
      by_cases e : j = n
      · subst e; exact h2
      · exact h1 j (by omega)
    · exact fun h => ⟨fun j hj => h j (by omega), h n (by omega)⟩
def ldF (L : MI) (a t : Nat) : Nat → MI
  | 0 => L
  | k + 1 => m_up (ldF L a t k) a (k : Int) (if inX L k t then 1 else 0)
theorem ldF_ne (L : MI) (a t : Nat) : ∀ k c i, c ≠ a → ldF L a t k c i = L c i
  | 0, _, _, _ => rfl
  | k + 1, c, i, h => by unfold ldF; rw [m_up_ne h]; exact ldF_ne L a t k c i h
def thX (a b : Int) : Int := if b < 1 ∨ (1000000000000001 : Int).tdiv b < a then 1000000000000001 else a * b
def soX (x s d : Int) : Int := if d = 0 then z_lorl (z_landl x s) (z_shll (z_landl x (z_lxorl s (-1))) 1) else if z_landl x (z_lxorl s (-1)) = 0 then z_landl x s else z_lorl (z_landl x s) 1
section
variable {G : GT} {I L : MI} {R : MR} {p h na nb nk : Nat}

theorem s_X6_isNone {n : Nat} (hW : isW R p na nb nk) (hn : I p 3 = (n : Int)) (hn2 : n ≤ 1728) (hl : ∀ j : Nat, j < n → rL (L na (j : Int))) : Sp G mtX6_isNone [mr 19] shX I L R (qi (pu (b01 (noX L na n = true)) I L R)) := by
  refine Sp.of pnX6_isNone rfl ?_
  show Rn G mtX6_isNone _ 0 [(0, mr 19)] [] shX I L R
  generalize hQ : (qi (pu (b01 (noX L na n = true)) I L R)) = Q
  have loop : ∀ j : Nat, j ≤ n → noX L na j = true → Rn G mtX6_isNone Q 2 [(0, mr 19), (1, mi (j : Int))] [] shX I L R := by
    refine lpn n (fun j hj ih => ?_) ?_
    · intro g
      have hlj := hl j hj
      refine x_iload_n dX6_isNone_2 1 rfl rfl ?_
      refine x_aload_n dX6_isNone_3 0 rfl rfl ?_
      refine x_getR dX6_isNone_4 flX6_54 rfl rfl hW.2.2.1 ?_
      refine x_getI dX6_isNone_7 flX6_85 (shP0 hW.2.1) rfl ?_
      rw [hn]
      refine x_ic_ge (tgt := 32) dX6_isNone_10 (by decide) (by omega) (fun h10 => ?_) (fun h10 => ?_)
      · exfalso; omega
      · refine x_aload_n dX6_isNone_13 0 rfl rfl ?_
        refine x_getR dX6_isNone_14 flX6_35 rfl rfl hW.2.2.2.1 ?_
        refine x_iload_n dX6_isNone_17 1 rfl rfl ?_
        refine x_lald dX6_isNone_18 (shW hW.2.2.2.2.2.2.1) (by omega) ?_
        refine x_lconst 0 dX6_isNone_19 rfl ?_
        refine x_lc_eq (tgt := 26) dX6_isNone_20 dX6_isNone_21 (by decide) (by omega) (fun h20 => ?_) (fun h20 => ?_)
        · refine x_iinc (lv' := [(0, _), (1, _)]) dX6_isNone_26 1 rfl rfl rfl ?_
          refine x_goto (tgt := 2) dX6_isNone_29 (by decide) ?_
          exact ih (by unfold noX; rw [g, Bool.true_and, decide_eq_true_eq]; assumption)
        · refine x_iconst dX6_isNone_24 ?_
          refine x_zret dX6_isNone_25 rfl (by omega) ?_
          rw [← hQ]
          exact ⟨_, rfl, b01_f (by rw [noX_f n hj (by assumption)]; decide), rfl, rfl, rfl⟩
    · intro g
      refine x_iload_n dX6_isNone_2 1 rfl rfl ?_
      refine x_aload_n dX6_isNone_3 0 rfl rfl ?_
      refine x_getR dX6_isNone_4 flX6_54 rfl rfl hW.2.2.1 ?_
      refine x_getI dX6_isNone_7 flX6_85 (shP0 hW.2.1) rfl ?_
      rw [hn]
      refine x_ic_ge (tgt := 32) dX6_isNone_10 (by decide) (by omega) (fun h10 => ?_) (fun h10 => ?_)
      · refine x_iconst dX6_isNone_32 ?_
        refine x_zret dX6_isNone_33 rfl (by omega) ?_
        rw [← hQ]
        exact ⟨_, rfl, b01_t g, rfl, rfl, rfl⟩
      · exfalso; omega
  refine x_iconst dX6_isNone_0 ?_
  refine x_istore_n (lv' := [(0, _), (1, _)]) dX6_isNone_1 rfl rfl rfl ?_
  exact loop 0 (by omega) rfl
theorem s_X6_loadSet {n t : Nat} (hW : isW R p na nb nk) (hn : I p 3 = (n : Int)) (hn2 : n ≤ 1728) (ht : t < 31) : Sp G mtX6_loadSet [mr 19, mi ↑t] shX I L R (qv (fun I' L' R' => I = I' ∧ L' = ldF L na t n ∧ R = R')) := by
  refine Sp.of pnX6_loadSet rfl ?_
  show Rn G mtX6_loadSet _ 0 [(0, mr 19), (1, mi ↑t)] [] shX I L R
  generalize hQ : (qv (fun I' L' R' => I = I' ∧ L' = ldF L na t n ∧ R = R')) = Q
  have hna := hW.2.2.2.2.2.2.1
  have loop : ∀ j : Nat, j ≤ n → Rn G mtX6_loadSet Q 2 [(0, mr 19), (1, mi (t : Int)), (2, mi (j : Int))] [] shX I (ldF L na t j) R := by
    refine lpn n (fun j hj ih => ?_) ?_
    · have hin : inX (ldF L na t j) j t = inX L j t := by unfold inX; rw [ldF_ne _ _ _ _ _ _ (by omega)]
      have hs : ldF L na t (j + 1) = m_up (ldF L na t j) na (j : Int) (if inX L j t then 1 else 0) := rfl
      refine x_iload_n dX6_loadSet_2 2 rfl rfl ?_
      refine x_aload_n dX6_loadSet_3 0 rfl rfl ?_
      refine x_getR dX6_loadSet_4 flX6_54 rfl rfl hW.2.2.1 ?_
      refine x_getI dX6_loadSet_7 flX6_85 (shP0 hW.2.1) rfl ?_
      rw [hn]
      refine x_ic_ge (tgt := 39) dX6_loadSet_10 (by decide) (by omega) (fun h10 => ?_) (fun h10 => ?_)
      · exfalso; omega
      · refine x_aload_n dX6_loadSet_13 0 rfl rfl ?_
        refine x_getR dX6_loadSet_14 flX6_35 rfl rfl hW.2.2.2.1 ?_
        refine x_iload_n dX6_loadSet_17 2 rfl rfl ?_
        refine x_aload_n dX6_loadSet_18 0 rfl rfl ?_
        refine x_iload_n dX6_loadSet_19 2 rfl rfl ?_
        refine x_iload_n dX6_loadSet_20 1 rfl rfl ?_
        refine x_callVi (as := [_, _]) dX6_loadSet_21 lvX6_138 rfl rfl rfl rfl rfl rfl rfl ⟨rfl, rfl⟩ (s_X6_isIn hW (by omega) ht) (fun z21 I21 L21 R21 hq21 => ?_)
        obtain ⟨rfl, rfl, rfl, rfl⟩ := hq21
        rw [hin]
        refine y_ifb_eq (tgt := 31) dX6_loadSet_24 (by decide) (fun h24 => ?_) (fun h24 => ?_)
        · refine x_lconst 0 dX6_loadSet_31 rfl ?_
          refine x_last dX6_loadSet_32 (shW hW.2.2.2.2.2.2.1) (by omega) ?_
          refine x_iinc (lv' := [(0, _), (1, _), (2, _)]) dX6_loadSet_33 2 rfl rfl rfl ?_
          refine x_goto (tgt := 2) dX6_loadSet_36 (by decide) ?_
          first
          | (have hb : inX L j t = true := h24
             rw [hs, if_pos hb] at ih
             exact ih)
          | (have hb : ¬ inX L j t = true := h24
             rw [hs, if_neg hb] at ih
             exact ih)
        · refine x_lconst 1 dX6_loadSet_27 rfl ?_
          refine x_goto (tgt := 32) dX6_loadSet_28 (by decide) ?_
          refine x_last dX6_loadSet_32 (shW hW.2.2.2.2.2.2.1) (by omega) ?_
          refine x_iinc (lv' := [(0, _), (1, _), (2, _)]) dX6_loadSet_33 2 rfl rfl rfl ?_
          refine x_goto (tgt := 2) dX6_loadSet_36 (by decide) ?_
          first
          | (have hb : inX L j t = true := h24
             rw [hs, if_pos hb] at ih
             exact ih)
          | (have hb : ¬ inX L j t = true := h24
             rw [hs, if_neg hb] at ih
             exact ih)
    · refine x_iload_n dX6_loadSet_2 2 rfl rfl ?_
      refine x_aload_n dX6_loadSet_3 0 rfl rfl ?_
      refine x_getR dX6_loadSet_4 flX6_54 rfl rfl hW.2.2.1 ?_
      refine x_getI dX6_loadSet_7 flX6_85 (shP0 hW.2.1) rfl ?_
      rw [hn]
      refine x_ic_ge (tgt := 39) dX6_loadSet_10 (by decide) (by omega) (fun h10 => ?_) (fun h10 => ?_)
      · refine x_vret dX6_loadSet_39 rfl ?_
        rw [← hQ]
        exact ⟨rfl, rfl, rfl, rfl⟩
      · exfalso; omega
  refine x_iconst dX6_loadSet_0 ?_
  refine x_istore_n (lv' := [(0, _), (1, _), (2, _)]) dX6_loadSet_1 rfl rfl rfl ?_
  exact loop 0 (by omega)
theorem s_X6_through {a b : Int} (ha : 0 ≤ a ∧ a ≤ 9223372036854775807) (hb : 0 ≤ b ∧ b ≤ 9223372036854775807) : Sp G mtX6_through [ml a, ml b] shX I L R (ql (pu (thX a b) I L R)) := by
  refine Sp.of pnX6_through rfl ?_
  show Rn G mtX6_through _ 0 [(0, ml a), (2, ml b)] [] shX I L R
  generalize hQ : (ql (pu (thX a b) I L R)) = Q
  refine x_lload_n dX6_through_0 1 rfl rfl ?_
  refine x_lconst 1 dX6_through_1 rfl ?_
  refine x_lc_lt (tgt := 16) dX6_through_2 dX6_through_3 (by decide) (by omega) (fun h2 => ?_) (fun h2 => ?_)
  · refine x_ldc2 (1000000000000001) dX6_through_16 lkX6_99 ?_
    refine x_lret dX6_through_19 rfl ?_
    rw [← hQ]
    refine ⟨_, rfl, ?_, rfl, rfl, rfl⟩
    unfold thX
    first | (rw [if_pos (by omega)]) | (rw [if_neg (by omega)])
  · refine x_lload_n dX6_through_6 0 rfl rfl ?_
    refine x_ldc2 (1000000000000001) dX6_through_7 lkX6_99 ?_
    refine x_lload_n dX6_through_10 1 rfl rfl ?_
    refine x_ldiv dX6_through_11 (by omega) (by omega) ?_
    have hdv : rL ((1000000000000001 : Int).tdiv b) := by
      rw [Int.tdiv_eq_ediv_of_nonneg (by omega)]
      have := Int.ediv_nonneg (a := 1000000000000001) (b := b) (by omega) (by omega)
      have := Int.ediv_le_self (a := 1000000000000001) b (by omega)
      omega
    refine x_lc_le (tgt := 20) dX6_through_12 dX6_through_13 (by decide) (by omega) (fun h12 => ?_) (fun h12 => ?_)
    · refine x_lload_n dX6_through_20 0 rfl rfl ?_
      refine x_lload_n dX6_through_21 1 rfl rfl ?_
      refine x_lmul dX6_through_22 ?_
      refine x_lret dX6_through_23 rfl ?_
      rw [← hQ]
      refine ⟨_, rfl, ?_, rfl, rfl, rfl⟩
      unfold thX
      first | (rw [if_pos (by omega)]) | (rw [if_neg (by omega)])
    · refine x_ldc2 (1000000000000001) dX6_through_16 lkX6_99 ?_
      refine x_lret dX6_through_19 rfl ?_
      rw [← hQ]
      refine ⟨_, rfl, ?_, rfl, rfl, rfl⟩
      unfold thX
      first | (rw [if_pos (by omega)]) | (rw [if_neg (by omega)])
theorem s_X6_stoodOn {x d : Int} (hd : rI d) : Sp G mtX6_stoodOn [mr 19, ml x, mi d] shX I L R (ql (pu (soX x (L 19 16) d) I L R)) := by
  refine Sp.of pnX6_stoodOn rfl ?_
  show Rn G mtX6_stoodOn _ 0 [(0, mr 19), (1, ml x), (3, mi d)] [] shX I L R
  generalize hQ : (ql (pu (soX x (L 19 16) d) I L R)) = Q
  refine x_lload_n dX6_stoodOn_0 1 rfl rfl ?_
  refine x_aload_n dX6_stoodOn_1 0 rfl rfl ?_
  refine x_getL dX6_stoodOn_2 flX6_104 rfl rfl ?_
  refine x_land dX6_stoodOn_5 ?_
  refine x_lstore (lv' := [(0, _), (1, _), (3, _), (4, _)]) dX6_stoodOn_6 rfl rfl ?_
  refine x_lload_n dX6_stoodOn_8 1 rfl rfl ?_
  refine x_aload_n dX6_stoodOn_9 0 rfl rfl ?_
  refine x_getL dX6_stoodOn_10 flX6_104 rfl rfl ?_
  refine x_ldc2 (-1) dX6_stoodOn_13 lkX6_124 ?_
  refine x_lxor dX6_stoodOn_16 ?_
  refine x_land dX6_stoodOn_17 ?_
  refine x_lstore (lv' := [(0, _), (1, _), (3, _), (4, _), (6, _)]) dX6_stoodOn_18 rfl rfl ?_
  refine x_iload_n dX6_stoodOn_20 2 rfl rfl ?_
  refine x_if_ne (tgt := 32) dX6_stoodOn_21 (by decide) (by first | omega | exact z_landl_r _ _ | exact ⟨z_landl_r _ _, by omega⟩) (fun h21 => ?_) (fun h21 => ?_)
  · refine x_lload dX6_stoodOn_32 4 rfl ?_
    refine x_lconst 0 dX6_stoodOn_34 rfl ?_
    refine x_lc_ne (tgt := 44) dX6_stoodOn_35 dX6_stoodOn_36 (by decide) (by first | omega | exact z_landl_r _ _ | exact ⟨z_landl_r _ _, by omega⟩) (fun h35 => ?_) (fun h35 => ?_)
    · refine x_lload dX6_stoodOn_44 3 rfl ?_
      refine x_lconst 1 dX6_stoodOn_46 rfl ?_
      refine x_lor dX6_stoodOn_47 ?_
      refine x_lret dX6_stoodOn_48 rfl ?_
      rw [← hQ]
      refine ⟨_, rfl, ?_, rfl, rfl, rfl⟩
      unfold soX
      first | (rw [if_pos (by assumption)]; done) | (rw [if_neg (by omega), if_pos (by assumption)]; done) | (rw [if_neg (by omega), if_neg (by assumption)])
    · refine x_lload dX6_stoodOn_39 3 rfl ?_
      refine x_goto (tgt := 48) dX6_stoodOn_41 (by decide) ?_
      refine x_lret dX6_stoodOn_48 rfl ?_
      rw [← hQ]
      refine ⟨_, rfl, ?_, rfl, rfl, rfl⟩
      unfold soX
      first | (rw [if_pos (by assumption)]; done) | (rw [if_neg (by omega), if_pos (by assumption)]; done) | (rw [if_neg (by omega), if_neg (by assumption)])
  · refine x_lload dX6_stoodOn_24 3 rfl ?_
    refine x_lload dX6_stoodOn_26 4 rfl ?_
    refine x_iconst dX6_stoodOn_28 ?_
    refine x_lshl dX6_stoodOn_29 ?_
    refine x_lor dX6_stoodOn_30 ?_
    refine x_lret dX6_stoodOn_31 rfl ?_
    rw [← hQ]
    refine ⟨_, rfl, ?_, rfl, rfl, rfl⟩
    unfold soX
    first | (rw [if_pos (by assumption)]; done) | (rw [if_neg (by omega), if_pos (by assumption)]; done) | (rw [if_neg (by omega), if_neg (by assumption)])
end

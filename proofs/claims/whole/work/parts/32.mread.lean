/-! THE REFERENCE READS A HOUSE, part two. -/
theorem risP_r (B : Nat → Int) (R : Int) : ∀ (n p : Nat) (s l : Int), p ≤ (risP B R n p s l).2.1 ∧ (risP B R n p s l).2.1 ≤ p + n
  | 0, p, s, l => by unfold risP; simp
  | n + 1, p, s, l => by
    unfold risP
    split
    · split
      · have := risP_r B R n (p + 1) (z_or s (z_shl 1 (B p - 48))) (B p - 48 + 1)
        omega
      · simp
    · simp
theorem dorP_r (B : Nat → Int) (R : Int) (nd p : Nat) : p ≤ (dorP B R nd p).2.1 ∧ (dorP B R nd p).2.1 ≤ p + 4 := by
  unfold dorP
  repeat' split
  all_goals simp
theorem wlkP_r (B : Nat → Int) (R : Int) (nd p : Nat) : p ≤ (wlkP B R nd p).2.1 ∧ (wlkP B R nd p).2.1 ≤ p + 11 := by
  have h := risP_r B R 8 (p + 3) 0 0
  unfold wlkP
  repeat' split
  all_goals (try simp)
  all_goals omega
theorem mnP_r (B : Nat → Int) (p : Nat) : p ≤ mnP B p ∧ mnP B p ≤ p + 2 := by
  unfold mnP
  repeat' split
  all_goals omega
theorem itmP_r (B : Nat → Int) (R : Int) (σ : HS) : σ.1 ≤ (itmP B R σ).2.1 ∧ (itmP B R σ).2.1 ≤ σ.1 + 11 := by
  have h1 := dorP_r B R σ.2.1.length σ.1
  have h2 := wlkP_r B R σ.2.2.1.length σ.1
  have h3 := mnP_r B (σ.1 + 1)
  unfold itmP
  repeat' split
  all_goals (simp only; omega)
theorem skF_r (B : Nat → Int) {n : Int} (hz : ∀ i : Nat, n ≤ i → B i = 0) : ∀ k p : Nat, p ≤ skF B k p ∧ (skF B k p = p ∨ (skF B k p : Int) ≤ n)
  | 0, p => by unfold skF; omega
  | k + 1, p => by
    unfold skF
    split
    · rename_i h
      have := skF_r B hz k (p + 1)
      have h2 : (p : Int) < n := by
        rcases Int.lt_or_le p n with q | q
        · exact q
        · have := hz p q; omega
      omega
    · omega
def HR (I0 : MI) (R : Int) (σ : HS) (J : MI) : Prop := RE I0 J ∧ J 0 19 = R ∧ J 0 17 = (σ.1 : Int) ∧ J 0 20 = (σ.2.1.length : Int) ∧ J 0 21 = (σ.2.2.1.length : Int) ∧ J 0 22 = σ.2.2.2 ∧ (∀ (i : Nat) q, σ.2.1[i]? = some q → J 9 (3 * (i : Int)) = q.1 ∧ J 9 (3 * (i : Int) + 1) = q.2.1 ∧ J 9 (3 * (i : Int) + 2) = q.2.2) ∧ (∀ (i : Nat) q, σ.2.2.1[i]? = some q → J 10 (2 * (i : Int)) = q.1 ∧ J 10 (2 * (i : Int) + 1) = q.2) ∧ σ.2.1.length ≤ 8 ∧ σ.2.2.1.length ≤ 3
section
variable {G : GT} {sh : MS} {I L : MI} {R : MR} {κ : MI} {t : Int} {B : Nat → Int}

set_option maxHeartbeats 2000000 in
theorem s_X8_readsWalker {R0 : Int} {p nw : Nat} (hT : RT t B I) (hp : I 0 17 = (p : Int)) (hp2 : p ≤ 900) (hn : I 0 21 = (nw : Int)) (hn2 : nw ≤ 3) (hR : I 0 19 = R0) (hR2 : 1 ≤ R0 ∧ R0 ≤ 6) : Sp G mtX8_readsWalker [mr 0, mi t] shM I L rM (qi (fun z I' L' R' => z = b01 ((wlkP B R0 nw p).1 = true) ∧ I' 0 17 = ((wlkP B R0 nw p).2.1 : Int) ∧ (∀ c j, ¬ (c = 10 ∧ 2 * (nw : Int) ≤ j) → ¬ (c = 0 ∧ (j = 17 ∨ j = 18 ∨ j = 21)) → I' c j = I c j) ∧ I' 0 21 = (if (wlkP B R0 nw p).1 then (nw : Int) + 1 else nw) ∧ ((wlkP B R0 nw p).1 = true → I' 10 (2 * (nw : Int)) = (wlkP B R0 nw p).2.2.1 ∧ I' 10 (2 * (nw : Int) + 1) = (wlkP B R0 nw p).2.2.2) ∧ L = L' ∧ R' = rM)) := by
  refine Sp.of pnX8_readsWalker rfl ?_
  show Rn G mtX8_readsWalker _ 0 [(0, mr 0), (1, mi t)] [] shM I L rM
  generalize hQ : (qi (fun z I' L' R' => z = b01 ((wlkP B R0 nw p).1 = true) ∧ I' 0 17 = ((wlkP B R0 nw p).2.1 : Int) ∧ (∀ c j, ¬ (c = 10 ∧ 2 * (nw : Int) ≤ j) → ¬ (c = 0 ∧ (j = 17 ∨ j = 18 ∨ j = 21)) → I' c j = I c j) ∧ I' 0 21 = (if (wlkP B R0 nw p).1 then (nw : Int) + 1 else nw) ∧ ((wlkP B R0 nw p).1 = true → I' 10 (2 * (nw : Int)) = (wlkP B R0 nw p).2.2.1 ∧ I' 10 (2 * (nw : Int) + 1) = (wlkP B R0 nw p).2.2.2) ∧ L = L' ∧ R' = rM)) = Q
  have r1 := hT.r (p + 1)
  have r3 := hT.r (p + 3)
  have hsR := shl_R hR2
  have fin : ∀ (ok : Bool) (q : Nat) (set x : Int) (J : MI), wlkP B R0 nw p = (ok, q, x, set) → nw < 3 → RS I J → J 0 17 = (q : Int) → rI set → (ok = decide (0 < set)) → Rn G mtX8_readsWalker Q 133 [(0, mr 0), (1, mi t), (2, mi x), (3, mi set)] [] shM J L rM := by
    intro ok q set x J hw hnw hJ hq hset hok
    have j21 : J 0 21 = (nw : Int) := by rw [hJ 0 21 (by omega), hn]
    have fin2 : ∀ J2 : MI, J2 0 17 = (q : Int) → (∀ c j, ¬ (c = 10 ∧ 2 * (nw : Int) ≤ j) → ¬ (c = 0 ∧ (j = 17 ∨ j = 18 ∨ j = 21)) → J2 c j = I c j) → J2 0 21 = (if ok then (nw : Int) + 1 else nw) → J2 10 (2 * (nw : Int)) = x → J2 10 (2 * (nw : Int) + 1) = set → ∀ z : Int, z = b01 (ok = true) → Q (some (mi z)) J2 L rM := by
      intro J2 g1 g2 g3 g4 g5 z hz
      rw [← hQ, hw]
      exact ⟨_, rfl, hz, g1, g2, g3, fun _ => ⟨g4, g5⟩, rfl, rfl⟩
    refine x_aload_n dX8_readsWalker_133 0 rfl rfl ?_
    refine x_getR dX8_readsWalker_134 flX8_38 rfl rfl rfl ?_
    refine x_iconst dX8_readsWalker_137 ?_
    refine x_aload_n dX8_readsWalker_138 0 rfl rfl ?_
    refine x_getI dX8_readsWalker_139 flX8_158 rfl rfl ?_
    rw [j21]
    refine x_imul dX8_readsWalker_142 ?_
    refine x_iload_n dX8_readsWalker_143 2 rfl rfl ?_
    refine x_iast dX8_readsWalker_144 rfl (by omega) ?_
    refine x_aload_n dX8_readsWalker_145 0 rfl rfl ?_
    refine x_getR dX8_readsWalker_146 flX8_38 rfl rfl rfl ?_
    refine x_iconst dX8_readsWalker_149 ?_
    refine x_aload_n dX8_readsWalker_150 0 rfl rfl ?_
    refine y_getI dX8_readsWalker_151 flX8_158 rfl rfl (m_up_ne (by decide) _) ?_
    rw [j21]
    refine x_imul dX8_readsWalker_154 ?_
    refine x_iconst dX8_readsWalker_155 ?_
    refine x_iadd dX8_readsWalker_156 ?_
    refine x_iload_n dX8_readsWalker_157 3 rfl rfl ?_
    refine x_iast dX8_readsWalker_158 rfl (by omega) ?_
    refine x_aload_n dX8_readsWalker_159 0 rfl rfl ?_
    refine x_dup dX8_readsWalker_160 rfl ?_
    refine y_getI dX8_readsWalker_161 flX8_158 rfl rfl (((m_up_ne (by decide) _).trans (m_up_ne (by decide) _))) ?_
    rw [j21]
    refine x_iload_n dX8_readsWalker_164 3 rfl rfl ?_
    refine x_if_le (tgt := 172) dX8_readsWalker_165 (by decide) (by omega) (fun h165 => ?_) (fun h165 => ?_)
    · refine x_iconst dX8_readsWalker_172 ?_
      refine x_iadd dX8_readsWalker_173 ?_
      refine x_putI dX8_readsWalker_174 flX8_158 rfl rfl rfl ?_
      refine x_iload_n dX8_readsWalker_177 3 rfl rfl ?_
      refine x_if_le (tgt := 185) dX8_readsWalker_178 (by decide) (by omega) (fun h178 => ?_) (fun h178 => ?_)
      · refine x_iconst dX8_readsWalker_185 ?_
        refine x_zret dX8_readsWalker_186 rfl (by omega) ?_
        refine fin2 _ ?_ (fun c j q1 q2 => ?_) ?_ ?_ ?_ _ ?_
        · rw [m_up_nj (by decide), m_up_ne (by decide), m_up_ne (by decide)]; exact hq
        · unfold m_up; rw [if_neg (by omega), if_neg (by omega), if_neg (by omega)]; exact hJ c j (by omega)
        · rw [m_up_eq]
          first
          | (exfalso; omega)
          | (rw [if_pos (by rw [hok, decide_eq_true_eq]; omega)])
          | (rw [if_neg (by rw [hok, decide_eq_true_eq]; omega), Int.add_zero])
        · rw [m_up_ne (by decide), m_up_nj (by omega), m_up_eq]
        · rw [m_up_ne (by decide), m_up_eq]
        · first
          | exact b01_t (by rw [hok, decide_eq_true_eq]; omega)
          | exact b01_f (by rw [hok, decide_eq_true_eq]; omega)
      · refine x_iconst dX8_readsWalker_181 ?_
        refine x_goto (tgt := 186) dX8_readsWalker_182 (by decide) ?_
        refine x_zret dX8_readsWalker_186 rfl (by omega) ?_
        refine fin2 _ ?_ (fun c j q1 q2 => ?_) ?_ ?_ ?_ _ ?_
        · rw [m_up_nj (by decide), m_up_ne (by decide), m_up_ne (by decide)]; exact hq
        · unfold m_up; rw [if_neg (by omega), if_neg (by omega), if_neg (by omega)]; exact hJ c j (by omega)
        · rw [m_up_eq]
          first
          | (exfalso; omega)
          | (rw [if_pos (by rw [hok, decide_eq_true_eq]; omega)])
          | (rw [if_neg (by rw [hok, decide_eq_true_eq]; omega), Int.add_zero])
        · rw [m_up_ne (by decide), m_up_nj (by omega), m_up_eq]
        · rw [m_up_ne (by decide), m_up_eq]
        · first
          | exact b01_t (by rw [hok, decide_eq_true_eq]; omega)
          | exact b01_f (by rw [hok, decide_eq_true_eq]; omega)
    · refine x_iconst dX8_readsWalker_168 ?_
      refine x_goto (tgt := 173) dX8_readsWalker_169 (by decide) ?_
      refine x_iadd dX8_readsWalker_173 ?_
      refine x_putI dX8_readsWalker_174 flX8_158 rfl rfl rfl ?_
      refine x_iload_n dX8_readsWalker_177 3 rfl rfl ?_
      refine x_if_le (tgt := 185) dX8_readsWalker_178 (by decide) (by omega) (fun h178 => ?_) (fun h178 => ?_)
      · refine x_iconst dX8_readsWalker_185 ?_
        refine x_zret dX8_readsWalker_186 rfl (by omega) ?_
        refine fin2 _ ?_ (fun c j q1 q2 => ?_) ?_ ?_ ?_ _ ?_
        · rw [m_up_nj (by decide), m_up_ne (by decide), m_up_ne (by decide)]; exact hq
        · unfold m_up; rw [if_neg (by omega), if_neg (by omega), if_neg (by omega)]; exact hJ c j (by omega)
        · rw [m_up_eq]
          first
          | (exfalso; omega)
          | (rw [if_pos (by rw [hok, decide_eq_true_eq]; omega)])
          | (rw [if_neg (by rw [hok, decide_eq_true_eq]; omega), Int.add_zero])
        · rw [m_up_ne (by decide), m_up_nj (by omega), m_up_eq]
        · rw [m_up_ne (by decide), m_up_eq]
        · first
          | exact b01_t (by rw [hok, decide_eq_true_eq]; omega)
          | exact b01_f (by rw [hok, decide_eq_true_eq]; omega)
      · refine x_iconst dX8_readsWalker_181 ?_
        refine x_goto (tgt := 186) dX8_readsWalker_182 (by decide) ?_
        refine x_zret dX8_readsWalker_186 rfl (by omega) ?_
        refine fin2 _ ?_ (fun c j q1 q2 => ?_) ?_ ?_ ?_ _ ?_
        · rw [m_up_nj (by decide), m_up_ne (by decide), m_up_ne (by decide)]; exact hq
        · unfold m_up; rw [if_neg (by omega), if_neg (by omega), if_neg (by omega)]; exact hJ c j (by omega)
        · rw [m_up_eq]
          first
          | (exfalso; omega)
          | (rw [if_pos (by rw [hok, decide_eq_true_eq]; omega)])
          | (rw [if_neg (by rw [hok, decide_eq_true_eq]; omega), Int.add_zero])
        · rw [m_up_ne (by decide), m_up_nj (by omega), m_up_eq]
        · rw [m_up_ne (by decide), m_up_eq]
        · first
          | exact b01_t (by rw [hok, decide_eq_true_eq]; omega)
          | exact b01_f (by rw [hok, decide_eq_true_eq]; omega)
  have rl : ∀ (n q : Nat) (set low x : Int) (J : MI), x = B (p + 1) - 48 → nw < 3 → ¬ fgQ B 1 2 (p + 1) = false → B (p + 2) = 58 → ¬ B (p + 3) = 42 → risP B R0 8 (p + 3) 0 0 = risP B R0 n q set low → R0 - low < (n : Int) → 0 ≤ low → low ≤ R0 → q ≤ 990 → q + n ≤ 950 → RS I J → J 0 17 = (q : Int) → rI set → Rn G mtX8_readsWalker Q 76 [(0, mr 0), (1, mi t), (2, mi x), (3, mi set), (4, mi low)] [] shM J L rM := by
    intro n
    induction n with
    | zero => intro q set low x J _ _ _ _ _ _ h1 h2 h3; exfalso; omega
    | succ n ih =>
      intro q set low x J hx hnw hff h58 h42 hr h1 h0 h2 h3 h3b hJ hq hset
      have hTJ : RT t B J := hJ.rt hT
      have hbq := hTJ.r q
      have dq : dgt B q = true ↔ 48 ≤ B q ∧ B q ≤ 57 := by unfold dgt; rw [decide_eq_true_eq]
      have j19 : J 0 19 = R0 := by rw [hJ 0 19 (by omega), hR]
      unfold risP at hr
      have hw : ∀ ok q2 set2, risP B R0 8 (p + 3) 0 0 = (ok, q2, set2) → wlkP B R0 nw p = (ok && decide (0 < set2), q2, x, set2) := by
        intro ok q2 set2 h
        unfold wlkP
        rw [if_neg (by omega), if_neg hff, if_neg (by omega), if_neg h42, h, hx]
      refine x_aload_n dX8_readsWalker_76 0 rfl rfl ?_
      refine x_iload_n dX8_readsWalker_77 1 rfl rfl ?_
      refine x_aload_n dX8_readsWalker_78 0 rfl rfl ?_
      refine x_getI dX8_readsWalker_79 flX8_136 rfl rfl ?_
      rw [hq]
      refine x_callVi (as := [_, _]) dX8_readsWalker_82 lvX8_139 rfl rfl rfl rfl rfl rfl rfl ⟨rfl, rfl⟩ (s_X8_byteAt hTJ.1 hTJ.2.1 (by omega)) (fun z82 I82 L82 R82 hq82 => ?_)
      obtain ⟨rfl, rfl, rfl, rfl⟩ := hq82
      rw [hTJ.2.2 q]
      refine x_bipush dX8_readsWalker_85 (by decide) ?_
      refine x_bipush dX8_readsWalker_87 (by decide) ?_
      refine x_callSi (as := [_, _, _]) dX8_readsWalker_89 lvX8_105 rfl rfl rfl rfl ⟨rfl, rfl⟩ (s_X8_in (by omega) (by omega) (by omega)) (fun z89 I89 L89 R89 hq89 => ?_)
      obtain ⟨rfl, rfl, rfl, rfl⟩ := hq89
      refine y_ifb_eq (tgt := 133) dX8_readsWalker_92 (by decide) (fun h92 => ?_) (fun h92 => ?_)
      · refine x_top (lv' := [(0, _), (1, _), (2, _), (3, _)]) 4 rfl ?_
        have hd : ¬ dgt B q = true := fun h => absurd (dq.mp h) (by assumption)
        rw [if_neg hd] at hr
        exact fin _ q set x J (hw _ _ _ hr) hnw hJ hq hset (by rw [Bool.true_and])
      · refine x_aload_n dX8_readsWalker_95 0 rfl rfl ?_
        refine x_iload_n dX8_readsWalker_96 1 rfl rfl ?_
        refine x_iload dX8_readsWalker_97 4 rfl ?_
        refine x_aload_n dX8_readsWalker_99 0 rfl rfl ?_
        refine x_getI dX8_readsWalker_100 flX8_148 rfl rfl ?_
        rw [j19]
        refine x_iconst dX8_readsWalker_103 ?_
        refine x_isub dX8_readsWalker_104 ?_
        refine x_callVi (as := [_, _, _]) dX8_readsWalker_105 lvX8_151 rfl rfl rfl rfl rfl rfl rfl ⟨rfl, rfl⟩ (s_X8_figure (p := q) (B := B) hTJ hq (by omega) (by omega) (by omega)) (fun z105 I105 L105 R105 hq105 => ?_)
        obtain ⟨rfl, hI105, rfl, rfl⟩ := hq105
        obtain ⟨a105, b105, c105⟩ := fr_fig hI105
        refine y_ifb_ne (tgt := 113) dX8_readsWalker_108 (by decide) (fun h108 => ?_) (fun h108 => ?_)
        · have hd : dgt B q = true := dq.mpr (by assumption)
          have hf : fgQ B low (R0 - 1) q = true := by assumption
          have f2 := fgQ_r hf
          rw [if_pos hf] at a105
          refine x_iload_n dX8_readsWalker_113 3 rfl rfl ?_
          refine x_iconst dX8_readsWalker_114 ?_
          refine x_aload_n dX8_readsWalker_115 0 rfl rfl ?_
          refine x_getI dX8_readsWalker_116 flX8_142 rfl rfl ?_
          rw [b105]
          refine x_ishl dX8_readsWalker_119 ?_
          refine x_ior dX8_readsWalker_120 ?_
          refine x_istore_n (lv' := [(0, _), (1, _), (2, _), (3, _), (4, _)]) dX8_readsWalker_121 rfl rfl rfl ?_
          refine x_aload_n dX8_readsWalker_122 0 rfl rfl ?_
          refine x_getI dX8_readsWalker_123 flX8_142 rfl rfl ?_
          rw [b105]
          refine x_iconst dX8_readsWalker_126 ?_
          refine x_iadd dX8_readsWalker_127 ?_
          refine x_istore (lv' := [(0, _), (1, _), (2, _), (3, _), (4, _)]) dX8_readsWalker_128 rfl rfl ?_
          refine x_goto (tgt := 76) dX8_readsWalker_130 (by decide) ?_
          have hd : dgt B q = true := dq.mpr (by assumption)
          rw [if_pos hd, if_pos hf] at hr
          exact ih (q + 1) _ _ x _ hx hnw hff h58 h42 hr (by omega) (by omega) (by omega) (by omega) (by omega) (hJ.tr c105) a105 (z_or_r _ _)
        · refine x_iconst dX8_readsWalker_111 ?_
          refine x_zret dX8_readsWalker_112 rfl (by omega) ?_
          have hd : dgt B q = true := dq.mpr (by assumption)
          have hf : ¬ fgQ B low (R0 - 1) q = true := by assumption
          rw [if_pos hd, if_neg hf] at hr
          rw [if_neg hf] at a105
          have k105 := hJ.tr c105
          rw [← hQ, hw _ _ _ hr]
          refine ⟨_, rfl, b01_f (by simp), a105, fun c j q1 q2 => k105 c j (by omega), ?_, fun q => by simp at q, rfl, rfl⟩
          rw [k105 0 21 (by omega)]
          exact hn
  refine x_aload_n dX8_readsWalker_0 0 rfl rfl ?_
  refine x_getI dX8_readsWalker_1 flX8_158 rfl rfl ?_
  refine x_iconst dX8_readsWalker_4 ?_
  refine x_ic_ne (tgt := 10) dX8_readsWalker_5 (by decide) (by omega) (fun h5 => ?_) (fun h5 => ?_)
  · refine x_aload_n dX8_readsWalker_10 0 rfl rfl ?_
    refine x_dup dX8_readsWalker_11 rfl ?_
    refine x_getI dX8_readsWalker_12 flX8_136 rfl rfl ?_
    rw [hp]
    refine x_iconst dX8_readsWalker_15 ?_
    refine x_iadd dX8_readsWalker_16 ?_
    refine x_putI dX8_readsWalker_17 flX8_136 rfl rfl rfl ?_
    refine x_aload_n dX8_readsWalker_20 0 rfl rfl ?_
    refine x_iload_n dX8_readsWalker_21 1 rfl rfl ?_
    refine x_iconst dX8_readsWalker_22 ?_
    refine x_iconst dX8_readsWalker_23 ?_
    refine x_callVi (as := [_, _, _]) dX8_readsWalker_24 lvX8_151 rfl rfl rfl rfl rfl rfl rfl ⟨rfl, rfl⟩ (s_X8_figure (p := p + 1) (B := B) (hT.up (by decide) (by decide) _ _) m_up_eq (by omega) (by omega) (by omega)) (fun z24 I24 L24 R24 hq24 => ?_)
    obtain ⟨rfl, hI24, rfl, rfl⟩ := hq24
    obtain ⟨a24, b24, c24⟩ := fr_fig hI24
    refine y_ifb_ne (tgt := 32) dX8_readsWalker_27 (by decide) (fun h27 => ?_) (fun h27 => ?_)
    · rw [if_pos (by assumption)] at a24
      have f1 := fgQ_r (show fgQ B 1 2 (p + 1) = true by assumption)
      have hT30 : RT t B I24 := c24.rt (hT.up (by decide) (by decide) _ _)
      have k30 : RS I I24 := ((RS.rf I).u17 _).tr c24
      have ff : ¬ fgQ B 1 2 (p + 1) = false := by rw [Bool.not_eq_false]; assumption
      refine x_aload_n dX8_readsWalker_32 0 rfl rfl ?_
      refine x_getI dX8_readsWalker_33 flX8_142 rfl rfl ?_
      rw [b24]
      refine x_istore_n (lv' := [(0, _), (1, _), (2, _)]) dX8_readsWalker_36 rfl rfl rfl ?_
      refine x_aload_n dX8_readsWalker_37 0 rfl rfl ?_
      refine x_iload_n dX8_readsWalker_38 1 rfl rfl ?_
      refine x_bipush dX8_readsWalker_39 (by decide) ?_
      refine x_callVi (as := [_, _]) dX8_readsWalker_41 lvX8_154 rfl rfl rfl rfl rfl rfl rfl ⟨rfl, rfl⟩ (s_X8_sign (p := p + 2) (B := B) hT30 a24 (by omega) (by omega)) (fun z41 I41 L41 R41 hq41 => ?_)
      obtain ⟨rfl, hI41, rfl, rfl⟩ := hq41
      obtain ⟨a41, c41⟩ := fr_sig hI41
      refine y_ifb_ne (tgt := 49) dX8_readsWalker_44 (by decide) (fun h44 => ?_) (fun h44 => ?_)
      · rw [sgP_t (by assumption)] at a41
        have hT41 : RT t B I41 := c41.rt hT30
        have k41 := k30.tr c41
        refine x_iconst dX8_readsWalker_49 ?_
        refine x_istore_n (lv' := [(0, _), (1, _), (2, _), (3, _)]) dX8_readsWalker_50 rfl rfl rfl ?_
        refine x_aload_n dX8_readsWalker_51 0 rfl rfl ?_
        refine x_iload_n dX8_readsWalker_52 1 rfl rfl ?_
        refine x_bipush dX8_readsWalker_53 (by decide) ?_
        refine x_callVi (as := [_, _]) dX8_readsWalker_55 lvX8_154 rfl rfl rfl rfl rfl rfl rfl ⟨rfl, rfl⟩ (s_X8_sign (p := p + 3) (B := B) hT41 a41 (by omega) (by omega)) (fun z55 I55 L55 R55 hq55 => ?_)
        obtain ⟨rfl, hI55, rfl, rfl⟩ := hq55
        obtain ⟨a55, c55⟩ := fr_sig hI55
        refine y_ifb_eq (tgt := 73) dX8_readsWalker_58 (by decide) (fun h58 => ?_) (fun h58 => ?_)
        · refine x_iconst dX8_readsWalker_73 ?_
          refine x_istore (lv' := [(0, _), (1, _), (2, _), (3, _), (4, _)]) dX8_readsWalker_74 rfl rfl ?_
          have e42 : ¬ B (p + 3) = 42 := by assumption
          rw [sgP_f e42] at a55
          exact rl 8 (p + 3) 0 0 _ I55 rfl (by omega) ff (by assumption) e42 rfl (by omega) (by omega) (by omega) (by omega) (by omega) (k41.tr c55) a55 (by omega)
        · rw [sgP_t (by assumption)] at a55
          have k55 := k41.tr c55
          refine x_iconst dX8_readsWalker_61 ?_
          refine x_aload_n dX8_readsWalker_62 0 rfl rfl ?_
          refine x_getI dX8_readsWalker_63 flX8_148 rfl rfl ?_
          rw [show I55 0 19 = R0 by rw [k55 0 19 (by omega), hR]]
          refine x_ishl dX8_readsWalker_66 ?_
          refine x_iconst dX8_readsWalker_67 ?_
          refine x_isub dX8_readsWalker_68 ?_
          refine x_istore_n (lv' := [(0, _), (1, _), (2, _), (3, _)]) dX8_readsWalker_69 rfl rfl rfl ?_
          refine x_goto (tgt := 133) dX8_readsWalker_70 (by decide) ?_
          have hw : wlkP B R0 nw p = (true, p + 4, B (p + 1) - 48, z_shl 1 R0 - 1) := by
            unfold wlkP
            rw [if_neg (by omega), if_neg ff, if_neg (by omega), if_pos (by assumption)]
          exact fin true (p + 4) _ _ _ hw (by omega) k55 a55 (by omega) (by rw [decide_eq_true (by omega)])
      · refine x_iconst dX8_readsWalker_47 ?_
        refine x_zret dX8_readsWalker_48 rfl (by omega) ?_
        rw [sgP_f (by assumption)] at a41
        have k41 := k30.tr c41
        rw [← hQ]
        have hd : wlkP B R0 nw p = (false, p + 2, 0, 0) := by
          unfold wlkP
          rw [if_neg (by omega), if_neg ff, if_pos (by assumption)]
        rw [hd]
        refine ⟨_, rfl, b01_f (by simp), a41, fun c j q1 q2 => k41 c j (by omega), by rw [k41 0 21 (by omega)]; exact hn, fun q => by simp at q, rfl, rfl⟩
    · refine x_iconst dX8_readsWalker_30 ?_
      refine x_zret dX8_readsWalker_31 rfl (by omega) ?_
      rw [← hQ]
      have hd : wlkP B R0 nw p = (false, p + 1, 0, 0) := by
        unfold wlkP
        rw [if_neg (by omega), if_pos (by rw [← Bool.not_eq_true]; assumption)]
      rw [hd]
      rw [if_neg (by assumption)] at a24
      refine ⟨_, rfl, b01_f (by simp), a24, fun c j q1 q2 => by rw [c24 c j (by omega), m_up]; rw [if_neg (by omega)], by rw [c24 0 21 (by omega), m_up_nj (by decide)]; exact hn, fun q => by simp at q, rfl, rfl⟩
  · refine x_iconst dX8_readsWalker_8 ?_
    refine x_zret dX8_readsWalker_9 rfl (by omega) ?_
    rw [← hQ]
    have hd : wlkP B R0 nw p = (false, p, 0, 0) := by
      unfold wlkP
      rw [if_pos (by omega)]
    rw [hd]
    refine ⟨_, rfl, b01_f (by simp), hp, fun c j q1 q2 => rfl, hn, fun q => by simp at q, rfl, rfl⟩
end

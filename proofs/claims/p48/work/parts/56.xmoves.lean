/-! THE CLASS: the Moves of a state. -/
abbrev MVL : Type := List (Int × Int)
def tdX (I : MI) (h : Nat) (w : Nat) : Int := if I (h + 3) (w : Int) = 2 then I h 0 else 0
def gdX (I : MI) (p h : Nat) (t : Int) (w : Nat) (r d : Int) : Bool := decide (0 ≤ bhX I h d r) && (opX I p d t && mgX I p (w : Int) (bhX I h d r) (t + 1))
def dmL (I : MI) (p h : Nat) (t : Int) (w : Nat) (r : Int) : Nat → MVL
  | 0 => []
  | d + 1 => dmL I p h t w r d ++ if gdX I p h t w r (d : Int) then [((bhX I h (d : Int) r + tdX I h w) * I (p + 6) (w : Int), z_shl 1 (d : Int))] else []
def stL (I : MI) (p : Nat) (t : Int) (w : Nat) (r : Int) : MVL := if mgX I p (w : Int) r (t + 1) then [(r * I (p + 6) (w : Int), 0)] else []
def mvL (I : MI) (p h : Nat) (t : Int) (w s : Nat) : MVL := stL I p t w (rmX I h (s : Int)) ++ if I h 0 ≤ (s : Int) then [] else dmL I p h t w (rmX I h (s : Int)) (I h 1).toNat
/-- the doors lie between rooms -/
def okD (I : MI) (h : Nat) : Prop := (0 ≤ I h 1 ∧ I h 1 ≤ 8) ∧ ∀ d : Nat, (d : Int) < I h 1 → (0 ≤ I (h + 1) (d : Int) ∧ I (h + 1) (d : Int) < I h 0) ∧ 0 ≤ I (h + 2) (d : Int) ∧ I (h + 2) (d : Int) < I h 0
theorem dmL_le (I : MI) (p h : Nat) (t : Int) (w : Nat) (r : Int) (d : Nat) : ∀ e, d ≤ e → (dmL I p h t w r d).length ≤ (dmL I p h t w r e).length := by
  intro e he
  induction e with
  | zero => rw [show d = 0 by omega]; exact Nat.le_refl _
  | succ e ih =>
    by_cases q : d = e + 1
    · rw [q]; exact Nat.le_refl _
    · have h1 := ih (by omega)
      have h2 : dmL I p h t w r (e + 1) = dmL I p h t w r e ++ (if gdX I p h t w r (e : Int) then [((bhX I h (e : Int) r + tdX I h w) * I (p + 6) (w : Int), z_shl 1 (e : Int))] else []) := rfl
      rw [h2, List.length_append]
      omega
def PL (J : MI) (m : Nat) (l : MVL) : Prop := ∀ (i : Nat) q, l[i]? = some q → J 22 ((m + i : Nat) : Int) = q.1 ∧ J 23 ((m + i : Nat) : Int) = q.2
def FMv (I J : MI) (m e : Nat) : Prop := ∀ c i, ¬ ((c = 22 ∨ c = 23) ∧ (m : Int) ≤ i ∧ i < (e : Int)) → J c i = I c i
theorem PL.ad {I J : MI} {m : Nat} {l : MVL} (h : PL J m l) (f : FMv I J m (m + l.length)) (x y : Int) : PL (m_up (m_up J 22 ((m + l.length : Nat) : Int) x) 23 ((m + l.length : Nat) : Int) y) m (l ++ [(x, y)]) ∧ FMv I (m_up (m_up J 22 ((m + l.length : Nat) : Int) x) 23 ((m + l.length : Nat) : Int) y) m (m + (l ++ [(x, y)]).length) := by
  constructor
  · intro i q hq
    rcases snoc_g hq with ⟨c, d⟩ | ⟨rfl, rfl⟩
    · rw [m_up_ne (by decide), m_up_nj (by omega), m_up_nj (by omega), m_up_ne (by decide)]
      exact h i q d
    · rw [m_up_ne (by decide), m_up_eq, m_up_eq]
      exact ⟨rfl, rfl⟩
  · intro c i q
    rw [List.length_append] at q
    have q2 : ¬ ((c = 22 ∨ c = 23) ∧ (m : Int) ≤ i ∧ i < ((m + l.length + 1 : Nat) : Int)) := q
    unfold m_up
    rw [if_neg (by omega), if_neg (by omega)]
    exact f c i (by omega)
section
variable {G : GT} {I L : MI} {R : MR} {p h : Nat}

theorem s_X1_listAbsent {m : Int} (hR : okR R) (hm : 0 ≤ m ∧ m < 84) : Sp G mtX1_listAbsent [mr 20, mi m] shX I L R (qi (fun z I' L' R' => z = m + 1 ∧ I' = m_up (m_up I 22 m 0) 23 m 0 ∧ L = L' ∧ R = R')) := by
  refine Sp.of pnX1_listAbsent rfl ?_
  show Rn G mtX1_listAbsent _ 0 [(0, mr 20), (1, mi m)] [] shX I L R
  generalize hQ : (qi (fun z I' L' R' => z = m + 1 ∧ I' = m_up (m_up I 22 m 0) 23 m 0 ∧ L = L' ∧ R = R')) = Q
  refine x_aload_n dX1_listAbsent_0 0 rfl rfl ?_
  refine x_getR dX1_listAbsent_1 flX1_15 rfl rfl (hR 20 1 22 rfl) ?_
  refine x_iload_n dX1_listAbsent_4 1 rfl rfl ?_
  refine x_iconst dX1_listAbsent_5 ?_
  refine x_iast dX1_listAbsent_6 rfl (by omega) ?_
  refine x_aload_n dX1_listAbsent_7 0 rfl rfl ?_
  refine x_getR dX1_listAbsent_8 flX1_18 rfl rfl (hR 20 2 23 rfl) ?_
  refine x_iload_n dX1_listAbsent_11 1 rfl rfl ?_
  refine x_iconst dX1_listAbsent_12 ?_
  refine x_iast dX1_listAbsent_13 rfl (by omega) ?_
  refine x_iload_n dX1_listAbsent_14 1 rfl rfl ?_
  refine x_iconst dX1_listAbsent_15 ?_
  refine x_iadd dX1_listAbsent_16 ?_
  refine x_iret dX1_listAbsent_17 rfl ?_
  rw [← hQ]
  exact ⟨_, rfl, rfl, rfl, rfl, rfl⟩
set_option maxHeartbeats 1500000 in
theorem s_X1_listState {t : Int} {w s m : Nat} (hR : okR R) (hp : isP R p) (hh : isH R h) (hph : R p 0 = some h) (k : okP I h) (kd : okD I h) (ht : 0 ≤ t ∧ t < 30) (hw : w < 3) (hw2 : (w : Int) < I h 2) (hs : (s : Int) < 2 * I h 0) (hm : m + (mvL I p h t w s).length ≤ 84) : Sp G mtX1_listState [mr 20, mr p, mi t, mi ↑w, mi ↑s, mi ↑m] shX I L R (qi (fun z I' L' R' => z = ((m + (mvL I p h t w s).length : Nat) : Int) ∧ PL I' m (mvL I p h t w s) ∧ FMv I I' m (m + (mvL I p h t w s).length) ∧ L = L' ∧ R = R')) := by
  refine Sp.of pnX1_listState rfl ?_
  show Rn G mtX1_listState _ 0 [(0, mr 20), (1, mr p), (2, mi t), (3, mi ↑w), (4, mi ↑s), (5, mi ↑m)] [] shX I L R
  generalize hQ : (qi (fun z I' L' R' => z = ((m + (mvL I p h t w s).length : Nat) : Int) ∧ PL I' m (mvL I p h t w s) ∧ FMv I I' m (m + (mvL I p h t w s).length) ∧ L = L' ∧ R = R')) = Q
  have hp1 := hp.1
  have hh1 := hh.1
  obtain ⟨k1, k2, k3⟩ := id k
  obtain ⟨kd1, kd2⟩ := id kd
  obtain ⟨r, hr⟩ : ∃ r, r = rmX I h (s : Int) := ⟨_, rfl⟩
  have hrr : 0 ≤ r ∧ r < 6 := by rw [hr]; unfold rmX; split <;> omega
  obtain ⟨ML, hML⟩ : ∃ ML, ML = mvL I p h t w s := ⟨_, rfl⟩
  have hm2 := hm
  rw [← hML] at hm2
  have hML2 := hML
  unfold mvL at hML2
  rw [← hr] at hML2
  have ex : ∀ J, PL J m ML → FMv I J m (m + ML.length) → Q (some (mi ((m + ML.length : Nat) : Int))) J L R := by
    intro J g1 g2
    rw [← hQ, ← hML]
    exact ⟨_, rfl, rfl, g1, g2, rfl, rfl⟩
  have nx : ∀ J (l : MVL), PL J m l → FMv I J m (m + l.length) → l = stL I p t w r → Rn G mtX1_listState Q 58 [(0, mr 20), (1, mr p), (2, mi t), (3, mi (w : Int)), (4, mi (s : Int)), (5, mi (m : Int)), (6, mr h), (7, mi r), (8, mi ((m + l.length : Nat) : Int))] [] shX J L R := by
    intro J l g1 g2 g3
    have je : ∀ c i, c ≠ 22 → c ≠ 23 → J c i = I c i := fun c i q1 q2 => g2 c i (by omega)
    have j0 : J h 0 = I h 0 := je h 0 (by omega) (by omega)
    have j3 : J (h + 3) (w : Int) = I (h + 3) (w : Int) := je _ _ (by omega) (by omega)
    have dl : ∀ d : Nat, d ≤ (I h 1).toNat → ¬ I h 0 ≤ (s : Int) → ∀ J (l : MVL), PL J m l → FMv I J m (m + l.length) → l = stL I p t w r ++ dmL I p h t w r d → Rn G mtX1_listState Q 96 [(0, mr 20), (1, mr p), (2, mi t), (3, mi (w : Int)), (4, mi (s : Int)), (5, mi (m : Int)), (6, mr h), (7, mi r), (8, mi ((m + l.length : Nat) : Int)), (9, mi (tdX I h w)), (10, mi (d : Int))] [] shX J L R := by
      refine lpn _ (fun d hd ih => ?_) ?_
      · intro hns J l g1 g2 g3
        have je : ∀ c i, c ≠ 22 → c ≠ 23 → J c i = I c i := fun c i q1 q2 => g2 c i (by omega)
        have j0 : J h 0 = I h 0 := je h 0 (by omega) (by omega)
        have j1 : J h 1 = I h 1 := je h 1 (by omega) (by omega)
        have jb : bhX J h (d : Int) r = bhX I h (d : Int) r := by unfold bhX; rw [je (h + 1) _ (by omega) (by omega), je (h + 2) _ (by omega) (by omega)]
        have jo : opX J p (d : Int) t = opX I p (d : Int) t := by unfold opX; rw [je (p + 2) _ (by omega) (by omega), je p 2 (by omega) (by omega), je (p + 1) _ (by omega) (by omega)]
        have jm : ∀ o, mgX J p (w : Int) o (t + 1) = mgX I p (w : Int) o (t + 1) := fun o => by unfold mgX; rw [je (p + 4) _ (by omega) (by omega)]
        have j6 : J (p + 6) (w : Int) = I (p + 6) (w : Int) := je _ _ (by omega) (by omega)
        have kd3 := kd2 d (by omega)
        have hbb : -1 ≤ bhX I h (d : Int) r ∧ bhX I h (d : Int) r < 6 := by unfold bhX; split; omega; split <;> omega
        have hj1 : rI (J (h + 1) (d : Int)) := by rw [je (h + 1) _ (by omega) (by omega)]; omega
        have hj2 : rI (J (h + 2) (d : Int)) := by rw [je (h + 2) _ (by omega) (by omega)]; omega
        have no : ¬ gdX I p h t w r (d : Int) = true → dmL I p h t w r (d + 1) = dmL I p h t w r d := fun q => by
          show _ ++ (if gdX I p h t w r (d : Int) then _ else _) = _
          rw [if_neg q, List.append_nil]
        have ye : gdX I p h t w r (d : Int) = true → dmL I p h t w r (d + 1) = dmL I p h t w r d ++ [((bhX I h (d : Int) r + tdX I h w) * I (p + 6) (w : Int), z_shl 1 (d : Int))] := fun q => by
          show _ ++ (if gdX I p h t w r (d : Int) then _ else _) = _
          rw [if_pos q]
        have hlen : gdX I p h t w r (d : Int) = true → m + l.length < 84 := fun q => by
          have h1 := dmL_le I p h t w r (d + 1) (I h 1).toNat (by omega)
          rw [ye q, List.length_append] at h1
          rw [hML2, if_neg hns, List.length_append] at hm2
          rw [g3, List.length_append]
          have h2 : ([((bhX I h (d : Int) r + tdX I h w) * I (p + 6) (w : Int), z_shl 1 (d : Int))] : MVL).length = 1 := rfl
          omega
        refine x_iload dX1_listState_96 10 rfl ?_
        refine x_aload dX1_listState_98 6 rfl ?_
        refine x_getI dX1_listState_100 flX1_60 (shH0 hh) rfl ?_
        rw [j1]
        refine x_ic_ge (tgt := 184) dX1_listState_103 (by decide) (by first | omega | exact z_and_r _ _ | exact z_or_r _ _ | exact z_xor_r _ _) (fun h103 => ?_) (fun h103 => ?_)
        · exfalso; omega
        · refine x_aload dX1_listState_106 6 rfl ?_
          refine x_iload dX1_listState_108 10 rfl ?_
          refine x_iload dX1_listState_110 7 rfl ?_
          refine x_callVi (as := [_, _]) dX1_listState_112 lvX1_63 rfl (shH0 hh) rfl rfl rfl rfl rfl ⟨rfl, rfl⟩ (s_X0_behind hh (by omega) (by omega) hj1 hj2) (fun z112 I112 L112 R112 hq112 => ?_)
          obtain ⟨rfl, rfl, rfl, rfl⟩ := hq112
          rw [jb]
          refine x_istore (lv' := [(0, _), (1, _), (2, _), (3, _), (4, _), (5, _), (6, _), (7, _), (8, _), (9, _), (10, _), (11, _)]) dX1_listState_115 rfl rfl ?_
          refine x_iload dX1_listState_117 11 rfl ?_
          refine x_if_lt (tgt := 178) dX1_listState_119 (by decide) (by first | omega | exact z_and_r _ _ | exact z_or_r _ _ | exact z_xor_r _ _) (fun h119 => ?_) (fun h119 => ?_)
          · refine x_iinc (lv' := [(0, _), (1, _), (2, _), (3, _), (4, _), (5, _), (6, _), (7, _), (8, _), (9, _), (10, _), (11, _)]) dX1_listState_178 10 rfl rfl rfl ?_
            refine x_goto (tgt := 96) dX1_listState_181 (by decide) ?_
            refine x_top (lv' := [(0, _), (1, _), (2, _), (3, _), (4, _), (5, _), (6, _), (7, _), (8, _), (9, _), (10, _)]) 11 rfl ?_
            first
            | (have h142b := h142
               first
               | (have hn : ¬ mgX I p (w : Int) (bhX I h (d : Int) r) (t + 1) = true := h142b
                  exact ih hns J l g1 g2 (by rw [g3, no (by unfold gdX; rw [Bool.and_eq_true, Bool.and_eq_true]; exact fun q => hn q.2.2)]))
               | (have hg : gdX I p h t w r (d : Int) = true := by unfold gdX; rw [Bool.and_eq_true, Bool.and_eq_true, decide_eq_true_eq]; exact ⟨by omega, h129, h142b⟩
                  have hl := hlen hg
                  obtain ⟨u1, u2⟩ := g1.ad g2 ((bhX I h (d : Int) r + tdX I h w) * I (p + 6) (w : Int)) (z_shl 1 (d : Int))
                  have hih := ih hns _ _ u1 u2 (by rw [g3, ye hg, List.append_assoc])
                  rw [List.length_append] at hih
                  exact hih))
            | (have hn : ¬ opX I p (d : Int) t = true := h129
               exact ih hns J l g1 g2 (by rw [g3, no (by unfold gdX; rw [Bool.and_eq_true, Bool.and_eq_true]; exact fun q => hn q.2.1)]))
            | (have hn : bhX I h (d : Int) r < 0 := by omega
               exact ih hns J l g1 g2 (by rw [g3, no (by unfold gdX; rw [Bool.and_eq_true, Bool.and_eq_true, decide_eq_true_eq]; exact fun q => by omega)]))
          · refine x_aload_n dX1_listState_122 1 rfl rfl ?_
            refine x_iload dX1_listState_123 10 rfl ?_
            refine x_iload_n dX1_listState_125 2 rfl rfl ?_
            refine x_callVi (as := [_, _]) dX1_listState_126 lvX1_67 rfl (shP0 hp) rfl rfl rfl rfl rfl ⟨rfl, rfl⟩ (s_X3_opens hp (by omega) (by omega)) (fun z126 I126 L126 R126 hq126 => ?_)
            obtain ⟨rfl, rfl, rfl, rfl⟩ := hq126
            rw [jo]
            refine y_ifb_eq (tgt := 178) dX1_listState_129 (by decide) (fun h129 => ?_) (fun h129 => ?_)
            · refine x_iinc (lv' := [(0, _), (1, _), (2, _), (3, _), (4, _), (5, _), (6, _), (7, _), (8, _), (9, _), (10, _), (11, _)]) dX1_listState_178 10 rfl rfl rfl ?_
              refine x_goto (tgt := 96) dX1_listState_181 (by decide) ?_
              refine x_top (lv' := [(0, _), (1, _), (2, _), (3, _), (4, _), (5, _), (6, _), (7, _), (8, _), (9, _), (10, _)]) 11 rfl ?_
              first
              | (have h142b := h142
                 first
                 | (have hn : ¬ mgX I p (w : Int) (bhX I h (d : Int) r) (t + 1) = true := h142b
                    exact ih hns J l g1 g2 (by rw [g3, no (by unfold gdX; rw [Bool.and_eq_true, Bool.and_eq_true]; exact fun q => hn q.2.2)]))
                 | (have hg : gdX I p h t w r (d : Int) = true := by unfold gdX; rw [Bool.and_eq_true, Bool.and_eq_true, decide_eq_true_eq]; exact ⟨by omega, h129, h142b⟩
                    have hl := hlen hg
                    obtain ⟨u1, u2⟩ := g1.ad g2 ((bhX I h (d : Int) r + tdX I h w) * I (p + 6) (w : Int)) (z_shl 1 (d : Int))
                    have hih := ih hns _ _ u1 u2 (by rw [g3, ye hg, List.append_assoc])
                    rw [List.length_append] at hih
                    exact hih))
              | (have hn : ¬ opX I p (d : Int) t = true := h129
                 exact ih hns J l g1 g2 (by rw [g3, no (by unfold gdX; rw [Bool.and_eq_true, Bool.and_eq_true]; exact fun q => hn q.2.1)]))
              | (have hn : bhX I h (d : Int) r < 0 := by omega
                 exact ih hns J l g1 g2 (by rw [g3, no (by unfold gdX; rw [Bool.and_eq_true, Bool.and_eq_true, decide_eq_true_eq]; exact fun q => by omega)]))
            · refine x_aload_n dX1_listState_132 1 rfl rfl ?_
              refine x_iload_n dX1_listState_133 3 rfl rfl ?_
              refine x_iload dX1_listState_134 11 rfl ?_
              refine x_iload_n dX1_listState_136 2 rfl rfl ?_
              refine x_iconst dX1_listState_137 ?_
              refine x_iadd dX1_listState_138 ?_
              refine x_callVi (as := [_, _, _]) dX1_listState_139 lvX1_45 rfl (shP0 hp) rfl rfl rfl rfl rfl ⟨rfl, rfl⟩ (s_X3_mayGo hp (by omega) (by omega) (by omega)) (fun z139 I139 L139 R139 hq139 => ?_)
              obtain ⟨rfl, rfl, rfl, rfl⟩ := hq139
              rw [jm]
              refine y_ifb_eq (tgt := 178) dX1_listState_142 (by decide) (fun h142 => ?_) (fun h142 => ?_)
              · refine x_iinc (lv' := [(0, _), (1, _), (2, _), (3, _), (4, _), (5, _), (6, _), (7, _), (8, _), (9, _), (10, _), (11, _)]) dX1_listState_178 10 rfl rfl rfl ?_
                refine x_goto (tgt := 96) dX1_listState_181 (by decide) ?_
                refine x_top (lv' := [(0, _), (1, _), (2, _), (3, _), (4, _), (5, _), (6, _), (7, _), (8, _), (9, _), (10, _)]) 11 rfl ?_
                first
                | (have h142b := h142
                   first
                   | (have hn : ¬ mgX I p (w : Int) (bhX I h (d : Int) r) (t + 1) = true := h142b
                      exact ih hns J l g1 g2 (by rw [g3, no (by unfold gdX; rw [Bool.and_eq_true, Bool.and_eq_true]; exact fun q => hn q.2.2)]))
                   | (have hg : gdX I p h t w r (d : Int) = true := by unfold gdX; rw [Bool.and_eq_true, Bool.and_eq_true, decide_eq_true_eq]; exact ⟨by omega, h129, h142b⟩
                      have hl := hlen hg
                      obtain ⟨u1, u2⟩ := g1.ad g2 ((bhX I h (d : Int) r + tdX I h w) * I (p + 6) (w : Int)) (z_shl 1 (d : Int))
                      have hih := ih hns _ _ u1 u2 (by rw [g3, ye hg, List.append_assoc])
                      rw [List.length_append] at hih
                      exact hih))
                | (have hn : ¬ opX I p (d : Int) t = true := h129
                   exact ih hns J l g1 g2 (by rw [g3, no (by unfold gdX; rw [Bool.and_eq_true, Bool.and_eq_true]; exact fun q => hn q.2.1)]))
                | (have hn : bhX I h (d : Int) r < 0 := by omega
                   exact ih hns J l g1 g2 (by rw [g3, no (by unfold gdX; rw [Bool.and_eq_true, Bool.and_eq_true, decide_eq_true_eq]; exact fun q => by omega)]))
              · have hg0 : gdX I p h t w r (d : Int) = true := by unfold gdX; rw [Bool.and_eq_true, Bool.and_eq_true, decide_eq_true_eq]; exact ⟨by omega, h129, h142⟩
                have hl84 := hlen hg0
                refine x_aload_n dX1_listState_145 0 rfl rfl ?_
                refine x_getR dX1_listState_146 flX1_15 rfl rfl (hR 20 1 22 rfl) ?_
                refine x_iload dX1_listState_149 8 rfl ?_
                refine x_iload dX1_listState_151 11 rfl ?_
                refine x_iload dX1_listState_153 9 rfl ?_
                refine x_iadd dX1_listState_155 ?_
                refine x_aload_n dX1_listState_156 1 rfl rfl ?_
                refine x_getR dX1_listState_157 flX1_49 (shP0 hp) rfl hp.2.2.2.2.2.2.1 ?_
                refine x_iload_n dX1_listState_160 3 rfl rfl ?_
                refine x_iald dX1_listState_161 (shP6 hp) (by omega) ?_
                rw [j6]
                refine x_imul dX1_listState_162 ?_
                refine x_iast dX1_listState_163 rfl (by omega) ?_
                refine x_aload_n dX1_listState_164 0 rfl rfl ?_
                refine x_getR dX1_listState_165 flX1_18 rfl rfl (hR 20 2 23 rfl) ?_
                refine x_iload dX1_listState_168 8 rfl ?_
                refine x_iconst dX1_listState_170 ?_
                refine x_iload dX1_listState_171 10 rfl ?_
                refine x_ishl dX1_listState_173 ?_
                refine x_iast dX1_listState_174 rfl (by omega) ?_
                refine x_iinc (lv' := [(0, _), (1, _), (2, _), (3, _), (4, _), (5, _), (6, _), (7, _), (8, _), (9, _), (10, _), (11, _)]) dX1_listState_175 8 rfl rfl rfl ?_
                refine x_iinc (lv' := [(0, _), (1, _), (2, _), (3, _), (4, _), (5, _), (6, _), (7, _), (8, _), (9, _), (10, _), (11, _)]) dX1_listState_178 10 rfl rfl rfl ?_
                refine x_goto (tgt := 96) dX1_listState_181 (by decide) ?_
                refine x_top (lv' := [(0, _), (1, _), (2, _), (3, _), (4, _), (5, _), (6, _), (7, _), (8, _), (9, _), (10, _)]) 11 rfl ?_
                first
                | (have h142b := h142
                   first
                   | (have hn : ¬ mgX I p (w : Int) (bhX I h (d : Int) r) (t + 1) = true := h142b
                      exact ih hns J l g1 g2 (by rw [g3, no (by unfold gdX; rw [Bool.and_eq_true, Bool.and_eq_true]; exact fun q => hn q.2.2)]))
                   | (have hg : gdX I p h t w r (d : Int) = true := by unfold gdX; rw [Bool.and_eq_true, Bool.and_eq_true, decide_eq_true_eq]; exact ⟨by omega, h129, h142b⟩
                      have hl := hlen hg
                      obtain ⟨u1, u2⟩ := g1.ad g2 ((bhX I h (d : Int) r + tdX I h w) * I (p + 6) (w : Int)) (z_shl 1 (d : Int))
                      have hih := ih hns _ _ u1 u2 (by rw [g3, ye hg, List.append_assoc])
                      rw [List.length_append] at hih
                      exact hih))
                | (have hn : ¬ opX I p (d : Int) t = true := h129
                   exact ih hns J l g1 g2 (by rw [g3, no (by unfold gdX; rw [Bool.and_eq_true, Bool.and_eq_true]; exact fun q => hn q.2.1)]))
                | (have hn : bhX I h (d : Int) r < 0 := by omega
                   exact ih hns J l g1 g2 (by rw [g3, no (by unfold gdX; rw [Bool.and_eq_true, Bool.and_eq_true, decide_eq_true_eq]; exact fun q => by omega)]))
      · intro hns J l g1 g2 g3
        have j1 : J h 1 = I h 1 := g2 h 1 (by omega)
        refine x_iload dX1_listState_96 10 rfl ?_
        refine x_aload dX1_listState_98 6 rfl ?_
        refine x_getI dX1_listState_100 flX1_60 (shH0 hh) rfl ?_
        rw [j1]
        refine x_ic_ge (tgt := 184) dX1_listState_103 (by decide) (by first | omega | exact z_and_r _ _ | exact z_or_r _ _ | exact z_xor_r _ _) (fun h103 => ?_) (fun h103 => ?_)
        · refine x_iload dX1_listState_184 8 rfl ?_
          refine x_iret dX1_listState_186 rfl ?_
          have e : l = ML := by rw [g3, hML2, if_neg hns]
          rw [e] at g1 g2 ⊢
          exact ex J g1 g2
        · exfalso; omega
    refine x_iload dX1_listState_58 4 rfl ?_
    refine x_aload dX1_listState_60 6 rfl ?_
    refine x_getI dX1_listState_62 flX1_52 (shH0 hh) rfl ?_
    rw [j0]
    refine x_ic_lt (tgt := 71) dX1_listState_65 (by decide) (by first | omega | exact z_and_r _ _ | exact z_or_r _ _ | exact z_xor_r _ _) (fun h65 => ?_) (fun h65 => ?_)
    · refine x_aload dX1_listState_71 6 rfl ?_
      refine x_getR dX1_listState_73 flX1_57 (shH0 hh) rfl hh.2.2.2.1 ?_
      refine x_iload_n dX1_listState_76 3 rfl rfl ?_
      refine x_iald dX1_listState_77 (shH3 hh) (by omega) ?_
      rw [j3]
      have hpw := k3 w hw2
      refine x_iconst dX1_listState_78 ?_
      refine x_ic_ne (tgt := 90) dX1_listState_79 (by decide) (by first | omega | exact z_and_r _ _ | exact z_or_r _ _ | exact z_xor_r _ _) (fun h79 => ?_) (fun h79 => ?_)
      · refine x_iconst dX1_listState_90 ?_
        refine x_istore (lv' := [(0, _), (1, _), (2, _), (3, _), (4, _), (5, _), (6, _), (7, _), (8, _), (9, _)]) dX1_listState_91 rfl rfl ?_
        refine x_iconst dX1_listState_93 ?_
        refine x_istore (lv' := [(0, _), (1, _), (2, _), (3, _), (4, _), (5, _), (6, _), (7, _), (8, _), (9, _), (10, _)]) dX1_listState_94 rfl rfl ?_
        have hns : ¬ I h 0 ≤ (s : Int) := by omega
        first
        | (have htd : tdX I h w = I h 0 := by unfold tdX; rw [if_pos (by omega)]
           have hd := dl 0 (by omega) hns J l g1 g2 (by rw [g3]; exact (List.append_nil _).symm)
           rw [htd] at hd
           exact hd)
        | (have htd : tdX I h w = 0 := by unfold tdX; rw [if_neg (by omega)]
           have hd := dl 0 (by omega) hns J l g1 g2 (by rw [g3]; exact (List.append_nil _).symm)
           rw [htd] at hd
           exact hd)
      · refine x_aload dX1_listState_82 6 rfl ?_
        refine x_getI dX1_listState_84 flX1_52 (shH0 hh) rfl ?_
        rw [j0]
        refine x_goto (tgt := 91) dX1_listState_87 (by decide) ?_
        refine x_istore (lv' := [(0, _), (1, _), (2, _), (3, _), (4, _), (5, _), (6, _), (7, _), (8, _), (9, _)]) dX1_listState_91 rfl rfl ?_
        refine x_iconst dX1_listState_93 ?_
        refine x_istore (lv' := [(0, _), (1, _), (2, _), (3, _), (4, _), (5, _), (6, _), (7, _), (8, _), (9, _), (10, _)]) dX1_listState_94 rfl rfl ?_
        have hns : ¬ I h 0 ≤ (s : Int) := by omega
        first
        | (have htd : tdX I h w = I h 0 := by unfold tdX; rw [if_pos (by omega)]
           have hd := dl 0 (by omega) hns J l g1 g2 (by rw [g3]; exact (List.append_nil _).symm)
           rw [htd] at hd
           exact hd)
        | (have htd : tdX I h w = 0 := by unfold tdX; rw [if_neg (by omega)]
           have hd := dl 0 (by omega) hns J l g1 g2 (by rw [g3]; exact (List.append_nil _).symm)
           rw [htd] at hd
           exact hd)
    · refine x_iload dX1_listState_68 8 rfl ?_
      refine x_iret dX1_listState_70 rfl ?_
      have hns : I h 0 ≤ (s : Int) := by omega
      have e : l = ML := by rw [g3, hML2, if_pos hns, List.append_nil]
      rw [e] at g1 g2 ⊢
      exact ex J g1 g2
  refine x_aload_n dX1_listState_0 1 rfl rfl ?_
  refine x_getR dX1_listState_1 flX1_38 (shP0 hp) rfl hph ?_
  refine x_astore (lv' := [(0, _), (1, _), (2, _), (3, _), (4, _), (5, _), (6, _)]) dX1_listState_4 rfl rfl ?_
  refine x_aload_n dX1_listState_6 1 rfl rfl ?_
  refine x_iload dX1_listState_7 4 rfl ?_
  refine x_callVi (as := [_]) dX1_listState_9 lvX1_42 rfl (shP0 hp) rfl rfl rfl rfl rfl ⟨rfl, rfl⟩ (s_X3_roomOf hp hh hph (by omega) (by omega)) (fun z9 I9 L9 R9 hq9 => ?_)
  obtain ⟨rfl, rfl, rfl, rfl⟩ := hq9
  rw [← hr]
  refine x_istore (lv' := [(0, _), (1, _), (2, _), (3, _), (4, _), (5, _), (6, _), (7, _)]) dX1_listState_12 rfl rfl ?_
  refine x_iload dX1_listState_14 5 rfl ?_
  refine x_istore (lv' := [(0, _), (1, _), (2, _), (3, _), (4, _), (5, _), (6, _), (7, _), (8, _)]) dX1_listState_16 rfl rfl ?_
  refine x_aload_n dX1_listState_18 1 rfl rfl ?_
  refine x_iload_n dX1_listState_19 3 rfl rfl ?_
  refine x_iload dX1_listState_20 7 rfl ?_
  refine x_iload_n dX1_listState_22 2 rfl rfl ?_
  refine x_iconst dX1_listState_23 ?_
  refine x_iadd dX1_listState_24 ?_
  refine x_callVi (as := [_, _, _]) dX1_listState_25 lvX1_45 rfl (shP0 hp) rfl rfl rfl rfl rfl ⟨rfl, rfl⟩ (s_X3_mayGo hp (by omega) (by omega) (by omega)) (fun z25 I25 L25 R25 hq25 => ?_)
  obtain ⟨rfl, rfl, rfl, rfl⟩ := hq25
  refine y_ifb_eq (tgt := 58) dX1_listState_28 (by decide) (fun h28 => ?_) (fun h28 => ?_)
  · first
    | (have hn : ¬ mgX I p (w : Int) r (t + 1) = true := h28
       have e : stL I p t w r = [] := by unfold stL; rw [if_neg hn]
       exact nx I [] (fun i q hq => by simp at hq) (fun _ _ _ => rfl) e.symm)
    | (have hn : mgX I p (w : Int) r (t + 1) = true := h28
       have e : stL I p t w r = [(r * I (p + 6) (w : Int), 0)] := by unfold stL; rw [if_pos hn]
       obtain ⟨u1, u2⟩ := PL.ad (J := I) (I := I) (m := m) (l := []) (fun i q hq => by simp at hq) (fun _ _ _ => rfl) (r * I (p + 6) (w : Int)) 0
       exact nx _ _ u1 u2 e.symm)
  · have e31 : stL I p t w r = [(r * I (p + 6) (w : Int), 0)] := by unfold stL; rw [if_pos h28]
    have hm31 : m < 84 := by rw [hML2, List.length_append, e31] at hm2; have : ([(r * I (p + 6) (w : Int), 0)] : MVL).length = 1 := rfl; omega
    refine x_aload_n dX1_listState_31 0 rfl rfl ?_
    refine x_getR dX1_listState_32 flX1_15 rfl rfl (hR 20 1 22 rfl) ?_
    refine x_iload dX1_listState_35 8 rfl ?_
    refine x_iload dX1_listState_37 7 rfl ?_
    refine x_aload_n dX1_listState_39 1 rfl rfl ?_
    refine x_getR dX1_listState_40 flX1_49 (shP0 hp) rfl hp.2.2.2.2.2.2.1 ?_
    refine x_iload_n dX1_listState_43 3 rfl rfl ?_
    refine x_iald dX1_listState_44 (shP6 hp) (by omega) ?_
    refine x_imul dX1_listState_45 ?_
    refine x_iast dX1_listState_46 rfl (by omega) ?_
    refine x_aload_n dX1_listState_47 0 rfl rfl ?_
    refine x_getR dX1_listState_48 flX1_18 rfl rfl (hR 20 2 23 rfl) ?_
    refine x_iload dX1_listState_51 8 rfl ?_
    refine x_iconst dX1_listState_53 ?_
    refine x_iast dX1_listState_54 rfl (by omega) ?_
    refine x_iinc (lv' := [(0, _), (1, _), (2, _), (3, _), (4, _), (5, _), (6, _), (7, _), (8, _)]) dX1_listState_55 8 rfl rfl rfl ?_
    first
    | (have hn : ¬ mgX I p (w : Int) r (t + 1) = true := h28
       have e : stL I p t w r = [] := by unfold stL; rw [if_neg hn]
       exact nx I [] (fun i q hq => by simp at hq) (fun _ _ _ => rfl) e.symm)
    | (have hn : mgX I p (w : Int) r (t + 1) = true := h28
       have e : stL I p t w r = [(r * I (p + 6) (w : Int), 0)] := by unfold stL; rw [if_pos hn]
       obtain ⟨u1, u2⟩ := PL.ad (J := I) (I := I) (m := m) (l := []) (fun i q hq => by simp at hq) (fun _ _ _ => rfl) (r * I (p + 6) (w : Int)) 0
       exact nx _ _ u1 u2 e.symm)
end

/-! THE REFERENCE READS A HOUSE. -/
def RS (I I' : MI) : Prop := ∀ c j, ¬ (c = 0 ∧ (j = 17 ∨ j = 18)) → I' c j = I c j
theorem RS.rf (I : MI) : RS I I := fun _ _ _ => rfl
theorem RS.tr {I J K : MI} (h : RS I J) (k : RS J K) : RS I K := fun c j q => (k c j q).trans (h c j q)
theorem RS.re {I J : MI} (h : RS I J) : RE I J := fun c j q => h c j (fun r => q (by unfold rsc; omega))
theorem RS.u17 {I J : MI} (h : RS I J) (v : Int) : RS I (m_up J 0 17 v) := fun c j q => by unfold m_up; rw [if_neg (by omega)]; exact h c j q
theorem RS.rt {t : Int} {B : Nat → Int} {I J : MI} (h : RS I J) (k : RT t B I) : RT t B J := h.re.rt k
theorem fr_fig {X J : MI} {v w : Int} (h : J = m_up (m_up X 0 18 v) 0 17 w) : J 0 17 = w ∧ J 0 18 = v ∧ RS X J := by
  subst h
  refine ⟨m_up_eq, by rw [m_up_nj (by decide), m_up_eq], fun c j q => ?_⟩
  unfold m_up
  rw [if_neg (by omega), if_neg (by omega)]
theorem fr_min {X J : MI} {v w : Int} (h : J = m_up (m_up X 0 17 w) 0 18 v) : J 0 17 = w ∧ J 0 18 = v ∧ RS X J := by
  subst h
  refine ⟨by rw [m_up_nj (by decide), m_up_eq], m_up_eq, fun c j q => ?_⟩
  unfold m_up
  rw [if_neg (by omega), if_neg (by omega)]
theorem fr_sig {X J : MI} {w : Int} (h : J = m_up X 0 17 w) : J 0 17 = w ∧ RS X J := by
  subst h
  refine ⟨m_up_eq, fun c j q => ?_⟩
  unfold m_up
  rw [if_neg (by omega)]
theorem sgP_t {B : Nat → Int} {b : Int} {p : Nat} (h : B p = b) : sgP B b p = p + 1 := if_pos h
theorem sgP_f {B : Nat → Int} {b : Int} {p : Nat} (h : ¬ B p = b) : sgP B b p = p := if_neg h
theorem shl_R {R : Int} (h : 1 ≤ R ∧ R ≤ 6) : 1 ≤ z_shl 1 R - 1 ∧ z_shl 1 R - 1 ≤ 63 := by
  have : R = 1 ∨ R = 2 ∨ R = 3 ∨ R = 4 ∨ R = 5 ∨ R = 6 := by omega
  rcases this with e | e | e | e | e | e <;> subst e <;> decide
section
variable {G : GT} {sh : MS} {I L : MI} {R : MR} {κ : MI} {t : Int} {B : Nat → Int}

set_option maxHeartbeats 2000000 in
theorem s_X8_readsDoor {R0 bo : Int} {p nd : Nat} (hT : RT t B I) (hp : I 0 17 = (p : Int)) (hp2 : p ≤ 900) (hn : I 0 20 = (nd : Int)) (hn2 : nd ≤ 8) (hR : I 0 19 = R0) (hR2 : 1 ≤ R0 ∧ R0 ≤ 6) : Sp G mtX8_readsDoor [mr 0, mi t, mi bo] shM I L rM (qi (fun z I' L' R' => z = b01 ((dorP B R0 nd p).1 = true) ∧ I' 0 17 = ((dorP B R0 nd p).2.1 : Int) ∧ (∀ c j, ¬ (c = 9 ∧ 3 * (nd : Int) ≤ j) → ¬ (c = 0 ∧ (j = 17 ∨ j = 18 ∨ j = 20)) → I' c j = I c j) ∧ I' 0 20 = (if (dorP B R0 nd p).1 then (nd : Int) + 1 else nd) ∧ ((dorP B R0 nd p).1 = true → I' 9 (3 * (nd : Int)) = (dorP B R0 nd p).2.2.1 ∧ I' 9 (3 * (nd : Int) + 1) = (dorP B R0 nd p).2.2.2 ∧ I' 9 (3 * (nd : Int) + 2) = bo) ∧ L = L' ∧ R' = rM)) := by
  refine Sp.of pnX8_readsDoor rfl ?_
  show Rn G mtX8_readsDoor _ 0 [(0, mr 0), (1, mi t), (2, mi bo)] [] shM I L rM
  generalize hQ : (qi (fun z I' L' R' => z = b01 ((dorP B R0 nd p).1 = true) ∧ I' 0 17 = ((dorP B R0 nd p).2.1 : Int) ∧ (∀ c j, ¬ (c = 9 ∧ 3 * (nd : Int) ≤ j) → ¬ (c = 0 ∧ (j = 17 ∨ j = 18 ∨ j = 20)) → I' c j = I c j) ∧ I' 0 20 = (if (dorP B R0 nd p).1 then (nd : Int) + 1 else nd) ∧ ((dorP B R0 nd p).1 = true → I' 9 (3 * (nd : Int)) = (dorP B R0 nd p).2.2.1 ∧ I' 9 (3 * (nd : Int) + 1) = (dorP B R0 nd p).2.2.2 ∧ I' 9 (3 * (nd : Int) + 2) = bo) ∧ L = L' ∧ R' = rM)) = Q
  have r1 := hT.r (p + 1)
  have r3 := hT.r (p + 3)
  refine x_aload_n dX8_readsDoor_0 0 rfl rfl ?_
  refine x_getI dX8_readsDoor_1 flX8_145 rfl rfl ?_
  refine x_bipush dX8_readsDoor_4 (by decide) ?_
  refine x_ic_ne (tgt := 11) dX8_readsDoor_6 (by decide) (by omega) (fun h6 => ?_) (fun h6 => ?_)
  · refine x_aload_n dX8_readsDoor_11 0 rfl rfl ?_
    refine x_dup dX8_readsDoor_12 rfl ?_
    refine x_getI dX8_readsDoor_13 flX8_136 rfl rfl ?_
    rw [hp]
    refine x_iconst dX8_readsDoor_16 ?_
    refine x_iadd dX8_readsDoor_17 ?_
    refine x_putI dX8_readsDoor_18 flX8_136 rfl rfl rfl ?_
    refine x_aload_n dX8_readsDoor_21 0 rfl rfl ?_
    refine x_iload_n dX8_readsDoor_22 1 rfl rfl ?_
    refine x_iconst dX8_readsDoor_23 ?_
    refine x_aload_n dX8_readsDoor_24 0 rfl rfl ?_
    refine y_getI dX8_readsDoor_25 flX8_148 rfl rfl (m_up_nj (by decide)) ?_
    rw [hR]
    refine x_iconst dX8_readsDoor_28 ?_
    refine x_isub dX8_readsDoor_29 ?_
    refine x_callVi (as := [_, _, _]) dX8_readsDoor_30 lvX8_151 rfl rfl rfl rfl rfl rfl rfl ⟨rfl, rfl⟩ (s_X8_figure (p := p + 1) (B := B) (hT.up (by decide) (by decide) _ _) m_up_eq (by omega) (by omega) (by omega)) (fun z30 I30 L30 R30 hq30 => ?_)
    obtain ⟨rfl, hI30, rfl, rfl⟩ := hq30
    obtain ⟨a30, b30, c30⟩ := fr_fig hI30
    refine y_ifb_ne (tgt := 38) dX8_readsDoor_33 (by decide) (fun h33 => ?_) (fun h33 => ?_)
    · rw [if_pos (by assumption)] at a30
      have f1 := fgQ_r (show fgQ B 0 (R0 - 1) (p + 1) = true by assumption)
      have hT30 : RT t B I30 := c30.rt (hT.up (by decide) (by decide) _ _)
      have k30 : RS I I30 := ((RS.rf I).u17 _).tr c30
      refine x_aload_n dX8_readsDoor_38 0 rfl rfl ?_
      refine x_getI dX8_readsDoor_39 flX8_142 rfl rfl ?_
      rw [b30]
      refine x_istore_n (lv' := [(0, _), (1, _), (2, _), (3, _)]) dX8_readsDoor_42 rfl rfl rfl ?_
      refine x_aload_n dX8_readsDoor_43 0 rfl rfl ?_
      refine x_iload_n dX8_readsDoor_44 1 rfl rfl ?_
      refine x_bipush dX8_readsDoor_45 (by decide) ?_
      refine x_callVi (as := [_, _]) dX8_readsDoor_47 lvX8_154 rfl rfl rfl rfl rfl rfl rfl ⟨rfl, rfl⟩ (s_X8_sign (p := p + 2) (B := B) hT30 a30 (by omega) (by omega)) (fun z47 I47 L47 R47 hq47 => ?_)
      obtain ⟨rfl, hI47, rfl, rfl⟩ := hq47
      obtain ⟨a47, c47⟩ := fr_sig hI47
      refine y_ifb_eq (tgt := 84) dX8_readsDoor_50 (by decide) (fun h50 => ?_) (fun h50 => ?_)
      · refine x_iconst dX8_readsDoor_84 ?_
        refine x_zret dX8_readsDoor_85 rfl (by omega) ?_
        have ff : ¬ fgQ B 0 (R0 - 1) (p + 1) = false := by rw [Bool.not_eq_false]; assumption
        first
        | (have e2 : ¬ B (p + 2) = 45 := by assumption
           rw [← hQ]
           have hd : dorP B R0 nd p = (false, p + 2, 0, 0) := by
             unfold dorP
             rw [if_neg (by omega), if_neg ff, if_pos e2]
           rw [hd]
           rw [sgP_f e2] at a47
           have k47 := k30.tr c47
           refine ⟨_, rfl, b01_f (by simp), a47, fun c j q1 q2 => k47 c j (by omega), ?_, fun q => by simp at q, rfl, rfl⟩
           rw [k47 0 20 (by omega)]
           exact hn)
        | (have e3 : B (p + 3) = B (p + 1) := by omega
           rw [← hQ]
           have hd : dorP B R0 nd p = (false, p + 3, 0, 0) := by
             unfold dorP
             rw [if_neg (by omega), if_neg ff, if_neg (by omega), if_pos (Or.inl e3)]
           rw [hd]
           refine ⟨_, rfl, b01_f (by simp), a47, fun c j q1 q2 => k47 c j (by omega), ?_, fun q => by simp at q, rfl, rfl⟩
           rw [k47 0 20 (by omega)]
           exact hn)
        | (have e3 : fgQ B 0 (R0 - 1) (p + 3) = false := by rw [← Bool.not_eq_true]; assumption
           rw [← hQ]
           have hd : dorP B R0 nd p = (false, p + 3, 0, 0) := by
             unfold dorP
             rw [if_neg (by omega), if_neg ff, if_neg (by omega), if_pos (Or.inr e3)]
           rw [hd]
           rw [if_neg (by assumption)] at a78
           have k78 := k47.tr c78
           refine ⟨_, rfl, b01_f (by simp), a78, fun c j q1 q2 => k78 c j (by omega), ?_, fun q => by simp at q, rfl, rfl⟩
           rw [k78 0 20 (by omega)]
           exact hn)
      · rw [sgP_t (by assumption)] at a47
        have hT47 : RT t B I47 := c47.rt hT30
        have k47 := k30.tr c47
        refine x_aload_n dX8_readsDoor_53 0 rfl rfl ?_
        refine x_iload_n dX8_readsDoor_54 1 rfl rfl ?_
        refine x_aload_n dX8_readsDoor_55 0 rfl rfl ?_
        refine x_getI dX8_readsDoor_56 flX8_136 rfl rfl ?_
        rw [a47]
        refine x_callVi (as := [_, _]) dX8_readsDoor_59 lvX8_139 rfl rfl rfl rfl rfl rfl rfl ⟨rfl, rfl⟩ (s_X8_byteAt hT47.1 hT47.2.1 (by omega)) (fun z59 I59 L59 R59 hq59 => ?_)
        obtain ⟨rfl, rfl, rfl, rfl⟩ := hq59
        rw [hT47.2.2 (p + 3)]
        refine x_bipush dX8_readsDoor_62 (by decide) ?_
        refine x_iload_n dX8_readsDoor_64 3 rfl rfl ?_
        refine x_iadd dX8_readsDoor_65 ?_
        refine x_ic_eq (tgt := 84) dX8_readsDoor_66 (by decide) (by omega) (fun h66 => ?_) (fun h66 => ?_)
        · refine x_iconst dX8_readsDoor_84 ?_
          refine x_zret dX8_readsDoor_85 rfl (by omega) ?_
          have ff : ¬ fgQ B 0 (R0 - 1) (p + 1) = false := by rw [Bool.not_eq_false]; assumption
          first
          | (have e2 : ¬ B (p + 2) = 45 := by assumption
             rw [← hQ]
             have hd : dorP B R0 nd p = (false, p + 2, 0, 0) := by
               unfold dorP
               rw [if_neg (by omega), if_neg ff, if_pos e2]
             rw [hd]
             rw [sgP_f e2] at a47
             have k47 := k30.tr c47
             refine ⟨_, rfl, b01_f (by simp), a47, fun c j q1 q2 => k47 c j (by omega), ?_, fun q => by simp at q, rfl, rfl⟩
             rw [k47 0 20 (by omega)]
             exact hn)
          | (have e3 : B (p + 3) = B (p + 1) := by omega
             rw [← hQ]
             have hd : dorP B R0 nd p = (false, p + 3, 0, 0) := by
               unfold dorP
               rw [if_neg (by omega), if_neg ff, if_neg (by omega), if_pos (Or.inl e3)]
             rw [hd]
             refine ⟨_, rfl, b01_f (by simp), a47, fun c j q1 q2 => k47 c j (by omega), ?_, fun q => by simp at q, rfl, rfl⟩
             rw [k47 0 20 (by omega)]
             exact hn)
          | (have e3 : fgQ B 0 (R0 - 1) (p + 3) = false := by rw [← Bool.not_eq_true]; assumption
             rw [← hQ]
             have hd : dorP B R0 nd p = (false, p + 3, 0, 0) := by
               unfold dorP
               rw [if_neg (by omega), if_neg ff, if_neg (by omega), if_pos (Or.inr e3)]
             rw [hd]
             rw [if_neg (by assumption)] at a78
             have k78 := k47.tr c78
             refine ⟨_, rfl, b01_f (by simp), a78, fun c j q1 q2 => k78 c j (by omega), ?_, fun q => by simp at q, rfl, rfl⟩
             rw [k78 0 20 (by omega)]
             exact hn)
        · refine x_aload_n dX8_readsDoor_69 0 rfl rfl ?_
          refine x_iload_n dX8_readsDoor_70 1 rfl rfl ?_
          refine x_iconst dX8_readsDoor_71 ?_
          refine x_aload_n dX8_readsDoor_72 0 rfl rfl ?_
          refine x_getI dX8_readsDoor_73 flX8_148 rfl rfl ?_
          rw [show I47 0 19 = R0 by rw [k47 0 19 (by omega), hR]]
          refine x_iconst dX8_readsDoor_76 ?_
          refine x_isub dX8_readsDoor_77 ?_
          refine x_callVi (as := [_, _, _]) dX8_readsDoor_78 lvX8_151 rfl rfl rfl rfl rfl rfl rfl ⟨rfl, rfl⟩ (s_X8_figure (p := p + 3) (B := B) hT47 a47 (by omega) (by omega) (by omega)) (fun z78 I78 L78 R78 hq78 => ?_)
          obtain ⟨rfl, hI78, rfl, rfl⟩ := hq78
          obtain ⟨a78, b78, c78⟩ := fr_fig hI78
          refine y_ifb_ne (tgt := 86) dX8_readsDoor_81 (by decide) (fun h81 => ?_) (fun h81 => ?_)
          · rw [if_pos (by assumption)] at a78
            have f3 := fgQ_r (show fgQ B 0 (R0 - 1) (p + 3) = true by assumption)
            have k78 := k47.tr c78
            have n78 : I78 0 20 = (nd : Int) := by rw [k78 0 20 (by omega), hn]
            refine x_aload_n dX8_readsDoor_86 0 rfl rfl ?_
            refine x_getI dX8_readsDoor_87 flX8_142 rfl rfl ?_
            rw [b78]
            refine x_istore (lv' := [(0, _), (1, _), (2, _), (3, _), (4, _)]) dX8_readsDoor_90 rfl rfl ?_
            refine x_aload_n dX8_readsDoor_92 0 rfl rfl ?_
            refine x_getR dX8_readsDoor_93 flX8_35 rfl rfl rfl ?_
            refine x_iconst dX8_readsDoor_96 ?_
            refine x_aload_n dX8_readsDoor_97 0 rfl rfl ?_
            refine x_getI dX8_readsDoor_98 flX8_145 rfl rfl ?_
            rw [n78]
            refine x_imul dX8_readsDoor_101 ?_
            refine x_iload_n dX8_readsDoor_102 3 rfl rfl ?_
            refine x_iload dX8_readsDoor_103 4 rfl ?_
            refine x_ic_ge (tgt := 112) dX8_readsDoor_105 (by decide) (by omega) (fun h105 => ?_) (fun h105 => ?_)
            · refine x_iload dX8_readsDoor_112 4 rfl ?_
              refine x_iast dX8_readsDoor_114 rfl (by omega) ?_
              refine x_aload_n dX8_readsDoor_115 0 rfl rfl ?_
              refine x_getR dX8_readsDoor_116 flX8_35 rfl rfl rfl ?_
              refine x_iconst dX8_readsDoor_119 ?_
              refine x_aload_n dX8_readsDoor_120 0 rfl rfl ?_
              refine y_getI dX8_readsDoor_121 flX8_145 rfl rfl (m_up_ne (by decide) _) ?_
              rw [n78]
              refine x_imul dX8_readsDoor_124 ?_
              refine x_iconst dX8_readsDoor_125 ?_
              refine x_iadd dX8_readsDoor_126 ?_
              refine x_iload_n dX8_readsDoor_127 3 rfl rfl ?_
              refine x_iload dX8_readsDoor_128 4 rfl ?_
              refine x_ic_ge (tgt := 138) dX8_readsDoor_130 (by decide) (by omega) (fun h130 => ?_) (fun h130 => ?_)
              · refine x_iload_n dX8_readsDoor_138 3 rfl rfl ?_
                refine x_iast dX8_readsDoor_139 rfl (by omega) ?_
                refine x_aload_n dX8_readsDoor_140 0 rfl rfl ?_
                refine x_getR dX8_readsDoor_141 flX8_35 rfl rfl rfl ?_
                refine x_iconst dX8_readsDoor_144 ?_
                refine x_aload_n dX8_readsDoor_145 0 rfl rfl ?_
                refine y_getI dX8_readsDoor_146 flX8_145 rfl rfl (((m_up_ne (by decide) _).trans (m_up_ne (by decide) _))) ?_
                rw [n78]
                refine x_imul dX8_readsDoor_149 ?_
                refine x_iconst dX8_readsDoor_150 ?_
                refine x_iadd dX8_readsDoor_151 ?_
                refine x_iload_n dX8_readsDoor_152 2 rfl rfl ?_
                refine x_iast dX8_readsDoor_153 rfl (by omega) ?_
                refine x_aload_n dX8_readsDoor_154 0 rfl rfl ?_
                refine x_dup dX8_readsDoor_155 rfl ?_
                refine y_getI dX8_readsDoor_156 flX8_145 rfl rfl (((m_up_ne (by decide) _).trans (((m_up_ne (by decide) _).trans (m_up_ne (by decide) _))))) ?_
                rw [n78]
                refine x_iconst dX8_readsDoor_159 ?_
                refine x_iadd dX8_readsDoor_160 ?_
                refine x_putI dX8_readsDoor_161 flX8_145 rfl rfl rfl ?_
                refine x_iconst dX8_readsDoor_164 ?_
                refine x_zret dX8_readsDoor_165 rfl (by omega) ?_
                have ff : ¬ fgQ B 0 (R0 - 1) (p + 1) = false := by rw [Bool.not_eq_false]; assumption
                have e3 : ¬ (B (p + 3) = B (p + 1) ∨ fgQ B 0 (R0 - 1) (p + 3) = false) := by
                  rintro (x | x)
                  · omega
                  · rw [show fgQ B 0 (R0 - 1) (p + 3) = true by assumption] at x
                    exact absurd x (by decide)
                have hd : dorP B R0 nd p = (true, p + 4, (if B (p + 1) < B (p + 3) then B (p + 1) - 48 else B (p + 3) - 48), (if B (p + 1) < B (p + 3) then B (p + 3) - 48 else B (p + 1) - 48)) := by
                  unfold dorP
                  rw [if_neg (by omega), if_neg ff, if_neg (by omega), if_neg e3]
                rw [← hQ, hd]
                first
                | (exfalso; omega)
                | (rw [if_pos (by omega), if_pos (by omega)]
                   refine ⟨_, rfl, b01_t rfl, ?_, fun c j q1 q2 => ?_, m_up_eq, fun _ => ⟨?_, ?_, ?_⟩, rfl, rfl⟩
                   · rw [m_up_nj (by decide), m_up_ne (by decide), m_up_ne (by decide), m_up_ne (by decide)]; exact a78
                   · unfold m_up; rw [if_neg (by omega), if_neg (by omega), if_neg (by omega), if_neg (by omega)]; exact k78 c j (by omega)
                   · rw [m_up_ne (by decide), m_up_nj (by omega), m_up_nj (by omega), m_up_eq]
                   · rw [m_up_ne (by decide), m_up_nj (by omega), m_up_eq]
                   · rw [m_up_ne (by decide), m_up_eq])
                | (rw [if_neg (by omega), if_neg (by omega)]
                   refine ⟨_, rfl, b01_t rfl, ?_, fun c j q1 q2 => ?_, m_up_eq, fun _ => ⟨?_, ?_, ?_⟩, rfl, rfl⟩
                   · rw [m_up_nj (by decide), m_up_ne (by decide), m_up_ne (by decide), m_up_ne (by decide)]; exact a78
                   · unfold m_up; rw [if_neg (by omega), if_neg (by omega), if_neg (by omega), if_neg (by omega)]; exact k78 c j (by omega)
                   · rw [m_up_ne (by decide), m_up_nj (by omega), m_up_nj (by omega), m_up_eq]
                   · rw [m_up_ne (by decide), m_up_nj (by omega), m_up_eq]
                   · rw [m_up_ne (by decide), m_up_eq])
              · refine x_iload dX8_readsDoor_133 4 rfl ?_
                refine x_goto (tgt := 139) dX8_readsDoor_135 (by decide) ?_
                refine x_iast dX8_readsDoor_139 rfl (by omega) ?_
                refine x_aload_n dX8_readsDoor_140 0 rfl rfl ?_
                refine x_getR dX8_readsDoor_141 flX8_35 rfl rfl rfl ?_
                refine x_iconst dX8_readsDoor_144 ?_
                refine x_aload_n dX8_readsDoor_145 0 rfl rfl ?_
                refine y_getI dX8_readsDoor_146 flX8_145 rfl rfl (((m_up_ne (by decide) _).trans (m_up_ne (by decide) _))) ?_
                rw [n78]
                refine x_imul dX8_readsDoor_149 ?_
                refine x_iconst dX8_readsDoor_150 ?_
                refine x_iadd dX8_readsDoor_151 ?_
                refine x_iload_n dX8_readsDoor_152 2 rfl rfl ?_
                refine x_iast dX8_readsDoor_153 rfl (by omega) ?_
                refine x_aload_n dX8_readsDoor_154 0 rfl rfl ?_
                refine x_dup dX8_readsDoor_155 rfl ?_
                refine y_getI dX8_readsDoor_156 flX8_145 rfl rfl (((m_up_ne (by decide) _).trans (((m_up_ne (by decide) _).trans (m_up_ne (by decide) _))))) ?_
                rw [n78]
                refine x_iconst dX8_readsDoor_159 ?_
                refine x_iadd dX8_readsDoor_160 ?_
                refine x_putI dX8_readsDoor_161 flX8_145 rfl rfl rfl ?_
                refine x_iconst dX8_readsDoor_164 ?_
                refine x_zret dX8_readsDoor_165 rfl (by omega) ?_
                have ff : ¬ fgQ B 0 (R0 - 1) (p + 1) = false := by rw [Bool.not_eq_false]; assumption
                have e3 : ¬ (B (p + 3) = B (p + 1) ∨ fgQ B 0 (R0 - 1) (p + 3) = false) := by
                  rintro (x | x)
                  · omega
                  · rw [show fgQ B 0 (R0 - 1) (p + 3) = true by assumption] at x
                    exact absurd x (by decide)
                have hd : dorP B R0 nd p = (true, p + 4, (if B (p + 1) < B (p + 3) then B (p + 1) - 48 else B (p + 3) - 48), (if B (p + 1) < B (p + 3) then B (p + 3) - 48 else B (p + 1) - 48)) := by
                  unfold dorP
                  rw [if_neg (by omega), if_neg ff, if_neg (by omega), if_neg e3]
                rw [← hQ, hd]
                first
                | (exfalso; omega)
                | (rw [if_pos (by omega), if_pos (by omega)]
                   refine ⟨_, rfl, b01_t rfl, ?_, fun c j q1 q2 => ?_, m_up_eq, fun _ => ⟨?_, ?_, ?_⟩, rfl, rfl⟩
                   · rw [m_up_nj (by decide), m_up_ne (by decide), m_up_ne (by decide), m_up_ne (by decide)]; exact a78
                   · unfold m_up; rw [if_neg (by omega), if_neg (by omega), if_neg (by omega), if_neg (by omega)]; exact k78 c j (by omega)
                   · rw [m_up_ne (by decide), m_up_nj (by omega), m_up_nj (by omega), m_up_eq]
                   · rw [m_up_ne (by decide), m_up_nj (by omega), m_up_eq]
                   · rw [m_up_ne (by decide), m_up_eq])
                | (rw [if_neg (by omega), if_neg (by omega)]
                   refine ⟨_, rfl, b01_t rfl, ?_, fun c j q1 q2 => ?_, m_up_eq, fun _ => ⟨?_, ?_, ?_⟩, rfl, rfl⟩
                   · rw [m_up_nj (by decide), m_up_ne (by decide), m_up_ne (by decide), m_up_ne (by decide)]; exact a78
                   · unfold m_up; rw [if_neg (by omega), if_neg (by omega), if_neg (by omega), if_neg (by omega)]; exact k78 c j (by omega)
                   · rw [m_up_ne (by decide), m_up_nj (by omega), m_up_nj (by omega), m_up_eq]
                   · rw [m_up_ne (by decide), m_up_nj (by omega), m_up_eq]
                   · rw [m_up_ne (by decide), m_up_eq])
            · refine x_iload_n dX8_readsDoor_108 3 rfl rfl ?_
              refine x_goto (tgt := 114) dX8_readsDoor_109 (by decide) ?_
              refine x_iast dX8_readsDoor_114 rfl (by omega) ?_
              refine x_aload_n dX8_readsDoor_115 0 rfl rfl ?_
              refine x_getR dX8_readsDoor_116 flX8_35 rfl rfl rfl ?_
              refine x_iconst dX8_readsDoor_119 ?_
              refine x_aload_n dX8_readsDoor_120 0 rfl rfl ?_
              refine y_getI dX8_readsDoor_121 flX8_145 rfl rfl (m_up_ne (by decide) _) ?_
              rw [n78]
              refine x_imul dX8_readsDoor_124 ?_
              refine x_iconst dX8_readsDoor_125 ?_
              refine x_iadd dX8_readsDoor_126 ?_
              refine x_iload_n dX8_readsDoor_127 3 rfl rfl ?_
              refine x_iload dX8_readsDoor_128 4 rfl ?_
              refine x_ic_ge (tgt := 138) dX8_readsDoor_130 (by decide) (by omega) (fun h130 => ?_) (fun h130 => ?_)
              · refine x_iload_n dX8_readsDoor_138 3 rfl rfl ?_
                refine x_iast dX8_readsDoor_139 rfl (by omega) ?_
                refine x_aload_n dX8_readsDoor_140 0 rfl rfl ?_
                refine x_getR dX8_readsDoor_141 flX8_35 rfl rfl rfl ?_
                refine x_iconst dX8_readsDoor_144 ?_
                refine x_aload_n dX8_readsDoor_145 0 rfl rfl ?_
                refine y_getI dX8_readsDoor_146 flX8_145 rfl rfl (((m_up_ne (by decide) _).trans (m_up_ne (by decide) _))) ?_
                rw [n78]
                refine x_imul dX8_readsDoor_149 ?_
                refine x_iconst dX8_readsDoor_150 ?_
                refine x_iadd dX8_readsDoor_151 ?_
                refine x_iload_n dX8_readsDoor_152 2 rfl rfl ?_
                refine x_iast dX8_readsDoor_153 rfl (by omega) ?_
                refine x_aload_n dX8_readsDoor_154 0 rfl rfl ?_
                refine x_dup dX8_readsDoor_155 rfl ?_
                refine y_getI dX8_readsDoor_156 flX8_145 rfl rfl (((m_up_ne (by decide) _).trans (((m_up_ne (by decide) _).trans (m_up_ne (by decide) _))))) ?_
                rw [n78]
                refine x_iconst dX8_readsDoor_159 ?_
                refine x_iadd dX8_readsDoor_160 ?_
                refine x_putI dX8_readsDoor_161 flX8_145 rfl rfl rfl ?_
                refine x_iconst dX8_readsDoor_164 ?_
                refine x_zret dX8_readsDoor_165 rfl (by omega) ?_
                have ff : ¬ fgQ B 0 (R0 - 1) (p + 1) = false := by rw [Bool.not_eq_false]; assumption
                have e3 : ¬ (B (p + 3) = B (p + 1) ∨ fgQ B 0 (R0 - 1) (p + 3) = false) := by
                  rintro (x | x)
                  · omega
                  · rw [show fgQ B 0 (R0 - 1) (p + 3) = true by assumption] at x
                    exact absurd x (by decide)
                have hd : dorP B R0 nd p = (true, p + 4, (if B (p + 1) < B (p + 3) then B (p + 1) - 48 else B (p + 3) - 48), (if B (p + 1) < B (p + 3) then B (p + 3) - 48 else B (p + 1) - 48)) := by
                  unfold dorP
                  rw [if_neg (by omega), if_neg ff, if_neg (by omega), if_neg e3]
                rw [← hQ, hd]
                first
                | (exfalso; omega)
                | (rw [if_pos (by omega), if_pos (by omega)]
                   refine ⟨_, rfl, b01_t rfl, ?_, fun c j q1 q2 => ?_, m_up_eq, fun _ => ⟨?_, ?_, ?_⟩, rfl, rfl⟩
                   · rw [m_up_nj (by decide), m_up_ne (by decide), m_up_ne (by decide), m_up_ne (by decide)]; exact a78
                   · unfold m_up; rw [if_neg (by omega), if_neg (by omega), if_neg (by omega), if_neg (by omega)]; exact k78 c j (by omega)
                   · rw [m_up_ne (by decide), m_up_nj (by omega), m_up_nj (by omega), m_up_eq]
                   · rw [m_up_ne (by decide), m_up_nj (by omega), m_up_eq]
                   · rw [m_up_ne (by decide), m_up_eq])
                | (rw [if_neg (by omega), if_neg (by omega)]
                   refine ⟨_, rfl, b01_t rfl, ?_, fun c j q1 q2 => ?_, m_up_eq, fun _ => ⟨?_, ?_, ?_⟩, rfl, rfl⟩
                   · rw [m_up_nj (by decide), m_up_ne (by decide), m_up_ne (by decide), m_up_ne (by decide)]; exact a78
                   · unfold m_up; rw [if_neg (by omega), if_neg (by omega), if_neg (by omega), if_neg (by omega)]; exact k78 c j (by omega)
                   · rw [m_up_ne (by decide), m_up_nj (by omega), m_up_nj (by omega), m_up_eq]
                   · rw [m_up_ne (by decide), m_up_nj (by omega), m_up_eq]
                   · rw [m_up_ne (by decide), m_up_eq])
              · refine x_iload dX8_readsDoor_133 4 rfl ?_
                refine x_goto (tgt := 139) dX8_readsDoor_135 (by decide) ?_
                refine x_iast dX8_readsDoor_139 rfl (by omega) ?_
                refine x_aload_n dX8_readsDoor_140 0 rfl rfl ?_
                refine x_getR dX8_readsDoor_141 flX8_35 rfl rfl rfl ?_
                refine x_iconst dX8_readsDoor_144 ?_
                refine x_aload_n dX8_readsDoor_145 0 rfl rfl ?_
                refine y_getI dX8_readsDoor_146 flX8_145 rfl rfl (((m_up_ne (by decide) _).trans (m_up_ne (by decide) _))) ?_
                rw [n78]
                refine x_imul dX8_readsDoor_149 ?_
                refine x_iconst dX8_readsDoor_150 ?_
                refine x_iadd dX8_readsDoor_151 ?_
                refine x_iload_n dX8_readsDoor_152 2 rfl rfl ?_
                refine x_iast dX8_readsDoor_153 rfl (by omega) ?_
                refine x_aload_n dX8_readsDoor_154 0 rfl rfl ?_
                refine x_dup dX8_readsDoor_155 rfl ?_
                refine y_getI dX8_readsDoor_156 flX8_145 rfl rfl (((m_up_ne (by decide) _).trans (((m_up_ne (by decide) _).trans (m_up_ne (by decide) _))))) ?_
                rw [n78]
                refine x_iconst dX8_readsDoor_159 ?_
                refine x_iadd dX8_readsDoor_160 ?_
                refine x_putI dX8_readsDoor_161 flX8_145 rfl rfl rfl ?_
                refine x_iconst dX8_readsDoor_164 ?_
                refine x_zret dX8_readsDoor_165 rfl (by omega) ?_
                have ff : ¬ fgQ B 0 (R0 - 1) (p + 1) = false := by rw [Bool.not_eq_false]; assumption
                have e3 : ¬ (B (p + 3) = B (p + 1) ∨ fgQ B 0 (R0 - 1) (p + 3) = false) := by
                  rintro (x | x)
                  · omega
                  · rw [show fgQ B 0 (R0 - 1) (p + 3) = true by assumption] at x
                    exact absurd x (by decide)
                have hd : dorP B R0 nd p = (true, p + 4, (if B (p + 1) < B (p + 3) then B (p + 1) - 48 else B (p + 3) - 48), (if B (p + 1) < B (p + 3) then B (p + 3) - 48 else B (p + 1) - 48)) := by
                  unfold dorP
                  rw [if_neg (by omega), if_neg ff, if_neg (by omega), if_neg e3]
                rw [← hQ, hd]
                first
                | (exfalso; omega)
                | (rw [if_pos (by omega), if_pos (by omega)]
                   refine ⟨_, rfl, b01_t rfl, ?_, fun c j q1 q2 => ?_, m_up_eq, fun _ => ⟨?_, ?_, ?_⟩, rfl, rfl⟩
                   · rw [m_up_nj (by decide), m_up_ne (by decide), m_up_ne (by decide), m_up_ne (by decide)]; exact a78
                   · unfold m_up; rw [if_neg (by omega), if_neg (by omega), if_neg (by omega), if_neg (by omega)]; exact k78 c j (by omega)
                   · rw [m_up_ne (by decide), m_up_nj (by omega), m_up_nj (by omega), m_up_eq]
                   · rw [m_up_ne (by decide), m_up_nj (by omega), m_up_eq]
                   · rw [m_up_ne (by decide), m_up_eq])
                | (rw [if_neg (by omega), if_neg (by omega)]
                   refine ⟨_, rfl, b01_t rfl, ?_, fun c j q1 q2 => ?_, m_up_eq, fun _ => ⟨?_, ?_, ?_⟩, rfl, rfl⟩
                   · rw [m_up_nj (by decide), m_up_ne (by decide), m_up_ne (by decide), m_up_ne (by decide)]; exact a78
                   · unfold m_up; rw [if_neg (by omega), if_neg (by omega), if_neg (by omega), if_neg (by omega)]; exact k78 c j (by omega)
                   · rw [m_up_ne (by decide), m_up_nj (by omega), m_up_nj (by omega), m_up_eq]
                   · rw [m_up_ne (by decide), m_up_nj (by omega), m_up_eq]
                   · rw [m_up_ne (by decide), m_up_eq])
          · refine x_iconst dX8_readsDoor_84 ?_
            refine x_zret dX8_readsDoor_85 rfl (by omega) ?_
            have ff : ¬ fgQ B 0 (R0 - 1) (p + 1) = false := by rw [Bool.not_eq_false]; assumption
            first
            | (have e2 : ¬ B (p + 2) = 45 := by assumption
               rw [← hQ]
               have hd : dorP B R0 nd p = (false, p + 2, 0, 0) := by
                 unfold dorP
                 rw [if_neg (by omega), if_neg ff, if_pos e2]
               rw [hd]
               rw [sgP_f e2] at a47
               have k47 := k30.tr c47
               refine ⟨_, rfl, b01_f (by simp), a47, fun c j q1 q2 => k47 c j (by omega), ?_, fun q => by simp at q, rfl, rfl⟩
               rw [k47 0 20 (by omega)]
               exact hn)
            | (have e3 : B (p + 3) = B (p + 1) := by omega
               rw [← hQ]
               have hd : dorP B R0 nd p = (false, p + 3, 0, 0) := by
                 unfold dorP
                 rw [if_neg (by omega), if_neg ff, if_neg (by omega), if_pos (Or.inl e3)]
               rw [hd]
               refine ⟨_, rfl, b01_f (by simp), a47, fun c j q1 q2 => k47 c j (by omega), ?_, fun q => by simp at q, rfl, rfl⟩
               rw [k47 0 20 (by omega)]
               exact hn)
            | (have e3 : fgQ B 0 (R0 - 1) (p + 3) = false := by rw [← Bool.not_eq_true]; assumption
               rw [← hQ]
               have hd : dorP B R0 nd p = (false, p + 3, 0, 0) := by
                 unfold dorP
                 rw [if_neg (by omega), if_neg ff, if_neg (by omega), if_pos (Or.inr e3)]
               rw [hd]
               rw [if_neg (by assumption)] at a78
               have k78 := k47.tr c78
               refine ⟨_, rfl, b01_f (by simp), a78, fun c j q1 q2 => k78 c j (by omega), ?_, fun q => by simp at q, rfl, rfl⟩
               rw [k78 0 20 (by omega)]
               exact hn)
    · refine x_iconst dX8_readsDoor_36 ?_
      refine x_zret dX8_readsDoor_37 rfl (by omega) ?_
      rw [← hQ]
      have hd : dorP B R0 nd p = (false, p + 1, 0, 0) := by
        unfold dorP
        rw [if_neg (by omega), if_pos (by rw [← Bool.not_eq_true]; assumption)]
      rw [hd]
      rw [if_neg (by assumption)] at a30
      refine ⟨_, rfl, b01_f (by simp), a30, fun c j q1 q2 => by rw [c30 c j (by omega), m_up]; rw [if_neg (by omega)], by rw [c30 0 20 (by omega), m_up_nj (by decide)]; exact hn, fun q => by simp at q, rfl, rfl⟩
  · refine x_iconst dX8_readsDoor_9 ?_
    refine x_zret dX8_readsDoor_10 rfl (by omega) ?_
    rw [← hQ]
    have hd : dorP B R0 nd p = (false, p, 0, 0) := by
      unfold dorP
      rw [if_pos (by omega)]
    rw [hd]
    refine ⟨_, rfl, b01_f (by simp), hp, fun c j q1 q2 => rfl, hn, fun q => by simp at q, rfl, rfl⟩
end

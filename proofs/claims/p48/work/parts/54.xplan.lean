/-! THE CLASS: the Plan made. -/
theorem isP.up {R : MR} {p : Nat} (k : isP R p) (v : Option Nat) : isP (m_up R p 0 v) p := by
  obtain ⟨a, b1, b2, b3, b4, b5, b6, b7⟩ := k
  exact ⟨a, by rw [m_up_nj (by decide)]; exact b1, by rw [m_up_nj (by decide)]; exact b2, by rw [m_up_nj (by decide)]; exact b3, by rw [m_up_nj (by decide)]; exact b4, by rw [m_up_nj (by decide)]; exact b5, by rw [m_up_nj (by decide)]; exact b6, by rw [m_up_nj (by decide)]; exact b7⟩
theorem isH.up {R : MR} {p h : Nat} (k : isH R h) (hp : p ≠ h) (v : Option Nat) : isH (m_up R p 0 v) h := by
  obtain ⟨a, b1, b2, b3, b4⟩ := k
  have e : h ≠ p := Ne.symm hp
  exact ⟨a, by rw [m_up_ne e]; exact b1, by rw [m_up_ne e]; exact b2, by rw [m_up_ne e]; exact b3, by rw [m_up_ne e]; exact b4⟩
def anX (I : MI) (h : Nat) : Nat → Int
  | 0 => 16515072
  | w + 1 => z_or (anX I h w) (z_shl (z_shl 1 (I h 0) - 1) (6 * (w : Int)))
def bgX (I : MI) (h : Nat) : Nat → Int
  | 0 => 16515072
  | w + 1 => z_or (bgX I h w) (z_shl (I (h + 4) (w : Int)) (6 * (w : Int)))
def MK (p h : Nat) (u v : Int) (I I' : MI) : Prop := I' p 1 = min u (I h 2) ∧ I' p 2 = v ∧ I' p 4 = 1 ∧ SHP p h I' ∧
  (∀ t : Nat, (t : Int) ≤ I h 3 → I' (p + 1) (t : Int) = 0 ∧ I' (p + 2) (t : Int) = 0 ∧ I' (p + 3) (t : Int) = 0 ∧ I' (p + 4) (t : Int) = if t = 0 then bgX I h (min u (I h 2)).toNat else anX I h (min u (I h 2)).toNat) ∧
  ∀ c i, ¬ (p ≤ c ∧ c ≤ p + 7) → I' c i = I c i
theorem mk_row {J : MI} {p : Nat} {t X : Int} : (∀ c i, ¬ (p + 1 ≤ c ∧ c ≤ p + 4) → m_up (m_up (m_up (m_up J (p + 1) t 0) (p + 2) t 0) (p + 3) t 0) (p + 4) t X c i = J c i) ∧
  (∀ c i, i ≠ t → m_up (m_up (m_up (m_up J (p + 1) t 0) (p + 2) t 0) (p + 3) t 0) (p + 4) t X c i = J c i) ∧
  m_up (m_up (m_up (m_up J (p + 1) t 0) (p + 2) t 0) (p + 3) t 0) (p + 4) t X (p + 1) t = 0 ∧ m_up (m_up (m_up (m_up J (p + 1) t 0) (p + 2) t 0) (p + 3) t 0) (p + 4) t X (p + 2) t = 0 ∧
  m_up (m_up (m_up (m_up J (p + 1) t 0) (p + 2) t 0) (p + 3) t 0) (p + 4) t X (p + 3) t = 0 ∧ m_up (m_up (m_up (m_up J (p + 1) t 0) (p + 2) t 0) (p + 3) t 0) (p + 4) t X (p + 4) t = X := by
  refine ⟨fun c i q => ?_, fun c i q => ?_, ?_, ?_, ?_, m_up_eq⟩
  · rw [m_up_ne (by omega), m_up_ne (by omega), m_up_ne (by omega), m_up_ne (by omega)]
  · rw [m_up_nj q, m_up_nj q, m_up_nj q, m_up_nj q]
  · rw [m_up_ne (by omega), m_up_ne (by omega), m_up_ne (by omega), m_up_eq]
  · rw [m_up_ne (by omega), m_up_ne (by omega), m_up_eq]
  · rw [m_up_ne (by omega), m_up_eq]
section
variable {G : GT} {I L : MI} {R : MR} {p h : Nat}

set_option maxHeartbeats 1500000 in
theorem s_X3_make {u v : Int} (hp : isP R p) (hh : isH R h) (k : okP I h) (hl : 0 ≤ I h 3 ∧ I h 3 ≤ 30) (hu : 0 ≤ u ∧ u ≤ 2147483647) : Sp G mtX3_make [mr p, mr h, mi u, mi v] shX I L R (qv (fun I' L' R' => R' = m_up R p 0 (some h) ∧ L = L' ∧ MK p h u v I I')) := by
  refine Sp.of pnX3_make rfl ?_
  show Rn G mtX3_make _ 0 [(0, mr p), (1, mr h), (2, mi u), (3, mi v)] [] shX I L R
  generalize hQ : (qv (fun I' L' R' => R' = m_up R p 0 (some h) ∧ L = L' ∧ MK p h u v I I')) = Q
  have hp1 := hp.1
  have hh1 := hh.1
  obtain ⟨k1, k2, k3⟩ := id k
  obtain ⟨R2, hR2⟩ : ∃ R2, R2 = m_up R p 0 (some h) := ⟨_, rfl⟩
  have hp2 : isP R2 p := by rw [hR2]; exact hp.up _
  have hh2 : isH R2 h := by rw [hR2]; exact hh.up (by omega) _
  have hph2 : R2 p 0 = some h := by rw [hR2]; exact m_up_eq
  obtain ⟨us, hus⟩ : ∃ us : Nat, min u (I h 2) = (us : Int) := ⟨(min u (I h 2)).toNat, by omega⟩
  obtain ⟨I1, hI1⟩ : ∃ I1, I1 = m_up (m_up (m_up I p 1 (min u (I h 2))) p 2 v) p 4 1 := ⟨_, rfl⟩
  have i1 : I1 p 1 = (us : Int) := by rw [hI1, m_up_nj (by decide), m_up_nj (by decide), m_up_eq]; exact hus
  have i2 : I1 p 2 = v := by rw [hI1, m_up_nj (by decide), m_up_eq]
  have i4 : I1 p 4 = 1 := by rw [hI1, m_up_eq]
  have ic : ∀ c i, c ≠ p → I1 c i = I c i := fun c i q => by rw [hI1, m_up_ne q, m_up_ne q, m_up_ne q]
  have l2 : ∀ t : Nat, t ≤ (I h 3).toNat + 1 → ∀ J, (∀ c i, ¬ (p + 1 ≤ c ∧ c ≤ p + 4) → J c i = I1 c i) → (∀ s : Nat, s < t → J (p + 1) (s : Int) = 0 ∧ J (p + 2) (s : Int) = 0 ∧ J (p + 3) (s : Int) = 0 ∧ J (p + 4) (s : Int) = if s = 0 then bgX I h us else anX I h us) → Rn G mtX3_make Q 98 [(0, mr p), (1, mr h), (2, mi u), (3, mi v), (4, mi (anX I h us)), (5, mi (bgX I h us)), (6, mi (t : Int))] [] shX J L R2 := by
    refine lpn _ (fun t ht ih => ?_) ?_
    · intro J m1 m2
      have jh3 : J h 3 = I h 3 := (m1 h 3 (by omega)).trans (ic h 3 (by omega))
      refine x_iload dX3_make_98 6 rfl ?_
      refine x_aload_n dX3_make_100 0 rfl rfl ?_
      refine x_getR dX3_make_101 flX3_9 (shP0 hp2) rfl hph2 ?_
      refine x_getI dX3_make_104 flX3_67 (shH0 hh2) rfl ?_
      rw [jh3]
      refine x_ic_gt (tgt := 159) dX3_make_107 (by decide) (by first | omega | exact z_and_r _ _ | exact z_or_r _ _ | exact z_xor_r _ _) (fun h107 => ?_) (fun h107 => ?_)
      · exfalso; omega
      · refine x_aload_n dX3_make_110 0 rfl rfl ?_
        refine x_getR dX3_make_111 flX3_15 (shP0 hp2) rfl hp2.2.1 ?_
        refine x_iload dX3_make_114 6 rfl ?_
        refine x_iconst dX3_make_116 ?_
        refine x_iast dX3_make_117 (shP1 hp2) (by omega) ?_
        refine x_aload_n dX3_make_118 0 rfl rfl ?_
        refine x_getR dX3_make_119 flX3_19 (shP0 hp2) rfl hp2.2.2.1 ?_
        refine x_iload dX3_make_122 6 rfl ?_
        refine x_iconst dX3_make_124 ?_
        refine x_iast dX3_make_125 (shP2 hp2) (by omega) ?_
        refine x_aload_n dX3_make_126 0 rfl rfl ?_
        refine x_getR dX3_make_127 flX3_22 (shP0 hp2) rfl hp2.2.2.2.1 ?_
        refine x_iload dX3_make_130 6 rfl ?_
        refine x_iconst dX3_make_132 ?_
        refine x_iast dX3_make_133 (shP3 hp2) (by omega) ?_
        refine x_aload_n dX3_make_134 0 rfl rfl ?_
        refine x_getR dX3_make_135 flX3_25 (shP0 hp2) rfl hp2.2.2.2.2.1 ?_
        refine x_iload dX3_make_138 6 rfl ?_
        refine x_iload dX3_make_140 6 rfl ?_
        refine x_if_ne (tgt := 150) dX3_make_142 (by decide) (by first | omega | exact z_and_r _ _ | exact z_or_r _ _ | exact z_xor_r _ _) (fun h142 => ?_) (fun h142 => ?_)
        · refine x_iload dX3_make_150 4 rfl ?_
          refine x_iast dX3_make_152 (shP4 hp2) (by omega) ?_
          refine x_iinc (lv' := [(0, _), (1, _), (2, _), (3, _), (4, _), (5, _), (6, _)]) dX3_make_153 6 rfl rfl rfl ?_
          refine x_goto (tgt := 98) dX3_make_156 (by decide) ?_
          have hr := fun X : Int => mk_row (J := J) (p := p) (t := (t : Int)) (X := X)
          refine ih _ (fun c i q => ((hr _).1 c i q).trans (m1 c i q)) (fun s hs => ?_)
          by_cases e : s = t
          · subst e
            refine ⟨(hr _).2.2.1, (hr _).2.2.2.1, (hr _).2.2.2.2.1, (hr _).2.2.2.2.2.trans ?_⟩
            first
            | (rw [if_pos (by omega)])
            | (rw [if_neg (by omega)])
          · have h4 := m2 s (by omega)
            rw [(hr _).2.1 _ _ (by omega), (hr _).2.1 _ _ (by omega), (hr _).2.1 _ _ (by omega), (hr _).2.1 _ _ (by omega)]
            exact h4
        · refine x_iload dX3_make_145 5 rfl ?_
          refine x_goto (tgt := 152) dX3_make_147 (by decide) ?_
          refine x_iast dX3_make_152 (shP4 hp2) (by omega) ?_
          refine x_iinc (lv' := [(0, _), (1, _), (2, _), (3, _), (4, _), (5, _), (6, _)]) dX3_make_153 6 rfl rfl rfl ?_
          refine x_goto (tgt := 98) dX3_make_156 (by decide) ?_
          have hr := fun X : Int => mk_row (J := J) (p := p) (t := (t : Int)) (X := X)
          refine ih _ (fun c i q => ((hr _).1 c i q).trans (m1 c i q)) (fun s hs => ?_)
          by_cases e : s = t
          · subst e
            refine ⟨(hr _).2.2.1, (hr _).2.2.2.1, (hr _).2.2.2.2.1, (hr _).2.2.2.2.2.trans ?_⟩
            first
            | (rw [if_pos (by omega)])
            | (rw [if_neg (by omega)])
          · have h4 := m2 s (by omega)
            rw [(hr _).2.1 _ _ (by omega), (hr _).2.1 _ _ (by omega), (hr _).2.1 _ _ (by omega), (hr _).2.1 _ _ (by omega)]
            exact h4
    · intro J m1 m2
      have jh3 : J h 3 = I h 3 := (m1 h 3 (by omega)).trans (ic h 3 (by omega))
      have jc : ∀ c i, c ≠ p → ¬ (p + 1 ≤ c ∧ c ≤ p + 4) → J c i = I c i := fun c i q1 q2 => (m1 c i q2).trans (ic c i q1)
      have jk : okP J h := by
        unfold okP
        rw [jc h 0 (by omega) (by omega), jc h 2 (by omega) (by omega)]
        exact ⟨k1, k2, fun w hw => by rw [jc (h + 3) _ (by omega) (by omega)]; exact k3 w hw⟩
      have ju : 0 ≤ J p 1 ∧ J p 1 ≤ J h 2 := by
        rw [m1 p 1 (by omega), i1, jc h 2 (by omega) (by omega)]
        omega
      refine x_iload dX3_make_98 6 rfl ?_
      refine x_aload_n dX3_make_100 0 rfl rfl ?_
      refine x_getR dX3_make_101 flX3_9 (shP0 hp2) rfl hph2 ?_
      refine x_getI dX3_make_104 flX3_67 (shH0 hh2) rfl ?_
      rw [jh3]
      refine x_ic_gt (tgt := 159) dX3_make_107 (by decide) (by first | omega | exact z_and_r _ _ | exact z_or_r _ _ | exact z_xor_r _ _) (fun h107 => ?_) (fun h107 => ?_)
      · refine x_aload_n dX3_make_159 0 rfl rfl ?_
        refine x_callVv (as := []) dX3_make_160 lvX3_70 rfl (shP0 hp2) rfl rfl rfl rfl rfl ⟨rfl, rfl⟩ (s_X3_shape hp2 hh2 hph2 jk ju) (fun I160 L160 R160 hq160 => ?_)
        obtain ⟨w1, w2, rfl, rfl⟩ := hq160
        refine x_vret dX3_make_163 rfl ?_
        rw [← hQ]
        refine ⟨rfl, hR2, rfl, ?_, ?_, ?_, w2, fun t ht => ?_, fun c i q => ?_⟩
        · rw [w1 p 1 (by omega) (by omega), m1 p 1 (by omega), i1, hus]
        · rw [w1 p 2 (by omega) (by omega), m1 p 2 (by omega), i2]
        · rw [w1 p 4 (by omega) (by omega), m1 p 4 (by omega), i4]
        · rw [w1 _ _ (by omega) (by omega), w1 _ _ (by omega) (by omega), w1 _ _ (by omega) (by omega), w1 _ _ (by omega) (by omega), hus, Int.toNat_natCast]
          exact m2 t (by omega)
        · rw [w1 c i (by omega) (by omega)]
          exact jc c i (by omega) (by omega)
      · exfalso; omega
  have l1 : ∀ w : Nat, w ≤ us → Rn G mtX3_make Q 41 [(0, mr p), (1, mr h), (2, mi u), (3, mi v), (4, mi (anX I h w)), (5, mi (bgX I h w)), (6, mi (w : Int))] [] shX I1 L R2 := by
    refine lpn _ (fun w hw ih => ?_) ?_
    · refine x_iload dX3_make_41 6 rfl ?_
      refine x_aload_n dX3_make_43 0 rfl rfl ?_
      refine x_getI dX3_make_44 flX3_49 (shP0 hp2) rfl ?_
      rw [i1]
      refine x_ic_ge (tgt := 95) dX3_make_47 (by decide) (by first | omega | exact z_and_r _ _ | exact z_or_r _ _ | exact z_xor_r _ _) (fun h47 => ?_) (fun h47 => ?_)
      · exfalso; omega
      · refine x_iload dX3_make_50 4 rfl ?_
        refine x_aload_n dX3_make_52 0 rfl rfl ?_
        refine x_getR dX3_make_53 flX3_9 (shP0 hp2) rfl hph2 ?_
        refine x_callVi (as := []) dX3_make_56 lvX3_60 rfl (shH0 hh2) rfl rfl rfl rfl rfl ⟨rfl, rfl⟩ (s_X0_roomBits hh2) (fun z56 I56 L56 R56 hq56 => ?_)
        obtain ⟨rfl, rfl, rfl, rfl⟩ := hq56
        rw [ic _ _ (by omega)]
        refine x_bipush dX3_make_59 (by decide) ?_
        refine x_iload dX3_make_61 6 rfl ?_
        refine x_imul dX3_make_63 ?_
        refine x_ishl dX3_make_64 ?_
        refine x_ior dX3_make_65 ?_
        refine x_istore (lv' := [(0, _), (1, _), (2, _), (3, _), (4, _), (5, _), (6, _)]) dX3_make_66 rfl rfl ?_
        refine x_iload dX3_make_68 5 rfl ?_
        refine x_aload_n dX3_make_70 0 rfl rfl ?_
        refine x_getR dX3_make_71 flX3_9 (shP0 hp2) rfl hph2 ?_
        refine x_getR dX3_make_74 flX3_64 (shH0 hh2) rfl hh2.2.2.2.2 ?_
        refine x_iload dX3_make_77 6 rfl ?_
        refine x_iald dX3_make_79 (shH4 hh2) (by omega) ?_
        rw [ic _ _ (by omega)]
        refine x_bipush dX3_make_80 (by decide) ?_
        refine x_iload dX3_make_82 6 rfl ?_
        refine x_imul dX3_make_84 ?_
        refine x_ishl dX3_make_85 ?_
        refine x_ior dX3_make_86 ?_
        refine x_istore (lv' := [(0, _), (1, _), (2, _), (3, _), (4, _), (5, _), (6, _)]) dX3_make_87 rfl rfl ?_
        refine x_iinc (lv' := [(0, _), (1, _), (2, _), (3, _), (4, _), (5, _), (6, _)]) dX3_make_89 6 rfl rfl rfl ?_
        refine x_goto (tgt := 41) dX3_make_92 (by decide) ?_
        exact ih
    · refine x_iload dX3_make_41 6 rfl ?_
      refine x_aload_n dX3_make_43 0 rfl rfl ?_
      refine x_getI dX3_make_44 flX3_49 (shP0 hp2) rfl ?_
      rw [i1]
      refine x_ic_ge (tgt := 95) dX3_make_47 (by decide) (by first | omega | exact z_and_r _ _ | exact z_or_r _ _ | exact z_xor_r _ _) (fun h47 => ?_) (fun h47 => ?_)
      · refine x_iconst dX3_make_95 ?_
        refine x_istore (lv' := [(0, _), (1, _), (2, _), (3, _), (4, _), (5, _), (6, _)]) dX3_make_96 rfl rfl ?_
        exact l2 0 (by omega) I1 (fun _ _ _ => rfl) (fun s hs => by omega)
      · exfalso; omega
  refine x_aload_n dX3_make_0 0 rfl rfl ?_
  refine x_aload_n dX3_make_1 1 rfl rfl ?_
  refine x_putR dX3_make_2 flX3_9 rfl (shP0 hp) rfl ?_
  refine x_aload_n dX3_make_5 0 rfl rfl ?_
  refine x_iload_n dX3_make_6 2 rfl rfl ?_
  refine x_aload_n dX3_make_7 0 rfl rfl ?_
  refine x_getR dX3_make_8 flX3_9 (shP0 hp) rfl (m_up_eq) ?_
  refine x_getI dX3_make_11 flX3_37 (shH0 hh) rfl ?_
  refine x_imin dX3_make_14 lvX3_43 rfl (by first | omega | exact z_and_r _ _ | exact z_or_r _ _ | exact z_xor_r _ _) ?_
  refine x_putI dX3_make_17 flX3_49 rfl (shP0 hp) rfl ?_
  refine x_aload_n dX3_make_20 0 rfl rfl ?_
  refine x_iload_n dX3_make_21 3 rfl rfl ?_
  refine x_putI dX3_make_22 flX3_52 rfl (shP0 hp) rfl ?_
  refine x_aload_n dX3_make_25 0 rfl rfl ?_
  refine x_iconst dX3_make_26 ?_
  refine x_putZ dX3_make_27 flX3_55 rfl (shP0 hp) rfl (by omega) ?_
  refine x_ldc (16515072) dX3_make_30 lkX3_59 ?_
  refine x_istore (lv' := [(0, _), (1, _), (2, _), (3, _), (4, _)]) dX3_make_32 rfl rfl ?_
  refine x_ldc (16515072) dX3_make_34 lkX3_59 ?_
  refine x_istore (lv' := [(0, _), (1, _), (2, _), (3, _), (4, _), (5, _)]) dX3_make_36 rfl rfl ?_
  refine x_iconst dX3_make_38 ?_
  refine x_istore (lv' := [(0, _), (1, _), (2, _), (3, _), (4, _), (5, _), (6, _)]) dX3_make_39 rfl rfl ?_
  rw [← hR2, ← hI1]
  exact l1 0 (by omega)
end

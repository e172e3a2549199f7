/-! THE LAW'S OWN METHODS: numbers. -/
/-- a house by numbers, but for where walkers may begin -/
def HO0 (hv : Int → Int) (R D W T : Nat) : Prop := (hv 0 = R ∧ hv 1 = D ∧ hv 2 = W ∧ hv 3 = T ∧ (0 ≤ hv 4 ∧ hv 4 ≤ 255)) ∧ (∀ e : Nat, e < D → 0 ≤ hv (8 + 2 * (e : Int)) ∧ hv (8 + 2 * (e : Int)) < hv (9 + 2 * (e : Int)) ∧ hv (9 + 2 * (e : Int)) < R) ∧ ∀ w : Nat, w < W → (hv (30 + (w : Int)) = 1 ∨ hv (30 + (w : Int)) = 2)
def HOd (hv : Int → Int) (R k : Nat) : Prop := ∀ e : Nat, e < k → 0 ≤ hv (8 + 2 * (e : Int)) ∧ hv (8 + 2 * (e : Int)) < hv (9 + 2 * (e : Int)) ∧ hv (9 + 2 * (e : Int)) < R
def HOp (hv : Int → Int) (R D W T : Nat) : Prop := hv 0 = R ∧ hv 1 = D ∧ hv 2 = W ∧ hv 3 = T ∧ (0 ≤ hv 4 ∧ hv 4 ≤ 255)
theorem and63 (x : Int) {y : Int} (hy : 0 ≤ y ∧ y ≤ 63) : 0 ≤ z_and x y ∧ z_and x y ≤ 63 := by
  have h := (tb_up (x := y) (by omega) 6 (by omega)).mp (by omega)
  have := (tb_up (z_and_r x y) 6 (by omega)).mpr (fun k h1 h2 => by rw [tb_and, h k h1 h2]; simp)
  omega
theorem shl_7 : ∀ D : Nat, D < 7 → (1 ≤ z_shl 1 (D : Int) ∧ z_shl 1 (D : Int) ≤ 64) := by decide
theorem mod_ne {R : Nat} (hR : 2 ≤ R ∧ R ≤ 5) {x y : Int} (hx : 0 ≤ x) (hy : 0 ≤ y) : (0 ≤ x % (R : Int) ∧ x % (R : Int) < R) ∧ (0 ≤ y % ((R : Int) - 1) ∧ y % ((R : Int) - 1) < (R : Int) - 1) ∧ (0 ≤ (x % (R : Int) + 1 + y % ((R : Int) - 1)) % (R : Int) ∧ (x % (R : Int) + 1 + y % ((R : Int) - 1)) % (R : Int) < R) ∧ (x % (R : Int) + 1 + y % ((R : Int) - 1)) % (R : Int) ≠ x % (R : Int) := by
  have c : R = 2 ∨ R = 3 ∨ R = 4 ∨ R = 5 := by omega
  rcases c with rfl | rfl | rfl | rfl <;> omega

theorem c_numbers {G : GT} {a L hh : Nat} {xs : Nat → Int32} {N0 : NM} {R D W T : Nat} (hL : L ≤ 260) (hah : a ≠ hh) (hR : 2 ≤ R ∧ R ≤ 5) (hD : 1 ≤ D ∧ D ≤ 6) (hW : 1 ≤ W ∧ W ≤ 3) (hT : 1 ≤ T ∧ T ≤ 5) : n_Spec G mtL_numbers (some (a, L, xs)) [mr a, mi 10, mi (R : Int), mi (D : Int), mi (W : Int), mi (T : Int), mr hh] [(hh, [.inr (0, 64)])] N0 (fun v N => v = none ∧ HO0 ((N 0).1 0) R D W T) := by
  refine n_Spec.of pnL_numbers rfl (fun i q h k hk => ?_) ?_
  · rcases i with _ | i
    · cases h
      have hk : k < 1 := hk
      show a ≠ hh + k
      omega
    · cases h
  show n_Run G mtL_numbers _ _ (some (a, L, xs)) [(hh, [.inr (0, 64)])] 0 0 0 [(0, mr a), (1, mi 10), (2, mi (R : Int)), (3, mi (D : Int)), (4, mi (W : Int)), (5, mi (T : Int)), (6, mr hh)] [] N0
  have hap := n_ap1 (hh, [.inr (0, 64)])
  generalize hQ : (fun (v : Option MV) (N : NM) => v = none ∧ HO0 ((N 0).1 0) R D W T) = Q
  have hs := shl_7 D (by omega)
  have hs2 := shl_7 R (by omega)
  have lp2 : ∀ k : Nat, k ≤ W → ∀ N : NM, HOp ((N 0).1 0) R D W T → HOd ((N 0).1 0) R D → (∀ w : Nat, w < k → ((N 0).1 0 (30 + (w : Int)) = 1 ∨ (N 0).1 0 (30 + (w : Int)) = 2)) → n_Run G mtL_numbers mtL_numbers.rm (n_Zc G mtL_numbers [(hh, [.inr (0, 64)])] Q) (some (a, L, xs)) [(hh, [.inr (0, 64)])] 0 0 144 [(0, mr a), (1, mi 10), (2, mi (R : Int)), (3, mi (D : Int)), (4, mi (W : Int)), (5, mi (T : Int)), (6, mr hh), (7, mi (k : Int))] [] N := by
    refine lpn W (fun k hk ih => ?_) ?_
    · intro N hp hd hw
      refine n_iload dL_numbers_144 7 rfl ?_
      refine n_iload dL_numbers_146 4 rfl ?_
      refine n_ic_ge (tgt := 222) dL_numbers_148 (by decide) (by omega) (fun h148 => ?_) (fun h148 => ?_)
      · exfalso; omega
      · refine n_aload dL_numbers_151 6 rfl ?_
        refine n_bipush dL_numbers_153 (by decide) ?_
        refine n_iload dL_numbers_155 7 rfl ?_
        refine n_iadd dL_numbers_157 ?_
        refine n_iconst dL_numbers_158 ?_
        refine n_aload_n dL_numbers_159 0 rfl rfl ?_
        refine n_iload_n dL_numbers_160 1 rfl rfl ?_
        refine n_bipush dL_numbers_161 (by decide) ?_
        refine n_iadd dL_numbers_163 ?_
        refine n_iload dL_numbers_164 7 rfl ?_
        refine n_iadd dL_numbers_166 ?_
        refine n_cell dL_numbers_167 lvL_19 rfl hap rfl hL (by omega) rfl ⟨Nat.zero_le _, Nat.zero_le _⟩ (fun z167 hz167 => ?_)
        refine n_iconst dL_numbers_170 ?_
        refine n_mod dL_numbers_171 (by omega) (by omega) ?_
        refine n_iadd dL_numbers_172 ?_
        refine n_iasv (i := 0) (n := 64) dL_numbers_173 hap rfl (by omega) (fun N173 hw173 ho173 => ?_)
        refine n_aload_n dL_numbers_174 0 rfl rfl ?_
        refine n_iload_n dL_numbers_175 1 rfl rfl ?_
        refine n_bipush dL_numbers_176 (by decide) ?_
        refine n_iadd dL_numbers_178 ?_
        refine n_iload dL_numbers_179 7 rfl ?_
        refine n_iadd dL_numbers_181 ?_
        refine n_cell dL_numbers_182 lvL_19 rfl hap rfl hL (by omega) rfl ⟨Nat.zero_le _, Nat.zero_le _⟩ (fun z182 hz182 => ?_)
        refine n_iconst dL_numbers_185 ?_
        refine n_iload_n dL_numbers_186 2 rfl rfl ?_
        refine n_ishl dL_numbers_187 ?_
        refine n_iconst dL_numbers_188 ?_
        refine n_isub dL_numbers_189 ?_
        refine n_iand dL_numbers_190 ?_
        refine n_istore (lv' := [(0, _), (1, _), (2, _), (3, _), (4, _), (5, _), (6, _), (7, _), (8, _)]) dL_numbers_191 rfl rfl ?_
        refine n_aload dL_numbers_193 6 rfl ?_
        refine n_bipush dL_numbers_195 (by decide) ?_
        refine n_iload dL_numbers_197 7 rfl ?_
        refine n_iadd dL_numbers_199 ?_
        refine n_iload dL_numbers_200 8 rfl ?_
        refine n_if_ne (tgt := 213) dL_numbers_202 (by decide) (by exact z_and_r _ _) (fun h202 => ?_) (fun h202 => ?_)
        · refine n_iload dL_numbers_213 8 rfl ?_
          refine n_iasv (i := 0) (n := 64) dL_numbers_215 hap rfl (by omega) (fun N215 hw215 ho215 => ?_)
          refine n_iinc (lv' := [(0, _), (1, _), (2, _), (3, _), (4, _), (5, _), (6, _), (7, _), (8, _)]) dL_numbers_216 7 rfl rfl rfl ?_
          refine n_goto (tgt := 144) dL_numbers_219 (by decide) ?_
          refine n_top (lv' := [(0, _), (1, _), (2, _), (3, _), (4, _), (5, _), (6, _), (7, _)]) 8 rfl ?_
          refine ih N215 ?_ ?_ ?_
          · obtain ⟨p0, p1, p2, p3, p4⟩ := hp
            unfold HOp
            rw [hw215, hw215, hw215, hw215, hw215, if_neg (by omega), if_neg (by omega), if_neg (by omega), if_neg (by omega), if_neg (by omega), hw173, hw173, hw173, hw173, hw173, if_neg (by omega), if_neg (by omega), if_neg (by omega), if_neg (by omega), if_neg (by omega)]
            exact ⟨p0, p1, p2, p3, p4⟩
          · intro e he
            have := hd e he
            rw [hw215, hw215, if_neg (by omega), if_neg (by omega), hw173, hw173, if_neg (by omega), if_neg (by omega)]
            exact this
          · intro w hwk
            rw [hw215, if_neg (by omega), hw173]
            by_cases q : w = k
            · subst q
              rw [if_pos rfl]
              omega
            · rw [if_neg (by omega)]
              exact hw w (by omega)
        · refine n_iconst dL_numbers_205 ?_
          refine n_iload_n dL_numbers_206 2 rfl rfl ?_
          refine n_ishl dL_numbers_207 ?_
          refine n_iconst dL_numbers_208 ?_
          refine n_isub dL_numbers_209 ?_
          refine n_goto (tgt := 215) dL_numbers_210 (by decide) ?_
          refine n_iasv (i := 0) (n := 64) dL_numbers_215 hap rfl (by omega) (fun N215 hw215 ho215 => ?_)
          refine n_iinc (lv' := [(0, _), (1, _), (2, _), (3, _), (4, _), (5, _), (6, _), (7, _), (8, _)]) dL_numbers_216 7 rfl rfl rfl ?_
          refine n_goto (tgt := 144) dL_numbers_219 (by decide) ?_
          refine n_top (lv' := [(0, _), (1, _), (2, _), (3, _), (4, _), (5, _), (6, _), (7, _)]) 8 rfl ?_
          refine ih N215 ?_ ?_ ?_
          · obtain ⟨p0, p1, p2, p3, p4⟩ := hp
            unfold HOp
            rw [hw215, hw215, hw215, hw215, hw215, if_neg (by omega), if_neg (by omega), if_neg (by omega), if_neg (by omega), if_neg (by omega), hw173, hw173, hw173, hw173, hw173, if_neg (by omega), if_neg (by omega), if_neg (by omega), if_neg (by omega), if_neg (by omega)]
            exact ⟨p0, p1, p2, p3, p4⟩
          · intro e he
            have := hd e he
            rw [hw215, hw215, if_neg (by omega), if_neg (by omega), hw173, hw173, if_neg (by omega), if_neg (by omega)]
            exact this
          · intro w hwk
            rw [hw215, if_neg (by omega), hw173]
            by_cases q : w = k
            · subst q
              rw [if_pos rfl]
              omega
            · rw [if_neg (by omega)]
              exact hw w (by omega)
    · intro N hp hd hw
      refine n_iload dL_numbers_144 7 rfl ?_
      refine n_iload dL_numbers_146 4 rfl ?_
      refine n_ic_ge (tgt := 222) dL_numbers_148 (by decide) (by omega) (fun h148 => ?_) (fun h148 => ?_)
      · refine n_vret dL_numbers_222 rfl ?_
        rw [← hQ]
        exact ⟨rfl, hp, hd, hw⟩
      · exfalso; omega
  have lp1 : ∀ k : Nat, k ≤ D → ∀ N : NM, HOp ((N 0).1 0) R D W T → HOd ((N 0).1 0) R k → n_Run G mtL_numbers mtL_numbers.rm (n_Zc G mtL_numbers [(hh, [.inr (0, 64)])] Q) (some (a, L, xs)) [(hh, [.inr (0, 64)])] 0 0 40 [(0, mr a), (1, mi 10), (2, mi (R : Int)), (3, mi (D : Int)), (4, mi (W : Int)), (5, mi (T : Int)), (6, mr hh), (7, mi (k : Int))] [] N := by
    refine lpn D (fun k hk ih => ?_) ?_
    · intro N hp hd
      refine n_iload dL_numbers_40 7 rfl ?_
      refine n_iload_n dL_numbers_42 3 rfl rfl ?_
      refine n_ic_ge (tgt := 141) dL_numbers_43 (by decide) (by omega) (fun h43 => ?_) (fun h43 => ?_)
      · exfalso; omega
      · refine n_aload_n dL_numbers_46 0 rfl rfl ?_
        refine n_iload_n dL_numbers_47 1 rfl rfl ?_
        refine n_iconst dL_numbers_48 ?_
        refine n_iadd dL_numbers_49 ?_
        refine n_iconst dL_numbers_50 ?_
        refine n_iload dL_numbers_51 7 rfl ?_
        refine n_imul dL_numbers_53 ?_
        refine n_iadd dL_numbers_54 ?_
        refine n_cell dL_numbers_55 lvL_19 rfl hap rfl hL (by omega) rfl ⟨Nat.zero_le _, Nat.zero_le _⟩ (fun z55 hz55 => ?_)
        refine n_iload_n dL_numbers_58 2 rfl rfl ?_
        refine n_mod dL_numbers_59 (by omega) (by omega) ?_
        refine n_istore (lv' := [(0, _), (1, _), (2, _), (3, _), (4, _), (5, _), (6, _), (7, _), (8, _)]) dL_numbers_60 rfl rfl ?_
        refine n_iload dL_numbers_62 8 rfl ?_
        refine n_iconst dL_numbers_64 ?_
        refine n_iadd dL_numbers_65 ?_
        refine n_aload_n dL_numbers_66 0 rfl rfl ?_
        refine n_iload_n dL_numbers_67 1 rfl rfl ?_
        refine n_iconst dL_numbers_68 ?_
        refine n_iadd dL_numbers_69 ?_
        refine n_iconst dL_numbers_70 ?_
        refine n_iload dL_numbers_71 7 rfl ?_
        refine n_imul dL_numbers_73 ?_
        refine n_iadd dL_numbers_74 ?_
        refine n_cell dL_numbers_75 lvL_19 rfl hap rfl hL (by omega) rfl ⟨Nat.zero_le _, Nat.zero_le _⟩ (fun z75 hz75 => ?_)
        have mn := mod_ne hR (x := z55) (y := z75) (by omega) (by omega)
        refine n_iload_n dL_numbers_78 2 rfl rfl ?_
        refine n_iconst dL_numbers_79 ?_
        refine n_isub dL_numbers_80 ?_
        refine n_mod dL_numbers_81 (by omega) (by omega) ?_
        refine n_iadd dL_numbers_82 ?_
        refine n_iload_n dL_numbers_83 2 rfl rfl ?_
        refine n_mod dL_numbers_84 (by omega) (by omega) ?_
        generalize (z55 % (R : Int) + 1 + z75 % ((R : Int) - 1)) % (R : Int) = ec at *
        generalize z55 % (R : Int) = ea at *
        refine n_istore (lv' := [(0, _), (1, _), (2, _), (3, _), (4, _), (5, _), (6, _), (7, _), (8, _), (9, _)]) dL_numbers_85 rfl rfl ?_
        refine n_aload dL_numbers_87 6 rfl ?_
        refine n_bipush dL_numbers_89 (by decide) ?_
        refine n_iconst dL_numbers_91 ?_
        refine n_iload dL_numbers_92 7 rfl ?_
        refine n_imul dL_numbers_94 ?_
        refine n_iadd dL_numbers_95 ?_
        refine n_iload dL_numbers_96 8 rfl ?_
        refine n_iload dL_numbers_98 9 rfl ?_
        refine n_ic_ge (tgt := 108) dL_numbers_100 (by decide) (by omega) (fun h100 => ?_) (fun h100 => ?_)
        · refine n_iload dL_numbers_108 9 rfl ?_
          refine n_iasv (i := 0) (n := 64) dL_numbers_110 hap rfl (by omega) (fun N110 hw110 ho110 => ?_)
          refine n_aload dL_numbers_111 6 rfl ?_
          refine n_bipush dL_numbers_113 (by decide) ?_
          refine n_iconst dL_numbers_115 ?_
          refine n_iload dL_numbers_116 7 rfl ?_
          refine n_imul dL_numbers_118 ?_
          refine n_iadd dL_numbers_119 ?_
          refine n_iload dL_numbers_120 8 rfl ?_
          refine n_iload dL_numbers_122 9 rfl ?_
          refine n_ic_ge (tgt := 132) dL_numbers_124 (by decide) (by omega) (fun h124 => ?_) (fun h124 => ?_)
          · refine n_iload dL_numbers_132 8 rfl ?_
            refine n_iasv (i := 0) (n := 64) dL_numbers_134 hap rfl (by omega) (fun N134 hw134 ho134 => ?_)
            refine n_iinc (lv' := [(0, _), (1, _), (2, _), (3, _), (4, _), (5, _), (6, _), (7, _), (8, _), (9, _)]) dL_numbers_135 7 rfl rfl rfl ?_
            refine n_goto (tgt := 40) dL_numbers_138 (by decide) ?_
            refine n_top (lv' := [(0, _), (1, _), (2, _), (3, _), (4, _), (5, _), (6, _), (7, _)]) 8 rfl ?_
            refine ih N134 ?_ ?_
            · obtain ⟨p0, p1, p2, p3, p4⟩ := hp
              unfold HOp
              rw [hw134, hw134, hw134, hw134, hw134, if_neg (by omega), if_neg (by omega), if_neg (by omega), if_neg (by omega), if_neg (by omega), hw110, hw110, hw110, hw110, hw110, if_neg (by omega), if_neg (by omega), if_neg (by omega), if_neg (by omega), if_neg (by omega)]
              exact ⟨p0, p1, p2, p3, p4⟩
            · intro e he
              by_cases q : e = k
              · subst q
                rw [hw134, hw134, if_neg (by omega), if_pos rfl, hw110, if_pos rfl]
                omega
              · have := hd e (by omega)
                rw [hw134, hw134, if_neg (by omega), if_neg (by omega), hw110, hw110, if_neg (by omega), if_neg (by omega)]
                exact this
          · refine n_iload dL_numbers_127 9 rfl ?_
            refine n_goto (tgt := 134) dL_numbers_129 (by decide) ?_
            refine n_iasv (i := 0) (n := 64) dL_numbers_134 hap rfl (by omega) (fun N134 hw134 ho134 => ?_)
            refine n_iinc (lv' := [(0, _), (1, _), (2, _), (3, _), (4, _), (5, _), (6, _), (7, _), (8, _), (9, _)]) dL_numbers_135 7 rfl rfl rfl ?_
            refine n_goto (tgt := 40) dL_numbers_138 (by decide) ?_
            refine n_top (lv' := [(0, _), (1, _), (2, _), (3, _), (4, _), (5, _), (6, _), (7, _)]) 8 rfl ?_
            refine ih N134 ?_ ?_
            · obtain ⟨p0, p1, p2, p3, p4⟩ := hp
              unfold HOp
              rw [hw134, hw134, hw134, hw134, hw134, if_neg (by omega), if_neg (by omega), if_neg (by omega), if_neg (by omega), if_neg (by omega), hw110, hw110, hw110, hw110, hw110, if_neg (by omega), if_neg (by omega), if_neg (by omega), if_neg (by omega), if_neg (by omega)]
              exact ⟨p0, p1, p2, p3, p4⟩
            · intro e he
              by_cases q : e = k
              · subst q
                rw [hw134, hw134, if_neg (by omega), if_pos rfl, hw110, if_pos rfl]
                omega
              · have := hd e (by omega)
                rw [hw134, hw134, if_neg (by omega), if_neg (by omega), hw110, hw110, if_neg (by omega), if_neg (by omega)]
                exact this
        · refine n_iload dL_numbers_103 8 rfl ?_
          refine n_goto (tgt := 110) dL_numbers_105 (by decide) ?_
          refine n_iasv (i := 0) (n := 64) dL_numbers_110 hap rfl (by omega) (fun N110 hw110 ho110 => ?_)
          refine n_aload dL_numbers_111 6 rfl ?_
          refine n_bipush dL_numbers_113 (by decide) ?_
          refine n_iconst dL_numbers_115 ?_
          refine n_iload dL_numbers_116 7 rfl ?_
          refine n_imul dL_numbers_118 ?_
          refine n_iadd dL_numbers_119 ?_
          refine n_iload dL_numbers_120 8 rfl ?_
          refine n_iload dL_numbers_122 9 rfl ?_
          refine n_ic_ge (tgt := 132) dL_numbers_124 (by decide) (by omega) (fun h124 => ?_) (fun h124 => ?_)
          · refine n_iload dL_numbers_132 8 rfl ?_
            refine n_iasv (i := 0) (n := 64) dL_numbers_134 hap rfl (by omega) (fun N134 hw134 ho134 => ?_)
            refine n_iinc (lv' := [(0, _), (1, _), (2, _), (3, _), (4, _), (5, _), (6, _), (7, _), (8, _), (9, _)]) dL_numbers_135 7 rfl rfl rfl ?_
            refine n_goto (tgt := 40) dL_numbers_138 (by decide) ?_
            refine n_top (lv' := [(0, _), (1, _), (2, _), (3, _), (4, _), (5, _), (6, _), (7, _)]) 8 rfl ?_
            refine ih N134 ?_ ?_
            · obtain ⟨p0, p1, p2, p3, p4⟩ := hp
              unfold HOp
              rw [hw134, hw134, hw134, hw134, hw134, if_neg (by omega), if_neg (by omega), if_neg (by omega), if_neg (by omega), if_neg (by omega), hw110, hw110, hw110, hw110, hw110, if_neg (by omega), if_neg (by omega), if_neg (by omega), if_neg (by omega), if_neg (by omega)]
              exact ⟨p0, p1, p2, p3, p4⟩
            · intro e he
              by_cases q : e = k
              · subst q
                rw [hw134, hw134, if_neg (by omega), if_pos rfl, hw110, if_pos rfl]
                omega
              · have := hd e (by omega)
                rw [hw134, hw134, if_neg (by omega), if_neg (by omega), hw110, hw110, if_neg (by omega), if_neg (by omega)]
                exact this
          · refine n_iload dL_numbers_127 9 rfl ?_
            refine n_goto (tgt := 134) dL_numbers_129 (by decide) ?_
            refine n_iasv (i := 0) (n := 64) dL_numbers_134 hap rfl (by omega) (fun N134 hw134 ho134 => ?_)
            refine n_iinc (lv' := [(0, _), (1, _), (2, _), (3, _), (4, _), (5, _), (6, _), (7, _), (8, _), (9, _)]) dL_numbers_135 7 rfl rfl rfl ?_
            refine n_goto (tgt := 40) dL_numbers_138 (by decide) ?_
            refine n_top (lv' := [(0, _), (1, _), (2, _), (3, _), (4, _), (5, _), (6, _), (7, _)]) 8 rfl ?_
            refine ih N134 ?_ ?_
            · obtain ⟨p0, p1, p2, p3, p4⟩ := hp
              unfold HOp
              rw [hw134, hw134, hw134, hw134, hw134, if_neg (by omega), if_neg (by omega), if_neg (by omega), if_neg (by omega), if_neg (by omega), hw110, hw110, hw110, hw110, hw110, if_neg (by omega), if_neg (by omega), if_neg (by omega), if_neg (by omega), if_neg (by omega)]
              exact ⟨p0, p1, p2, p3, p4⟩
            · intro e he
              by_cases q : e = k
              · subst q
                rw [hw134, hw134, if_neg (by omega), if_pos rfl, hw110, if_pos rfl]
                omega
              · have := hd e (by omega)
                rw [hw134, hw134, if_neg (by omega), if_neg (by omega), hw110, hw110, if_neg (by omega), if_neg (by omega)]
                exact this
    · intro N hp hd
      refine n_iload dL_numbers_40 7 rfl ?_
      refine n_iload_n dL_numbers_42 3 rfl rfl ?_
      refine n_ic_ge (tgt := 141) dL_numbers_43 (by decide) (by omega) (fun h43 => ?_) (fun h43 => ?_)
      · refine n_iconst dL_numbers_141 ?_
        refine n_istore (lv' := [(0, _), (1, _), (2, _), (3, _), (4, _), (5, _), (6, _), (7, _)]) dL_numbers_142 rfl rfl ?_
        exact lp2 0 (Nat.zero_le _) N hp hd (fun w hw => by omega)
      · exfalso; omega
  refine n_aload dL_numbers_0 6 rfl ?_
  refine n_iconst dL_numbers_2 ?_
  refine n_iload_n dL_numbers_3 2 rfl rfl ?_
  refine n_iasv (i := 0) (n := 64) dL_numbers_4 hap rfl (by omega) (fun N4 hw4 ho4 => ?_)
  refine n_aload dL_numbers_5 6 rfl ?_
  refine n_iconst dL_numbers_7 ?_
  refine n_iload_n dL_numbers_8 3 rfl rfl ?_
  refine n_iasv (i := 0) (n := 64) dL_numbers_9 hap rfl (by omega) (fun N9 hw9 ho9 => ?_)
  refine n_aload dL_numbers_10 6 rfl ?_
  refine n_iconst dL_numbers_12 ?_
  refine n_iload dL_numbers_13 4 rfl ?_
  refine n_iasv (i := 0) (n := 64) dL_numbers_15 hap rfl (by omega) (fun N15 hw15 ho15 => ?_)
  refine n_aload dL_numbers_16 6 rfl ?_
  refine n_iconst dL_numbers_18 ?_
  refine n_iload dL_numbers_19 5 rfl ?_
  refine n_iasv (i := 0) (n := 64) dL_numbers_21 hap rfl (by omega) (fun N21 hw21 ho21 => ?_)
  refine n_aload dL_numbers_22 6 rfl ?_
  refine n_iconst dL_numbers_24 ?_
  refine n_aload_n dL_numbers_25 0 rfl rfl ?_
  refine n_iload_n dL_numbers_26 1 rfl rfl ?_
  refine n_cell dL_numbers_27 lvL_19 rfl hap rfl hL (by omega) rfl ⟨Nat.zero_le _, Nat.zero_le _⟩ (fun z27 hz27 => ?_)
  refine n_iconst dL_numbers_30 ?_
  refine n_iload_n dL_numbers_31 3 rfl rfl ?_
  refine n_ishl dL_numbers_32 ?_
  refine n_iconst dL_numbers_33 ?_
  refine n_isub dL_numbers_34 ?_
  refine n_iand dL_numbers_35 ?_
  refine n_iasv (i := 0) (n := 64) dL_numbers_36 hap rfl (by omega) (fun N36 hw36 ho36 => ?_)
  refine n_iconst dL_numbers_37 ?_
  refine n_istore (lv' := [(0, _), (1, _), (2, _), (3, _), (4, _), (5, _), (6, _), (7, _)]) dL_numbers_38 rfl rfl ?_
  exact lp1 0 (Nat.zero_le _) N36 (by unfold HOp; simp [hw36, hw21, hw15, hw9, hw4]; have := and63 z27 (y := z_shl 1 (D : Int) - 1) (by omega); omega) (fun e he => by omega)

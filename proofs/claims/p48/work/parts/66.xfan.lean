/-! THE CLASS: the Walks: all steps out of a joint state. -/
abbrev LT : Type := Int × Int × Int × Int
def fnC (hd wt : Int) (a b c : Int × Int) : List LT := if z_and (z_or (z_or a.2 b.2) c.2) hd = wt then [(a.1 + b.1 + c.1, a.2, b.2, c.2)] else []
def fnB (hd wt : Int) (C : MVL) (a b : Int × Int) : List LT := C.flatMap (fnC hd wt a b)
def fnA (hd wt : Int) (B C : MVL) (a : Int × Int) : List LT := B.flatMap (fnB hd wt C a)
def fnL (hd wt : Int) (A B C : MVL) : List LT := A.flatMap (fnA hd wt B C)
def fo (T : LT → MI × MI → MI × MI) (M : MI × MI) (l : List LT) : MI × MI := l.foldl (fun N s => T s N) M
theorem fo_app (T : LT → MI × MI → MI × MI) (M : MI × MI) (l m : List LT) : fo T M (l ++ m) = fo T (fo T M l) m := List.foldl_append
theorem fo_nil (T : LT → MI × MI → MI × MI) (M : MI × MI) : fo T M [] = M := rfl
theorem fm_drop {α β : Type} (l : List α) (f : α → List β) (i : Nat) (h : i < l.length) : (l.drop i).flatMap f = f l[i] ++ (l.drop (i + 1)).flatMap f := by
  rw [List.drop_eq_getElem_cons h, List.flatMap_cons]
theorem fm_end {α β : Type} (l : List α) (f : α → List β) : (l.drop l.length).flatMap f = [] := by
  rw [List.drop_length]
  rfl
section
variable {G : GT} {I L : MI} {R : MR} {p h na nb nk : Nat}

set_option maxHeartbeats 1500000 in
theorem s_X6_fan {j s0 s1 s2 b0 b1 b2 : Nat} {hd wt : Int} {A B C : MVL} {Inv : MI × MI → Prop} {T : LT → MI × MI → MI × MI} (hW : isW R p na nb nk) (hmn : 0 ≤ I 19 11 ∧ I 19 11 < 31) (hs0 : s0 < 12) (hs1 : s1 < 12) (hs2 : s2 < 12) (hb0 : b0 + A.length ≤ 84) (hb1 : b1 + B.length ≤ 84) (hb2 : b2 + C.length ≤ 84)
  (q0 : I 21 (s0 : Int) = ((b0 : Nat) : Int)) (e0 : I 21 ((s0 : Int) + 1) = ((b0 + A.length : Nat) : Int)) (pa : PL I b0 A)
  (q1 : I 21 (13 + (s1 : Int)) = ((b1 : Nat) : Int)) (e1 : I 21 (13 + (s1 : Int) + 1) = ((b1 + B.length : Nat) : Int)) (pb : PL I b1 B)
  (q2 : I 21 (26 + (s2 : Int)) = ((b2 : Nat) : Int)) (e2 : I 21 (26 + (s2 : Int) + 1) = ((b2 + C.length : Nat) : Int)) (pd : PL I b2 C)
  (hhd : I p 2 = hd) (hwt : z_and (I (p + 1) (I 19 11)) hd = wt) (hrd : rI wt)
  (hI : ∀ M, Inv M → ∀ c i, c < 25 ∨ 28 < c → M.1 c i = I c i) (h0 : Inv (I, L))
  (hT : ∀ M, Inv M → ∀ a ∈ A, ∀ b ∈ B, ∀ c ∈ C, z_and (z_or (z_or a.2 b.2) c.2) hd = wt → Inv (T (a.1 + b.1 + c.1, a.2, b.2, c.2) M) ∧ Sp G mtX6_link [mr 19, mi j, mi (a.1 + b.1 + c.1), mi a.2, mi b.2, mi c.2] shX M.1 M.2 R (qv (fun I' L' R' => (I', L') = T (a.1 + b.1 + c.1, a.2, b.2, c.2) M ∧ R = R'))) : Sp G mtX6_fan [mr 19, mi ↑j, mi ↑s0, mi ↑s1, mi ↑s2] shX I L R (qv (fun I' L' R' => Inv (I', L') ∧ (I', L') = fo T (I, L) (fnL hd wt A B C) ∧ R = R')) := by
  refine Sp.of pnX6_fan rfl ?_
  show Rn G mtX6_fan _ 0 [(0, mr 19), (1, mi ↑j), (2, mi ↑s0), (3, mi ↑s1), (4, mi ↑s2)] [] shX I L R
  generalize hQ : (qv (fun I' L' R' => Inv (I', L') ∧ (I', L') = fo T (I, L) (fnL hd wt A B C) ∧ R = R')) = Q
  obtain ⟨MF, hMF⟩ : ∃ MF, MF = fo T (I, L) (fnL hd wt A B C) := ⟨_, rfl⟩
  have l0 : ∀ i : Nat, i ≤ A.length → ∀ J K, Inv (J, K) → fo T (J, K) ((A.drop i).flatMap (fnA hd wt B C)) = MF → Rn G mtX6_fan Q 72 [(0, mr 19), (1, mi (j : Int)), (2, mi (s0 : Int)), (3, mi (s1 : Int)), (4, mi (s2 : Int)), (5, mi hd), (6, mi wt), (7, mr 21), (8, mr 22), (9, mr 23), (10, mi (13 + (s1 : Int))), (11, mi (26 + (s2 : Int))), (12, mi ((b0 + i : Nat) : Int))] [] shX J K R := by
    refine lpn A.length (fun i hi ih => ?_) ?_
    · intro J K g1 g2
      have je : ∀ c i, c < 25 ∨ 28 < c → J c i = I c i := hI _ g1
      obtain ⟨a, ha⟩ : ∃ a, a = A[i] := ⟨_, rfl⟩
      have hma : a ∈ A := by rw [ha]; exact List.getElem_mem hi
      obtain ⟨xa1, xa2⟩ := pa i a (by rw [ha]; exact List.getElem?_eq_getElem hi)
      rw [fm_drop A _ i hi, ← ha, fo_app] at g2
      have je0 : J 21 ((s0 : Int) + 1) = ((b0 + A.length : Nat) : Int) := (je _ _ (by omega)).trans e0
      have jq1 : J 21 (13 + (s1 : Int)) = ((b1 : Nat) : Int) := (je _ _ (by omega)).trans q1
      have l1 : ∀ i1 : Nat, i1 ≤ B.length → ∀ J K, Inv (J, K) → fo T (fo T (J, K) ((B.drop i1).flatMap (fnB hd wt C a))) ((A.drop (i + 1)).flatMap (fnA hd wt B C)) = MF → Rn G mtX6_fan Q 90 [(0, mr 19), (1, mi (j : Int)), (2, mi (s0 : Int)), (3, mi (s1 : Int)), (4, mi (s2 : Int)), (5, mi hd), (6, mi wt), (7, mr 21), (8, mr 22), (9, mr 23), (10, mi (13 + (s1 : Int))), (11, mi (26 + (s2 : Int))), (12, mi ((b0 + i : Nat) : Int)), (13, mi ((b1 + i1 : Nat) : Int))] [] shX J K R := by
        refine lpn B.length (fun i1 hi1 ih1 => ?_) ?_
        · intro J K g1 g2
          have je : ∀ c i, c < 25 ∨ 28 < c → J c i = I c i := hI _ g1
          obtain ⟨b, hb⟩ : ∃ b, b = B[i1] := ⟨_, rfl⟩
          have hmb : b ∈ B := by rw [hb]; exact List.getElem_mem hi1
          obtain ⟨xb1, xb2⟩ := pb i1 b (by rw [hb]; exact List.getElem?_eq_getElem hi1)
          rw [fm_drop B _ i1 hi1, ← hb, fo_app] at g2
          have je1 : J 21 (13 + (s1 : Int) + 1) = ((b1 + B.length : Nat) : Int) := (je _ _ (by omega)).trans e1
          have jq2 : J 21 (26 + (s2 : Int)) = ((b2 : Nat) : Int) := (je _ _ (by omega)).trans q2
          have ja1 : J 22 ((b0 + i : Nat) : Int) = a.1 := (je _ _ (by omega)).trans xa1
          have ja2 : J 23 ((b0 + i : Nat) : Int) = a.2 := (je _ _ (by omega)).trans xa2
          have jb1 : J 22 ((b1 + i1 : Nat) : Int) = b.1 := (je _ _ (by omega)).trans xb1
          have jb2 : J 23 ((b1 + i1 : Nat) : Int) = b.2 := (je _ _ (by omega)).trans xb2
          have l2 : ∀ i2 : Nat, i2 ≤ C.length → ∀ J K, Inv (J, K) → fo T (fo T (fo T (J, K) ((C.drop i2).flatMap (fnC hd wt a b))) ((B.drop (i1 + 1)).flatMap (fnB hd wt C a))) ((A.drop (i + 1)).flatMap (fnA hd wt B C)) = MF → Rn G mtX6_fan Q 135 [(0, mr 19), (1, mi (j : Int)), (2, mi (s0 : Int)), (3, mi (s1 : Int)), (4, mi (s2 : Int)), (5, mi hd), (6, mi wt), (7, mr 21), (8, mr 22), (9, mr 23), (10, mi (13 + (s1 : Int))), (11, mi (26 + (s2 : Int))), (12, mi ((b0 + i : Nat) : Int)), (13, mi ((b1 + i1 : Nat) : Int)), (14, mi (z_or a.2 b.2)), (15, mi (a.1 + b.1)), (16, mi ((b2 + i2 : Nat) : Int))] [] shX J K R := by
            refine lpn C.length (fun i2 hi2 ih2 => ?_) ?_
            · intro J K g1 g2
              have je : ∀ c i, c < 25 ∨ 28 < c → J c i = I c i := hI _ g1
              obtain ⟨c, hc⟩ : ∃ c, c = C[i2] := ⟨_, rfl⟩
              have hmc : c ∈ C := by rw [hc]; exact List.getElem_mem hi2
              obtain ⟨xc1, xc2⟩ := pd i2 c (by rw [hc]; exact List.getElem?_eq_getElem hi2)
              rw [fm_drop C _ i2 hi2, ← hc, fo_app] at g2
              have je2 : J 21 (26 + (s2 : Int) + 1) = ((b2 + C.length : Nat) : Int) := (je _ _ (by omega)).trans e2
              have ja2 : J 23 ((b0 + i : Nat) : Int) = a.2 := (je _ _ (by omega)).trans xa2
              have jb2 : J 23 ((b1 + i1 : Nat) : Int) = b.2 := (je _ _ (by omega)).trans xb2
              have jc1 : J 22 ((b2 + i2 : Nat) : Int) = c.1 := (je _ _ (by omega)).trans xc1
              have jc2 : J 23 ((b2 + i2 : Nat) : Int) = c.2 := (je _ _ (by omega)).trans xc2
              refine x_iload dX6_fan_135 16 rfl ?_
              refine x_aload dX6_fan_137 7 rfl ?_
              refine x_iload dX6_fan_139 11 rfl ?_
              refine x_iconst dX6_fan_141 ?_
              refine x_iadd dX6_fan_142 ?_
              refine x_iald dX6_fan_143 rfl (by omega) ?_
              rw [je2]
              refine x_ic_ge (tgt := 197) dX6_fan_144 (by decide) (by first | omega | exact z_and_r _ _ | exact ⟨z_and_r _ _, hrd⟩) (fun h144 => ?_) (fun h144 => ?_)
              · exfalso; omega
              · refine x_iload dX6_fan_147 14 rfl ?_
                refine x_aload dX6_fan_149 9 rfl ?_
                refine x_iload dX6_fan_151 16 rfl ?_
                refine x_iald dX6_fan_153 rfl (by omega) ?_
                rw [jc2]
                refine x_ior dX6_fan_154 ?_
                refine x_iload dX6_fan_155 5 rfl ?_
                refine x_iand dX6_fan_157 ?_
                refine x_iload dX6_fan_158 6 rfl ?_
                refine x_ic_ne (tgt := 191) dX6_fan_160 (by decide) (by first | omega | exact z_and_r _ _ | exact ⟨z_and_r _ _, hrd⟩) (fun h160 => ?_) (fun h160 => ?_)
                · refine x_iinc (lv' := [(0, _), (1, _), (2, _), (3, _), (4, _), (5, _), (6, _), (7, _), (8, _), (9, _), (10, _), (11, _), (12, _), (13, _), (14, _), (15, _), (16, _)]) dX6_fan_191 16 rfl rfl rfl ?_
                  refine x_goto (tgt := 135) dX6_fan_194 (by decide) ?_
                  first
                  | (have hn := h160
                     first
                     | (have hy : z_and (z_or (z_or a.2 b.2) c.2) hd = wt := hn
                        have hcc : fnC hd wt a b c = [(a.1 + b.1 + c.1, a.2, b.2, c.2)] := if_pos hy
                        rw [hcc] at g2
                        have ht := (hT (J, K) g1 a hma b hmb c hmc hy).1
                        rw [← eq188] at ht
                        refine ih2 I188 L188 ht ?_
                        rw [eq188]
                        exact g2)
                     | (have hy : ¬ z_and (z_or (z_or a.2 b.2) c.2) hd = wt := hn
                        have hcc : fnC hd wt a b c = [] := if_neg hy
                        rw [hcc, fo_nil] at g2
                        exact ih2 J K g1 g2))
                · refine x_aload_n dX6_fan_163 0 rfl rfl ?_
                  refine x_iload_n dX6_fan_164 1 rfl rfl ?_
                  refine x_iload dX6_fan_165 15 rfl ?_
                  refine x_aload dX6_fan_167 8 rfl ?_
                  refine x_iload dX6_fan_169 16 rfl ?_
                  refine x_iald dX6_fan_171 rfl (by omega) ?_
                  rw [jc1]
                  refine x_iadd dX6_fan_172 ?_
                  refine x_aload dX6_fan_173 9 rfl ?_
                  refine x_iload dX6_fan_175 12 rfl ?_
                  refine x_iald dX6_fan_177 rfl (by omega) ?_
                  rw [ja2]
                  refine x_aload dX6_fan_178 9 rfl ?_
                  refine x_iload dX6_fan_180 13 rfl ?_
                  refine x_iald dX6_fan_182 rfl (by omega) ?_
                  rw [jb2]
                  refine x_aload dX6_fan_183 9 rfl ?_
                  refine x_iload dX6_fan_185 16 rfl ?_
                  refine x_iald dX6_fan_187 rfl (by omega) ?_
                  rw [jc2]
                  refine x_callVv (as := [_, _, _, _, _]) dX6_fan_188 lvX6_204 rfl rfl rfl rfl rfl rfl rfl ⟨rfl, rfl⟩ ((hT (J, K) g1 a hma b hmb c hmc (by assumption)).2) (fun I188 L188 R188 hq188 => ?_)
                  obtain ⟨eq188, rfl⟩ := hq188
                  refine x_iinc (lv' := [(0, _), (1, _), (2, _), (3, _), (4, _), (5, _), (6, _), (7, _), (8, _), (9, _), (10, _), (11, _), (12, _), (13, _), (14, _), (15, _), (16, _)]) dX6_fan_191 16 rfl rfl rfl ?_
                  refine x_goto (tgt := 135) dX6_fan_194 (by decide) ?_
                  first
                  | (have hn := h160
                     first
                     | (have hy : z_and (z_or (z_or a.2 b.2) c.2) hd = wt := hn
                        have hcc : fnC hd wt a b c = [(a.1 + b.1 + c.1, a.2, b.2, c.2)] := if_pos hy
                        rw [hcc] at g2
                        have ht := (hT (J, K) g1 a hma b hmb c hmc hy).1
                        rw [← eq188] at ht
                        refine ih2 I188 L188 ht ?_
                        rw [eq188]
                        exact g2)
                     | (have hy : ¬ z_and (z_or (z_or a.2 b.2) c.2) hd = wt := hn
                        have hcc : fnC hd wt a b c = [] := if_neg hy
                        rw [hcc, fo_nil] at g2
                        exact ih2 J K g1 g2))
            · intro J K g1 g2
              have je : ∀ c i, c < 25 ∨ 28 < c → J c i = I c i := hI _ g1
              rw [fm_end, fo_nil] at g2
              have je2 : J 21 (26 + (s2 : Int) + 1) = ((b2 + C.length : Nat) : Int) := (je _ _ (by omega)).trans e2
              refine x_iload dX6_fan_135 16 rfl ?_
              refine x_aload dX6_fan_137 7 rfl ?_
              refine x_iload dX6_fan_139 11 rfl ?_
              refine x_iconst dX6_fan_141 ?_
              refine x_iadd dX6_fan_142 ?_
              refine x_iald dX6_fan_143 rfl (by omega) ?_
              rw [je2]
              refine x_ic_ge (tgt := 197) dX6_fan_144 (by decide) (by first | omega | exact z_and_r _ _ | exact ⟨z_and_r _ _, hrd⟩) (fun h144 => ?_) (fun h144 => ?_)
              · refine x_iinc (lv' := [(0, _), (1, _), (2, _), (3, _), (4, _), (5, _), (6, _), (7, _), (8, _), (9, _), (10, _), (11, _), (12, _), (13, _), (14, _), (15, _), (16, _)]) dX6_fan_197 13 rfl rfl rfl ?_
                refine x_goto (tgt := 90) dX6_fan_200 (by decide) ?_
                refine x_top (lv' := [(0, _), (1, _), (2, _), (3, _), (4, _), (5, _), (6, _), (7, _), (8, _), (9, _), (10, _), (11, _), (12, _), (13, _)]) 14 rfl ?_
                exact ih1 J K g1 g2
              · exfalso; omega
          refine x_iload dX6_fan_90 13 rfl ?_
          refine x_aload dX6_fan_92 7 rfl ?_
          refine x_iload dX6_fan_94 10 rfl ?_
          refine x_iconst dX6_fan_96 ?_
          refine x_iadd dX6_fan_97 ?_
          refine x_iald dX6_fan_98 rfl (by omega) ?_
          rw [je1]
          refine x_ic_ge (tgt := 203) dX6_fan_99 (by decide) (by first | omega | exact z_and_r _ _ | exact ⟨z_and_r _ _, hrd⟩) (fun h99 => ?_) (fun h99 => ?_)
          · exfalso; omega
          · refine x_aload dX6_fan_102 9 rfl ?_
            refine x_iload dX6_fan_104 12 rfl ?_
            refine x_iald dX6_fan_106 rfl (by omega) ?_
            rw [ja2]
            refine x_aload dX6_fan_107 9 rfl ?_
            refine x_iload dX6_fan_109 13 rfl ?_
            refine x_iald dX6_fan_111 rfl (by omega) ?_
            rw [jb2]
            refine x_ior dX6_fan_112 ?_
            refine x_istore (lv' := [(0, _), (1, _), (2, _), (3, _), (4, _), (5, _), (6, _), (7, _), (8, _), (9, _), (10, _), (11, _), (12, _), (13, _), (14, _)]) dX6_fan_113 rfl rfl ?_
            refine x_aload dX6_fan_115 8 rfl ?_
            refine x_iload dX6_fan_117 12 rfl ?_
            refine x_iald dX6_fan_119 rfl (by omega) ?_
            rw [ja1]
            refine x_aload dX6_fan_120 8 rfl ?_
            refine x_iload dX6_fan_122 13 rfl ?_
            refine x_iald dX6_fan_124 rfl (by omega) ?_
            rw [jb1]
            refine x_iadd dX6_fan_125 ?_
            refine x_istore (lv' := [(0, _), (1, _), (2, _), (3, _), (4, _), (5, _), (6, _), (7, _), (8, _), (9, _), (10, _), (11, _), (12, _), (13, _), (14, _), (15, _)]) dX6_fan_126 rfl rfl ?_
            refine x_aload dX6_fan_128 7 rfl ?_
            refine x_iload dX6_fan_130 11 rfl ?_
            refine x_iald dX6_fan_132 rfl (by omega) ?_
            rw [jq2]
            refine x_istore (lv' := [(0, _), (1, _), (2, _), (3, _), (4, _), (5, _), (6, _), (7, _), (8, _), (9, _), (10, _), (11, _), (12, _), (13, _), (14, _), (15, _), (16, _)]) dX6_fan_133 rfl rfl ?_
            exact l2 0 (Nat.zero_le _) J K g1 g2
        · intro J K g1 g2
          have je : ∀ c i, c < 25 ∨ 28 < c → J c i = I c i := hI _ g1
          rw [fm_end, fo_nil] at g2
          have je1 : J 21 (13 + (s1 : Int) + 1) = ((b1 + B.length : Nat) : Int) := (je _ _ (by omega)).trans e1
          refine x_iload dX6_fan_90 13 rfl ?_
          refine x_aload dX6_fan_92 7 rfl ?_
          refine x_iload dX6_fan_94 10 rfl ?_
          refine x_iconst dX6_fan_96 ?_
          refine x_iadd dX6_fan_97 ?_
          refine x_iald dX6_fan_98 rfl (by omega) ?_
          rw [je1]
          refine x_ic_ge (tgt := 203) dX6_fan_99 (by decide) (by first | omega | exact z_and_r _ _ | exact ⟨z_and_r _ _, hrd⟩) (fun h99 => ?_) (fun h99 => ?_)
          · refine x_iinc (lv' := [(0, _), (1, _), (2, _), (3, _), (4, _), (5, _), (6, _), (7, _), (8, _), (9, _), (10, _), (11, _), (12, _), (13, _)]) dX6_fan_203 12 rfl rfl rfl ?_
            refine x_goto (tgt := 72) dX6_fan_206 (by decide) ?_
            refine x_top (lv' := [(0, _), (1, _), (2, _), (3, _), (4, _), (5, _), (6, _), (7, _), (8, _), (9, _), (10, _), (11, _), (12, _)]) 13 rfl ?_
            exact ih J K g1 g2
          · exfalso; omega
      refine x_iload dX6_fan_72 12 rfl ?_
      refine x_aload dX6_fan_74 7 rfl ?_
      refine x_iload_n dX6_fan_76 2 rfl rfl ?_
      refine x_iconst dX6_fan_77 ?_
      refine x_iadd dX6_fan_78 ?_
      refine x_iald dX6_fan_79 rfl (by omega) ?_
      rw [je0]
      refine x_ic_ge (tgt := 209) dX6_fan_80 (by decide) (by first | omega | exact z_and_r _ _ | exact ⟨z_and_r _ _, hrd⟩) (fun h80 => ?_) (fun h80 => ?_)
      · exfalso; omega
      · refine x_aload dX6_fan_83 7 rfl ?_
        refine x_iload dX6_fan_85 10 rfl ?_
        refine x_iald dX6_fan_87 rfl (by omega) ?_
        rw [jq1]
        refine x_istore (lv' := [(0, _), (1, _), (2, _), (3, _), (4, _), (5, _), (6, _), (7, _), (8, _), (9, _), (10, _), (11, _), (12, _), (13, _)]) dX6_fan_88 rfl rfl ?_
        exact l1 0 (Nat.zero_le _) J K g1 g2
    · intro J K g1 g2
      have je : ∀ c i, c < 25 ∨ 28 < c → J c i = I c i := hI _ g1
      rw [fm_end, fo_nil] at g2
      have je0 : J 21 ((s0 : Int) + 1) = ((b0 + A.length : Nat) : Int) := (je _ _ (by omega)).trans e0
      refine x_iload dX6_fan_72 12 rfl ?_
      refine x_aload dX6_fan_74 7 rfl ?_
      refine x_iload_n dX6_fan_76 2 rfl rfl ?_
      refine x_iconst dX6_fan_77 ?_
      refine x_iadd dX6_fan_78 ?_
      refine x_iald dX6_fan_79 rfl (by omega) ?_
      rw [je0]
      refine x_ic_ge (tgt := 209) dX6_fan_80 (by decide) (by first | omega | exact z_and_r _ _ | exact ⟨z_and_r _ _, hrd⟩) (fun h80 => ?_) (fun h80 => ?_)
      · refine x_vret dX6_fan_209 rfl ?_
        rw [← hQ]
        exact ⟨rfl, g1, g2.trans hMF, rfl⟩
      · exfalso; omega
  refine x_aload_n dX6_fan_0 0 rfl rfl ?_
  refine x_getR dX6_fan_1 flX6_54 rfl rfl hW.2.2.1 ?_
  refine x_getI dX6_fan_4 flX6_189 (shP0 hW.2.1) rfl ?_
  rw [hhd]
  refine x_istore (lv' := [(0, _), (1, _), (2, _), (3, _), (4, _), (5, _)]) dX6_fan_7 rfl rfl ?_
  refine x_aload_n dX6_fan_9 0 rfl rfl ?_
  refine x_getR dX6_fan_10 flX6_54 rfl rfl hW.2.2.1 ?_
  refine x_getR dX6_fan_13 flX6_192 (shP0 hW.2.1) rfl hW.2.1.2.1 ?_
  refine x_aload_n dX6_fan_16 0 rfl rfl ?_
  refine x_getI dX6_fan_17 flX6_175 rfl rfl ?_
  refine x_iald dX6_fan_20 (shP1 hW.2.1) (by omega) ?_
  refine x_iload dX6_fan_21 5 rfl ?_
  refine x_iand dX6_fan_23 ?_
  rw [hwt]
  refine x_istore (lv' := [(0, _), (1, _), (2, _), (3, _), (4, _), (5, _), (6, _)]) dX6_fan_24 rfl rfl ?_
  refine x_aload_n dX6_fan_26 0 rfl rfl ?_
  refine x_getR dX6_fan_27 flX6_12 rfl rfl (hW.1 19 0 20 rfl) ?_
  refine x_getR dX6_fan_30 flX6_195 rfl rfl (hW.1 20 0 21 rfl) ?_
  refine x_astore (lv' := [(0, _), (1, _), (2, _), (3, _), (4, _), (5, _), (6, _), (7, _)]) dX6_fan_33 rfl rfl ?_
  refine x_aload_n dX6_fan_35 0 rfl rfl ?_
  refine x_getR dX6_fan_36 flX6_12 rfl rfl (hW.1 19 0 20 rfl) ?_
  refine x_getR dX6_fan_39 flX6_198 rfl rfl (hW.1 20 1 22 rfl) ?_
  refine x_astore (lv' := [(0, _), (1, _), (2, _), (3, _), (4, _), (5, _), (6, _), (7, _), (8, _)]) dX6_fan_42 rfl rfl ?_
  refine x_aload_n dX6_fan_44 0 rfl rfl ?_
  refine x_getR dX6_fan_45 flX6_12 rfl rfl (hW.1 19 0 20 rfl) ?_
  refine x_getR dX6_fan_48 flX6_201 rfl rfl (hW.1 20 2 23 rfl) ?_
  refine x_astore (lv' := [(0, _), (1, _), (2, _), (3, _), (4, _), (5, _), (6, _), (7, _), (8, _), (9, _)]) dX6_fan_51 rfl rfl ?_
  refine x_bipush dX6_fan_53 (by decide) ?_
  refine x_iload_n dX6_fan_55 3 rfl rfl ?_
  refine x_iadd dX6_fan_56 ?_
  refine x_istore (lv' := [(0, _), (1, _), (2, _), (3, _), (4, _), (5, _), (6, _), (7, _), (8, _), (9, _), (10, _)]) dX6_fan_57 rfl rfl ?_
  refine x_bipush dX6_fan_59 (by decide) ?_
  refine x_iload dX6_fan_61 4 rfl ?_
  refine x_iadd dX6_fan_63 ?_
  refine x_istore (lv' := [(0, _), (1, _), (2, _), (3, _), (4, _), (5, _), (6, _), (7, _), (8, _), (9, _), (10, _), (11, _)]) dX6_fan_64 rfl rfl ?_
  refine x_aload dX6_fan_66 7 rfl ?_
  refine x_iload_n dX6_fan_68 2 rfl rfl ?_
  refine x_iald dX6_fan_69 rfl (by omega) ?_
  rw [q0]
  refine x_istore (lv' := [(0, _), (1, _), (2, _), (3, _), (4, _), (5, _), (6, _), (7, _), (8, _), (9, _), (10, _), (11, _), (12, _)]) dX6_fan_70 rfl rfl ?_
  exact l0 0 (Nat.zero_le _) I L h0 hMF.symm
end

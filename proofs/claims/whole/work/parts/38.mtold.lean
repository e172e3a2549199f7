/-! THE REFERENCE: counts, digest. -/
def ctF (f : Nat → Bool) : Nat → Int
  | 0 => 0
  | n + 1 => ctF f n + (if f n then 1 else 0)
theorem ctF_s (f : Nat → Bool) (n : Nat) : ctF f (n + 1) = ctF f n + (if f n then 1 else 0) := rfl
theorem ctF_r (f : Nat → Bool) : ∀ n : Nat, 0 ≤ ctF f n ∧ ctF f n ≤ n
  | 0 => by unfold ctF; omega
  | n + 1 => by have := ctF_r f n; unfold ctF; split <;> omega
/-- SEEN ones, rows, texts that are there -/
def ctE (I : MI) : Nat → Int := ctF (fun e => decide (I 11 (4 * (e : Int) + 0) = 2 ∨ I 11 (4 * (e : Int) + 0) = 3))
def ctR (I : MI) : Nat → Int := ctF (fun r => decide (0 ≤ I 2 (r : Int)))
def ctT (I : MI) : Nat → Int := ctF (fun t => decide (0 ≤ I 5 (t : Int)))
def cnI (I : MI) (w : Int) : Int := if w = 0 then I 0 11 else if w = 1 then I 0 12 else if w = 2 then I 0 13 else if w = 3 then I 0 14 else if w = 4 then I 0 25 else if w = 5 then ctE I (I 0 25).toNat else if w = 6 then ctR I 6 else ctT I 4
def s_count (w : Int) (I : MI) : Int := if w < 0 ∨ 7 < w then -1 else cnI I w
def hxL (f : Nat → Int) : Nat → Int → Int
  | 0, h => h
  | n + 1, h => 31 * hxL f n h + f n
def hxN (g : Nat → Int → Int) : Nat → Int → Int
  | 0, h => h
  | n + 1, h => g n (hxN g n h)
def dgD (I : MI) (n : Nat) (h : Int) : Int := hxN (fun d h => hxL (fun k => I 7 (3 * (d : Int) + (k : Int))) 3 h) n h
def dgW (I : MI) (n : Nat) (h : Int) : Int := hxN (fun w h => 31 * (31 * h + I 8 (2 * (w : Int))) + I 8 (2 * (w : Int) + 1)) n h
def dgE (I : MI) (n : Nat) (h : Int) : Int := hxN (fun e h => hxL (fun k => I 11 (4 * (e : Int) + (k : Int))) 4 h) n h
def dgR (I : MI) (n : Nat) (h : Int) : Int := hxN (fun r h => hxL (fun i => I 3 (40 * (r : Int) + (i : Int))) (I 2 (r : Int)).toNat (31 * h + I 2 (r : Int))) n h
def dgT (I : MI) (n : Nat) (h : Int) : Int := hxN (fun t h => hxL (fun i => a_by I (t : Int) (i : Int)) (I 5 (t : Int)).toNat (31 * h + I 5 (t : Int))) n h
def s_digest (I : MI) : Int := dgT I 4 (dgR I 6 (dgE I (I 0 25).toNat (dgW I (I 0 13).toNat (dgD I (I 0 12).toNat (hxL (fun k => cnI I (k : Int)) 8 17)))))
/-- only the digest's number changes -/
def LH (L L' : MI) : Prop := ∀ a j, ¬ (a = 0 ∧ j = 58) → L' a j = L a j
theorem LH.rf (L : MI) : LH L L := fun _ _ _ => rfl
theorem LH.tr {I J K : MI} (h : LH I J) (k : LH J K) : LH I K := fun c j q => (k c j q).trans (h c j q)
theorem LH.pl {L L' : MI} (h : LH L L') : PeL L L' := fun j q => h 0 j (by omega)
section
variable {G : GT} {sh : MS} {I L : MI} {R : MR} {κ : MI} {t : Int} {B : Nat → Int}

set_option maxHeartbeats 1500000 in
theorem s_X8_counted {w : Int} (hH : iHs I) (hE : iEvs I) (hT : iTexts I) (hI : iRows I) (hw : 0 ≤ w ∧ w ≤ 7) : Sp G mtX8_counted [mr 0, mi w] shM I L rM (qi (pu (cnI I w) I L rM)) := by
  refine Sp.of pnX8_counted rfl ?_
  show Rn G mtX8_counted _ 0 [(0, mr 0), (1, mi w)] [] shM I L rM
  generalize hQ : (qi (pu (cnI I w) I L rM)) = Q
  have hEn := hE.1
  have hR := hH.1
  have hD := hH.2.1
  have hW := hH.2.2.1
  have hTt := hH.2.2.2.1
  have hev : ∀ e : Int, 0 ≤ e → e < I 0 25 → iEv I e := fun e h1 h2 => by have := hE.2 e.toNat (by omega); rw [show ((e.toNat : Nat) : Int) = e by omega] at this; exact this
  have c5 := ctF_r (fun e => decide (I 11 (4 * (e : Int) + 0) = 2 ∨ I 11 (4 * (e : Int) + 0) = 3)) (I 0 25).toNat
  have l3 : ∀ k : Nat, k ≤ 4 → ∀ n : Int, n = (if w = 5 then ctE I (I 0 25).toNat else 0) + (if w = 6 then ctR I 6 else 0) + (if w = 7 then ctT I k else 0) → Rn G mtX8_counted Q 79 [(0, mr 0), (1, mi w), (2, mi n), (3, mi (k : Int))] [] shM I L rM := by
    refine lpn 4 (fun k hk ih => ?_) ?_
    · intro n hn
      have hx := hT.1 (k : Int) (by omega) (by omega)
      have hs : w = 7 → ctT I (k + 1) = ctT I k + (if 0 ≤ I 5 (k : Int) then 1 else 0) := fun _ => by
        show ctT I k + (if decide _ = true then 1 else 0) = _
        simp only [decide_eq_true_eq]
      refine x_iload_n dX8_counted_79 3 rfl rfl ?_
      refine x_iconst dX8_counted_80 ?_
      refine x_ic_ge (tgt := 113) dX8_counted_81 (by decide) (by omega) (fun h81 => ?_) (fun h81 => ?_)
      · exfalso; omega
      · refine x_iload_n dX8_counted_84 2 rfl rfl ?_
        refine x_iload_n dX8_counted_85 1 rfl rfl ?_
        refine x_bipush dX8_counted_86 (by decide) ?_
        refine x_ic_ne (tgt := 104) dX8_counted_88 (by decide) (by omega) (fun h88 => ?_) (fun h88 => ?_)
        · refine x_iconst dX8_counted_104 ?_
          refine x_iadd dX8_counted_105 ?_
          refine x_istore_n (lv' := [(0, _), (1, _), (2, _), (3, _)]) dX8_counted_106 rfl rfl rfl ?_
          refine x_iinc (lv' := [(0, _), (1, _), (2, _), (3, _)]) dX8_counted_107 3 rfl rfl rfl ?_
          refine x_goto (tgt := 79) dX8_counted_110 (by decide) ?_
          refine ih _ ?_
          first
          | (rw [hn, if_neg (by omega), if_neg (by omega), if_neg (by omega), if_neg (by omega), if_neg (by omega), if_neg (by omega), Int.add_zero])
          | (rw [hn, if_pos (show w = 7 by omega), if_pos (show w = 7 by omega), hs (by omega), if_pos (by omega)]; omega)
          | (rw [hn, if_pos (show w = 7 by omega), if_pos (show w = 7 by omega), hs (by omega), if_neg (by omega)]; omega)
          | (rw [hn, if_neg (show ¬ w = 7 by omega), if_neg (show ¬ w = 7 by omega)]; omega)
        · refine x_aload_n dX8_counted_91 0 rfl rfl ?_
          refine x_getR dX8_counted_92 flX8_22 rfl rfl rfl ?_
          refine x_iload_n dX8_counted_95 3 rfl rfl ?_
          refine x_iald dX8_counted_96 rfl (by omega) ?_
          refine x_if_lt (tgt := 104) dX8_counted_97 (by decide) (by omega) (fun h97 => ?_) (fun h97 => ?_)
          · refine x_iconst dX8_counted_104 ?_
            refine x_iadd dX8_counted_105 ?_
            refine x_istore_n (lv' := [(0, _), (1, _), (2, _), (3, _)]) dX8_counted_106 rfl rfl rfl ?_
            refine x_iinc (lv' := [(0, _), (1, _), (2, _), (3, _)]) dX8_counted_107 3 rfl rfl rfl ?_
            refine x_goto (tgt := 79) dX8_counted_110 (by decide) ?_
            refine ih _ ?_
            first
            | (rw [hn, if_neg (by omega), if_neg (by omega), if_neg (by omega), if_neg (by omega), if_neg (by omega), if_neg (by omega), Int.add_zero])
            | (rw [hn, if_pos (show w = 7 by omega), if_pos (show w = 7 by omega), hs (by omega), if_pos (by omega)]; omega)
            | (rw [hn, if_pos (show w = 7 by omega), if_pos (show w = 7 by omega), hs (by omega), if_neg (by omega)]; omega)
            | (rw [hn, if_neg (show ¬ w = 7 by omega), if_neg (show ¬ w = 7 by omega)]; omega)
          · refine x_iconst dX8_counted_100 ?_
            refine x_goto (tgt := 105) dX8_counted_101 (by decide) ?_
            refine x_iadd dX8_counted_105 ?_
            refine x_istore_n (lv' := [(0, _), (1, _), (2, _), (3, _)]) dX8_counted_106 rfl rfl rfl ?_
            refine x_iinc (lv' := [(0, _), (1, _), (2, _), (3, _)]) dX8_counted_107 3 rfl rfl rfl ?_
            refine x_goto (tgt := 79) dX8_counted_110 (by decide) ?_
            refine ih _ ?_
            first
            | (rw [hn, if_neg (by omega), if_neg (by omega), if_neg (by omega), if_neg (by omega), if_neg (by omega), if_neg (by omega), Int.add_zero])
            | (rw [hn, if_pos (show w = 7 by omega), if_pos (show w = 7 by omega), hs (by omega), if_pos (by omega)]; omega)
            | (rw [hn, if_pos (show w = 7 by omega), if_pos (show w = 7 by omega), hs (by omega), if_neg (by omega)]; omega)
            | (rw [hn, if_neg (show ¬ w = 7 by omega), if_neg (show ¬ w = 7 by omega)]; omega)
    · intro n hn
      refine x_iload_n dX8_counted_79 3 rfl rfl ?_
      refine x_iconst dX8_counted_80 ?_
      refine x_ic_ge (tgt := 113) dX8_counted_81 (by decide) (by omega) (fun h81 => ?_) (fun h81 => ?_)
      · refine x_iload_n dX8_counted_113 1 rfl rfl ?_
        refine x_if_ne (tgt := 124) dX8_counted_114 (by decide) (by omega) (fun h114 => ?_) (fun h114 => ?_)
        · refine x_iload_n dX8_counted_124 1 rfl rfl ?_
          refine x_iconst dX8_counted_125 ?_
          refine x_ic_ne (tgt := 136) dX8_counted_126 (by decide) (by omega) (fun h126 => ?_) (fun h126 => ?_)
          · refine x_iload_n dX8_counted_136 1 rfl rfl ?_
            refine x_iconst dX8_counted_137 ?_
            refine x_ic_ne (tgt := 148) dX8_counted_138 (by decide) (by omega) (fun h138 => ?_) (fun h138 => ?_)
            · refine x_iload_n dX8_counted_148 1 rfl rfl ?_
              refine x_iconst dX8_counted_149 ?_
              refine x_ic_ne (tgt := 160) dX8_counted_150 (by decide) (by omega) (fun h150 => ?_) (fun h150 => ?_)
              · refine x_iload_n dX8_counted_160 1 rfl rfl ?_
                refine x_iconst dX8_counted_161 ?_
                refine x_ic_ne (tgt := 172) dX8_counted_162 (by decide) (by omega) (fun h162 => ?_) (fun h162 => ?_)
                · refine x_iload_n dX8_counted_172 2 rfl rfl ?_
                  refine x_iret dX8_counted_173 rfl ?_
                  rw [← hQ]
                  refine ⟨_, rfl, ?_, rfl, rfl, rfl⟩
                  unfold cnI
                  first
                  | (rw [if_pos (by omega)])
                  | (rw [if_neg (by omega), if_pos (by omega)])
                  | (rw [if_neg (by omega), if_neg (by omega), if_pos (by omega)])
                  | (rw [if_neg (by omega), if_neg (by omega), if_neg (by omega), if_pos (by omega)])
                  | (rw [if_neg (by omega), if_neg (by omega), if_neg (by omega), if_neg (by omega), if_pos (by omega)])
                  | (have hw3 : w = 5 ∨ w = 6 ∨ w = 7 := by omega
                     rcases hw3 with e | e | e <;> (subst e; rw [hn]; simp))
                · refine x_aload_n dX8_counted_165 0 rfl rfl ?_
                  refine x_getI dX8_counted_166 flX8_217 rfl rfl ?_
                  refine x_goto (tgt := 173) dX8_counted_169 (by decide) ?_
                  refine x_iret dX8_counted_173 rfl ?_
                  rw [← hQ]
                  refine ⟨_, rfl, ?_, rfl, rfl, rfl⟩
                  unfold cnI
                  first
                  | (rw [if_pos (by omega)])
                  | (rw [if_neg (by omega), if_pos (by omega)])
                  | (rw [if_neg (by omega), if_neg (by omega), if_pos (by omega)])
                  | (rw [if_neg (by omega), if_neg (by omega), if_neg (by omega), if_pos (by omega)])
                  | (rw [if_neg (by omega), if_neg (by omega), if_neg (by omega), if_neg (by omega), if_pos (by omega)])
                  | (have hw3 : w = 5 ∨ w = 6 ∨ w = 7 := by omega
                     rcases hw3 with e | e | e <;> (subst e; rw [hn]; simp))
              · refine x_aload_n dX8_counted_153 0 rfl rfl ?_
                refine x_getI dX8_counted_154 flX8_99 rfl rfl ?_
                refine x_goto (tgt := 173) dX8_counted_157 (by decide) ?_
                refine x_iret dX8_counted_173 rfl ?_
                rw [← hQ]
                refine ⟨_, rfl, ?_, rfl, rfl, rfl⟩
                unfold cnI
                first
                | (rw [if_pos (by omega)])
                | (rw [if_neg (by omega), if_pos (by omega)])
                | (rw [if_neg (by omega), if_neg (by omega), if_pos (by omega)])
                | (rw [if_neg (by omega), if_neg (by omega), if_neg (by omega), if_pos (by omega)])
                | (rw [if_neg (by omega), if_neg (by omega), if_neg (by omega), if_neg (by omega), if_pos (by omega)])
                | (have hw3 : w = 5 ∨ w = 6 ∨ w = 7 := by omega
                   rcases hw3 with e | e | e <;> (subst e; rw [hn]; simp))
            · refine x_aload_n dX8_counted_141 0 rfl rfl ?_
              refine x_getI dX8_counted_142 flX8_186 rfl rfl ?_
              refine x_goto (tgt := 173) dX8_counted_145 (by decide) ?_
              refine x_iret dX8_counted_173 rfl ?_
              rw [← hQ]
              refine ⟨_, rfl, ?_, rfl, rfl, rfl⟩
              unfold cnI
              first
              | (rw [if_pos (by omega)])
              | (rw [if_neg (by omega), if_pos (by omega)])
              | (rw [if_neg (by omega), if_neg (by omega), if_pos (by omega)])
              | (rw [if_neg (by omega), if_neg (by omega), if_neg (by omega), if_pos (by omega)])
              | (rw [if_neg (by omega), if_neg (by omega), if_neg (by omega), if_neg (by omega), if_pos (by omega)])
              | (have hw3 : w = 5 ∨ w = 6 ∨ w = 7 := by omega
                 rcases hw3 with e | e | e <;> (subst e; rw [hn]; simp))
          · refine x_aload_n dX8_counted_129 0 rfl rfl ?_
            refine x_getI dX8_counted_130 flX8_183 rfl rfl ?_
            refine x_goto (tgt := 173) dX8_counted_133 (by decide) ?_
            refine x_iret dX8_counted_173 rfl ?_
            rw [← hQ]
            refine ⟨_, rfl, ?_, rfl, rfl, rfl⟩
            unfold cnI
            first
            | (rw [if_pos (by omega)])
            | (rw [if_neg (by omega), if_pos (by omega)])
            | (rw [if_neg (by omega), if_neg (by omega), if_pos (by omega)])
            | (rw [if_neg (by omega), if_neg (by omega), if_neg (by omega), if_pos (by omega)])
            | (rw [if_neg (by omega), if_neg (by omega), if_neg (by omega), if_neg (by omega), if_pos (by omega)])
            | (have hw3 : w = 5 ∨ w = 6 ∨ w = 7 := by omega
               rcases hw3 with e | e | e <;> (subst e; rw [hn]; simp))
        · refine x_aload_n dX8_counted_117 0 rfl rfl ?_
          refine x_getI dX8_counted_118 flX8_95 rfl rfl ?_
          refine x_goto (tgt := 173) dX8_counted_121 (by decide) ?_
          refine x_iret dX8_counted_173 rfl ?_
          rw [← hQ]
          refine ⟨_, rfl, ?_, rfl, rfl, rfl⟩
          unfold cnI
          first
          | (rw [if_pos (by omega)])
          | (rw [if_neg (by omega), if_pos (by omega)])
          | (rw [if_neg (by omega), if_neg (by omega), if_pos (by omega)])
          | (rw [if_neg (by omega), if_neg (by omega), if_neg (by omega), if_pos (by omega)])
          | (rw [if_neg (by omega), if_neg (by omega), if_neg (by omega), if_neg (by omega), if_pos (by omega)])
          | (have hw3 : w = 5 ∨ w = 6 ∨ w = 7 := by omega
             rcases hw3 with e | e | e <;> (subst e; rw [hn]; simp))
      · exfalso; omega
  have l2 : ∀ k : Nat, k ≤ 6 → ∀ n : Int, n = (if w = 5 then ctE I (I 0 25).toNat else 0) + (if w = 6 then ctR I k else 0) → Rn G mtX8_counted Q 42 [(0, mr 0), (1, mi w), (2, mi n), (3, mi (k : Int))] [] shM I L rM := by
    refine lpn 6 (fun k hk ih => ?_) ?_
    · intro n hn
      have hx := hI.1 (k : Int) (by omega) (by omega)
      have hs : w = 6 → ctR I (k + 1) = ctR I k + (if 0 ≤ I 2 (k : Int) then 1 else 0) := fun _ => by
        show ctR I k + (if decide _ = true then 1 else 0) = _
        simp only [decide_eq_true_eq]
      refine x_iload_n dX8_counted_42 3 rfl rfl ?_
      refine x_bipush dX8_counted_43 (by decide) ?_
      refine x_ic_ge (tgt := 77) dX8_counted_45 (by decide) (by omega) (fun h45 => ?_) (fun h45 => ?_)
      · exfalso; omega
      · refine x_iload_n dX8_counted_48 2 rfl rfl ?_
        refine x_iload_n dX8_counted_49 1 rfl rfl ?_
        refine x_bipush dX8_counted_50 (by decide) ?_
        refine x_ic_ne (tgt := 68) dX8_counted_52 (by decide) (by omega) (fun h52 => ?_) (fun h52 => ?_)
        · refine x_iconst dX8_counted_68 ?_
          refine x_iadd dX8_counted_69 ?_
          refine x_istore_n (lv' := [(0, _), (1, _), (2, _), (3, _)]) dX8_counted_70 rfl rfl rfl ?_
          refine x_iinc (lv' := [(0, _), (1, _), (2, _), (3, _)]) dX8_counted_71 3 rfl rfl rfl ?_
          refine x_goto (tgt := 42) dX8_counted_74 (by decide) ?_
          refine ih _ ?_
          first
          | (rw [hn, if_pos (show w = 6 by omega), if_pos (show w = 6 by omega), hs (by omega), if_pos (by omega)]; omega)
          | (rw [hn, if_pos (show w = 6 by omega), if_pos (show w = 6 by omega), hs (by omega), if_neg (by omega)]; omega)
          | (rw [hn, if_neg (show ¬ w = 6 by omega), if_neg (show ¬ w = 6 by omega)]; omega)
        · refine x_aload_n dX8_counted_55 0 rfl rfl ?_
          refine x_getR dX8_counted_56 flX8_13 rfl rfl rfl ?_
          refine x_iload_n dX8_counted_59 3 rfl rfl ?_
          refine x_iald dX8_counted_60 rfl (by omega) ?_
          refine x_if_lt (tgt := 68) dX8_counted_61 (by decide) (by omega) (fun h61 => ?_) (fun h61 => ?_)
          · refine x_iconst dX8_counted_68 ?_
            refine x_iadd dX8_counted_69 ?_
            refine x_istore_n (lv' := [(0, _), (1, _), (2, _), (3, _)]) dX8_counted_70 rfl rfl rfl ?_
            refine x_iinc (lv' := [(0, _), (1, _), (2, _), (3, _)]) dX8_counted_71 3 rfl rfl rfl ?_
            refine x_goto (tgt := 42) dX8_counted_74 (by decide) ?_
            refine ih _ ?_
            first
            | (rw [hn, if_pos (show w = 6 by omega), if_pos (show w = 6 by omega), hs (by omega), if_pos (by omega)]; omega)
            | (rw [hn, if_pos (show w = 6 by omega), if_pos (show w = 6 by omega), hs (by omega), if_neg (by omega)]; omega)
            | (rw [hn, if_neg (show ¬ w = 6 by omega), if_neg (show ¬ w = 6 by omega)]; omega)
          · refine x_iconst dX8_counted_64 ?_
            refine x_goto (tgt := 69) dX8_counted_65 (by decide) ?_
            refine x_iadd dX8_counted_69 ?_
            refine x_istore_n (lv' := [(0, _), (1, _), (2, _), (3, _)]) dX8_counted_70 rfl rfl rfl ?_
            refine x_iinc (lv' := [(0, _), (1, _), (2, _), (3, _)]) dX8_counted_71 3 rfl rfl rfl ?_
            refine x_goto (tgt := 42) dX8_counted_74 (by decide) ?_
            refine ih _ ?_
            first
            | (rw [hn, if_pos (show w = 6 by omega), if_pos (show w = 6 by omega), hs (by omega), if_pos (by omega)]; omega)
            | (rw [hn, if_pos (show w = 6 by omega), if_pos (show w = 6 by omega), hs (by omega), if_neg (by omega)]; omega)
            | (rw [hn, if_neg (show ¬ w = 6 by omega), if_neg (show ¬ w = 6 by omega)]; omega)
    · intro n hn
      refine x_iload_n dX8_counted_42 3 rfl rfl ?_
      refine x_bipush dX8_counted_43 (by decide) ?_
      refine x_ic_ge (tgt := 77) dX8_counted_45 (by decide) (by omega) (fun h45 => ?_) (fun h45 => ?_)
      · refine x_iconst dX8_counted_77 ?_
        refine x_istore_n (lv' := [(0, _), (1, _), (2, _), (3, _)]) dX8_counted_78 rfl rfl rfl ?_
        refine l3 0 (by omega) _ ?_
        rw [hn]
        split <;> split <;> (simp [ctT, ctF])
      · exfalso; omega
  have l1 : ∀ k : Nat, k ≤ (I 0 25).toNat → ∀ n : Int, n = (if w = 5 then ctE I k else 0) → Rn G mtX8_counted Q 4 [(0, mr 0), (1, mi w), (2, mi n), (3, mi (k : Int))] [] shM I L rM := by
    refine lpn _ (fun k hk ih => ?_) ?_
    · intro n hn
      obtain ⟨v1, v2, v3, v4, v5, v6⟩ := hev (k : Int) (by omega) (by omega)
      have hs : w = 5 → ctE I (k + 1) = ctE I k + (if I 11 (4 * (k : Int) + 0) = 2 ∨ I 11 (4 * (k : Int) + 0) = 3 then 1 else 0) := fun _ => by
        show ctE I k + (if decide _ = true then 1 else 0) = _
        simp only [decide_eq_true_eq]
      refine x_iload_n dX8_counted_4 3 rfl rfl ?_
      refine x_aload_n dX8_counted_5 0 rfl rfl ?_
      refine x_getI dX8_counted_6 flX8_217 rfl rfl ?_
      refine x_ic_ge (tgt := 40) dX8_counted_9 (by decide) (by omega) (fun h9 => ?_) (fun h9 => ?_)
      · exfalso; omega
      · refine x_iload_n dX8_counted_12 2 rfl rfl ?_
        refine x_iload_n dX8_counted_13 1 rfl rfl ?_
        refine x_iconst dX8_counted_14 ?_
        refine x_ic_ne (tgt := 31) dX8_counted_15 (by decide) (by omega) (fun h15 => ?_) (fun h15 => ?_)
        · refine x_iconst dX8_counted_31 ?_
          refine x_iadd dX8_counted_32 ?_
          refine x_istore_n (lv' := [(0, _), (1, _), (2, _), (3, _)]) dX8_counted_33 rfl rfl rfl ?_
          refine x_iinc (lv' := [(0, _), (1, _), (2, _), (3, _)]) dX8_counted_34 3 rfl rfl rfl ?_
          refine x_goto (tgt := 4) dX8_counted_37 (by decide) ?_
          refine ih _ ?_
          first
          | (rw [hn, if_pos (show w = 5 by omega), if_pos (show w = 5 by omega), hs (by omega), if_pos (by omega)]; first | done | omega)
          | (rw [hn, if_pos (show w = 5 by omega), if_pos (show w = 5 by omega), hs (by omega), if_neg (by omega)]; first | done | omega)
          | (rw [hn, if_neg (show ¬ w = 5 by omega), if_neg (show ¬ w = 5 by omega)]; first | done | omega)
        · refine x_aload_n dX8_counted_18 0 rfl rfl ?_
          refine x_iload_n dX8_counted_19 3 rfl rfl ?_
          refine x_iconst dX8_counted_20 ?_
          refine x_callVi (as := [_, _]) dX8_counted_21 lvX8_237 rfl rfl rfl rfl rfl rfl rfl ⟨rfl, rfl⟩ (s_X8_isOf (by omega) (by omega) (by omega)) (fun z21 I21 L21 R21 hq21 => ?_)
          obtain ⟨rfl, rfl, rfl, rfl⟩ := hq21
          refine y_ifb_eq (tgt := 31) dX8_counted_24 (by decide) (fun h24 => ?_) (fun h24 => ?_)
          · refine x_iconst dX8_counted_31 ?_
            refine x_iadd dX8_counted_32 ?_
            refine x_istore_n (lv' := [(0, _), (1, _), (2, _), (3, _)]) dX8_counted_33 rfl rfl rfl ?_
            refine x_iinc (lv' := [(0, _), (1, _), (2, _), (3, _)]) dX8_counted_34 3 rfl rfl rfl ?_
            refine x_goto (tgt := 4) dX8_counted_37 (by decide) ?_
            refine ih _ ?_
            first
            | (rw [hn, if_pos (show w = 5 by omega), if_pos (show w = 5 by omega), hs (by omega), if_pos (by omega)]; first | done | omega)
            | (rw [hn, if_pos (show w = 5 by omega), if_pos (show w = 5 by omega), hs (by omega), if_neg (by omega)]; first | done | omega)
            | (rw [hn, if_neg (show ¬ w = 5 by omega), if_neg (show ¬ w = 5 by omega)]; first | done | omega)
          · refine x_iconst dX8_counted_27 ?_
            refine x_goto (tgt := 32) dX8_counted_28 (by decide) ?_
            refine x_iadd dX8_counted_32 ?_
            refine x_istore_n (lv' := [(0, _), (1, _), (2, _), (3, _)]) dX8_counted_33 rfl rfl rfl ?_
            refine x_iinc (lv' := [(0, _), (1, _), (2, _), (3, _)]) dX8_counted_34 3 rfl rfl rfl ?_
            refine x_goto (tgt := 4) dX8_counted_37 (by decide) ?_
            refine ih _ ?_
            first
            | (rw [hn, if_pos (show w = 5 by omega), if_pos (show w = 5 by omega), hs (by omega), if_pos (by omega)]; first | done | omega)
            | (rw [hn, if_pos (show w = 5 by omega), if_pos (show w = 5 by omega), hs (by omega), if_neg (by omega)]; first | done | omega)
            | (rw [hn, if_neg (show ¬ w = 5 by omega), if_neg (show ¬ w = 5 by omega)]; first | done | omega)
    · intro n hn
      refine x_iload_n dX8_counted_4 3 rfl rfl ?_
      refine x_aload_n dX8_counted_5 0 rfl rfl ?_
      refine x_getI dX8_counted_6 flX8_217 rfl rfl ?_
      refine x_ic_ge (tgt := 40) dX8_counted_9 (by decide) (by omega) (fun h9 => ?_) (fun h9 => ?_)
      · refine x_iconst dX8_counted_40 ?_
        refine x_istore_n (lv' := [(0, _), (1, _), (2, _), (3, _)]) dX8_counted_41 rfl rfl rfl ?_
        refine l2 0 (by omega) _ ?_
        rw [hn]
        split <;> (simp [ctR, ctF])
      · exfalso; omega
  refine x_iconst dX8_counted_0 ?_
  refine x_istore_n (lv' := [(0, _), (1, _), (2, _)]) dX8_counted_1 rfl rfl rfl ?_
  refine x_iconst dX8_counted_2 ?_
  refine x_istore_n (lv' := [(0, _), (1, _), (2, _), (3, _)]) dX8_counted_3 rfl rfl rfl ?_
  exact l1 0 (by omega) _ (by split <;> rfl)
theorem s_X8_count {w : Int} (hH : iHs I) (hE : iEvs I) (hT : iTexts I) (hI : iRows I) (h1 : rI w) : Sp G mtX8_count [mr 0, mi w] shM I L rM (qi (pu (s_count w I) I L rM)) := by
  refine Sp.of pnX8_count rfl ?_
  show Rn G mtX8_count _ 0 [(0, mr 0), (1, mi w)] [] shM I L rM
  generalize hQ : (qi (pu (s_count w I) I L rM)) = Q
  refine x_iload_n dX8_count_0 1 rfl rfl ?_
  refine x_iconst dX8_count_1 ?_
  refine x_bipush dX8_count_2 (by decide) ?_
  refine x_callSi (as := [_, _, _]) dX8_count_4 lvX8_105 rfl rfl rfl rfl ⟨rfl, rfl⟩ (s_X8_in (by omega) (by omega) (by omega)) (fun z4 I4 L4 R4 hq4 => ?_)
  obtain ⟨rfl, rfl, rfl, rfl⟩ := hq4
  refine y_ifb_eq (tgt := 18) dX8_count_7 (by decide) (fun h7 => ?_) (fun h7 => ?_)
  · refine x_iconst dX8_count_18 ?_
    refine x_iret dX8_count_19 rfl ?_
    rw [← hQ]
    refine ⟨_, rfl, ?_, rfl, rfl, rfl⟩
    unfold s_count
    first | (rw [if_pos (by omega)]) | (rw [if_neg (by omega)])
  · refine x_aload_n dX8_count_10 0 rfl rfl ?_
    refine x_iload_n dX8_count_11 1 rfl rfl ?_
    refine x_callVi (as := [_]) dX8_count_12 lvX8_423 rfl rfl rfl rfl rfl rfl rfl ⟨rfl, rfl⟩ (s_X8_counted hH hE hT hI (by omega)) (fun z12 I12 L12 R12 hq12 => ?_)
    obtain ⟨rfl, rfl, rfl, rfl⟩ := hq12
    refine x_goto (tgt := 19) dX8_count_15 (by decide) ?_
    refine x_iret dX8_count_19 rfl ?_
    rw [← hQ]
    refine ⟨_, rfl, ?_, rfl, rfl, rfl⟩
    unfold s_count
    first | (rw [if_pos (by omega)]) | (rw [if_neg (by omega)])
theorem s_X8_mix {v : Int}  : Sp G mtX8_mix [mr 0, ml v] shM I L rM (qv (fun I' L' R' => I = I' ∧ L' = m_up L 0 58 (31 * L 0 58 + v) ∧ R' = rM)) := by
  refine Sp.of pnX8_mix rfl ?_
  show Rn G mtX8_mix _ 0 [(0, mr 0), (1, ml v)] [] shM I L rM
  generalize hQ : (qv (fun I' L' R' => I = I' ∧ L' = m_up L 0 58 (31 * L 0 58 + v) ∧ R' = rM)) = Q
  refine x_aload_n dX8_mix_0 0 rfl rfl ?_
  refine x_ldc2 (31) dX8_mix_1 lkX8_426 ?_
  refine x_aload_n dX8_mix_4 0 rfl rfl ?_
  refine x_getL dX8_mix_5 flX8_428 rfl rfl ?_
  refine x_lmul dX8_mix_8 ?_
  refine x_lload_n dX8_mix_9 1 rfl rfl ?_
  refine x_ladd dX8_mix_10 ?_
  refine x_putL dX8_mix_11 flX8_428 rfl rfl rfl ?_
  refine x_vret dX8_mix_14 rfl ?_
  rw [← hQ]
  exact ⟨rfl, rfl, rfl, rfl⟩
end

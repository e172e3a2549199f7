/-! THE REFERENCE'S QUESTIONS, part six: who meets, who stands. -/
/-- how long one has stood behind a choice of moves -/
def stv (κ : MI) (w t s c : Nat) (V : Nat → Int) : Int := if mvd κ t s c w < 0 then V s + 1 else 0
def stF (κ : MI) (w : Nat) (n : Int) (l : Bool) (t : Nat) (V : Nat → Int) (s c : Nat) (W : Nat → Int) : Nat → Int :=
  if (vld κ t s c && alv κ (t + 1) (nxt κ t s c)) = true ∧ (W (nxt κ t s c) < 0 ∨ (if l = true then stv κ w t s c V < W (nxt κ t s c) else W (nxt κ t s c) < stv κ w t s c V)) ∧ ¬ (l = true ∧ n ≤ stv κ w t s c V) then upn W (nxt κ t s c) (stv κ w t s c V) else W
def stC (κ : MI) (w : Nat) (n : Int) (t : Nat) (V : Nat → Int) (s : Nat) (r : Bool) : Nat → Bool
  | 0 => r
  | c + 1 => stC κ w n t V s r c || ((vld κ t s c && alv κ (t + 1) (nxt κ t s c)) && decide (n ≤ stv κ w t s c V))
def stS (κ : MI) (w : Nat) (n : Int) (t : Nat) (V : Nat → Int) (r : Bool) : Nat → Bool
  | 0 => r
  | s + 1 => if 0 ≤ V s then stC κ w n t V s (stS κ w n t V r s) (mal κ t s) else stS κ w n t V r s
def stV (κ : MI) (w : Nat) (n : Int) (l : Bool) : Nat → Nat → Int
  | 0 => bgV κ 0
  | t + 1 => swS (stV κ w n l t) (stF κ w n l t (stV κ w n l t)) (fun s => mal κ t s) (nst κ) (fun _ => -1)
def stR (κ : MI) (w : Nat) (n : Int) (l : Bool) : Nat → Bool
  | 0 => false
  | t + 1 => stS κ w n t (stV κ w n l t) (stR κ w n l t) (nst κ)
def stA (κ : MI) (w : Nat) (n : Int) (l : Bool) : Bool := if l = true then anv (stV κ w n l (lst κ)) (nst κ) else stR κ w n l (lst κ)
theorem stv_r {κ : MI} {w t s c : Nat} {V : Nat → Int} {b : Int} (h : -1 ≤ V s ∧ V s ≤ b) (hb : 0 ≤ b) : 0 ≤ stv κ w t s c V ∧ stv κ w t s c V ≤ b + 1 := by
  unfold stv
  split <;> omega
theorem ite_or {α : Type} {c : Prop} [Decidable c] (a b : α) : (if c then a else b) = a ∨ (if c then a else b) = b := by
  split
  · exact Or.inl rfl
  · exact Or.inr rfl
theorem stF_r {κ : MI} {w : Nat} {n : Int} {l : Bool} {t : Nat} {V : Nat → Int} {b : Int} (hV : ∀ s, -1 ≤ V s ∧ V s ≤ b) (hb : 0 ≤ b) (s c : Nat) (W : Nat → Int) (h : ∀ s, -1 ≤ W s ∧ W s ≤ b + 1) (x : Nat) : -1 ≤ stF κ w n l t V s c W x ∧ stF κ w n l t V s c W x ≤ b + 1 := by
  have hh : stF κ w n l t V s c W = upn W (nxt κ t s c) (stv κ w t s c V) ∨ stF κ w n l t V s c W = W := by unfold stF; exact ite_or _ _
  rcases hh with e | e
  · rw [e]
    unfold upn
    have := stv_r (κ := κ) (w := w) (t := t) (c := c) (hV s) hb
    have := h x
    split <;> omega
  · rw [e]; exact h x
theorem swC_rb {b : Int} {f : Nat → (Nat → Int) → (Nat → Int)} (hf : ∀ c W, (∀ s, -1 ≤ W s ∧ W s ≤ b) → ∀ x, -1 ≤ f c W x ∧ f c W x ≤ b) : ∀ (c : Nat) (W : Nat → Int), (∀ s, -1 ≤ W s ∧ W s ≤ b) → ∀ x, -1 ≤ swC f c W x ∧ swC f c W x ≤ b
  | 0, W, h => h
  | c + 1, W, h => hf c _ (swC_rb hf c W h)
theorem swS_rb {b : Int} {V : Nat → Int} {f : Nat → Nat → (Nat → Int) → (Nat → Int)} {m : Nat → Nat} (hf : ∀ s c W, (∀ s, -1 ≤ W s ∧ W s ≤ b) → ∀ x, -1 ≤ f s c W x ∧ f s c W x ≤ b) : ∀ (n : Nat) (W : Nat → Int), (∀ s, -1 ≤ W s ∧ W s ≤ b) → ∀ x, -1 ≤ swS V f m n W x ∧ swS V f m n W x ≤ b
  | 0, W, h => h
  | n + 1, W, h => by
    unfold swS
    split
    · exact swC_rb (hf n) _ _ (swS_rb hf n W h)
    · exact swS_rb hf n W h
theorem stV_r {κ : MI} {w : Nat} {n : Int} {l : Bool} : ∀ t x : Nat, -1 ≤ stV κ w n l t x ∧ stV κ w n l t x ≤ t
  | 0, x => by
    show -1 ≤ bgV κ 0 x ∧ bgV κ 0 x ≤ _
    unfold bgV; split <;> omega
  | t + 1, x => by
    have h := swS_rb (b := (t : Int) + 1) (V := stV κ w n l t) (m := fun s => mal κ t s) (fun s c W hW x => stF_r (κ := κ) (w := w) (n := n) (l := l) (t := t) (V := stV κ w n l t) (fun s => stV_r t s) (by omega) s c W hW x) (nst κ) (fun _ => -1) (fun _ => by omega) x
    show -1 ≤ swS _ _ _ _ _ x ∧ swS _ _ _ _ _ x ≤ ((t + 1 : Nat) : Int)
    omega
noncomputable def s_still (w n : Int) (I : MI) : Int × MI := if w < 0 ∨ I 0 13 ≤ w ∨ n < 1 ∨ 30 < n then (-1, I) else if okA I = false then (-3, a_mt I 4)
  else (if stA (kap I 0 (I 0 13)) w.toNat n false = false then 0 else if stA (kap I 0 (I 0 13)) w.toNat n true = true then 1 else 2, I)
section
variable {G : GT} {sh : MS} {I L : MI} {R : MR} {κ : MI}

set_option maxHeartbeats 1500000 in
theorem s_X8_met {w o : Int} (hH : iHs I) (hE : iEvs I) (h1 : rI w) (h2 : rI o) : Sp G mtX8_met [mr 0, mi w, mi o] shM I L rM (qi (fun z I' L' R' => z = (s_met w o I).1 ∧ Pe (s_met w o I).2 I' ∧ LF L L' ∧ R' = rM)) := by
  refine Sp.of pnX8_met rfl ?_
  show Rn G mtX8_met _ 0 [(0, mr 0), (1, mi w), (2, mi o)] [] shM I L rM
  generalize hQ : (qi (fun z I' L' R' => z = (s_met w o I).1 ∧ Pe (s_met w o I).2 I' ∧ LF L L' ∧ R' = rM)) = Q
  have hW := hH.2.2.1
  have hT := hH.2.2.2.1
  have hR := hH.1
  have hl := KA_lst hH (wo := 0) (k := I 0 13)
  have hnn := nst_le (KA_H hH) (KA_S hH hE)
  have hu := KA_us hH
  refine x_aload_n dX8_met_0 0 rfl rfl ?_
  refine x_iload_n dX8_met_1 1 rfl rfl ?_
  refine x_callVi (as := [_]) dX8_met_2 lvX8_224 rfl rfl rfl rfl rfl rfl rfl ⟨rfl, rfl⟩ (s_X8_isWalker (by omega) (by omega)) (fun z2 I2 L2 R2 hq2 => ?_)
  obtain ⟨rfl, rfl, rfl, rfl⟩ := hq2
  refine y_ifb_eq (tgt := 21) dX8_met_5 (by decide) (fun h5 => ?_) (fun h5 => ?_)
  · refine x_iconst dX8_met_21 ?_
    refine x_iret dX8_met_22 rfl ?_
    rw [← hQ]
    have hs : s_met w o I = (-1, I) := by unfold s_met; rw [if_pos (by omega)]
    rw [hs]
    exact ⟨_, rfl, rfl, Pe.rf _, LF.rf _, rfl⟩
  · refine x_aload_n dX8_met_8 0 rfl rfl ?_
    refine x_iload_n dX8_met_9 2 rfl rfl ?_
    refine x_callVi (as := [_]) dX8_met_10 lvX8_224 rfl rfl rfl rfl rfl rfl rfl ⟨rfl, rfl⟩ (s_X8_isWalker (by omega) (by omega)) (fun z10 I10 L10 R10 hq10 => ?_)
    obtain ⟨rfl, rfl, rfl, rfl⟩ := hq10
    refine y_ifb_eq (tgt := 21) dX8_met_13 (by decide) (fun h13 => ?_) (fun h13 => ?_)
    · refine x_iconst dX8_met_21 ?_
      refine x_iret dX8_met_22 rfl ?_
      rw [← hQ]
      have hs : s_met w o I = (-1, I) := by unfold s_met; rw [if_pos (by omega)]
      rw [hs]
      exact ⟨_, rfl, rfl, Pe.rf _, LF.rf _, rfl⟩
    · refine x_iload_n dX8_met_16 1 rfl rfl ?_
      refine x_iload_n dX8_met_17 2 rfl rfl ?_
      refine x_ic_ne (tgt := 23) dX8_met_18 (by decide) (by first | omega | exact z_and_r _ _ | exact z_or_r _ _ | exact z_xor_r _ _) (fun h18 => ?_) (fun h18 => ?_)
      · refine x_aload_n dX8_met_23 0 rfl rfl ?_
        refine x_callVi (as := []) dX8_met_24 lvX8_342 rfl rfl rfl rfl rfl rfl rfl ⟨rfl, rfl⟩ (s_X8_layAll hH hE) (fun z24 I24 L24 R24 hq24 => ?_)
        obtain ⟨rfl, hE2, hLF, rfl, hTb⟩ := hq24
        refine y_ifb_ne (tgt := 36) dX8_met_27 (by decide) (fun h27 => ?_) (fun h27 => ?_)
        · refine x_bipush dX8_met_36 (by decide) ?_
          refine x_istore_n (lv' := [(0, _), (1, _), (2, _), (3, _)]) dX8_met_38 rfl rfl rfl ?_
          refine x_aload_n dX8_met_39 0 rfl rfl ?_
          refine x_getI dX8_met_40 flX8_99 rfl rfl ?_
          refine x_istore (lv' := [(0, _), (1, _), (2, _), (3, _), (4, _)]) dX8_met_43 rfl rfl ?_
          have hok : okA I = true := by assumption
          have hB := hTb (b01_1.mpr hok)
          obtain ⟨v, rfl⟩ : ∃ n : Nat, w = n := ⟨w.toNat, by omega⟩
          obtain ⟨u, rfl⟩ : ∃ n : Nat, o = n := ⟨o.toNat, by omega⟩
          have e14 : I24 0 14 = I 0 14 := by rw [hE2.at (by unfold sce per; omega), kap_per (by unfold per; omega)]
          have hlx : (I 0 14 + 1).toNat = lst (kap I 0 (I 0 13)) + 1 := by omega
          have tl : ∀ k : Nat, k ≤ lst (kap I 0 (I 0 13)) + 1 → ∀ f : Int, f = meF (kap I 0 (I 0 13)) v u (lst (kap I 0 (I 0 13)) + 1 - k) k → Rn G mtX8_met Q 45 [(0, mr 0), (1, mi ↑v), (2, mi ↑u), (3, mi f), (4, mi ((k : Int) + (-1)))] [] shM I24 L24 rM := by
            intro k
            induction k with
            | zero =>
              intro _ f hf
              have hfr := meF_r (kap I 0 (I 0 13)) v u (lst (kap I 0 (I 0 13)) + 1 - 0) 0
              have hsm : s_met v u I = (if f = -9 then 0 else if anv (cmV (kap I 0 (I 0 13)) v u (lst (kap I 0 (I 0 13)))) (nst (kap I 0 (I 0 13))) then 1 else 2, a_tl I f) := by
                unfold s_met
                rw [if_neg (by omega), if_neg (by rw [hok]; decide), Int.toNat_natCast, Int.toNat_natCast, hlx, hf, show (I 0 14).toNat = lst (kap I 0 (I 0 13)) by omega]
                rfl
              refine x_iload dX8_met_45 4 rfl ?_
              refine x_if_lt (tgt := 103) dX8_met_47 (by decide) (by omega) (fun h47 => ?_) (fun h47 => ?_)
              · refine x_aload_n dX8_met_103 0 rfl rfl ?_
                refine x_iload_n dX8_met_104 3 rfl rfl ?_
                refine x_iload_n dX8_met_105 3 rfl rfl ?_
                refine x_bipush dX8_met_106 (by decide) ?_
                refine x_ic_ne (tgt := 115) dX8_met_108 (by decide) (by omega) (fun h108 => ?_) (fun h108 => ?_)
                · refine x_aload_n dX8_met_115 0 rfl rfl ?_
                  refine x_iload_n dX8_met_116 1 rfl rfl ?_
                  refine x_iload_n dX8_met_117 2 rfl rfl ?_
                  refine x_callVi (as := [_, _]) dX8_met_118 lvX8_361 rfl rfl rfl rfl rfl rfl rfl ⟨rfl, rfl⟩ (s_X8_canMiss hE2 (KA_H hH) (KA_S hH hE) hB (by omega) (by omega)) (fun z118 I118 L118 R118 hq118 => ?_)
                  obtain ⟨rfl, hE5, rfl, rfl⟩ := hq118
                  refine y_ifb_eq (tgt := 128) dX8_met_121 (by decide) (fun h121 => ?_) (fun h121 => ?_)
                  · refine x_iconst dX8_met_128 ?_
                    refine x_callVi (as := [_, _]) dX8_met_129 lvX8_130 rfl rfl rfl rfl rfl rfl rfl ⟨rfl, rfl⟩ (s_X8_tells) (fun z129 I129 L129 R129 hq129 => ?_)
                    obtain ⟨rfl, rfl, rfl, rfl⟩ := hq129
                    refine x_iret dX8_met_132 rfl ?_
                    rw [← hQ, hsm]
                    first
                    | (rw [if_pos (by omega)]
                       exact ⟨_, rfl, rfl, (kap_pe hE2).tl _, hLF, rfl⟩)
                    | (rw [if_neg (by omega), if_pos (by assumption)]
                       exact ⟨_, rfl, rfl, (kap_pe hE5).tl _, hLF, rfl⟩)
                    | (rw [if_neg (by omega), if_neg (by assumption)]
                       exact ⟨_, rfl, rfl, (kap_pe hE5).tl _, hLF, rfl⟩)
                  · refine x_iconst dX8_met_124 ?_
                    refine x_goto (tgt := 129) dX8_met_125 (by decide) ?_
                    refine x_callVi (as := [_, _]) dX8_met_129 lvX8_130 rfl rfl rfl rfl rfl rfl rfl ⟨rfl, rfl⟩ (s_X8_tells) (fun z129 I129 L129 R129 hq129 => ?_)
                    obtain ⟨rfl, rfl, rfl, rfl⟩ := hq129
                    refine x_iret dX8_met_132 rfl ?_
                    rw [← hQ, hsm]
                    first
                    | (rw [if_pos (by omega)]
                       exact ⟨_, rfl, rfl, (kap_pe hE2).tl _, hLF, rfl⟩)
                    | (rw [if_neg (by omega), if_pos (by assumption)]
                       exact ⟨_, rfl, rfl, (kap_pe hE5).tl _, hLF, rfl⟩)
                    | (rw [if_neg (by omega), if_neg (by assumption)]
                       exact ⟨_, rfl, rfl, (kap_pe hE5).tl _, hLF, rfl⟩)
                · refine x_iconst dX8_met_111 ?_
                  refine x_goto (tgt := 129) dX8_met_112 (by decide) ?_
                  refine x_callVi (as := [_, _]) dX8_met_129 lvX8_130 rfl rfl rfl rfl rfl rfl rfl ⟨rfl, rfl⟩ (s_X8_tells) (fun z129 I129 L129 R129 hq129 => ?_)
                  obtain ⟨rfl, rfl, rfl, rfl⟩ := hq129
                  refine x_iret dX8_met_132 rfl ?_
                  rw [← hQ, hsm]
                  first
                  | (rw [if_pos (by omega)]
                     exact ⟨_, rfl, rfl, (kap_pe hE2).tl _, hLF, rfl⟩)
                  | (rw [if_neg (by omega), if_pos (by assumption)]
                     exact ⟨_, rfl, rfl, (kap_pe hE5).tl _, hLF, rfl⟩)
                  | (rw [if_neg (by omega), if_neg (by assumption)]
                     exact ⟨_, rfl, rfl, (kap_pe hE5).tl _, hLF, rfl⟩)
              · exfalso; omega
            | succ k ih =>
              intro hk f hf
              rw [show ((k + 1 : Nat) : Int) + (-1) = (k : Int) by omega]
              have hfr := meF_r (kap I 0 (I 0 13)) v u (lst (kap I 0 (I 0 13)) + 1 - (k + 1)) (k + 1)
              have sl : ∀ s : Nat, s ≤ nst (kap I 0 (I 0 13)) → ∀ g : Int, g = (if arF (kap I 0 (I 0 13)) v u k s then (k : Int) else f) → Rn G mtX8_met Q 53 [(0, mr 0), (1, mi ↑v), (2, mi ↑u), (3, mi g), (4, mi (k : Int)), (5, mi (s : Int))] [] shM I24 L24 rM := by
                refine lpn _ (fun s hs ihs => ?_) ?_
                · intro g hg
                  have hB2 := hB k s (by omega) hs
                  refine x_iload dX8_met_53 5 rfl ?_
                  refine x_aload_n dX8_met_55 0 rfl rfl ?_
                  refine x_callVi (as := []) dX8_met_56 lvX8_286 rfl rfl rfl rfl rfl rfl rfl ⟨rfl, rfl⟩ (s_X8_states hE2 (KA_H hH) (KA_S hH hE)) (fun z56 I56 L56 R56 hq56 => ?_)
                  obtain ⟨rfl, rfl, rfl, rfl⟩ := hq56
                  refine x_ic_ge (tgt := 97) dX8_met_59 (by decide) (by omega) (fun h59 => ?_) (fun h59 => ?_)
                  · exfalso; omega
                  · refine x_aload_n dX8_met_62 0 rfl rfl ?_
                    refine x_iload dX8_met_63 4 rfl ?_
                    refine x_iload dX8_met_65 5 rfl ?_
                    refine x_callVi (as := [_, _]) dX8_met_67 lvX8_333 rfl rfl rfl rfl rfl rfl rfl ⟨rfl, rfl⟩ (s_X8_isAlive (t := k) (KA_H hH) (KA_S hH hE) (by omega) hs hB2.1 hB2.2) (fun z67 I67 L67 R67 hq67 => ?_)
                    obtain ⟨rfl, rfl, rfl, rfl⟩ := hq67
                    refine y_ifb_eq (tgt := 89) dX8_met_70 (by decide) (fun h70 => ?_) (fun h70 => ?_)
                    · refine x_iload_n dX8_met_89 3 rfl rfl ?_
                      refine x_istore_n (lv' := [(0, _), (1, _), (2, _), (3, _), (4, _), (5, _)]) dX8_met_90 rfl rfl rfl ?_
                      refine x_iinc (lv' := [(0, _), (1, _), (2, _), (3, _), (4, _), (5, _)]) dX8_met_91 5 rfl rfl rfl ?_
                      refine x_goto (tgt := 53) dX8_met_94 (by decide) ?_
                      first
                      | (refine ihs _ ?_
                         unfold arF
                         rw [if_pos (by rw [Bool.or_eq_true, Bool.and_eq_true, beq_iff_eq]; exact Or.inr ⟨by assumption, by assumption⟩)])
                      | (refine ihs _ ?_
                         unfold arF
                         have hn : (alv (kap I 0 (I 0 13)) k s && rm s v == rm s u) = false := by
                           rw [← Bool.not_eq_true, Bool.and_eq_true, beq_iff_eq]
                           rintro ⟨x1, x2⟩
                           contradiction
                         rw [hn, Bool.or_false]
                         exact hg)
                    · refine x_aload_n dX8_met_73 0 rfl rfl ?_
                      refine x_iload dX8_met_74 5 rfl ?_
                      refine x_iload_n dX8_met_76 1 rfl rfl ?_
                      refine x_iload_n dX8_met_77 2 rfl rfl ?_
                      refine x_callVi (as := [_, _, _]) dX8_met_78 lvX8_352 rfl rfl rfl rfl rfl rfl rfl ⟨rfl, rfl⟩ (s_X8_areIn (by omega) (by omega) (by omega)) (fun z78 I78 L78 R78 hq78 => ?_)
                      obtain ⟨rfl, rfl, rfl, rfl⟩ := hq78
                      refine y_ifb_eq (tgt := 89) dX8_met_81 (by decide) (fun h81 => ?_) (fun h81 => ?_)
                      · refine x_iload_n dX8_met_89 3 rfl rfl ?_
                        refine x_istore_n (lv' := [(0, _), (1, _), (2, _), (3, _), (4, _), (5, _)]) dX8_met_90 rfl rfl rfl ?_
                        refine x_iinc (lv' := [(0, _), (1, _), (2, _), (3, _), (4, _), (5, _)]) dX8_met_91 5 rfl rfl rfl ?_
                        refine x_goto (tgt := 53) dX8_met_94 (by decide) ?_
                        first
                        | (refine ihs _ ?_
                           unfold arF
                           rw [if_pos (by rw [Bool.or_eq_true, Bool.and_eq_true, beq_iff_eq]; exact Or.inr ⟨by assumption, by assumption⟩)])
                        | (refine ihs _ ?_
                           unfold arF
                           have hn : (alv (kap I 0 (I 0 13)) k s && rm s v == rm s u) = false := by
                             rw [← Bool.not_eq_true, Bool.and_eq_true, beq_iff_eq]
                             rintro ⟨x1, x2⟩
                             contradiction
                           rw [hn, Bool.or_false]
                           exact hg)
                      · refine x_iload dX8_met_84 4 rfl ?_
                        refine x_goto (tgt := 90) dX8_met_86 (by decide) ?_
                        refine x_istore_n (lv' := [(0, _), (1, _), (2, _), (3, _), (4, _), (5, _)]) dX8_met_90 rfl rfl rfl ?_
                        refine x_iinc (lv' := [(0, _), (1, _), (2, _), (3, _), (4, _), (5, _)]) dX8_met_91 5 rfl rfl rfl ?_
                        refine x_goto (tgt := 53) dX8_met_94 (by decide) ?_
                        first
                        | (refine ihs _ ?_
                           unfold arF
                           rw [if_pos (by rw [Bool.or_eq_true, Bool.and_eq_true, beq_iff_eq]; exact Or.inr ⟨by assumption, by assumption⟩)])
                        | (refine ihs _ ?_
                           unfold arF
                           have hn : (alv (kap I 0 (I 0 13)) k s && rm s v == rm s u) = false := by
                             rw [← Bool.not_eq_true, Bool.and_eq_true, beq_iff_eq]
                             rintro ⟨x1, x2⟩
                             contradiction
                           rw [hn, Bool.or_false]
                           exact hg)
                · intro g hg
                  refine x_iload dX8_met_53 5 rfl ?_
                  refine x_aload_n dX8_met_55 0 rfl rfl ?_
                  refine x_callVi (as := []) dX8_met_56 lvX8_286 rfl rfl rfl rfl rfl rfl rfl ⟨rfl, rfl⟩ (s_X8_states hE2 (KA_H hH) (KA_S hH hE)) (fun z56 I56 L56 R56 hq56 => ?_)
                  obtain ⟨rfl, rfl, rfl, rfl⟩ := hq56
                  refine x_ic_ge (tgt := 97) dX8_met_59 (by decide) (by omega) (fun h59 => ?_) (fun h59 => ?_)
                  · refine x_iinc (lv' := [(0, _), (1, _), (2, _), (3, _), (4, _), (5, _)]) dX8_met_97 4 rfl rfl rfl ?_
                    refine x_goto (tgt := 45) dX8_met_100 (by decide) ?_
                    refine x_top (lv' := [(0, _), (1, _), (2, _), (3, _), (4, _)]) 5 rfl ?_
                    refine ih (by omega) g ?_
                    rw [hg, show lst (kap I 0 (I 0 13)) + 1 - k = (lst (kap I 0 (I 0 13)) + 1 - (k + 1)) + 1 by omega]
                    show _ = (if arF (kap I 0 (I 0 13)) v u k (nst (kap I 0 (I 0 13))) then (k : Int) else meF (kap I 0 (I 0 13)) v u (lst (kap I 0 (I 0 13)) + 1 - (k + 1)) (k + 1))
                    rw [hf]
                  · exfalso; omega
              refine x_iload dX8_met_45 4 rfl ?_
              refine x_if_lt (tgt := 103) dX8_met_47 (by decide) (by omega) (fun h47 => ?_) (fun h47 => ?_)
              · exfalso; omega
              · refine x_iconst dX8_met_50 ?_
                refine x_istore (lv' := [(0, _), (1, _), (2, _), (3, _), (4, _), (5, _)]) dX8_met_51 rfl rfl ?_
                exact sl 0 (by omega) f (by unfold arF; rw [if_neg (by decide)])
          have h9 := tl (lst (kap I 0 (I 0 13)) + 1) (Nat.le_refl _) (-9) (by rw [Nat.sub_self]; rfl)
          rw [show ((lst (kap I 0 (I 0 13)) + 1 : Nat) : Int) + (-1) = I24 0 14 by omega] at h9
          exact h9
        · refine x_aload_n dX8_met_30 0 rfl rfl ?_
          refine x_iconst dX8_met_31 ?_
          refine x_callVi (as := [_]) dX8_met_32 lvX8_122 rfl rfl rfl rfl rfl rfl rfl ⟨rfl, rfl⟩ (s_X8_meets (by omega)) (fun z32 I32 L32 R32 hq32 => ?_)
          obtain ⟨rfl, rfl, rfl, rfl⟩ := hq32
          refine x_iret dX8_met_35 rfl ?_
          rw [← hQ]
          have hs : s_met w o I = (-3, a_mt I 4) := by
            unfold s_met
            rw [if_neg (by omega), if_pos (by rw [← Bool.not_eq_true]; assumption)]
          rw [hs]
          exact ⟨_, rfl, rfl, (kap_pe hE2).mt 4, hLF, rfl⟩
      · refine x_iconst dX8_met_21 ?_
        refine x_iret dX8_met_22 rfl ?_
        rw [← hQ]
        have hs : s_met w o I = (-1, I) := by unfold s_met; rw [if_pos (by omega)]
        rw [hs]
        exact ⟨_, rfl, rfl, Pe.rf _, LF.rf _, rfl⟩
set_option maxHeartbeats 1500000 in
theorem s_X8_stands {w : Nat} {n : Int} {l : Bool} (h0 : E1 κ I) (hH : iHs κ) (hS : iSc κ) (hB : Tb κ L) (hw : w < us κ) (hn : 1 ≤ n ∧ n ≤ 30) : Sp G mtX8_stands [mr 0, mi ↑w, mi n, mi ((if l = true then 1 else 0))] shM I L rM (qi (fun z I' L' R' => z = b01 (stA κ w n l = true) ∧ E1 κ I' ∧ L = L' ∧ R' = rM)) := by
  refine Sp.of pnX8_stands rfl ?_
  show Rn G mtX8_stands _ 0 [(0, mr 0), (1, mi ↑w), (2, mi n), (3, mi ((if l = true then 1 else 0)))] [] shM I L rM
  generalize hQ : (qi (fun z I' L' R' => z = b01 (stA κ w n l = true) ∧ E1 κ I' ∧ L = L' ∧ R' = rM)) = Q
  have hu := us_le hH hS
  have hnn := (nst_le hH hS).2
  have hT := hH.2.2.2.1
  have hlt : (lst κ : Int) = κ 0 14 := by unfold lst; omega
  have hlr : 0 ≤ (if l = true then 1 else 0 : Int) ∧ (if l = true then 1 else 0 : Int) ≤ 1 := by split <;> omega
  have hl1 : (if l = true then 1 else 0 : Int) = 0 ↔ ¬ l = true := by split <;> simp [*]
  have hcmp : ∀ a b : Int, (if l = true then a < b else b < a) ↔ ((if l = true then 1 else 0 : Int) ≠ 0 ∧ a < b) ∨ ((if l = true then 1 else 0 : Int) = 0 ∧ b < a) := fun a b => by split <;> simp
  refine x_aload_n dX8_stands_0 0 rfl rfl ?_
  refine x_iconst dX8_stands_1 ?_
  refine x_callVv (as := [_]) dX8_stands_2 lvX8_349 rfl rfl rfl rfl rfl rfl rfl ⟨rfl, rfl⟩ (s_X8_beginValues h0 hH hS hB) (fun I2 L2 R2 hq2 => ?_)
  obtain ⟨rfl, rfl, hq1, hq2⟩ := hq2
  have hEb : E1 κ I2 := fun c j q => by rw [hq1 c j (by unfold sce per at q; omega) (by unfold sce per at q; omega)]; exact h0 c j q
  refine x_iconst dX8_stands_5 ?_
  refine x_istore (lv' := [(0, _), (1, _), (2, _), (3, _), (4, _)]) dX8_stands_6 rfl rfl ?_
  refine x_iconst dX8_stands_8 ?_
  refine x_istore (lv' := [(0, _), (1, _), (2, _), (3, _), (4, _), (5, _)]) dX8_stands_9 rfl rfl ?_
  have tl : ∀ t : Nat, t ≤ lst κ → ∀ (J : MI) (g : Int), E1 κ J → (∀ x : Nat, x < nst κ → J 24 (x : Int) = stV κ w n l t x ∧ J 25 (x : Int) = -1) → g = b01 (stR κ w n l t = true) → Rn G mtX8_stands Q 11 [(0, mr 0), (1, mi ↑w), (2, mi n), (3, mi (if l = true then 1 else 0)), (4, mi g), (5, mi (t : Int))] [] shM J L rM := by
    refine lpn _ (fun t ht iht => ?_) ?_
    · intro J g hJ hV hg
      have j14 : J 0 14 = κ 0 14 := hJ.at (by unfold sce per; omega)
      have sl : ∀ s : Nat, s ≤ nst κ → ∀ (J : MI) (g : Int), E1 κ J → (∀ x : Nat, x < nst κ → J 24 (x : Int) = stV κ w n l t x) → (∀ x : Nat, x < nst κ → J 25 (x : Int) = swS (stV κ w n l t) (stF κ w n l t (stV κ w n l t)) (fun s => mal κ t s) s (fun _ => -1) x) → g = b01 (stS κ w n t (stV κ w n l t) (stR κ w n l t) s = true) → Rn G mtX8_stands Q 23 [(0, mr 0), (1, mi ↑w), (2, mi n), (3, mi (if l = true then 1 else 0)), (4, mi g), (5, mi (t : Int)), (6, mi (s : Int))] [] shM J L rM := by
        refine lpn _ (fun s hs ih => ?_) ?_
        · intro J g hJ hA hW hg
          have hs2 : s < 1728 := by omega
          have hml : mal κ t s ≤ 729 := mal_le hH hS t s
          have hvs := hA s hs
          have hvr := stV_r (κ := κ) (w := w) (n := n) (l := l) t s
          have cl : ∀ c : Nat, c ≤ mal κ t s → 0 ≤ stV κ w n l t s → ∀ (J3 : MI) (g : Int), E1 κ J3 → J3 0 41 = (mal κ t s : Int) → hMv κ t s (us κ) J3 → (∀ x : Nat, x < nst κ → J3 24 (x : Int) = stV κ w n l t x) → (∀ x : Nat, x < nst κ → J3 25 (x : Int) = swC (stF κ w n l t (stV κ w n l t) s) c (swS (stV κ w n l t) (stF κ w n l t (stV κ w n l t)) (fun s => mal κ t s) s (fun _ => -1)) x) → g = b01 (stC κ w n t (stV κ w n l t) s (stS κ w n t (stV κ w n l t) (stR κ w n l t) s) c = true) → Rn G mtX8_stands Q 53 [(0, mr 0), (1, mi ↑w), (2, mi n), (3, mi (if l = true then 1 else 0)), (4, mi g), (5, mi (t : Int)), (6, mi (s : Int)), (7, mi (c : Int))] [] shM J3 L rM := by
            refine lpn _ (fun c hc ihc => ?_) ?_
            · intro hpos J3 g hJ3 hm hM hA3 hW3 hg3
              have hg2 : 0 ≤ g ∧ g ≤ 1 := by rw [hg3]; exact b01_r _
              have hnx := nxt_lt hH hs2 (t := (t : Int)) c
              have hB2 := hB (t + 1) _ (by omega) hnx
              have hmv := mv_r hH hs2 (t := (t : Int)) c w
              have hvs3 := hA3 s hs
              have hwx := hW3 _ hnx
              have hwr := swC_rb (b := (t : Int) + 1) (f := stF κ w n l t (stV κ w n l t) s) (fun c W hW x => stF_r (fun s => stV_r t s) (by omega) s c W hW x) c _ (swS_rb (b := (t : Int) + 1) (V := stV κ w n l t) (f := stF κ w n l t (stV κ w n l t)) (m := fun s => mal κ t s) (fun s c W hW x => stF_r (fun s => stV_r t s) (by omega) s c W hW x) s (fun _ => -1) (fun _ => by omega)) (nxt κ t s c)
              have nx : ∀ (J4 : MI) (g4 : Int), E1 κ J4 → J4 0 41 = (mal κ t s : Int) → hMv κ t s (us κ) J4 → (∀ x : Nat, x < nst κ → J4 24 (x : Int) = stV κ w n l t x) → (∀ x : Nat, x < nst κ → J4 25 (x : Int) = swC (stF κ w n l t (stV κ w n l t) s) (c + 1) (swS (stV κ w n l t) (stF κ w n l t (stV κ w n l t)) (fun s => mal κ t s) s (fun _ => -1)) x) → g4 = b01 (stC κ w n t (stV κ w n l t) s (stS κ w n t (stV κ w n l t) (stR κ w n l t) s) (c + 1) = true) → ∀ lv8, lv8 = [(0, mr 0), (1, mi ↑w), (2, mi n), (3, mi (if l = true then 1 else 0)), (4, mi g4), (5, mi (t : Int)), (6, mi (s : Int)), (7, mi (c : Int))] → Rn G mtX8_stands Q 237 lv8 [] shM J4 L rM := by
                intro J4 g4 hJ4 hm4 hM4 hA4 hW4 hg4 lv8 hlv
                subst hlv
                refine x_iinc (lv' := [(0, _), (1, _), (2, _), (3, _), (4, _), (5, _), (6, _), (7, _)]) dX8_stands_237 7 rfl rfl rfl ?_
                refine x_goto (tgt := 53) dX8_stands_240 (by decide) ?_
                exact ihc hpos _ _ hJ4 hm4 hM4 hA4 hW4 hg4
              have core : ∀ (J4 : MI) (v g4 : Int), (vld κ t s c && alv κ (t + 1) (nxt κ t s c)) = true → v = stv κ w t s c (stV κ w n l t) → E1 κ J4 → J4 0 41 = (mal κ t s : Int) → hMv κ t s (us κ) J4 → J4 0 43 = (nxt κ t s c : Int) → (∀ x : Nat, x < nst κ → J4 24 (x : Int) = stV κ w n l t x) → (∀ x : Nat, x < nst κ → J4 25 (x : Int) = swC (stF κ w n l t (stV κ w n l t) s) c (swS (stV κ w n l t) (stF κ w n l t (stV κ w n l t)) (fun s => mal κ t s) s (fun _ => -1)) x) → Rn G mtX8_stands Q 114 [(0, mr 0), (1, mi ↑w), (2, mi n), (3, mi (if l = true then 1 else 0)), (4, mi g), (5, mi (t : Int)), (6, mi (s : Int)), (7, mi (c : Int))] [mi v] shM J4 L rM := by
                intro J4 v g4 hf hv hJ4 hm4 hM4 h43 hA4 hW4
                have hvr2 := stv_r (κ := κ) (w := w) (t := t) (s := s) (c := c) (V := stV κ w n l t) (b := (t : Int)) hvr (by omega)
                have hwx4 := hW4 _ hnx
                have e25 : J4 25 (J4 0 43) = J4 25 (nxt κ t s c : Int) := by rw [h43]
                have hgC : ∀ g5 : Int, (g5 = 1 ∧ (g ≠ 0 ∨ n ≤ v)) ∨ (g5 = 0 ∧ g = 0 ∧ ¬ n ≤ v) → g5 = b01 (stC κ w n t (stV κ w n l t) s (stS κ w n t (stV κ w n l t) (stR κ w n l t) s) (c + 1) = true) := by
                  intro g5 h5
                  rw [hv] at h5
                  rcases h5 with ⟨rfl, h5⟩ | ⟨rfl, h5, h6⟩
                  · apply b01_t
                    unfold stC
                    rw [hf, Bool.true_and, Bool.or_eq_true, decide_eq_true_eq]
                    rcases h5 with h5 | h5
                    · exact Or.inl (b01_ne.mp (by rw [← hg3]; exact h5))
                    · exact Or.inr h5
                  · apply b01_f
                    unfold stC
                    rw [hf, Bool.true_and, Bool.or_eq_true, decide_eq_true_eq]
                    rintro (x1 | x1)
                    · exact (b01_eq.mp (by rw [← hg3]; exact h5)) x1
                    · exact h6 x1
                have hWy : ∀ J5 : MI, (J4 25 (nxt κ t s c : Int) < 0 ∨ (if l = true then v < J4 25 (nxt κ t s c : Int) else J4 25 (nxt κ t s c : Int) < v)) ∧ ¬ (l = true ∧ n ≤ v) → J5 = m_up J4 25 (nxt κ t s c : Int) v → ∀ x : Nat, x < nst κ → J5 25 (x : Int) = swC (stF κ w n l t (stV κ w n l t) s) (c + 1) (swS (stV κ w n l t) (stF κ w n l t (stV κ w n l t)) (fun s => mal κ t s) s (fun _ => -1)) x := by
                  intro J5 h5 hJ5 x hx
                  rw [hwx4, hv] at h5
                  show _ = stF κ w n l t (stV κ w n l t) s c (swC (stF κ w n l t (stV κ w n l t) s) c (swS (stV κ w n l t) (stF κ w n l t (stV κ w n l t)) (fun s => mal κ t s) s (fun _ => -1))) x
                  unfold stF
                  rw [if_pos ⟨hf, h5.1, h5.2⟩, hJ5, ← hv]
                  unfold upn
                  by_cases e : x = nxt κ t s c
                  · rw [if_pos e, e, m_up_eq]
                  · rw [if_neg e, m_up_nj (by omega)]; exact hW4 x hx
                have hWn : ∀ J5 : MI, ¬ ((J4 25 (nxt κ t s c : Int) < 0 ∨ (if l = true then v < J4 25 (nxt κ t s c : Int) else J4 25 (nxt κ t s c : Int) < v)) ∧ ¬ (l = true ∧ n ≤ v)) → J5 = m_up J4 25 (nxt κ t s c : Int) (J4 25 (nxt κ t s c : Int)) → ∀ x : Nat, x < nst κ → J5 25 (x : Int) = swC (stF κ w n l t (stV κ w n l t) s) (c + 1) (swS (stV κ w n l t) (stF κ w n l t (stV κ w n l t)) (fun s => mal κ t s) s (fun _ => -1)) x := by
                  intro J5 h5 hJ5 x hx
                  rw [hwx4, hv] at h5
                  show _ = stF κ w n l t (stV κ w n l t) s c (swC (stF κ w n l t (stV κ w n l t) s) c (swS (stV κ w n l t) (stF κ w n l t (stV κ w n l t)) (fun s => mal κ t s) s (fun _ => -1))) x
                  unfold stF
                  rw [if_neg (fun q => h5 q.2), hJ5]
                  by_cases e : x = nxt κ t s c
                  · rw [e, m_up_eq]; exact hwx4
                  · rw [m_up_nj (by omega)]; exact hW4 x hx
                have fin : ∀ (v5 : Int), (∀ x : Nat, x < nst κ → m_up J4 25 (nxt κ t s c : Int) v5 25 (x : Int) = swC (stF κ w n l t (stV κ w n l t) s) (c + 1) (swS (stV κ w n l t) (stF κ w n l t (stV κ w n l t)) (fun s => mal κ t s) s (fun _ => -1)) x) → ∀ g5 : Int, g5 = b01 (stC κ w n t (stV κ w n l t) s (stS κ w n t (stV κ w n l t) (stR κ w n l t) s) (c + 1) = true) → ∀ lv8, lv8 = [(0, mr 0), (1, mi ↑w), (2, mi n), (3, mi (if l = true then 1 else 0)), (4, mi g5), (5, mi (t : Int)), (6, mi (s : Int)), (7, mi (c : Int))] → Rn G mtX8_stands Q 237 lv8 [] shM (m_up J4 25 (nxt κ t s c : Int) v5) L rM := by
                  intro v5 h5 g5 hg5 lv8 hlv
                  exact nx _ g5 (hJ4.up (by unfold sce per; omega)) (by rw [m_up_ne (by decide)]; exact hm4) (hMv_same (fun w => (mvl_len hH.2.1 t s w).2) hM4 (fun j _ => m_up_ne (by decide) j) (fun j _ => ⟨m_up_ne (by decide) j, m_up_ne (by decide) j⟩)) (fun x hx => by rw [m_up_ne (by decide)]; exact hA4 x hx) h5 hg5 lv8 hlv
                have j198 : ∀ b i g5 : Int, (b = 1 ∧ (J4 25 (nxt κ t s c : Int) < 0 ∨ (if l = true then v < J4 25 (nxt κ t s c : Int) else J4 25 (nxt κ t s c : Int) < v)) ∨ b = 0 ∧ ¬ (J4 25 (nxt κ t s c : Int) < 0 ∨ (if l = true then v < J4 25 (nxt κ t s c : Int) else J4 25 (nxt κ t s c : Int) < v))) → (i = 1 ∧ n ≤ v ∨ i = 0 ∧ ¬ n ≤ v) → g5 = b01 (stC κ w n t (stV κ w n l t) s (stS κ w n t (stV κ w n l t) (stR κ w n l t) s) (c + 1) = true) → Rn G mtX8_stands Q 198 [(0, mr 0), (1, mi ↑w), (2, mi n), (3, mi (if l = true then 1 else 0)), (4, mi g5), (5, mi (t : Int)), (6, mi (s : Int)), (7, mi (c : Int)), (8, mi v), (9, mi i)] [mi b] shM J4 L rM := by
                  intro b i g5 hb hi hg5
                  have hb2 : 0 ≤ b ∧ b ≤ 1 := by rcases hb with h | h <;> omega
                  have hi2 : 0 ≤ i ∧ i ≤ 1 := by omega
                  refine x_istore (lv' := [(0, _), (1, _), (2, _), (3, _), (4, _), (5, _), (6, _), (7, _), (8, _), (9, _), (10, _)]) dX8_stands_198 rfl rfl ?_
                  refine x_aload_n dX8_stands_200 0 rfl rfl ?_
                  refine x_getR dX8_stands_201 flX8_85 rfl rfl rfl ?_
                  refine x_aload_n dX8_stands_204 0 rfl rfl ?_
                  refine x_getI dX8_stands_205 flX8_276 rfl rfl ?_
                  rw [h43]
                  refine x_iload dX8_stands_208 10 rfl ?_
                  refine x_if_eq (tgt := 227) dX8_stands_210 (by decide) (by omega) (fun h210 => ?_) (fun h210 => ?_)
                  · refine x_aload_n dX8_stands_227 0 rfl rfl ?_
                    refine x_getR dX8_stands_228 flX8_85 rfl rfl rfl ?_
                    refine x_aload_n dX8_stands_231 0 rfl rfl ?_
                    refine x_getI dX8_stands_232 flX8_276 rfl rfl ?_
                    refine x_iald dX8_stands_235 rfl (by omega) ?_
                    try rw [e25]
                    refine x_iast dX8_stands_236 rfl (by omega) ?_
                    refine x_top (lv' := [(0, _), (1, _), (2, _), (3, _), (4, _), (5, _), (6, _), (7, _)]) 8 rfl ?_
                    refine fin _ ?_ g5 hg5 _ rfl
                    first
                    | (refine hWy _ ⟨?_, ?_⟩ rfl
                       · rcases hb with h | h
                         · exact h.2
                         · exfalso; omega
                       · rintro ⟨x1, x2⟩
                         first | omega | exact absurd x1 (hl1.mp (by assumption)))
                    | (refine hWn _ ?_ rfl
                       rintro ⟨x1, x2⟩
                       first
                       | (rcases hb with h | h
                          · exfalso; omega
                          · exact h.2 x1)
                       | (refine x2 ⟨?_, by omega⟩
                          apply Classical.byContradiction
                          intro x3
                          have := hl1.mpr x3
                          omega))
                  · refine x_iload_n dX8_stands_213 3 rfl rfl ?_
                    refine x_if_eq (tgt := 222) dX8_stands_214 (by decide) (by omega) (fun h214 => ?_) (fun h214 => ?_)
                    · refine x_iload dX8_stands_222 8 rfl ?_
                      refine x_goto (tgt := 236) dX8_stands_224 (by decide) ?_
                      try rw [e25]
                      refine x_iast dX8_stands_236 rfl (by omega) ?_
                      refine x_top (lv' := [(0, _), (1, _), (2, _), (3, _), (4, _), (5, _), (6, _), (7, _)]) 8 rfl ?_
                      refine fin _ ?_ g5 hg5 _ rfl
                      first
                      | (refine hWy _ ⟨?_, ?_⟩ rfl
                         · rcases hb with h | h
                           · exact h.2
                           · exfalso; omega
                         · rintro ⟨x1, x2⟩
                           first | omega | exact absurd x1 (hl1.mp (by assumption)))
                      | (refine hWn _ ?_ rfl
                         rintro ⟨x1, x2⟩
                         first
                         | (rcases hb with h | h
                            · exfalso; omega
                            · exact h.2 x1)
                         | (refine x2 ⟨?_, by omega⟩
                            apply Classical.byContradiction
                            intro x3
                            have := hl1.mpr x3
                            omega))
                    · refine x_iload dX8_stands_217 9 rfl ?_
                      refine x_if_ne (tgt := 227) dX8_stands_219 (by decide) (by omega) (fun h219 => ?_) (fun h219 => ?_)
                      · refine x_aload_n dX8_stands_227 0 rfl rfl ?_
                        refine x_getR dX8_stands_228 flX8_85 rfl rfl rfl ?_
                        refine x_aload_n dX8_stands_231 0 rfl rfl ?_
                        refine x_getI dX8_stands_232 flX8_276 rfl rfl ?_
                        refine x_iald dX8_stands_235 rfl (by omega) ?_
                        try rw [e25]
                        refine x_iast dX8_stands_236 rfl (by omega) ?_
                        refine x_top (lv' := [(0, _), (1, _), (2, _), (3, _), (4, _), (5, _), (6, _), (7, _)]) 8 rfl ?_
                        refine fin _ ?_ g5 hg5 _ rfl
                        first
                        | (refine hWy _ ⟨?_, ?_⟩ rfl
                           · rcases hb with h | h
                             · exact h.2
                             · exfalso; omega
                           · rintro ⟨x1, x2⟩
                             first | omega | exact absurd x1 (hl1.mp (by assumption)))
                        | (refine hWn _ ?_ rfl
                           rintro ⟨x1, x2⟩
                           first
                           | (rcases hb with h | h
                              · exfalso; omega
                              · exact h.2 x1)
                           | (refine x2 ⟨?_, by omega⟩
                              apply Classical.byContradiction
                              intro x3
                              have := hl1.mpr x3
                              omega))
                      · refine x_iload dX8_stands_222 8 rfl ?_
                        refine x_goto (tgt := 236) dX8_stands_224 (by decide) ?_
                        try rw [e25]
                        refine x_iast dX8_stands_236 rfl (by omega) ?_
                        refine x_top (lv' := [(0, _), (1, _), (2, _), (3, _), (4, _), (5, _), (6, _), (7, _)]) 8 rfl ?_
                        refine fin _ ?_ g5 hg5 _ rfl
                        first
                        | (refine hWy _ ⟨?_, ?_⟩ rfl
                           · rcases hb with h | h
                             · exact h.2
                             · exfalso; omega
                           · rintro ⟨x1, x2⟩
                             first | omega | exact absurd x1 (hl1.mp (by assumption)))
                        | (refine hWn _ ?_ rfl
                           rintro ⟨x1, x2⟩
                           first
                           | (rcases hb with h | h
                              · exfalso; omega
                              · exact h.2 x1)
                           | (refine x2 ⟨?_, by omega⟩
                              apply Classical.byContradiction
                              intro x3
                              have := hl1.mpr x3
                              omega))
                have j144 : ∀ i g5 : Int, (i = 1 ∧ n ≤ v ∨ i = 0 ∧ ¬ n ≤ v) → g5 = b01 (stC κ w n t (stV κ w n l t) s (stS κ w n t (stV κ w n l t) (stR κ w n l t) s) (c + 1) = true) → Rn G mtX8_stands Q 144 [(0, mr 0), (1, mi ↑w), (2, mi n), (3, mi (if l = true then 1 else 0)), (4, mi g), (5, mi (t : Int)), (6, mi (s : Int)), (7, mi (c : Int)), (8, mi v), (9, mi i)] [mi g5] shM J4 L rM := by
                  intro i g5 hi hg5
                  refine x_istore (lv' := [(0, _), (1, _), (2, _), (3, _), (4, _), (5, _), (6, _), (7, _), (8, _), (9, _)]) dX8_stands_144 rfl rfl ?_
                  refine x_aload_n dX8_stands_146 0 rfl rfl ?_
                  refine x_getR dX8_stands_147 flX8_85 rfl rfl rfl ?_
                  refine x_aload_n dX8_stands_150 0 rfl rfl ?_
                  refine x_getI dX8_stands_151 flX8_276 rfl rfl ?_
                  refine x_iald dX8_stands_154 rfl (by omega) ?_
                  rw [e25]
                  refine x_if_lt (tgt := 193) dX8_stands_155 (by decide) (by omega) (fun h155 => ?_) (fun h155 => ?_)
                  · refine x_iconst dX8_stands_193 ?_
                    refine x_goto (tgt := 198) dX8_stands_194 (by decide) ?_
                    refine j198 _ _ _ ?_ hi hg5
                    first
                    | (left; exact ⟨rfl, Or.inl (by assumption)⟩)
                    | (left; refine ⟨rfl, Or.inr ((hcmp _ _).mpr ?_)⟩; omega)
                    | (right; refine ⟨rfl, ?_⟩; rw [hcmp]; omega)
                  · refine x_iload_n dX8_stands_158 3 rfl rfl ?_
                    refine x_if_eq (tgt := 179) dX8_stands_159 (by decide) (by omega) (fun h159 => ?_) (fun h159 => ?_)
                    · refine x_iload dX8_stands_179 8 rfl ?_
                      refine x_aload_n dX8_stands_181 0 rfl rfl ?_
                      refine x_getR dX8_stands_182 flX8_85 rfl rfl rfl ?_
                      refine x_aload_n dX8_stands_185 0 rfl rfl ?_
                      refine x_getI dX8_stands_186 flX8_276 rfl rfl ?_
                      refine x_iald dX8_stands_189 rfl (by omega) ?_
                      rw [e25]
                      refine x_ic_le (tgt := 197) dX8_stands_190 (by decide) (by omega) (fun h190 => ?_) (fun h190 => ?_)
                      · refine x_iconst dX8_stands_197 ?_
                        refine j198 _ _ _ ?_ hi hg5
                        first
                        | (left; exact ⟨rfl, Or.inl (by assumption)⟩)
                        | (left; refine ⟨rfl, Or.inr ((hcmp _ _).mpr ?_)⟩; omega)
                        | (right; refine ⟨rfl, ?_⟩; rw [hcmp]; omega)
                      · refine x_iconst dX8_stands_193 ?_
                        refine x_goto (tgt := 198) dX8_stands_194 (by decide) ?_
                        refine j198 _ _ _ ?_ hi hg5
                        first
                        | (left; exact ⟨rfl, Or.inl (by assumption)⟩)
                        | (left; refine ⟨rfl, Or.inr ((hcmp _ _).mpr ?_)⟩; omega)
                        | (right; refine ⟨rfl, ?_⟩; rw [hcmp]; omega)
                    · refine x_iload dX8_stands_162 8 rfl ?_
                      refine x_aload_n dX8_stands_164 0 rfl rfl ?_
                      refine x_getR dX8_stands_165 flX8_85 rfl rfl rfl ?_
                      refine x_aload_n dX8_stands_168 0 rfl rfl ?_
                      refine x_getI dX8_stands_169 flX8_276 rfl rfl ?_
                      refine x_iald dX8_stands_172 rfl (by omega) ?_
                      rw [e25]
                      refine x_ic_ge (tgt := 197) dX8_stands_173 (by decide) (by omega) (fun h173 => ?_) (fun h173 => ?_)
                      · refine x_iconst dX8_stands_197 ?_
                        refine j198 _ _ _ ?_ hi hg5
                        first
                        | (left; exact ⟨rfl, Or.inl (by assumption)⟩)
                        | (left; refine ⟨rfl, Or.inr ((hcmp _ _).mpr ?_)⟩; omega)
                        | (right; refine ⟨rfl, ?_⟩; rw [hcmp]; omega)
                      · refine x_goto (tgt := 193) dX8_stands_176 (by decide) ?_
                        refine x_iconst dX8_stands_193 ?_
                        refine x_goto (tgt := 198) dX8_stands_194 (by decide) ?_
                        refine j198 _ _ _ ?_ hi hg5
                        first
                        | (left; exact ⟨rfl, Or.inl (by assumption)⟩)
                        | (left; refine ⟨rfl, Or.inr ((hcmp _ _).mpr ?_)⟩; omega)
                        | (right; refine ⟨rfl, ?_⟩; rw [hcmp]; omega)
                refine x_istore (lv' := [(0, _), (1, _), (2, _), (3, _), (4, _), (5, _), (6, _), (7, _), (8, _)]) dX8_stands_114 rfl rfl ?_
                refine x_iload dX8_stands_116 8 rfl ?_
                refine x_iload_n dX8_stands_118 2 rfl rfl ?_
                refine x_ic_lt (tgt := 126) dX8_stands_119 (by decide) (by omega) (fun h119 => ?_) (fun h119 => ?_)
                · refine x_iconst dX8_stands_126 ?_
                  refine x_istore (lv' := [(0, _), (1, _), (2, _), (3, _), (4, _), (5, _), (6, _), (7, _), (8, _), (9, _)]) dX8_stands_127 rfl rfl ?_
                  refine x_iload dX8_stands_129 4 rfl ?_
                  refine x_if_ne (tgt := 139) dX8_stands_131 (by decide) (by omega) (fun h131 => ?_) (fun h131 => ?_)
                  · refine x_iconst dX8_stands_139 ?_
                    refine x_goto (tgt := 144) dX8_stands_140 (by decide) ?_
                    exact j144 _ _ (by omega) (hgC _ (by omega))
                  · refine x_iload dX8_stands_134 9 rfl ?_
                    refine x_if_eq (tgt := 143) dX8_stands_136 (by decide) (by omega) (fun h136 => ?_) (fun h136 => ?_)
                    · refine x_iconst dX8_stands_143 ?_
                      exact j144 _ _ (by omega) (hgC _ (by omega))
                    · exfalso; omega
                · refine x_iconst dX8_stands_122 ?_
                  refine x_goto (tgt := 127) dX8_stands_123 (by decide) ?_
                  refine x_istore (lv' := [(0, _), (1, _), (2, _), (3, _), (4, _), (5, _), (6, _), (7, _), (8, _), (9, _)]) dX8_stands_127 rfl rfl ?_
                  refine x_iload dX8_stands_129 4 rfl ?_
                  refine x_if_ne (tgt := 139) dX8_stands_131 (by decide) (by omega) (fun h131 => ?_) (fun h131 => ?_)
                  · refine x_iconst dX8_stands_139 ?_
                    refine x_goto (tgt := 144) dX8_stands_140 (by decide) ?_
                    exact j144 _ _ (by omega) (hgC _ (by omega))
                  · refine x_iload dX8_stands_134 9 rfl ?_
                    refine x_if_eq (tgt := 143) dX8_stands_136 (by decide) (by omega) (fun h136 => ?_) (fun h136 => ?_)
                    · exfalso; omega
                    · refine x_iconst dX8_stands_139 ?_
                      refine x_goto (tgt := 144) dX8_stands_140 (by decide) ?_
                      exact j144 _ _ (by omega) (hgC _ (by omega))
              refine x_iload dX8_stands_53 7 rfl ?_
              refine x_aload_n dX8_stands_55 0 rfl rfl ?_
              refine x_getI dX8_stands_56 flX8_270 rfl rfl ?_
              refine x_ic_ge (tgt := 243) dX8_stands_59 (by decide) (by omega) (fun h59 => ?_) (fun h59 => ?_)
              · exfalso; omega
              · refine x_aload_n dX8_stands_62 0 rfl rfl ?_
                refine x_iload dX8_stands_63 7 rfl ?_
                refine x_callVv (as := [_]) dX8_stands_65 lvX8_300 rfl rfl rfl rfl rfl rfl rfl ⟨rfl, rfl⟩ (s_X8_take hJ3 hH hS hs2 hM hc) (fun I65 L65 R65 hq65 => ?_)
                obtain ⟨rfl, rfl, hE0, h42, h43, h21⟩ := hq65
                have hJ4 := hJ3.tr hE0.e1
                have hm2 : I65 0 41 = (mal κ t s : Int) := by rw [hE0 0 41 (by unfold scr0; omega)]; exact hm
                have hM2 : hMv κ t s (us κ) I65 := hMv_same (fun w => (mvl_len hH.2.1 t s w).2) hM (fun j _ => hE0 18 j (by unfold scr0; omega)) (fun j _ => ⟨hE0 19 j (by unfold scr0; omega), hE0 20 j (by unfold scr0; omega)⟩)
                refine x_aload_n dX8_stands_68 0 rfl rfl ?_
                refine x_iload dX8_stands_69 5 rfl ?_
                refine x_callVi (as := [_]) dX8_stands_71 lvX8_303 rfl rfl rfl rfl rfl rfl rfl ⟨rfl, rfl⟩ (s_X8_canTake (s := s) (c := c) hJ4 hH hS (by omega) hs2 h42 h43) (fun z71 I71 L71 R71 hq71 => ?_)
                obtain ⟨rfl, rfl, rfl, rfl⟩ := hq71
                refine y_ifb_eq (tgt := 237) dX8_stands_74 (by decide) (fun h74 => ?_) (fun h74 => ?_)
                · have hf : ¬ (vld κ t s c && alv κ (t + 1) (nxt κ t s c)) = true := by
                    rw [Bool.and_eq_true]
                    rintro ⟨x1, x2⟩
                    contradiction
                  refine nx _ _ hJ4 hm2 hM2 (fun x hx => by rw [hE0 24 _ (by unfold scr0; omega)]; exact hA3 x hx) (fun x hx => ?_) ?_ _ rfl
                  · rw [hE0 25 _ (by unfold scr0; omega), hW3 x hx]
                    show _ = stF κ w n l t (stV κ w n l t) s c (swC (stF κ w n l t (stV κ w n l t) s) c (swS (stV κ w n l t) (stF κ w n l t (stV κ w n l t)) (fun s => mal κ t s) s (fun _ => -1))) x
                    unfold stF
                    rw [if_neg (fun q => hf q.1)]
                  · unfold stC
                    rw [Bool.not_eq_true] at hf
                    rw [hf, Bool.false_and, Bool.or_false]
                    exact hg3
                · refine x_aload_n dX8_stands_77 0 rfl rfl ?_
                  refine x_iload dX8_stands_78 5 rfl ?_
                  refine x_iconst dX8_stands_80 ?_
                  refine x_iadd dX8_stands_81 ?_
                  refine x_aload_n dX8_stands_82 0 rfl rfl ?_
                  refine x_getI dX8_stands_83 flX8_276 rfl rfl ?_
                  rw [h43]
                  refine x_callVi (as := [_, _]) dX8_stands_86 lvX8_333 rfl rfl rfl rfl rfl rfl rfl ⟨rfl, rfl⟩ (s_X8_isAlive (t := t + 1) hH hS (by omega) hnx hB2.1 hB2.2) (fun z86 I86 L86 R86 hq86 => ?_)
                  obtain ⟨rfl, rfl, rfl, rfl⟩ := hq86
                  refine y_ifb_eq (tgt := 237) dX8_stands_89 (by decide) (fun h89 => ?_) (fun h89 => ?_)
                  · have hf : ¬ (vld κ t s c && alv κ (t + 1) (nxt κ t s c)) = true := by
                      rw [Bool.and_eq_true]
                      rintro ⟨x1, x2⟩
                      contradiction
                    refine nx _ _ hJ4 hm2 hM2 (fun x hx => by rw [hE0 24 _ (by unfold scr0; omega)]; exact hA3 x hx) (fun x hx => ?_) ?_ _ rfl
                    · rw [hE0 25 _ (by unfold scr0; omega), hW3 x hx]
                      show _ = stF κ w n l t (stV κ w n l t) s c (swC (stF κ w n l t (stV κ w n l t) s) c (swS (stV κ w n l t) (stF κ w n l t (stV κ w n l t)) (fun s => mal κ t s) s (fun _ => -1))) x
                      unfold stF
                      rw [if_neg (fun q => hf q.1)]
                    · unfold stC
                      rw [Bool.not_eq_true] at hf
                      rw [hf, Bool.false_and, Bool.or_false]
                      exact hg3
                  · refine x_aload_n dX8_stands_92 0 rfl rfl ?_
                    refine x_getR dX8_stands_93 flX8_71 rfl rfl rfl ?_
                    refine x_iload_n dX8_stands_96 1 rfl rfl ?_
                    refine x_iald dX8_stands_97 rfl (by omega) ?_
                    rw [h21 w hw]
                    refine x_if_ge (tgt := 113) dX8_stands_98 (by decide) (by omega) (fun h98 => ?_) (fun h98 => ?_)
                    · refine x_iconst dX8_stands_113 ?_
                      refine core _ _ g (by rw [Bool.and_eq_true]; exact ⟨by assumption, by assumption⟩) ?_ hJ4 hm2 hM2 h43 (fun x hx => by rw [hE0 24 _ (by unfold scr0; omega)]; exact hA3 x hx) (fun x hx => by rw [hE0 25 _ (by unfold scr0; omega)]; exact hW3 x hx)
                      unfold stv
                      first | (rw [if_pos (by omega)]) | (rw [if_neg (by omega)])
                    · refine x_aload_n dX8_stands_101 0 rfl rfl ?_
                      refine x_getR dX8_stands_102 flX8_82 rfl rfl rfl ?_
                      refine x_iload dX8_stands_105 6 rfl ?_
                      refine x_iald dX8_stands_107 rfl (by omega) ?_
                      rw [hE0 24 _ (by unfold scr0; omega), hvs3]
                      refine x_iconst dX8_stands_108 ?_
                      refine x_iadd dX8_stands_109 ?_
                      refine x_goto (tgt := 114) dX8_stands_110 (by decide) ?_
                      refine core _ _ g (by rw [Bool.and_eq_true]; exact ⟨by assumption, by assumption⟩) ?_ hJ4 hm2 hM2 h43 (fun x hx => by rw [hE0 24 _ (by unfold scr0; omega)]; exact hA3 x hx) (fun x hx => by rw [hE0 25 _ (by unfold scr0; omega)]; exact hW3 x hx)
                      unfold stv
                      first | (rw [if_pos (by omega)]) | (rw [if_neg (by omega)])
            · intro hpos J3 g hJ3 hm hM hA3 hW3 hg3
              refine x_iload dX8_stands_53 7 rfl ?_
              refine x_aload_n dX8_stands_55 0 rfl rfl ?_
              refine x_getI dX8_stands_56 flX8_270 rfl rfl ?_
              refine x_ic_ge (tgt := 243) dX8_stands_59 (by decide) (by omega) (fun h59 => ?_) (fun h59 => ?_)
              · refine x_iinc (lv' := [(0, _), (1, _), (2, _), (3, _), (4, _), (5, _), (6, _), (7, _)]) dX8_stands_243 6 rfl rfl rfl ?_
                refine x_goto (tgt := 23) dX8_stands_246 (by decide) ?_
                refine x_top (lv' := [(0, _), (1, _), (2, _), (3, _), (4, _), (5, _), (6, _)]) 7 rfl ?_
                refine ih _ _ hJ3 hA3 (fun x hx => by rw [swS_t hpos]; exact hW3 x hx) (by unfold stS; rw [if_pos hpos]; exact hg3)
              · exfalso; omega
          refine x_iload dX8_stands_23 6 rfl ?_
          refine x_aload_n dX8_stands_25 0 rfl rfl ?_
          refine x_callVi (as := []) dX8_stands_26 lvX8_286 rfl rfl rfl rfl rfl rfl rfl ⟨rfl, rfl⟩ (s_X8_states hJ hH hS) (fun z26 I26 L26 R26 hq26 => ?_)
          obtain ⟨rfl, rfl, rfl, rfl⟩ := hq26
          refine x_ic_ge (tgt := 249) dX8_stands_29 (by decide) (by omega) (fun h29 => ?_) (fun h29 => ?_)
          · exfalso; omega
          · refine x_aload_n dX8_stands_32 0 rfl rfl ?_
            refine x_getR dX8_stands_33 flX8_82 rfl rfl rfl ?_
            refine x_iload dX8_stands_36 6 rfl ?_
            refine x_iald dX8_stands_38 rfl (by omega) ?_
            refine x_if_lt (tgt := 243) dX8_stands_39 (by decide) (by omega) (fun h39 => ?_) (fun h39 => ?_)
            · refine x_iinc (lv' := [(0, _), (1, _), (2, _), (3, _), (4, _), (5, _), (6, _)]) dX8_stands_243 6 rfl rfl rfl ?_
              refine x_goto (tgt := 23) dX8_stands_246 (by decide) ?_
              refine ih _ _ hJ hA (fun x hx => by rw [swS_f (by omega)]; exact hW x hx) (by unfold stS; rw [if_neg (by omega)]; exact hg)
            · refine x_aload_n dX8_stands_42 0 rfl rfl ?_
              refine x_iload dX8_stands_43 5 rfl ?_
              refine x_iload dX8_stands_45 6 rfl ?_
              refine x_callVv (as := [_, _]) dX8_stands_47 lvX8_297 rfl rfl rfl rfl rfl rfl rfl ⟨rfl, rfl⟩ (s_X8_layMoves hJ hH hS (by omega) hs2) (fun I47 L47 R47 hq47 => ?_)
              obtain ⟨rfl, rfl, hX3, hE, h41, hv41⟩ := hq47
              refine x_iconst dX8_stands_50 ?_
              refine x_istore (lv' := [(0, _), (1, _), (2, _), (3, _), (4, _), (5, _), (6, _), (7, _)]) dX8_stands_51 rfl rfl ?_
              exact cl 0 (by omega) (by omega) _ _ hE h41 hv41 (fun x hx => by rw [hX3 24 _ (by unfold scr3; omega)]; exact hA x hx) (fun x hx => by rw [hX3 25 _ (by unfold scr3; omega)]; exact hW x hx) hg
        · intro J g hJ hA hW hg
          refine x_iload dX8_stands_23 6 rfl ?_
          refine x_aload_n dX8_stands_25 0 rfl rfl ?_
          refine x_callVi (as := []) dX8_stands_26 lvX8_286 rfl rfl rfl rfl rfl rfl rfl ⟨rfl, rfl⟩ (s_X8_states hJ hH hS) (fun z26 I26 L26 R26 hq26 => ?_)
          obtain ⟨rfl, rfl, rfl, rfl⟩ := hq26
          refine x_ic_ge (tgt := 249) dX8_stands_29 (by decide) (by omega) (fun h29 => ?_) (fun h29 => ?_)
          · refine x_aload_n dX8_stands_249 0 rfl rfl ?_
            refine x_callVv (as := []) dX8_stands_250 lvX8_355 rfl rfl rfl rfl rfl rfl rfl ⟨rfl, rfl⟩ (s_X8_turnValues hJ hH hS) (fun I250 L250 R250 hq250 => ?_)
            obtain ⟨rfl, rfl, ht1, ht2⟩ := hq250
            have hJ8 : E1 κ I250 := fun c j q => by rw [ht1 c j (by unfold sce per at q; omega) (by unfold sce per at q; omega)]; exact hJ c j q
            refine x_iinc (lv' := [(0, _), (1, _), (2, _), (3, _), (4, _), (5, _), (6, _)]) dX8_stands_253 5 rfl rfl rfl ?_
            refine x_goto (tgt := 11) dX8_stands_256 (by decide) ?_
            refine x_top (lv' := [(0, _), (1, _), (2, _), (3, _), (4, _), (5, _)]) 6 rfl ?_
            exact iht _ _ hJ8 (fun x hx => ⟨by rw [(ht2 x hx).1]; exact hW x hx, (ht2 x hx).2⟩) hg
          · exfalso; omega
      refine x_iload dX8_stands_11 5 rfl ?_
      refine x_aload_n dX8_stands_13 0 rfl rfl ?_
      refine x_getI dX8_stands_14 flX8_99 rfl rfl ?_
      refine x_ic_ge (tgt := 259) dX8_stands_17 (by decide) (by omega) (fun h17 => ?_) (fun h17 => ?_)
      · exfalso; omega
      · refine x_iconst dX8_stands_20 ?_
        refine x_istore (lv' := [(0, _), (1, _), (2, _), (3, _), (4, _), (5, _), (6, _)]) dX8_stands_21 rfl rfl ?_
        exact sl 0 (by omega) J g hJ (fun x hx => (hV x hx).1) (fun x hx => (hV x hx).2) hg
    · intro J g hJ hV hg
      have j14 : J 0 14 = κ 0 14 := hJ.at (by unfold sce per; omega)
      refine x_iload dX8_stands_11 5 rfl ?_
      refine x_aload_n dX8_stands_13 0 rfl rfl ?_
      refine x_getI dX8_stands_14 flX8_99 rfl rfl ?_
      refine x_ic_ge (tgt := 259) dX8_stands_17 (by decide) (by omega) (fun h17 => ?_) (fun h17 => ?_)
      · refine x_iload_n dX8_stands_259 3 rfl rfl ?_
        refine x_if_eq (tgt := 270) dX8_stands_260 (by decide) (by omega) (fun h260 => ?_) (fun h260 => ?_)
        · refine x_iload dX8_stands_270 4 rfl ?_
          refine x_zret dX8_stands_272 rfl (by first | exact b01_z _ | (rw [hg]; exact b01_z _)) ?_
          rw [← hQ]
          first
          | (have hx : ¬ l = true := hl1.mp (by assumption)
             refine ⟨_, rfl, ?_, hJ, rfl, rfl⟩
             unfold stA
             rw [if_neg hx]
             exact hg)
          | (have hx : l = true := by
               apply Classical.byContradiction
               intro q
               have := hl1.mpr q
               contradiction
             refine ⟨_, rfl, ?_, hJ, rfl, rfl⟩
             unfold stA
             rw [if_pos hx])
        · refine x_aload_n dX8_stands_263 0 rfl rfl ?_
          refine x_callVi (as := []) dX8_stands_264 lvX8_358 rfl rfl rfl rfl rfl rfl rfl ⟨rfl, rfl⟩ (s_X8_anyValue (V := stV κ w n l (lst κ)) hJ hH hS (fun x hx => (hV x hx).1) (fun x => by have := stV_r (κ := κ) (w := w) (n := n) (l := l) (lst κ) x; omega)) (fun z264 I264 L264 R264 hq264 => ?_)
          obtain ⟨rfl, rfl, rfl, rfl⟩ := hq264
          refine x_goto (tgt := 272) dX8_stands_267 (by decide) ?_
          refine x_zret dX8_stands_272 rfl (by first | exact b01_z _ | (rw [hg]; exact b01_z _)) ?_
          rw [← hQ]
          first
          | (have hx : ¬ l = true := hl1.mp (by assumption)
             refine ⟨_, rfl, ?_, hJ, rfl, rfl⟩
             unfold stA
             rw [if_neg hx]
             exact hg)
          | (have hx : l = true := by
               apply Classical.byContradiction
               intro q
               have := hl1.mpr q
               contradiction
             refine ⟨_, rfl, ?_, hJ, rfl, rfl⟩
             unfold stA
             rw [if_pos hx])
      · exfalso; omega
  exact tl 0 (by omega) _ _ hEb (fun x hx => hq2 x hx) (b01_f (by unfold stR; decide))
theorem s_X8_still {w n : Int} (hH : iHs I) (hE : iEvs I) (h1 : rI w) (h2 : rI n) : Sp G mtX8_still [mr 0, mi w, mi n] shM I L rM (qi (fun z I' L' R' => z = (s_still w n I).1 ∧ Pe (s_still w n I).2 I' ∧ LF L L' ∧ R' = rM)) := by
  refine Sp.of pnX8_still rfl ?_
  show Rn G mtX8_still _ 0 [(0, mr 0), (1, mi w), (2, mi n)] [] shM I L rM
  generalize hQ : (qi (fun z I' L' R' => z = (s_still w n I).1 ∧ Pe (s_still w n I).2 I' ∧ LF L L' ∧ R' = rM)) = Q
  have hW := hH.2.2.1
  have hT := hH.2.2.2.1
  have hR := hH.1
  have hl := KA_lst hH (wo := 0) (k := I 0 13)
  have hnn := nst_le (KA_H hH) (KA_S hH hE)
  have hu := KA_us hH
  refine x_aload_n dX8_still_0 0 rfl rfl ?_
  refine x_iload_n dX8_still_1 1 rfl rfl ?_
  refine x_callVi (as := [_]) dX8_still_2 lvX8_224 rfl rfl rfl rfl rfl rfl rfl ⟨rfl, rfl⟩ (s_X8_isWalker (by omega) (by omega)) (fun z2 I2 L2 R2 hq2 => ?_)
  obtain ⟨rfl, rfl, rfl, rfl⟩ := hq2
  refine y_ifb_eq (tgt := 18) dX8_still_5 (by decide) (fun h5 => ?_) (fun h5 => ?_)
  · refine x_iconst dX8_still_18 ?_
    refine x_iret dX8_still_19 rfl ?_
    rw [← hQ]
    have hs : s_still w n I = (-1, I) := by unfold s_still; rw [if_pos (by omega)]
    rw [hs]
    exact ⟨_, rfl, rfl, Pe.rf _, LF.rf _, rfl⟩
  · refine x_iload_n dX8_still_8 2 rfl rfl ?_
    refine x_iconst dX8_still_9 ?_
    refine x_bipush dX8_still_10 (by decide) ?_
    refine x_callSi (as := [_, _, _]) dX8_still_12 lvX8_105 rfl rfl rfl rfl ⟨rfl, rfl⟩ (s_X8_in (by omega) (by omega) (by omega)) (fun z12 I12 L12 R12 hq12 => ?_)
    obtain ⟨rfl, rfl, rfl, rfl⟩ := hq12
    refine y_ifb_ne (tgt := 20) dX8_still_15 (by decide) (fun h15 => ?_) (fun h15 => ?_)
    · refine x_aload_n dX8_still_20 0 rfl rfl ?_
      refine x_callVi (as := []) dX8_still_21 lvX8_342 rfl rfl rfl rfl rfl rfl rfl ⟨rfl, rfl⟩ (s_X8_layAll hH hE) (fun z21 I21 L21 R21 hq21 => ?_)
      obtain ⟨rfl, hE2, hLF, rfl, hTb⟩ := hq21
      refine y_ifb_ne (tgt := 33) dX8_still_24 (by decide) (fun h24 => ?_) (fun h24 => ?_)
      · obtain ⟨v, rfl⟩ : ∃ n : Nat, w = n := ⟨w.toNat, by omega⟩
        have hok : okA I = true := by assumption
        have hB := hTb (b01_1.mpr hok)
        have hsm : s_still v n I = (if stA (kap I 0 (I 0 13)) v n false = false then 0 else if stA (kap I 0 (I 0 13)) v n true = true then 1 else 2, I) := by
          unfold s_still
          rw [if_neg (by omega), if_neg (by rw [hok]; decide), Int.toNat_natCast]
        refine x_aload_n dX8_still_33 0 rfl rfl ?_
        refine x_iload_n dX8_still_34 1 rfl rfl ?_
        refine x_iload_n dX8_still_35 2 rfl rfl ?_
        refine x_iconst dX8_still_36 ?_
        refine x_callVi (as := [_, _, _]) dX8_still_37 lvX8_364 rfl rfl rfl rfl rfl rfl rfl ⟨rfl, rfl⟩ (s_X8_stands (l := false) hE2 (KA_H hH) (KA_S hH hE) hB (by omega) (by omega)) (fun z37 I37 L37 R37 hq37 => ?_)
        obtain ⟨rfl, hE5, rfl, rfl⟩ := hq37
        refine y_ifb_ne (tgt := 47) dX8_still_40 (by decide) (fun h40 => ?_) (fun h40 => ?_)
        · refine x_aload_n dX8_still_47 0 rfl rfl ?_
          refine x_iload_n dX8_still_48 1 rfl rfl ?_
          refine x_iload_n dX8_still_49 2 rfl rfl ?_
          refine x_iconst dX8_still_50 ?_
          refine x_callVi (as := [_, _, _]) dX8_still_51 lvX8_364 rfl rfl rfl rfl rfl rfl rfl ⟨rfl, rfl⟩ (s_X8_stands (l := true) hE5 (KA_H hH) (KA_S hH hE) hB (by omega) (by omega)) (fun z51 I51 L51 R51 hq51 => ?_)
          obtain ⟨rfl, hE6, rfl, rfl⟩ := hq51
          refine y_ifb_eq (tgt := 61) dX8_still_54 (by decide) (fun h54 => ?_) (fun h54 => ?_)
          · refine x_iconst dX8_still_61 ?_
            refine x_iret dX8_still_62 rfl ?_
            rw [← hQ, hsm]
            first
            | (rw [if_pos (by rw [← Bool.not_eq_true]; assumption)]
               exact ⟨_, rfl, rfl, kap_pe hE5, hLF, rfl⟩)
            | (rw [if_neg (by rw [Bool.not_eq_false]; assumption), if_pos (by assumption)]
               exact ⟨_, rfl, rfl, kap_pe hE6, hLF, rfl⟩)
            | (rw [if_neg (by rw [Bool.not_eq_false]; assumption), if_neg (by assumption)]
               exact ⟨_, rfl, rfl, kap_pe hE6, hLF, rfl⟩)
          · refine x_iconst dX8_still_57 ?_
            refine x_goto (tgt := 62) dX8_still_58 (by decide) ?_
            refine x_iret dX8_still_62 rfl ?_
            rw [← hQ, hsm]
            first
            | (rw [if_pos (by rw [← Bool.not_eq_true]; assumption)]
               exact ⟨_, rfl, rfl, kap_pe hE5, hLF, rfl⟩)
            | (rw [if_neg (by rw [Bool.not_eq_false]; assumption), if_pos (by assumption)]
               exact ⟨_, rfl, rfl, kap_pe hE6, hLF, rfl⟩)
            | (rw [if_neg (by rw [Bool.not_eq_false]; assumption), if_neg (by assumption)]
               exact ⟨_, rfl, rfl, kap_pe hE6, hLF, rfl⟩)
        · refine x_iconst dX8_still_43 ?_
          refine x_goto (tgt := 62) dX8_still_44 (by decide) ?_
          refine x_iret dX8_still_62 rfl ?_
          rw [← hQ, hsm]
          first
          | (rw [if_pos (by rw [← Bool.not_eq_true]; assumption)]
             exact ⟨_, rfl, rfl, kap_pe hE5, hLF, rfl⟩)
          | (rw [if_neg (by rw [Bool.not_eq_false]; assumption), if_pos (by assumption)]
             exact ⟨_, rfl, rfl, kap_pe hE6, hLF, rfl⟩)
          | (rw [if_neg (by rw [Bool.not_eq_false]; assumption), if_neg (by assumption)]
             exact ⟨_, rfl, rfl, kap_pe hE6, hLF, rfl⟩)
      · refine x_aload_n dX8_still_27 0 rfl rfl ?_
        refine x_iconst dX8_still_28 ?_
        refine x_callVi (as := [_]) dX8_still_29 lvX8_122 rfl rfl rfl rfl rfl rfl rfl ⟨rfl, rfl⟩ (s_X8_meets (by omega)) (fun z29 I29 L29 R29 hq29 => ?_)
        obtain ⟨rfl, rfl, rfl, rfl⟩ := hq29
        refine x_iret dX8_still_32 rfl ?_
        rw [← hQ]
        have hs : s_still w n I = (-3, a_mt I 4) := by
          unfold s_still
          rw [if_neg (by omega), if_pos (by rw [← Bool.not_eq_true]; assumption)]
        rw [hs]
        exact ⟨_, rfl, rfl, (kap_pe hE2).mt 4, hLF, rfl⟩
    · refine x_iconst dX8_still_18 ?_
      refine x_iret dX8_still_19 rfl ?_
      rw [← hQ]
      have hs : s_still w n I = (-1, I) := by unfold s_still; rw [if_pos (by omega)]
      rw [hs]
      exact ⟨_, rfl, rfl, Pe.rf _, LF.rf _, rfl⟩
end

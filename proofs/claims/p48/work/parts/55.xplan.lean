/-! THE CLASS: the Plan takes a night. -/
def shF (I : MI) (p : Nat) (th t : Int) : Nat → MI
  | 0 => I
  | k + 1 => m_up (shF I p th t k) (p + 2) (t + (k : Int)) (z_or (shF I p th t k (p + 2) (t + (k : Int))) th)
/-- an event taken: its thing's bit, its other, its minute, its kind -/
def tkE (I : MI) (p : Nat) (k th b t : Int) : MI :=
  if k = 1 then m_up I (p + 1) t (z_or (I (p + 1) t) th) else if k = 2 then m_up I (p + 3) t (z_or (I (p + 3) t) th)
  else if k = 3 then (if I p 1 ≤ b then m_up I p 4 0 else m_up I (p + 4) t (z_and (I (p + 4) t) (z_or (z_xor (z_shl 63 (6 * b)) (-1)) (z_shl th (6 * b)))))
  else if k = 4 then m_up I (p + 4) t (z_and (I (p + 4) t) (z_xor (th * 4161) (-1))) else shF I p th t (b - t + 1).toNat
def tkF (I : MI) (p n : Nat) (out : Int) : Nat → MI
  | 0 => I
  | e + 1 => if tb out e = true then tkF I p n out e else tkE (tkF I p n out e) p (I (n + 1) (e : Int)) (z_shl 1 (I (n + 2) (e : Int))) (I (n + 3) (e : Int)) (I (n + 4) (e : Int))
/-- an event as a night holds it -/
def evR (k b t : Int) : Prop := (1 ≤ k ∧ k ≤ 5) ∧ (0 ≤ t ∧ t < 31) ∧ rI b ∧ (k = 5 → t ≤ b ∧ b < 31)
theorem shF_fr (I : MI) (p : Nat) (th t : Int) : ∀ k c i, c ≠ p + 2 → shF I p th t k c i = I c i
  | 0, _, _, _ => rfl
  | k + 1, c, i, h => by unfold shF; rw [m_up_ne h]; exact shF_fr I p th t k c i h
theorem tkE_fr (I : MI) (p : Nat) (k th b t : Int) {c : Nat} {i : Int} (h : ¬ (c = p ∧ i = 4)) (h2 : ¬ (p + 1 ≤ c ∧ c ≤ p + 4)) : tkE I p k th b t c i = I c i := by
  unfold tkE
  split
  · rw [m_up_ne (by omega)]
  · split
    · rw [m_up_ne (by omega)]
    · split
      · split
        · unfold m_up; rw [if_neg h]
        · rw [m_up_ne (by omega)]
      · split
        · rw [m_up_ne (by omega)]
        · exact shF_fr I p th t _ c i (by omega)
theorem tkF_fr (I : MI) (p n : Nat) (out : Int) : ∀ (k : Nat) {c : Nat} {i : Int}, ¬ (c = p ∧ i = 4) → ¬ (p + 1 ≤ c ∧ c ≤ p + 4) → tkF I p n out k c i = I c i
  | 0, _, _, _, _ => rfl
  | k + 1, c, i, h, h2 => by
    unfold tkF
    split
    · exact tkF_fr I p n out k h h2
    · rw [tkE_fr _ _ _ _ _ _ h h2]; exact tkF_fr I p n out k h h2
section
variable {G : GT} {I L : MI} {R : MR} {p n : Nat}

set_option maxHeartbeats 1500000 in
theorem s_X3_takeEvent {e : Int} (hp : isP R p) (hn : isN R n) (he : 0 ≤ e ∧ e < 24) (hv : evR (I (n + 1) e) (I (n + 3) e) (I (n + 4) e)) (hu : rI (I p 1)) : Sp G mtX3_takeEvent [mr p, mr n, mi e] shX I L R (qv (fun I' L' R' => I' = tkE I p (I (n + 1) e) (z_shl 1 (I (n + 2) e)) (I (n + 3) e) (I (n + 4) e) ∧ L = L' ∧ R = R')) := by
  refine Sp.of pnX3_takeEvent rfl ?_
  show Rn G mtX3_takeEvent _ 0 [(0, mr p), (1, mr n), (2, mi e)] [] shX I L R
  generalize hQ : (qv (fun I' L' R' => I' = tkE I p (I (n + 1) e) (z_shl 1 (I (n + 2) e)) (I (n + 3) e) (I (n + 4) e) ∧ L = L' ∧ R = R')) = Q
  have hp1 := hp.1
  have hn1 := hn.1
  obtain ⟨v1, v2, v3, v4⟩ := id hv
  have hk : I (n + 1) e = 1 ∨ I (n + 1) e = 2 ∨ I (n + 1) e = 3 ∨ I (n + 1) e = 4 ∨ I (n + 1) e = 5 := by omega
  have loop : I (n + 1) e = 5 → ∀ k : Nat, k ≤ (I (n + 3) e - I (n + 4) e + 1).toNat → ∀ u8 : Int, u8 = I (n + 4) e + (k : Int) → Rn G mtX3_takeEvent Q 160 [(0, mr p), (1, mr n), (2, mi e), (3, mi (z_shl 1 (I (n + 2) e))), (4, mi (I (n + 3) e)), (5, mi (I (n + 4) e)), (6, mi u8)] [] shX (shF I p (z_shl 1 (I (n + 2) e)) (I (n + 4) e) k) L R := by
    intro h5
    refine lpn _ (fun k hk ih => ?_) ?_
    · intro u8 hu8
      subst hu8
      refine x_iload dX3_takeEvent_160 6 rfl ?_
      refine x_iload dX3_takeEvent_162 4 rfl ?_
      refine x_ic_gt (tgt := 184) dX3_takeEvent_164 (by decide) (by first | omega | exact z_and_r _ _ | exact z_or_r _ _ | exact z_xor_r _ _) (fun h164 => ?_) (fun h164 => ?_)
      · refine x_vret dX3_takeEvent_184 rfl ?_
        exfalso; omega
      · refine x_aload_n dX3_takeEvent_167 0 rfl rfl ?_
        refine x_getR dX3_takeEvent_168 flX3_19 (shP0 hp) rfl hp.2.2.1 ?_
        refine x_iload dX3_takeEvent_171 6 rfl ?_
        refine x_dup2 dX3_takeEvent_173 rfl rfl ?_
        refine x_iald dX3_takeEvent_174 (shP2 hp) (by omega) ?_
        refine x_iload_n dX3_takeEvent_175 3 rfl rfl ?_
        refine x_ior dX3_takeEvent_176 ?_
        refine x_iast dX3_takeEvent_177 (shP2 hp) (by omega) ?_
        refine x_iinc (lv' := [(0, _), (1, _), (2, _), (3, _), (4, _), (5, _), (6, _)]) dX3_takeEvent_178 6 rfl rfl rfl ?_
        refine x_goto (tgt := 160) dX3_takeEvent_181 (by decide) ?_
        exact ih _ (by omega)
    · intro u8 hu8
      subst hu8
      refine x_iload dX3_takeEvent_160 6 rfl ?_
      refine x_iload dX3_takeEvent_162 4 rfl ?_
      refine x_ic_gt (tgt := 184) dX3_takeEvent_164 (by decide) (by first | omega | exact z_and_r _ _ | exact z_or_r _ _ | exact z_xor_r _ _) (fun h164 => ?_) (fun h164 => ?_)
      · refine x_vret dX3_takeEvent_184 rfl ?_
        rw [← hQ]
        refine ⟨rfl, ?_, rfl, rfl⟩
        unfold tkE
        rw [if_neg (by omega), if_neg (by omega), if_neg (by omega), if_neg (by omega)]
      · exfalso; omega
  refine x_iconst dX3_takeEvent_0 ?_
  refine x_aload_n dX3_takeEvent_1 1 rfl rfl ?_
  refine x_getR dX3_takeEvent_2 flX3_101 (shN0 hn) rfl hn.2.2.1 ?_
  refine x_iload_n dX3_takeEvent_5 2 rfl rfl ?_
  refine x_iald dX3_takeEvent_6 (shN2 hn) (by omega) ?_
  refine x_ishl dX3_takeEvent_7 ?_
  refine x_istore_n (lv' := [(0, _), (1, _), (2, _), (3, _)]) dX3_takeEvent_8 rfl rfl rfl ?_
  refine x_aload_n dX3_takeEvent_9 1 rfl rfl ?_
  refine x_getR dX3_takeEvent_10 flX3_104 (shN0 hn) rfl hn.2.2.2.1 ?_
  refine x_iload_n dX3_takeEvent_13 2 rfl rfl ?_
  refine x_iald dX3_takeEvent_14 (shN3 hn) (by omega) ?_
  refine x_istore (lv' := [(0, _), (1, _), (2, _), (3, _), (4, _)]) dX3_takeEvent_15 rfl rfl ?_
  refine x_aload_n dX3_takeEvent_17 1 rfl rfl ?_
  refine x_getR dX3_takeEvent_18 flX3_107 (shN0 hn) rfl hn.2.2.2.2 ?_
  refine x_iload_n dX3_takeEvent_21 2 rfl rfl ?_
  refine x_iald dX3_takeEvent_22 (shN4 hn) (by omega) ?_
  refine x_istore (lv' := [(0, _), (1, _), (2, _), (3, _), (4, _), (5, _)]) dX3_takeEvent_23 rfl rfl ?_
  refine x_aload_n dX3_takeEvent_25 1 rfl rfl ?_
  refine x_getR dX3_takeEvent_26 flX3_110 (shN0 hn) rfl hn.2.1 ?_
  refine x_iload_n dX3_takeEvent_29 2 rfl rfl ?_
  refine x_iald dX3_takeEvent_30 (shN1 hn) (by omega) ?_
  rcases hk with sw31 | sw31 | sw31 | sw31 | sw31
  · rw [sw31]
    refine x_tswIn (off := 29) (tgt := 60) dX3_takeEvent_31 (by decide) (by decide) rfl (by decide) ?_
    refine x_aload_n dX3_takeEvent_60 0 rfl rfl ?_
    refine x_getR dX3_takeEvent_61 flX3_15 (shP0 hp) rfl hp.2.1 ?_
    refine x_iload dX3_takeEvent_64 5 rfl ?_
    refine x_dup2 dX3_takeEvent_66 rfl rfl ?_
    refine x_iald dX3_takeEvent_67 (shP1 hp) (by omega) ?_
    refine x_iload_n dX3_takeEvent_68 3 rfl rfl ?_
    refine x_ior dX3_takeEvent_69 ?_
    refine x_iast dX3_takeEvent_70 (shP1 hp) (by omega) ?_
    refine x_goto (tgt := 184) dX3_takeEvent_71 (by decide) ?_
    refine x_vret dX3_takeEvent_184 rfl ?_
    rw [← hQ]
    refine ⟨rfl, ?_, rfl, rfl⟩
    unfold tkE
    first
    | (rw [if_pos (by assumption)]; done)
    | (rw [if_neg (by omega), if_pos (by assumption)]; done)
    | (rw [if_neg (by omega), if_neg (by omega), if_pos (by assumption), if_pos (by omega)]; done)
    | (rw [if_neg (by omega), if_neg (by omega), if_pos (by assumption), if_neg (by omega)]; done)
    | (rw [if_neg (by omega), if_neg (by omega), if_neg (by omega), if_pos (by assumption)]; done)
  · rw [sw31]
    refine x_tswIn (off := 43) (tgt := 74) dX3_takeEvent_31 (by decide) (by decide) rfl (by decide) ?_
    refine x_aload_n dX3_takeEvent_74 0 rfl rfl ?_
    refine x_getR dX3_takeEvent_75 flX3_22 (shP0 hp) rfl hp.2.2.2.1 ?_
    refine x_iload dX3_takeEvent_78 5 rfl ?_
    refine x_dup2 dX3_takeEvent_80 rfl rfl ?_
    refine x_iald dX3_takeEvent_81 (shP3 hp) (by omega) ?_
    refine x_iload_n dX3_takeEvent_82 3 rfl rfl ?_
    refine x_ior dX3_takeEvent_83 ?_
    refine x_iast dX3_takeEvent_84 (shP3 hp) (by omega) ?_
    refine x_goto (tgt := 184) dX3_takeEvent_85 (by decide) ?_
    refine x_vret dX3_takeEvent_184 rfl ?_
    rw [← hQ]
    refine ⟨rfl, ?_, rfl, rfl⟩
    unfold tkE
    first
    | (rw [if_pos (by assumption)]; done)
    | (rw [if_neg (by omega), if_pos (by assumption)]; done)
    | (rw [if_neg (by omega), if_neg (by omega), if_pos (by assumption), if_pos (by omega)]; done)
    | (rw [if_neg (by omega), if_neg (by omega), if_pos (by assumption), if_neg (by omega)]; done)
    | (rw [if_neg (by omega), if_neg (by omega), if_neg (by omega), if_pos (by assumption)]; done)
  · rw [sw31]
    refine x_tswIn (off := 57) (tgt := 88) dX3_takeEvent_31 (by decide) (by decide) rfl (by decide) ?_
    refine x_iload dX3_takeEvent_88 4 rfl ?_
    refine x_aload_n dX3_takeEvent_90 0 rfl rfl ?_
    refine x_getI dX3_takeEvent_91 flX3_49 (shP0 hp) rfl ?_
    refine x_ic_lt (tgt := 105) dX3_takeEvent_94 (by decide) (by first | omega | exact z_and_r _ _ | exact z_or_r _ _ | exact z_xor_r _ _) (fun h94 => ?_) (fun h94 => ?_)
    · refine x_aload_n dX3_takeEvent_105 0 rfl rfl ?_
      refine x_getR dX3_takeEvent_106 flX3_25 (shP0 hp) rfl hp.2.2.2.2.1 ?_
      refine x_iload dX3_takeEvent_109 5 rfl ?_
      refine x_dup2 dX3_takeEvent_111 rfl rfl ?_
      refine x_iald dX3_takeEvent_112 (shP4 hp) (by omega) ?_
      refine x_bipush dX3_takeEvent_113 (by decide) ?_
      refine x_bipush dX3_takeEvent_115 (by decide) ?_
      refine x_iload dX3_takeEvent_117 4 rfl ?_
      refine x_imul dX3_takeEvent_119 ?_
      refine x_ishl dX3_takeEvent_120 ?_
      refine x_iconst dX3_takeEvent_121 ?_
      refine x_ixor dX3_takeEvent_122 ?_
      refine x_iload_n dX3_takeEvent_123 3 rfl rfl ?_
      refine x_bipush dX3_takeEvent_124 (by decide) ?_
      refine x_iload dX3_takeEvent_126 4 rfl ?_
      refine x_imul dX3_takeEvent_128 ?_
      refine x_ishl dX3_takeEvent_129 ?_
      refine x_ior dX3_takeEvent_130 ?_
      refine x_iand dX3_takeEvent_131 ?_
      refine x_iast dX3_takeEvent_132 (shP4 hp) (by omega) ?_
      refine x_goto (tgt := 184) dX3_takeEvent_133 (by decide) ?_
      refine x_vret dX3_takeEvent_184 rfl ?_
      rw [← hQ]
      refine ⟨rfl, ?_, rfl, rfl⟩
      unfold tkE
      first
      | (rw [if_pos (by assumption)]; done)
      | (rw [if_neg (by omega), if_pos (by assumption)]; done)
      | (rw [if_neg (by omega), if_neg (by omega), if_pos (by assumption), if_pos (by omega)]; done)
      | (rw [if_neg (by omega), if_neg (by omega), if_pos (by assumption), if_neg (by omega)]; done)
      | (rw [if_neg (by omega), if_neg (by omega), if_neg (by omega), if_pos (by assumption)]; done)
    · refine x_aload_n dX3_takeEvent_97 0 rfl rfl ?_
      refine x_iconst dX3_takeEvent_98 ?_
      refine x_putZ dX3_takeEvent_99 flX3_55 rfl (shP0 hp) rfl (by omega) ?_
      refine x_goto (tgt := 184) dX3_takeEvent_102 (by decide) ?_
      refine x_vret dX3_takeEvent_184 rfl ?_
      rw [← hQ]
      refine ⟨rfl, ?_, rfl, rfl⟩
      unfold tkE
      first
      | (rw [if_pos (by assumption)]; done)
      | (rw [if_neg (by omega), if_pos (by assumption)]; done)
      | (rw [if_neg (by omega), if_neg (by omega), if_pos (by assumption), if_pos (by omega)]; done)
      | (rw [if_neg (by omega), if_neg (by omega), if_pos (by assumption), if_neg (by omega)]; done)
      | (rw [if_neg (by omega), if_neg (by omega), if_neg (by omega), if_pos (by assumption)]; done)
  · rw [sw31]
    refine x_tswIn (off := 105) (tgt := 136) dX3_takeEvent_31 (by decide) (by decide) rfl (by decide) ?_
    refine x_aload_n dX3_takeEvent_136 0 rfl rfl ?_
    refine x_getR dX3_takeEvent_137 flX3_25 (shP0 hp) rfl hp.2.2.2.2.1 ?_
    refine x_iload dX3_takeEvent_140 5 rfl ?_
    refine x_dup2 dX3_takeEvent_142 rfl rfl ?_
    refine x_iald dX3_takeEvent_143 (shP4 hp) (by omega) ?_
    refine x_iload_n dX3_takeEvent_144 3 rfl rfl ?_
    refine x_sipush dX3_takeEvent_145 (by decide) ?_
    refine x_imul dX3_takeEvent_148 ?_
    refine x_iconst dX3_takeEvent_149 ?_
    refine x_ixor dX3_takeEvent_150 ?_
    refine x_iand dX3_takeEvent_151 ?_
    refine x_iast dX3_takeEvent_152 (shP4 hp) (by omega) ?_
    refine x_goto (tgt := 184) dX3_takeEvent_153 (by decide) ?_
    refine x_vret dX3_takeEvent_184 rfl ?_
    rw [← hQ]
    refine ⟨rfl, ?_, rfl, rfl⟩
    unfold tkE
    first
    | (rw [if_pos (by assumption)]; done)
    | (rw [if_neg (by omega), if_pos (by assumption)]; done)
    | (rw [if_neg (by omega), if_neg (by omega), if_pos (by assumption), if_pos (by omega)]; done)
    | (rw [if_neg (by omega), if_neg (by omega), if_pos (by assumption), if_neg (by omega)]; done)
    | (rw [if_neg (by omega), if_neg (by omega), if_neg (by omega), if_pos (by assumption)]; done)
  · rw [sw31]
    refine x_tswOut (tgt := 156) dX3_takeEvent_31 (by decide) (by omega) (by decide) ?_
    refine x_iload dX3_takeEvent_156 5 rfl ?_
    refine x_istore (lv' := [(0, _), (1, _), (2, _), (3, _), (4, _), (5, _), (6, _)]) dX3_takeEvent_158 rfl rfl ?_
    exact loop sw31 0 (by omega) _ (by omega)
theorem s_X3_take {out : Int} (hp : isP R p) (hn : isN R n) (h0 : 0 ≤ I n 0 ∧ I n 0 ≤ 24) (hv : ∀ e : Nat, (e : Int) < I n 0 → evR (I (n + 1) (e : Int)) (I (n + 3) (e : Int)) (I (n + 4) (e : Int))) (hu : rI (I p 1)) : Sp G mtX3_take [mr p, mr n, mi out] shX I L R (qv (fun I' L' R' => I' = tkF I p n out (I n 0).toNat ∧ L = L' ∧ R = R')) := by
  refine Sp.of pnX3_take rfl ?_
  show Rn G mtX3_take _ 0 [(0, mr p), (1, mr n), (2, mi out)] [] shX I L R
  generalize hQ : (qv (fun I' L' R' => I' = tkF I p n out (I n 0).toNat ∧ L = L' ∧ R = R')) = Q
  have hp1 := hp.1
  have hn1 := hn.1
  have loop : ∀ e : Nat, e ≤ (I n 0).toNat → Rn G mtX3_take Q 2 [(0, mr p), (1, mr n), (2, mi out), (3, mi (e : Int))] [] shX (tkF I p n out e) L R := by
    refine lpn _ (fun e he ih => ?_) ?_
    · have q0 : tkF I p n out e n 0 = I n 0 := tkF_fr I p n out e (by omega) (by omega)
      have q1 : ∀ i, tkF I p n out e (n + 1) i = I (n + 1) i := fun i => tkF_fr I p n out e (by omega) (by omega)
      have q2 : ∀ i, tkF I p n out e (n + 2) i = I (n + 2) i := fun i => tkF_fr I p n out e (by omega) (by omega)
      have q3 : ∀ i, tkF I p n out e (n + 3) i = I (n + 3) i := fun i => tkF_fr I p n out e (by omega) (by omega)
      have q4 : ∀ i, tkF I p n out e (n + 4) i = I (n + 4) i := fun i => tkF_fr I p n out e (by omega) (by omega)
      have q5 : tkF I p n out e p 1 = I p 1 := tkF_fr I p n out e (by omega) (by omega)
      have hbr := b01_r (tb out e = true)
      refine x_iload_n dX3_take_2 3 rfl rfl ?_
      refine x_aload_n dX3_take_3 1 rfl rfl ?_
      refine x_getI dX3_take_4 flX3_92 (shN0 hn) rfl ?_
      rw [q0]
      refine x_ic_ge (tgt := 30) dX3_take_7 (by decide) (by first | omega | exact z_and_r _ _ | exact z_or_r _ _ | exact z_xor_r _ _) (fun h7 => ?_) (fun h7 => ?_)
      · exfalso; omega
      · refine x_iload_n dX3_take_10 2 rfl rfl ?_
        refine x_iload_n dX3_take_11 3 rfl rfl ?_
        refine x_ishr dX3_take_12 ?_
        refine x_iconst dX3_take_13 ?_
        refine x_iand dX3_take_14 ?_
        rw [z_bit (by omega), Int.toNat_natCast]
        refine x_if_ne (tgt := 24) dX3_take_15 (by decide) (by first | omega | exact z_and_r _ _ | exact z_or_r _ _ | exact z_xor_r _ _) (fun h15 => ?_) (fun h15 => ?_)
        · refine x_iinc (lv' := [(0, _), (1, _), (2, _), (3, _)]) dX3_take_24 3 rfl rfl rfl ?_
          refine x_goto (tgt := 2) dX3_take_27 (by decide) ?_
          first
          | (have hb : tb out e = true := b01_ne.mp (by assumption)
             have hf : tkF I p n out (e + 1) = tkF I p n out e := by
               show (if tb out e = true then _ else _) = _
               rw [if_pos hb]
             rw [hf] at ih
             exact ih)
          | (have hb : ¬ tb out e = true := b01_eq.mp (by assumption)
             have hf : tkF I p n out (e + 1) = tkE (tkF I p n out e) p (I (n + 1) (e : Int)) (z_shl 1 (I (n + 2) (e : Int))) (I (n + 3) (e : Int)) (I (n + 4) (e : Int)) := by
               show (if tb out e = true then _ else _) = _
               rw [if_neg hb]
             rw [hf] at ih
             rw [q1, q2, q3, q4]
             exact ih)
        · refine x_aload_n dX3_take_18 0 rfl rfl ?_
          refine x_aload_n dX3_take_19 1 rfl rfl ?_
          refine x_iload_n dX3_take_20 3 rfl rfl ?_
          refine x_callVv (as := [_, _]) dX3_take_21 lvX3_97 rfl (shP0 hp) rfl rfl rfl rfl rfl ⟨rfl, rfl⟩ (s_X3_takeEvent hp hn (by omega) (by rw [q1, q3, q4]; exact hv e (by omega)) (by rw [q5]; exact hu)) (fun I21 L21 R21 hq21 => ?_)
          obtain ⟨rfl, rfl, rfl⟩ := hq21
          refine x_iinc (lv' := [(0, _), (1, _), (2, _), (3, _)]) dX3_take_24 3 rfl rfl rfl ?_
          refine x_goto (tgt := 2) dX3_take_27 (by decide) ?_
          first
          | (have hb : tb out e = true := b01_ne.mp (by assumption)
             have hf : tkF I p n out (e + 1) = tkF I p n out e := by
               show (if tb out e = true then _ else _) = _
               rw [if_pos hb]
             rw [hf] at ih
             exact ih)
          | (have hb : ¬ tb out e = true := b01_eq.mp (by assumption)
             have hf : tkF I p n out (e + 1) = tkE (tkF I p n out e) p (I (n + 1) (e : Int)) (z_shl 1 (I (n + 2) (e : Int))) (I (n + 3) (e : Int)) (I (n + 4) (e : Int)) := by
               show (if tb out e = true then _ else _) = _
               rw [if_neg hb]
             rw [hf] at ih
             rw [q1, q2, q3, q4]
             exact ih)
    · have q0 : tkF I p n out (I n 0).toNat n 0 = I n 0 := tkF_fr I p n out _ (by omega) (by omega)
      refine x_iload_n dX3_take_2 3 rfl rfl ?_
      refine x_aload_n dX3_take_3 1 rfl rfl ?_
      refine x_getI dX3_take_4 flX3_92 (shN0 hn) rfl ?_
      rw [q0]
      refine x_ic_ge (tgt := 30) dX3_take_7 (by decide) (by first | omega | exact z_and_r _ _ | exact z_or_r _ _ | exact z_xor_r _ _) (fun h7 => ?_) (fun h7 => ?_)
      · refine x_vret dX3_take_30 rfl ?_
        rw [← hQ]
        exact ⟨rfl, rfl, rfl, rfl⟩
      · exfalso; omega
  refine x_iconst dX3_take_0 ?_
  refine x_istore_n (lv' := [(0, _), (1, _), (2, _), (3, _)]) dX3_take_1 rfl rfl rfl ?_
  exact loop 0 (by omega)
end

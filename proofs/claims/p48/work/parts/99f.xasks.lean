/-! THE CLASS'S FACE: rooms, empty, where. -/
theorem bf {b : Bool} (h : ¬ b = true) : b = false := by cases b; rfl; exact absurd rfl h
theorem ltA_c {I J L : MI} {p t : Nat} {th : Int} (e : ∀ i, J (p + 7) i = I (p + 7) i) : ∀ m, ltA J L p t th m = ltA I L p t th m
  | 0 => rfl
  | m + 1 => by unfold ltA; rw [ltA_c e m, e]
theorem mbF_c {I J L : MI} {p t : Nat} (e : ∀ i, J (p + 7) i = I (p + 7) i) : ∀ m, mbF J L p t m = mbF I L p t m
  | 0 => rfl
  | m + 1 => by unfold mbF; rw [mbF_c e m, e]
theorem sh41_nn {r : Nat} (hr : r < 6) : 0 ≤ z_shl 4161 (r : Int) ∧ z_shl 4161 (r : Int) ≤ 2147483647 := by
  have : ∀ r : Nat, r < 6 → 0 ≤ z_shl 4161 (r : Int) ∧ z_shl 4161 (r : Int) ≤ 2147483647 := by decide
  exact this r hr
section
variable {G : GT} {I L M N : MI} {R : MR} {h h' : Nat}

theorem s_X7_rooms {r t : Int} (co0 : CO I L R M N h h') (cc0 : CC I L R M h) (hr : rI r) (ht : rI t) : Sp G mtX7_rooms [mr 0, mi r, mi t] shX I L R (qi (fun z I' L' R' => z = (s_rooms r t M).1 ∧ CO I' L' R' (s_rooms r t M).2 N h h' ∧ CC I' L' R' (s_rooms r t M).2 h)) := by
  refine Sp.of pnX7_rooms rfl ?_
  show Rn G mtX7_rooms _ 0 [(0, mr 0), (1, mi r), (2, mi t)] [] shX I L R
  generalize hQ : (qi (fun z I' L' R' => z = (s_rooms r t M).1 ∧ CO I' L' R' (s_rooms r t M).2 N h h' ∧ CC I' L' R' (s_rooms r t M).2 h)) = Q
  have hR := co0.1
  have r8 := co0.2.1.1
  have r9 := co0.2.1.2.1
  have h32 := co0.h32
  have hh := hR.h h32
  obtain ⟨iH, iE, iL, iR, iT⟩ := co0.2.2.2.2.1
  have hrl := co0.2.2.2.2.2.1.1
  have q0 := hrl.1
  have q1 := hrl.2.1
  have q2 := hrl.2.2.1
  have q3 := hrl.2.2.2.1
  have b0 := iH.1
  have b1 := iH.2.1
  have b2 := iH.2.2.1
  have b3 := iH.2.2.2.1
  have body : ∀ J K S, CO J K S M N h h' → CC J K S M h → J 0 10 = 1 → J 0 11 = 1 → okA M = true → (0 ≤ r ∧ r < M 0 11) → (0 ≤ t ∧ t ≤ M 0 14) → Rn G mtX7_rooms Q 37 [(0, mr 0), (1, mi r), (2, mi t)] [] shX J K S := by
    intro J K S co cc h10 h11 hok g0 g1
    have hR := co.1
    have r8 := co.2.1.1
    have r9 := co.2.1.2.1
    have hh := hR.h h32
    obtain ⟨na, nb, nk, tw⟩ := co.2.2.1
    obtain ⟨m12, m15⟩ := co.2.2.2.1
    obtain ⟨c1, c2, n, c3, c4, -, c6⟩ := cc.2 h10
    obtain ⟨fit, st, nt⟩ := c6 h11
    have hp := hR.p (Or.inl rfl)
    have hn3 : J 42 3 = (n : Int) := c3.1.1.2.2.2.2.1
    have hn2 := (PQ_n c3.1.1).2
    have hus := PK_us c3.1
    have h34 := c3.1.2.2.2.1
    have hl : ((lst (kM M) : Nat) : Int) = M 0 14 := KA_lst iH
    have hu : ((us (kM M) : Nat) : Int) = M 0 13 := KA_us iH
    have k11 : kM M 0 11 = M 0 11 := kap_per (by unfold per; omega)
    have j0 : J h 0 = M 0 11 := co.2.2.2.2.2.1.1.1
    have j1 : J h 1 = M 0 12 := co.2.2.2.2.2.1.1.2.1
    have j3 : J h 3 = M 0 14 := co.2.2.2.2.2.1.1.2.2.2.1
    obtain ⟨rn, rfl⟩ : ∃ rn : Nat, r = (rn : Int) := ⟨r.toNat, by omega⟩
    obtain ⟨tn, rfl⟩ : ∃ tn : Nat, t = (tn : Int) := ⟨t.toNat, by omega⟩
    have e : s_rooms (rn : Int) (tn : Int) M = (fiF (kM M) (rn : Int) tn (nst (kM M)), a_tl M (moF (kM M) (rn : Int) tn (nst (kM M)))) := by
      unfold s_rooms
      rw [if_neg (by omega), if_neg (by rw [hok]; exact fun z => Bool.noConfusion z)]
      rfl
    have w1 := fi_eq c3 st (t := tn) (by omega) fit (r := rn) (by omega)
    have w2 := mo_eq c3 st (t := tn) (by omega) (r := rn) (by omega)
    have hth := sh41_nn (r := rn) (by omega)
    have tl := tl_ok co cc (moF (kM M) (rn : Int) tn (nst (kM M)))
    refine x_aload_n dX7_rooms_37 0 rfl rfl ?_
    refine x_aload_n dX7_rooms_38 0 rfl rfl ?_
    refine x_getR dX7_rooms_39 flX7_31 rfl rfl (hR 0 3 19 rfl) ?_
    refine x_aload_n dX7_rooms_42 0 rfl rfl ?_
    refine x_getR dX7_rooms_43 flX7_50 rfl rfl (hR 0 4 42 rfl) ?_
    refine x_iload_n dX7_rooms_46 2 rfl rfl ?_
    refine x_sipush dX7_rooms_47 (by decide) ?_
    refine x_iload_n dX7_rooms_50 1 rfl rfl ?_
    refine x_ishl dX7_rooms_51 ?_
    refine x_callVi (as := [_, _, _]) dX7_rooms_52 lvX7_230 rfl rfl rfl rfl rfl rfl rfl ⟨rfl, rfl⟩ (s_X6_mostIn hR hp hn3 hn2 (by omega) hth) (fun z52 I52 L52 R52 hq52 => ?_)
    obtain ⟨rfl, rfl, rfl, rfl⟩ := hq52
    refine x_putI dX7_rooms_55 flX7_186 rfl rfl rfl ?_
    refine x_aload_n dX7_rooms_58 0 rfl rfl ?_
    refine x_getR dX7_rooms_59 flX7_31 rfl rfl (hR 0 3 19 rfl) ?_
    refine x_aload_n dX7_rooms_62 0 rfl rfl ?_
    refine x_getR dX7_rooms_63 flX7_50 rfl rfl (hR 0 4 42 rfl) ?_
    refine x_iload_n dX7_rooms_66 2 rfl rfl ?_
    refine x_sipush dX7_rooms_67 (by decide) ?_
    refine x_iload_n dX7_rooms_70 1 rfl rfl ?_
    refine x_ishl dX7_rooms_71 ?_
    refine x_callVi (as := [_, _, _]) dX7_rooms_72 lvX7_234 rfl rfl rfl rfl rfl rfl rfl ⟨rfl, rfl⟩ (s_X6_fewestIn hR hp (by rw [m_up_ne (by decide)]; exact hn3) hn2 (by omega) hth) (fun z72 I72 L72 R72 hq72 => ?_)
    obtain ⟨rfl, rfl, rfl, rfl⟩ := hq72
    refine x_iret dX7_rooms_75 rfl ?_
    rw [← hQ, e]
    refine ⟨_, rfl, ?_, ?_⟩
    · rw [ltA_c (fun i => by rw [m_up_ne (by decide)]), w1]
    · rw [w2]
      exact tl
  refine x_aload_n dX7_rooms_0 0 rfl rfl ?_
  refine x_getR dX7_rooms_1 flX7_38 rfl rfl r8 ?_
  refine x_iload_n dX7_rooms_4 1 rfl rfl ?_
  refine x_callVi (as := [_]) dX7_rooms_5 lvX7_224 rfl (shH0 hh) rfl rfl rfl rfl rfl ⟨rfl, rfl⟩ (s_X0_hasRoom hh (by omega) (by omega)) (fun z5 I5 L5 R5 hq5 => ?_)
  obtain ⟨rfl, rfl, rfl, rfl⟩ := hq5
  refine y_ifb_eq (tgt := 22) dX7_rooms_8 (by decide) (fun h8 => ?_) (fun h8 => ?_)
  · refine x_iconst dX7_rooms_22 ?_
    refine x_iret dX7_rooms_23 rfl ?_
    rw [← hQ]
    first
    | (have e : s_rooms r t M = (-1, M) := by
         unfold s_rooms
         exact if_pos (by omega)
       rw [e]
       exact ⟨_, rfl, rfl, co0, cc0⟩)
    | (have e : s_rooms r t M = (-3, a_mt M 4) := by
         unfold s_rooms
         rw [if_neg (by omega), if_pos (bf (by assumption))]
       rw [e]
       have z := mt_ok co1 cc1 (f := 4) (by omega)
       exact ⟨_, rfl, rfl, z.1, z.2⟩)
  · refine x_aload_n dX7_rooms_11 0 rfl rfl ?_
    refine x_getR dX7_rooms_12 flX7_38 rfl rfl r8 ?_
    refine x_iload_n dX7_rooms_15 2 rfl rfl ?_
    refine x_callVi (as := [_]) dX7_rooms_16 lvX7_227 rfl (shH0 hh) rfl rfl rfl rfl rfl ⟨rfl, rfl⟩ (s_X0_hasMinute hh (by omega) (by omega)) (fun z16 I16 L16 R16 hq16 => ?_)
    obtain ⟨rfl, rfl, rfl, rfl⟩ := hq16
    refine y_ifb_ne (tgt := 24) dX7_rooms_19 (by decide) (fun h19 => ?_) (fun h19 => ?_)
    · refine x_aload_n dX7_rooms_24 0 rfl rfl ?_
      refine x_callVi (as := []) dX7_rooms_25 lvX7_205 rfl rfl rfl rfl rfl rfl rfl ⟨rfl, rfl⟩ (s_X7_knowsWays co0 cc0) (fun z25 I25 L25 R25 hq25 => ?_)
      obtain ⟨rfl, co1, cc1, kw, hK⟩ := hq25
      refine y_ifb_ne (tgt := 37) dX7_rooms_28 (by decide) (fun h28 => ?_) (fun h28 => ?_)
      · exact body _ _ _ co1 cc1 (kw (by assumption)).1 (kw (by assumption)).2 (by assumption) (by omega) (by omega)
      · refine x_aload_n dX7_rooms_31 0 rfl rfl ?_
        refine x_iconst dX7_rooms_32 ?_
        refine x_callVi (as := [_]) dX7_rooms_33 lvX7_79 rfl rfl rfl rfl rfl rfl rfl ⟨rfl, rfl⟩ (s_X7_found co1.1 (by omega)) (fun z33 I33 L33 R33 hq33 => ?_)
        obtain ⟨rfl, rfl, rfl, rfl⟩ := hq33
        refine x_iret dX7_rooms_36 rfl ?_
        rw [← hQ]
        first
        | (have e : s_rooms r t M = (-1, M) := by
             unfold s_rooms
             exact if_pos (by omega)
           rw [e]
           exact ⟨_, rfl, rfl, co0, cc0⟩)
        | (have e : s_rooms r t M = (-3, a_mt M 4) := by
             unfold s_rooms
             rw [if_neg (by omega), if_pos (bf (by assumption))]
           rw [e]
           have z := mt_ok co1 cc1 (f := 4) (by omega)
           exact ⟨_, rfl, rfl, z.1, z.2⟩)
    · refine x_iconst dX7_rooms_22 ?_
      refine x_iret dX7_rooms_23 rfl ?_
      rw [← hQ]
      first
      | (have e : s_rooms r t M = (-1, M) := by
           unfold s_rooms
           exact if_pos (by omega)
         rw [e]
         exact ⟨_, rfl, rfl, co0, cc0⟩)
      | (have e : s_rooms r t M = (-3, a_mt M 4) := by
           unfold s_rooms
           rw [if_neg (by omega), if_pos (bf (by assumption))]
         rw [e]
         have z := mt_ok co1 cc1 (f := 4) (by omega)
         exact ⟨_, rfl, rfl, z.1, z.2⟩)
theorem s_X7_empty {t : Int} (co0 : CO I L R M N h h') (cc0 : CC I L R M h) (ht : rI t) : Sp G mtX7_empty [mr 0, mi t] shX I L R (qi (fun z I' L' R' => z = (s_empty t M).1 ∧ CO I' L' R' (s_empty t M).2 N h h' ∧ CC I' L' R' (s_empty t M).2 h)) := by
  refine Sp.of pnX7_empty rfl ?_
  show Rn G mtX7_empty _ 0 [(0, mr 0), (1, mi t)] [] shX I L R
  generalize hQ : (qi (fun z I' L' R' => z = (s_empty t M).1 ∧ CO I' L' R' (s_empty t M).2 N h h' ∧ CC I' L' R' (s_empty t M).2 h)) = Q
  have hR := co0.1
  have r8 := co0.2.1.1
  have r9 := co0.2.1.2.1
  have h32 := co0.h32
  have hh := hR.h h32
  obtain ⟨iH, iE, iL, iR, iT⟩ := co0.2.2.2.2.1
  have hrl := co0.2.2.2.2.2.1.1
  have q0 := hrl.1
  have q1 := hrl.2.1
  have q2 := hrl.2.2.1
  have q3 := hrl.2.2.2.1
  have b0 := iH.1
  have b1 := iH.2.1
  have b2 := iH.2.2.1
  have b3 := iH.2.2.2.1
  have body : ∀ J K S, CO J K S M N h h' → CC J K S M h → J 0 10 = 1 → J 0 11 = 1 → okA M = true → (0 ≤ t ∧ t ≤ M 0 14) → Rn G mtX7_empty Q 26 [(0, mr 0), (1, mi t)] [] shX J K S := by
    intro J K S co cc h10 h11 hok g0
    have hR := co.1
    have r8 := co.2.1.1
    have r9 := co.2.1.2.1
    have hh := hR.h h32
    obtain ⟨na, nb, nk, tw⟩ := co.2.2.1
    obtain ⟨m12, m15⟩ := co.2.2.2.1
    obtain ⟨c1, c2, n, c3, c4, -, c6⟩ := cc.2 h10
    obtain ⟨fit, st, nt⟩ := c6 h11
    have hp := hR.p (Or.inl rfl)
    have hn3 : J 42 3 = (n : Int) := c3.1.1.2.2.2.2.1
    have hn2 := (PQ_n c3.1.1).2
    have hus := PK_us c3.1
    have h34 := c3.1.2.2.2.1
    have hl : ((lst (kM M) : Nat) : Int) = M 0 14 := KA_lst iH
    have hu : ((us (kM M) : Nat) : Int) = M 0 13 := KA_us iH
    have k11 : kM M 0 11 = M 0 11 := kap_per (by unfold per; omega)
    have j0 : J h 0 = M 0 11 := co.2.2.2.2.2.1.1.1
    have j1 : J h 1 = M 0 12 := co.2.2.2.2.2.1.1.2.1
    have j3 : J h 3 = M 0 14 := co.2.2.2.2.2.1.1.2.2.2.1
    obtain ⟨tn, rfl⟩ : ∃ tn : Nat, t = (tn : Int) := ⟨t.toNat, by omega⟩
    have e : s_empty (tn : Int) M = (emN (kM M) tn (M 0 11).toNat, a_tl M (emS (kM M) tn (M 0 11).toNat)) := by
      unfold s_empty
      rw [if_neg (by omega), if_neg (by rw [hok]; exact fun z => Bool.noConfusion z)]
      rfl
    have w1 := em_eq c3 st (t := tn) (by omega)
    have w2 := es_eq c3 st (t := tn) (by omega) fit
    rw [k11] at w1 w2
    have tl := tl_ok co cc (emS (kM M) tn (M 0 11).toNat)
    refine x_aload_n dX7_empty_26 0 rfl rfl ?_
    refine x_aload_n dX7_empty_27 0 rfl rfl ?_
    refine x_getR dX7_empty_28 flX7_31 rfl rfl (hR 0 3 19 rfl) ?_
    refine x_aload_n dX7_empty_31 0 rfl rfl ?_
    refine x_getR dX7_empty_32 flX7_50 rfl rfl (hR 0 4 42 rfl) ?_
    refine x_iload_n dX7_empty_35 1 rfl rfl ?_
    refine x_callVi (as := [_, _]) dX7_empty_36 lvX7_237 rfl rfl rfl rfl rfl rfl rfl ⟨rfl, rfl⟩ (s_X6_mustBe2 hR hp hn3 hn2 (by omega)) (fun z36 I36 L36 R36 hq36 => ?_)
    obtain ⟨rfl, rfl, rfl, rfl⟩ := hq36
    refine x_bipush dX7_empty_39 (by decide) ?_
    refine x_ishr dX7_empty_41 ?_
    refine x_putI dX7_empty_42 flX7_186 rfl rfl rfl ?_
    refine x_aload_n dX7_empty_45 0 rfl rfl ?_
    refine x_getR dX7_empty_46 flX7_38 rfl rfl r8 ?_
    refine x_callVi (as := []) dX7_empty_49 lvX7_241 rfl (shH0 hh) rfl rfl rfl rfl rfl ⟨rfl, rfl⟩ (s_X0_roomBits hh) (fun z49 I49 L49 R49 hq49 => ?_)
    obtain ⟨rfl, rfl, rfl, rfl⟩ := hq49
    refine x_aload_n dX7_empty_52 0 rfl rfl ?_
    refine x_getR dX7_empty_53 flX7_31 rfl rfl (hR 0 3 19 rfl) ?_
    refine x_aload_n dX7_empty_56 0 rfl rfl ?_
    refine x_getR dX7_empty_57 flX7_50 rfl rfl (hR 0 4 42 rfl) ?_
    refine x_iload_n dX7_empty_60 1 rfl rfl ?_
    refine x_callVi (as := [_, _]) dX7_empty_61 lvX7_245 rfl rfl rfl rfl rfl rfl rfl ⟨rfl, rfl⟩ (s_X6_mayBe2 hR hp (by rw [m_up_ne (by decide)]; exact hn3) hn2 (by omega)) (fun z61 I61 L61 R61 hq61 => ?_)
    obtain ⟨rfl, rfl, rfl, rfl⟩ := hq61
    refine x_bipush dX7_empty_64 (by decide) ?_
    refine x_ishr dX7_empty_66 ?_
    refine x_iconst dX7_empty_67 ?_
    refine x_ixor dX7_empty_68 ?_
    refine x_iand dX7_empty_69 ?_
    refine x_iret dX7_empty_70 rfl ?_
    rw [← hQ, e]
    refine ⟨_, rfl, ?_, ?_⟩
    · rw [mbF_c (fun i => by rw [m_up_ne (by decide)]), m_up_ne (by omega)]
      exact w1
    · rw [w2]
      exact tl
  refine x_aload_n dX7_empty_0 0 rfl rfl ?_
  refine x_getR dX7_empty_1 flX7_38 rfl rfl r8 ?_
  refine x_iload_n dX7_empty_4 1 rfl rfl ?_
  refine x_callVi (as := [_]) dX7_empty_5 lvX7_227 rfl (shH0 hh) rfl rfl rfl rfl rfl ⟨rfl, rfl⟩ (s_X0_hasMinute hh (by omega) (by omega)) (fun z5 I5 L5 R5 hq5 => ?_)
  obtain ⟨rfl, rfl, rfl, rfl⟩ := hq5
  refine y_ifb_ne (tgt := 13) dX7_empty_8 (by decide) (fun h8 => ?_) (fun h8 => ?_)
  · refine x_aload_n dX7_empty_13 0 rfl rfl ?_
    refine x_callVi (as := []) dX7_empty_14 lvX7_205 rfl rfl rfl rfl rfl rfl rfl ⟨rfl, rfl⟩ (s_X7_knowsWays co0 cc0) (fun z14 I14 L14 R14 hq14 => ?_)
    obtain ⟨rfl, co1, cc1, kw, hK⟩ := hq14
    refine y_ifb_ne (tgt := 26) dX7_empty_17 (by decide) (fun h17 => ?_) (fun h17 => ?_)
    · exact body _ _ _ co1 cc1 (kw (by assumption)).1 (kw (by assumption)).2 (by assumption) (by omega)
    · refine x_aload_n dX7_empty_20 0 rfl rfl ?_
      refine x_iconst dX7_empty_21 ?_
      refine x_callVi (as := [_]) dX7_empty_22 lvX7_79 rfl rfl rfl rfl rfl rfl rfl ⟨rfl, rfl⟩ (s_X7_found co1.1 (by omega)) (fun z22 I22 L22 R22 hq22 => ?_)
      obtain ⟨rfl, rfl, rfl, rfl⟩ := hq22
      refine x_iret dX7_empty_25 rfl ?_
      rw [← hQ]
      first
      | (have e : s_empty t M = (-1, M) := by
           unfold s_empty
           exact if_pos (by omega)
         rw [e]
         exact ⟨_, rfl, rfl, co0, cc0⟩)
      | (have e : s_empty t M = (-3, a_mt M 4) := by
           unfold s_empty
           rw [if_neg (by omega), if_pos (bf (by assumption))]
         rw [e]
         have z := mt_ok co1 cc1 (f := 4) (by omega)
         exact ⟨_, rfl, rfl, z.1, z.2⟩)
  · refine x_iconst dX7_empty_11 ?_
    refine x_iret dX7_empty_12 rfl ?_
    rw [← hQ]
    first
    | (have e : s_empty t M = (-1, M) := by
         unfold s_empty
         exact if_pos (by omega)
       rw [e]
       exact ⟨_, rfl, rfl, co0, cc0⟩)
    | (have e : s_empty t M = (-3, a_mt M 4) := by
         unfold s_empty
         rw [if_neg (by omega), if_pos (bf (by assumption))]
       rw [e]
       have z := mt_ok co1 cc1 (f := 4) (by omega)
       exact ⟨_, rfl, rfl, z.1, z.2⟩)
theorem s_X7_where {w t : Int} (co0 : CO I L R M N h h') (cc0 : CC I L R M h) (hw : rI w) (ht : rI t) : Sp G mtX7_where [mr 0, mi w, mi t] shX I L R (qi (fun z I' L' R' => z = (s_where w t M).1 ∧ CO I' L' R' (s_where w t M).2 N h h' ∧ CC I' L' R' (s_where w t M).2 h)) := by
  refine Sp.of pnX7_where rfl ?_
  show Rn G mtX7_where _ 0 [(0, mr 0), (1, mi w), (2, mi t)] [] shX I L R
  generalize hQ : (qi (fun z I' L' R' => z = (s_where w t M).1 ∧ CO I' L' R' (s_where w t M).2 N h h' ∧ CC I' L' R' (s_where w t M).2 h)) = Q
  have hR := co0.1
  have r8 := co0.2.1.1
  have r9 := co0.2.1.2.1
  have h32 := co0.h32
  have hh := hR.h h32
  obtain ⟨iH, iE, iL, iR, iT⟩ := co0.2.2.2.2.1
  have hrl := co0.2.2.2.2.2.1.1
  have q0 := hrl.1
  have q1 := hrl.2.1
  have q2 := hrl.2.2.1
  have q3 := hrl.2.2.2.1
  have b0 := iH.1
  have b1 := iH.2.1
  have b2 := iH.2.2.1
  have b3 := iH.2.2.2.1
  have body : ∀ J K S, CO J K S M N h h' → CC J K S M h → J 0 10 = 1 → J 0 11 = 1 → okA M = true → (0 ≤ w ∧ w < M 0 13) → (0 ≤ t ∧ t ≤ M 0 14) → Rn G mtX7_where Q 37 [(0, mr 0), (1, mi w), (2, mi t)] [] shX J K S := by
    intro J K S co cc h10 h11 hok g0 g1
    have hR := co.1
    have r8 := co.2.1.1
    have r9 := co.2.1.2.1
    have hh := hR.h h32
    obtain ⟨na, nb, nk, tw⟩ := co.2.2.1
    obtain ⟨m12, m15⟩ := co.2.2.2.1
    obtain ⟨c1, c2, n, c3, c4, -, c6⟩ := cc.2 h10
    obtain ⟨fit, st, nt⟩ := c6 h11
    have hp := hR.p (Or.inl rfl)
    have hn3 : J 42 3 = (n : Int) := c3.1.1.2.2.2.2.1
    have hn2 := (PQ_n c3.1.1).2
    have hus := PK_us c3.1
    have h34 := c3.1.2.2.2.1
    have hl : ((lst (kM M) : Nat) : Int) = M 0 14 := KA_lst iH
    have hu : ((us (kM M) : Nat) : Int) = M 0 13 := KA_us iH
    have k11 : kM M 0 11 = M 0 11 := kap_per (by unfold per; omega)
    have j0 : J h 0 = M 0 11 := co.2.2.2.2.2.1.1.1
    have j1 : J h 1 = M 0 12 := co.2.2.2.2.2.1.1.2.1
    have j3 : J h 3 = M 0 14 := co.2.2.2.2.2.1.1.2.2.2.1
    obtain ⟨wn, rfl⟩ : ∃ wn : Nat, w = (wn : Int) := ⟨w.toNat, by omega⟩
    obtain ⟨tn, rfl⟩ : ∃ tn : Nat, t = (tn : Int) := ⟨t.toNat, by omega⟩
    have e : s_where (wn : Int) (tn : Int) M = (whF (kM M) wn tn (nst (kM M)), M) := by
      unfold s_where
      rw [if_neg (by omega), if_neg (by rw [hok]; exact fun z => Bool.noConfusion z)]
      rfl
    have w1 := wh_eq c3 st (t := tn) (by omega) (w := wn) (by omega)
    refine x_aload_n dX7_where_37 0 rfl rfl ?_
    refine x_getR dX7_where_38 flX7_31 rfl rfl (hR 0 3 19 rfl) ?_
    refine x_aload_n dX7_where_41 0 rfl rfl ?_
    refine x_getR dX7_where_42 flX7_50 rfl rfl (hR 0 4 42 rfl) ?_
    refine x_iload_n dX7_where_45 2 rfl rfl ?_
    refine x_callVi (as := [_, _]) dX7_where_46 lvX7_245 rfl rfl rfl rfl rfl rfl rfl ⟨rfl, rfl⟩ (s_X6_mayBe2 hR hp hn3 hn2 (by omega)) (fun z46 I46 L46 R46 hq46 => ?_)
    obtain ⟨rfl, rfl, rfl, rfl⟩ := hq46
    refine x_iload_n dX7_where_49 1 rfl rfl ?_
    refine x_callSi (as := [_, _]) dX7_where_50 lvX7_248 rfl rfl rfl rfl ⟨rfl, rfl⟩ (s_X7_roomsOf) (fun z50 I50 L50 R50 hq50 => ?_)
    obtain ⟨rfl, rfl, rfl, rfl⟩ := hq50
    refine x_iret dX7_where_53 rfl ?_
    rw [← hQ, e]
    exact ⟨_, rfl, w1, co, cc⟩
  refine x_aload_n dX7_where_0 0 rfl rfl ?_
  refine x_getR dX7_where_1 flX7_38 rfl rfl r8 ?_
  refine x_iload_n dX7_where_4 1 rfl rfl ?_
  refine x_callVi (as := [_]) dX7_where_5 lvX7_170 rfl (shH0 hh) rfl rfl rfl rfl rfl ⟨rfl, rfl⟩ (s_X0_hasWalker hh (by omega) (by omega)) (fun z5 I5 L5 R5 hq5 => ?_)
  obtain ⟨rfl, rfl, rfl, rfl⟩ := hq5
  refine y_ifb_eq (tgt := 22) dX7_where_8 (by decide) (fun h8 => ?_) (fun h8 => ?_)
  · refine x_iconst dX7_where_22 ?_
    refine x_iret dX7_where_23 rfl ?_
    rw [← hQ]
    first
    | (have e : s_where w t M = (-1, M) := by
         unfold s_where
         exact if_pos (by omega)
       rw [e]
       exact ⟨_, rfl, rfl, co0, cc0⟩)
    | (have e : s_where w t M = (-3, a_mt M 4) := by
         unfold s_where
         rw [if_neg (by omega), if_pos (bf (by assumption))]
       rw [e]
       have z := mt_ok co1 cc1 (f := 4) (by omega)
       exact ⟨_, rfl, rfl, z.1, z.2⟩)
  · refine x_aload_n dX7_where_11 0 rfl rfl ?_
    refine x_getR dX7_where_12 flX7_38 rfl rfl r8 ?_
    refine x_iload_n dX7_where_15 2 rfl rfl ?_
    refine x_callVi (as := [_]) dX7_where_16 lvX7_227 rfl (shH0 hh) rfl rfl rfl rfl rfl ⟨rfl, rfl⟩ (s_X0_hasMinute hh (by omega) (by omega)) (fun z16 I16 L16 R16 hq16 => ?_)
    obtain ⟨rfl, rfl, rfl, rfl⟩ := hq16
    refine y_ifb_ne (tgt := 24) dX7_where_19 (by decide) (fun h19 => ?_) (fun h19 => ?_)
    · refine x_aload_n dX7_where_24 0 rfl rfl ?_
      refine x_callVi (as := []) dX7_where_25 lvX7_205 rfl rfl rfl rfl rfl rfl rfl ⟨rfl, rfl⟩ (s_X7_knowsWays co0 cc0) (fun z25 I25 L25 R25 hq25 => ?_)
      obtain ⟨rfl, co1, cc1, kw, hK⟩ := hq25
      refine y_ifb_ne (tgt := 37) dX7_where_28 (by decide) (fun h28 => ?_) (fun h28 => ?_)
      · exact body _ _ _ co1 cc1 (kw (by assumption)).1 (kw (by assumption)).2 (by assumption) (by omega) (by omega)
      · refine x_aload_n dX7_where_31 0 rfl rfl ?_
        refine x_iconst dX7_where_32 ?_
        refine x_callVi (as := [_]) dX7_where_33 lvX7_79 rfl rfl rfl rfl rfl rfl rfl ⟨rfl, rfl⟩ (s_X7_found co1.1 (by omega)) (fun z33 I33 L33 R33 hq33 => ?_)
        obtain ⟨rfl, rfl, rfl, rfl⟩ := hq33
        refine x_iret dX7_where_36 rfl ?_
        rw [← hQ]
        first
        | (have e : s_where w t M = (-1, M) := by
             unfold s_where
             exact if_pos (by omega)
           rw [e]
           exact ⟨_, rfl, rfl, co0, cc0⟩)
        | (have e : s_where w t M = (-3, a_mt M 4) := by
             unfold s_where
             rw [if_neg (by omega), if_pos (bf (by assumption))]
           rw [e]
           have z := mt_ok co1 cc1 (f := 4) (by omega)
           exact ⟨_, rfl, rfl, z.1, z.2⟩)
    · refine x_iconst dX7_where_22 ?_
      refine x_iret dX7_where_23 rfl ?_
      rw [← hQ]
      first
      | (have e : s_where w t M = (-1, M) := by
           unfold s_where
           exact if_pos (by omega)
         rw [e]
         exact ⟨_, rfl, rfl, co0, cc0⟩)
      | (have e : s_where w t M = (-3, a_mt M 4) := by
           unfold s_where
           rw [if_neg (by omega), if_pos (bf (by assumption))]
         rw [e]
         have z := mt_ok co1 cc1 (f := 4) (by omega)
         exact ⟨_, rfl, rfl, z.1, z.2⟩)
end

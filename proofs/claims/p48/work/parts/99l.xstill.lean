/-! THE CLASS'S FACE: ways, still, judge, way. -/
theorem still_0 {κ : MI} {w N l : Nat} {z : Int} (hN : 1 ≤ N ∧ N ≤ 30) (hb : ∀ b, b < 64 → (tbl z b = true ↔ (∃ s, stI κ w N l s b) ∨ (b = N ∧ ∃ s, stJ1 κ w N l s))) : z_landl z (z_shll 1 (N : Int)) = 0 ↔ ¬ ∃ s, stJ1 κ w N l s := by
  constructor
  · intro q y
    have h1 := (hb N (by omega)).mpr (Or.inr ⟨rfl, y⟩)
    have h2 : tbl (z_landl z (z_shll 1 (N : Int))) N = tbl 0 N := by rw [q]
    rw [tbl_and, h1, tbl_sh1 (by omega) (by omega), tbl_0, Int.toNat_natCast, decide_eq_true rfl] at h2
    exact Bool.noConfusion h2
  · intro q
    refine tbl_ext (z_landl_r _ _) (by omega) (fun b hb2 => ?_)
    rw [tbl_and, tbl_0, tbl_sh1 (by omega) hb2, Int.toNat_natCast]
    by_cases e : b = N
    · subst e
      cases y : tbl z b
      · rfl
      · rcases (hb b hb2).mp y with ⟨s, z⟩ | ⟨-, z⟩
        · exact absurd (stI_lt hN.1 _ _ _ z) (Nat.lt_irrefl b)
        · exact absurd z q
    · rw [decide_eq_false e, Bool.and_false]
theorem still_2 {κ : MI} {w N l : Nat} {z : Int} (hN : 1 ≤ N ∧ N ≤ 30) (hr : rL z) (hb : ∀ b, b < 64 → (tbl z b = true ↔ (∃ s, stI κ w N l s b) ∨ (b = N ∧ ∃ s, stJ1 κ w N l s))) (hJ : ∃ s, stJ1 κ w N l s) : z = z_shll 1 (N : Int) ↔ ¬ ∃ s b, stI κ w N l s b := by
  constructor
  · rintro q ⟨s, b, y⟩
    have hlt := stI_lt hN.1 _ _ _ y
    have h1 := (hb b (by omega)).mpr (Or.inl ⟨s, y⟩)
    rw [q, tbl_sh1 (by omega) (by omega), decide_eq_true_eq] at h1
    omega
  · intro q
    refine tbl_ext hr (z_shll_r _ _) (fun b hb2 => ?_)
    rw [Bool.eq_iff_iff, hb b hb2, tbl_sh1 (by omega) hb2, decide_eq_true_eq, Int.toNat_natCast]
    constructor
    · rintro (⟨s, y⟩ | ⟨y, -⟩)
      · exact absurd ⟨s, b, y⟩ q
      · exact y
    · intro y
      exact Or.inr ⟨y, hJ⟩
section
variable {G : GT} {I L M N : MI} {R : MR} {h h' : Nat}

theorem s_X7_still {w m : Int} (co0 : CO I L R M N h h') (cc0 : CC I L R M h) (hw : rI w) (hm : rI m) : Sp G mtX7_still [mr 0, mi w, mi m] shX I L R (qi (fun z I' L' R' => z = (s_still w m M).1 ∧ CO I' L' R' (s_still w m M).2 N h h' ∧ CC I' L' R' (s_still w m M).2 h)) := by
  refine Sp.of pnX7_still rfl ?_
  show Rn G mtX7_still _ 0 [(0, mr 0), (1, mi w), (2, mi m)] [] shX I L R
  generalize hQ : (qi (fun z I' L' R' => z = (s_still w m M).1 ∧ CO I' L' R' (s_still w m M).2 N h h' ∧ CC I' L' R' (s_still w m M).2 h)) = Q
  have hR := co0.1
  have r8 := co0.2.1.1
  have r9 := co0.2.1.2.1
  have h32 := co0.h32
  have hh := hR.h h32
  obtain ⟨iH, iE, iL, iR, iT⟩ := co0.2.2.2.2.1
  have hrl := co0.2.2.2.2.2.1.1
  have q0 := hrl.1
  have q1 := hrl.2.1
  have q2 := hrl.2.2.1
  have q3 := hrl.2.2.2.1
  have b0 := iH.1
  have b1 := iH.2.1
  have b2 := iH.2.2.1
  have b3 := iH.2.2.2.1
  have body : ∀ J K S, CO J K S M N h h' → CC J K S M h → J 0 10 = 1 → J 0 11 = 1 → okA M = true → (0 ≤ w ∧ w < M 0 13) → (1 ≤ m ∧ m ≤ 30) → Rn G mtX7_still Q 37 [(0, mr 0), (1, mi w), (2, mi m)] [] shX J K S := by
    intro J K S co cc h10 h11 hok g0 g1
    have hR := co.1
    have r8 := co.2.1.1
    have r9 := co.2.1.2.1
    have hh := hR.h h32
    obtain ⟨na, nb, nk, tw⟩ := co.2.2.1
    obtain ⟨m12, m15⟩ := co.2.2.2.1
    obtain ⟨c1, c2, n, c3, c4, -, c6⟩ := cc.2 h10
    obtain ⟨fit, st, nt⟩ := c6 h11
    have hp := hR.p (Or.inl rfl)
    have hn3 : J 42 3 = (n : Int) := c3.1.1.2.2.2.2.1
    have hn2 := (PQ_n c3.1.1).2
    have hus := PK_us c3.1
    have h34 := c3.1.2.2.2.1
    have hl : ((lst (kM M) : Nat) : Int) = M 0 14 := KA_lst iH
    have hu : ((us (kM M) : Nat) : Int) = M 0 13 := KA_us iH
    have k11 : kM M 0 11 = M 0 11 := kap_per (by unfold per; omega)
    have j0 : J h 0 = M 0 11 := co.2.2.2.2.2.1.1.1
    have j1 : J h 1 = M 0 12 := co.2.2.2.2.2.1.1.2.1
    have j3 : J h 3 = M 0 14 := co.2.2.2.2.2.1.1.2.2.2.1
    obtain ⟨wn, rfl⟩ : ∃ wn : Nat, w = (wn : Int) := ⟨w.toNat, by omega⟩
    obtain ⟨u, rfl⟩ : ∃ u : Nat, m = (u : Int) := ⟨m.toNat, by omega⟩
    have x : s_still (wn : Int) (u : Int) M = (if stA (kM M) wn (u : Int) false = false then 0 else if stA (kM M) wn (u : Int) true = true then 1 else 2, M) := by
      unfold s_still
      rw [if_neg (by omega), if_neg (by rw [hok]; exact fun z => Bool.noConfusion z)]
      rfl
    have sf := stA_f c3.1.2.1 c3.1.2.2.1 (w := wn) (n := u) (by omega)
    have stt := stA_t c3.1.2.1 c3.1.2.2.1 (w := wn) (n := u) (by omega)
    have hs := s_X6_standings (G := G) (L := K) hR tw hp c1 hh c3 m12 st (w := wn) (N := u) (by omega) (by omega)
    refine x_aload_n dX7_still_37 0 rfl rfl ?_
    refine x_getR dX7_still_38 flX7_31 rfl rfl (hR 0 3 19 rfl) ?_
    refine x_aload_n dX7_still_41 0 rfl rfl ?_
    refine x_getR dX7_still_42 flX7_50 rfl rfl (hR 0 4 42 rfl) ?_
    refine x_iload_n dX7_still_45 1 rfl rfl ?_
    refine x_iload_n dX7_still_46 2 rfl rfl ?_
    refine x_callVl (as := [_, _, _]) dX7_still_47 lvX7_258 rfl rfl rfl rfl rfl rfl rfl ⟨rfl, rfl⟩ (hs) (fun z47 I47 L47 R47 hq47 => ?_)
    obtain ⟨sz, sb, swp⟩ := hq47
    have hz0 := still_0 (by omega) sb
    have hz2 := still_2 (by omega) sz sb
    have hlr := z_landl_r z47 (z_shll 1 (u : Int))
    have hsr := z_shll_r 1 (u : Int)
    refine x_lstore_n (lv' := [(0, _), (1, _), (2, _), (3, _)]) dX7_still_50 rfl rfl rfl ?_
    refine x_lconst 1 dX7_still_51 rfl ?_
    refine x_iload_n dX7_still_52 2 rfl rfl ?_
    refine x_lshl dX7_still_53 ?_
    refine x_lstore (lv' := [(0, _), (1, _), (2, _), (3, _), (5, _)]) dX7_still_54 rfl rfl ?_
    refine x_lload_n dX7_still_56 3 rfl rfl ?_
    refine x_lload dX7_still_57 4 rfl ?_
    refine x_land dX7_still_59 ?_
    refine x_lconst 0 dX7_still_60 rfl ?_
    refine x_lc_ne (tgt := 67) dX7_still_61 dX7_still_62 (by decide) (by first | omega | exact z_and_r _ _ | exact z_shl_r _ _) (fun h61 => ?_) (fun h61 => ?_)
    · refine x_lload_n dX7_still_67 3 rfl rfl ?_
      refine x_lload dX7_still_68 4 rfl ?_
      refine x_lc_ne (tgt := 78) dX7_still_70 dX7_still_71 (by decide) (by first | omega | exact z_and_r _ _ | exact z_shl_r _ _) (fun h70 => ?_) (fun h70 => ?_)
      · refine x_iconst dX7_still_78 ?_
        refine x_iret dX7_still_79 rfl ?_
        rw [← hQ, x]
        first
        | (have h0 : z_landl z47 (z_shll 1 (u : Int)) = 0 := by assumption
           have e : stA (kM M) wn (u : Int) false = false := bf (fun y => hz0.mp h0 (sf.mp y))
           rw [if_pos e]
           exact ⟨_, rfl, rfl, co.wp swp, cc.wp h32 swp⟩)
        | (have h0 : ¬ z_landl z47 (z_shll 1 (u : Int)) = 0 := by assumption
           have hJ : ∃ s, stJ1 (kM M) wn u (lst (kM M)) s := Classical.byContradiction (fun y => h0 (hz0.mpr y))
           have e : ¬ stA (kM M) wn (u : Int) false = false := fun y => by rw [sf.mpr hJ] at y; exact Bool.noConfusion y
           rw [if_neg e]
           first
           | (have h2 : z47 = z_shll 1 (u : Int) := by assumption
              rw [if_neg (fun y => (hz2 hJ).mp h2 (stt.mp y))]
              exact ⟨_, rfl, rfl, co.wp swp, cc.wp h32 swp⟩)
           | (have h2 : ¬ z47 = z_shll 1 (u : Int) := by assumption
              rw [if_pos (stt.mpr (Classical.byContradiction (fun y => h2 ((hz2 hJ).mpr y))))]
              exact ⟨_, rfl, rfl, co.wp swp, cc.wp h32 swp⟩))
      · refine x_iconst dX7_still_74 ?_
        refine x_goto (tgt := 79) dX7_still_75 (by decide) ?_
        refine x_iret dX7_still_79 rfl ?_
        rw [← hQ, x]
        first
        | (have h0 : z_landl z47 (z_shll 1 (u : Int)) = 0 := by assumption
           have e : stA (kM M) wn (u : Int) false = false := bf (fun y => hz0.mp h0 (sf.mp y))
           rw [if_pos e]
           exact ⟨_, rfl, rfl, co.wp swp, cc.wp h32 swp⟩)
        | (have h0 : ¬ z_landl z47 (z_shll 1 (u : Int)) = 0 := by assumption
           have hJ : ∃ s, stJ1 (kM M) wn u (lst (kM M)) s := Classical.byContradiction (fun y => h0 (hz0.mpr y))
           have e : ¬ stA (kM M) wn (u : Int) false = false := fun y => by rw [sf.mpr hJ] at y; exact Bool.noConfusion y
           rw [if_neg e]
           first
           | (have h2 : z47 = z_shll 1 (u : Int) := by assumption
              rw [if_neg (fun y => (hz2 hJ).mp h2 (stt.mp y))]
              exact ⟨_, rfl, rfl, co.wp swp, cc.wp h32 swp⟩)
           | (have h2 : ¬ z47 = z_shll 1 (u : Int) := by assumption
              rw [if_pos (stt.mpr (Classical.byContradiction (fun y => h2 ((hz2 hJ).mpr y))))]
              exact ⟨_, rfl, rfl, co.wp swp, cc.wp h32 swp⟩))
    · refine x_iconst dX7_still_65 ?_
      refine x_iret dX7_still_66 rfl ?_
      rw [← hQ, x]
      first
      | (have h0 : z_landl z47 (z_shll 1 (u : Int)) = 0 := by assumption
         have e : stA (kM M) wn (u : Int) false = false := bf (fun y => hz0.mp h0 (sf.mp y))
         rw [if_pos e]
         exact ⟨_, rfl, rfl, co.wp swp, cc.wp h32 swp⟩)
      | (have h0 : ¬ z_landl z47 (z_shll 1 (u : Int)) = 0 := by assumption
         have hJ : ∃ s, stJ1 (kM M) wn u (lst (kM M)) s := Classical.byContradiction (fun y => h0 (hz0.mpr y))
         have e : ¬ stA (kM M) wn (u : Int) false = false := fun y => by rw [sf.mpr hJ] at y; exact Bool.noConfusion y
         rw [if_neg e]
         first
         | (have h2 : z47 = z_shll 1 (u : Int) := by assumption
            rw [if_neg (fun y => (hz2 hJ).mp h2 (stt.mp y))]
            exact ⟨_, rfl, rfl, co.wp swp, cc.wp h32 swp⟩)
         | (have h2 : ¬ z47 = z_shll 1 (u : Int) := by assumption
            rw [if_pos (stt.mpr (Classical.byContradiction (fun y => h2 ((hz2 hJ).mpr y))))]
            exact ⟨_, rfl, rfl, co.wp swp, cc.wp h32 swp⟩))
  refine x_aload_n dX7_still_0 0 rfl rfl ?_
  refine x_getR dX7_still_1 flX7_38 rfl rfl r8 ?_
  refine x_iload_n dX7_still_4 1 rfl rfl ?_
  refine x_callVi (as := [_]) dX7_still_5 lvX7_170 rfl (shH0 hh) rfl rfl rfl rfl rfl ⟨rfl, rfl⟩ (s_X0_hasWalker hh (by omega) (by omega)) (fun z5 I5 L5 R5 hq5 => ?_)
  obtain ⟨rfl, rfl, rfl, rfl⟩ := hq5
  refine y_ifb_eq (tgt := 22) dX7_still_8 (by decide) (fun h8 => ?_) (fun h8 => ?_)
  · refine x_iconst dX7_still_22 ?_
    refine x_iret dX7_still_23 rfl ?_
    rw [← hQ]
    first
    | (have e : s_still w m M = (-1, M) := by
         unfold s_still
         exact if_pos (by omega)
       rw [e]
       exact ⟨_, rfl, rfl, co0, cc0⟩)
    | (have e : s_still w m M = (-3, a_mt M 4) := by
         unfold s_still
         rw [if_neg (by omega), if_pos (bf (by assumption))]
       rw [e]
       have z := mt_ok co1 cc1 (f := 4) (by omega)
       exact ⟨_, rfl, rfl, z.1, z.2⟩)
  · refine x_iload_n dX7_still_11 2 rfl rfl ?_
    refine x_iconst dX7_still_12 ?_
    refine x_ic_lt (tgt := 22) dX7_still_13 (by decide) (by first | omega | exact z_and_r _ _ | exact z_shl_r _ _) (fun h13 => ?_) (fun h13 => ?_)
    · refine x_iconst dX7_still_22 ?_
      refine x_iret dX7_still_23 rfl ?_
      rw [← hQ]
      first
      | (have e : s_still w m M = (-1, M) := by
           unfold s_still
           exact if_pos (by omega)
         rw [e]
         exact ⟨_, rfl, rfl, co0, cc0⟩)
      | (have e : s_still w m M = (-3, a_mt M 4) := by
           unfold s_still
           rw [if_neg (by omega), if_pos (bf (by assumption))]
         rw [e]
         have z := mt_ok co1 cc1 (f := 4) (by omega)
         exact ⟨_, rfl, rfl, z.1, z.2⟩)
    · refine x_iload_n dX7_still_16 2 rfl rfl ?_
      refine x_bipush dX7_still_17 (by decide) ?_
      refine x_ic_le (tgt := 24) dX7_still_19 (by decide) (by first | omega | exact z_and_r _ _ | exact z_shl_r _ _) (fun h19 => ?_) (fun h19 => ?_)
      · refine x_aload_n dX7_still_24 0 rfl rfl ?_
        refine x_callVi (as := []) dX7_still_25 lvX7_205 rfl rfl rfl rfl rfl rfl rfl ⟨rfl, rfl⟩ (s_X7_knowsWays co0 cc0) (fun z25 I25 L25 R25 hq25 => ?_)
        obtain ⟨rfl, co1, cc1, kw, hK⟩ := hq25
        refine y_ifb_ne (tgt := 37) dX7_still_28 (by decide) (fun h28 => ?_) (fun h28 => ?_)
        · exact body _ _ _ co1 cc1 (kw (by assumption)).1 (kw (by assumption)).2 (by assumption) (by omega) (by omega)
        · refine x_aload_n dX7_still_31 0 rfl rfl ?_
          refine x_iconst dX7_still_32 ?_
          refine x_callVi (as := [_]) dX7_still_33 lvX7_79 rfl rfl rfl rfl rfl rfl rfl ⟨rfl, rfl⟩ (s_X7_found co1.1 (by omega)) (fun z33 I33 L33 R33 hq33 => ?_)
          obtain ⟨rfl, rfl, rfl, rfl⟩ := hq33
          refine x_iret dX7_still_36 rfl ?_
          rw [← hQ]
          first
          | (have e : s_still w m M = (-1, M) := by
               unfold s_still
               exact if_pos (by omega)
             rw [e]
             exact ⟨_, rfl, rfl, co0, cc0⟩)
          | (have e : s_still w m M = (-3, a_mt M 4) := by
               unfold s_still
               rw [if_neg (by omega), if_pos (bf (by assumption))]
             rw [e]
             have z := mt_ok co1 cc1 (f := 4) (by omega)
             exact ⟨_, rfl, rfl, z.1, z.2⟩)
      · refine x_iconst dX7_still_22 ?_
        refine x_iret dX7_still_23 rfl ?_
        rw [← hQ]
        first
        | (have e : s_still w m M = (-1, M) := by
             unfold s_still
             exact if_pos (by omega)
           rw [e]
           exact ⟨_, rfl, rfl, co0, cc0⟩)
        | (have e : s_still w m M = (-3, a_mt M 4) := by
             unfold s_still
             rw [if_neg (by omega), if_pos (bf (by assumption))]
           rw [e]
           have z := mt_ok co1 cc1 (f := 4) (by omega)
           exact ⟨_, rfl, rfl, z.1, z.2⟩)
theorem s_X7_ways  (co0 : CO I L R M N h h') (cc0 : CC I L R M h) : Sp G mtX7_ways [mr 0] shX I L R (qi (fun z I' L' R' => z = (s_ways M).1 ∧ CO I' L' R' M ((s_ways M).2 N) h h' ∧ CC I' L' R' M h)) := by
  refine Sp.of pnX7_ways rfl ?_
  show Rn G mtX7_ways _ 0 [(0, mr 0)] [] shX I L R
  generalize hQ : (qi (fun z I' L' R' => z = (s_ways M).1 ∧ CO I' L' R' M ((s_ways M).2 N) h h' ∧ CC I' L' R' M h)) = Q
  have hR := co0.1
  have r8 := co0.2.1.1
  have r9 := co0.2.1.2.1
  have h32 := co0.h32
  have hh := hR.h h32
  obtain ⟨iH, iE, iL, iR, iT⟩ := co0.2.2.2.2.1
  have hrl := co0.2.2.2.2.2.1.1
  have q0 := hrl.1
  have q1 := hrl.2.1
  have q2 := hrl.2.2.1
  have q3 := hrl.2.2.2.1
  have b0 := iH.1
  have b1 := iH.2.1
  have b2 := iH.2.2.1
  have b3 := iH.2.2.2.1
  have awr := awF_r (kM M) (nst (kM M))
  have awr2 : 0 ≤ aw (kM M) ∧ aw (kM M) ≤ 1000000000000001 := awr
  have at40 : ∀ J K S v, CO J K S M N h h' → CC J K S M h → (v = 0 ∧ ¬ fst0 (kM M) = -9 ∨ v = aw (kM M) ∧ fst0 (kM M) = -9 ∧ (aw (kM M) ≤ 1000000000000000 → 0 < aw (kM M))) → Rn G mtX7_ways Q 40 [(0, mr 0), (1, ml v)] [] shX J K S := by
    intro J K S v co cc hv
    have hR := co.1
    refine x_lload_n dX7_ways_40 1 rfl rfl ?_
    refine x_ldc2 (1000000000000000) dX7_ways_41 lkX7_219 ?_
    refine x_lc_le (tgt := 51) dX7_ways_44 dX7_ways_45 (by decide) (by omega) (fun h44 => ?_) (fun h44 => ?_)
    · refine x_aload_n dX7_ways_51 0 rfl rfl ?_
      refine x_lload_n dX7_ways_52 1 rfl rfl ?_
      refine x_putL dX7_ways_53 flX7_221 rfl rfl rfl ?_
      refine x_lload_n dX7_ways_56 1 rfl rfl ?_
      refine x_lconst 0 dX7_ways_57 rfl ?_
      refine x_lc_le (tgt := 66) dX7_ways_58 dX7_ways_59 (by decide) (by omega) (fun h58 => ?_) (fun h58 => ?_)
      · refine x_iconst dX7_ways_66 ?_
        refine x_iret dX7_ways_67 rfl ?_
        rw [← hQ]
        rcases hv with ⟨rfl, hv⟩ | ⟨rfl, hv, hp⟩
        · first
          | (exfalso; omega)
          | (have x : (s_ways M) = (0, fun L => m_up L 0 3 0) := by
               unfold s_ways
               exact if_pos hv
             rw [x]
             have z := many_ok co cc 0
             exact ⟨_, rfl, rfl, z.1, z.2⟩)
        · first
          | (have hbig : 1000000000000000 < aw (kM M) := by omega
             have x : (s_ways M) = (-6, fun L => L) := by
               unfold s_ways
               rw [if_neg (fun z => z hv)]
               exact if_pos hbig
             rw [x]
             exact ⟨_, rfl, rfl, co, cc⟩)
          | (have hbig : ¬ 1000000000000000 < aw (kM M) := by omega
             have hp2 := hp (by omega)
             first
             | (exfalso; omega)
             | (have x : (s_ways M) = (1, fun L => m_up L 0 3 (aw (kM M))) := by
                  unfold s_ways
                  rw [if_neg (fun z => z hv)]
                  exact if_neg hbig
                rw [x]
                have z := many_ok co cc (aw (kM M))
                exact ⟨_, rfl, rfl, z.1, z.2⟩))
      · refine x_iconst dX7_ways_62 ?_
        refine x_goto (tgt := 67) dX7_ways_63 (by decide) ?_
        refine x_iret dX7_ways_67 rfl ?_
        rw [← hQ]
        rcases hv with ⟨rfl, hv⟩ | ⟨rfl, hv, hp⟩
        · first
          | (exfalso; omega)
          | (have x : (s_ways M) = (0, fun L => m_up L 0 3 0) := by
               unfold s_ways
               exact if_pos hv
             rw [x]
             have z := many_ok co cc 0
             exact ⟨_, rfl, rfl, z.1, z.2⟩)
        · first
          | (have hbig : 1000000000000000 < aw (kM M) := by omega
             have x : (s_ways M) = (-6, fun L => L) := by
               unfold s_ways
               rw [if_neg (fun z => z hv)]
               exact if_pos hbig
             rw [x]
             exact ⟨_, rfl, rfl, co, cc⟩)
          | (have hbig : ¬ 1000000000000000 < aw (kM M) := by omega
             have hp2 := hp (by omega)
             first
             | (exfalso; omega)
             | (have x : (s_ways M) = (1, fun L => m_up L 0 3 (aw (kM M))) := by
                  unfold s_ways
                  rw [if_neg (fun z => z hv)]
                  exact if_neg hbig
                rw [x]
                have z := many_ok co cc (aw (kM M))
                exact ⟨_, rfl, rfl, z.1, z.2⟩))
    · refine x_bipush dX7_ways_48 (by decide) ?_
      refine x_iret dX7_ways_50 rfl ?_
      rw [← hQ]
      rcases hv with ⟨rfl, hv⟩ | ⟨rfl, hv, hp⟩
      · first
        | (exfalso; omega)
        | (have x : (s_ways M) = (0, fun L => m_up L 0 3 0) := by
             unfold s_ways
             exact if_pos hv
           rw [x]
           have z := many_ok co cc 0
           exact ⟨_, rfl, rfl, z.1, z.2⟩)
      · first
        | (have hbig : 1000000000000000 < aw (kM M) := by omega
           have x : (s_ways M) = (-6, fun L => L) := by
             unfold s_ways
             rw [if_neg (fun z => z hv)]
             exact if_pos hbig
           rw [x]
           exact ⟨_, rfl, rfl, co, cc⟩)
        | (have hbig : ¬ 1000000000000000 < aw (kM M) := by omega
           have hp2 := hp (by omega)
           first
           | (exfalso; omega)
           | (have x : (s_ways M) = (1, fun L => m_up L 0 3 (aw (kM M))) := by
                unfold s_ways
                rw [if_neg (fun z => z hv)]
                exact if_neg hbig
              rw [x]
              have z := many_ok co cc (aw (kM M))
              exact ⟨_, rfl, rfl, z.1, z.2⟩))
  have body : ∀ J K S, CO J K S M N h h' → CC J K S M h → J 0 10 = 1 → J 0 11 = 1 → okA M = true → ∀ z : Int, Rn G mtX7_ways Q 9 [(0, mr 0), (1, ml z)] [] shX J K S := by
    intro J K S co cc h10 h11 hok z
    have hR := co.1
    have r8 := co.2.1.1
    have r9 := co.2.1.2.1
    have hh := hR.h h32
    obtain ⟨na, nb, nk, tw⟩ := co.2.2.1
    obtain ⟨m12, m15⟩ := co.2.2.2.1
    obtain ⟨c1, c2, n, c3, c4, -, c6⟩ := cc.2 h10
    obtain ⟨fit, st, nt⟩ := c6 h11
    have hp := hR.p (Or.inl rfl)
    have hn3 : J 42 3 = (n : Int) := c3.1.1.2.2.2.2.1
    have hn2 := (PQ_n c3.1.1).2
    have hus := PK_us c3.1
    have h34 := c3.1.2.2.2.1
    have hl : ((lst (kM M) : Nat) : Int) = M 0 14 := KA_lst iH
    have hu : ((us (kM M) : Nat) : Int) = M 0 13 := KA_us iH
    have k11 : kM M 0 11 = M 0 11 := kap_per (by unfold per; omega)
    have j0 : J h 0 = M 0 11 := co.2.2.2.2.2.1.1.1
    have j1 : J h 1 = M 0 12 := co.2.2.2.2.2.1.1.2.1
    have j3 : J h 3 = M 0 14 := co.2.2.2.2.2.1.1.2.2.2.1
    obtain ⟨tn, htn⟩ : ∃ tn : Nat, tn = lst (kM M) := ⟨_, rfl⟩
    have jl : J h 3 = (tn : Int) := by rw [htn]; exact j3.trans hl.symm
    have at49 : ∀ J' K' S', ((RFw S S' ∧ FIw J J' ∧ (rI (J' 19 12) ∧ rI (J' 19 15)) ∧ (∀ c i, ¬ (c = 29 ∨ c = 30 ∨ c = 31) → K' c i = K c i)) ∧ ∃ na nb nk, isW S' 42 na nb nk ∧ S' 42 0 = some h ∧ isH S' h ∧ PKR J' 42 h n (kM M) ∧ (∀ x : Nat, x < n → K' na (x : Int) = FA (kM M) tn (sgX J' 42 h x)) ∧ ∀ x : Nat, x < n → K' nk (x : Int) = RA (kM M) tn (sgX J' 42 h x)) → Rn G mtX7_ways Q 27 [(0, mr 0), (1, ml z)] [] shX J' K' S' := by
      rintro J' K' S' ⟨⟨w1, w2, w3, w4⟩, na, nb, nk, hW, u1, u2, u3, u4, u5⟩
      have wp : WP J K S J' K' S' := ⟨w2, w3, fun c i q => w4 c i (by omega), w1, na, nb, nk, hW.t⟩
      have co2 := co.wp wp
      have cc2 := cc.wp h32 wp
      have hR := co2.1
      have r8 := co2.2.1.1
      have hh := hR.h h32
      have hp := hR.p (Or.inl rfl)
      have hn3 : J' 42 3 = (n : Int) := u3.1.1.2.2.2.2.1
      have j0 : J' h 0 = M 0 11 := co2.2.2.2.2.2.1.1.1
      have hv : ∀ x : Nat, x < n → 0 ≤ K' na (x : Int) ∧ K' na (x : Int) ≤ 1000000000000001 := fun x hx => by rw [u4 x hx]; exact FA_r _ _ _
      have hv2 : ∀ x : Nat, x < n → 0 ≤ K' nk (x : Int) ∧ K' nk (x : Int) ≤ 1000000000000001 := fun x hx => by rw [u5 x hx]; exact RA_r _ _ _
      have ws := wi_sum u3 (t := tn) (by have := (PK_last u3.1).1; omega) u4 u5
      have awr := awF_r (kM M) (nst (kM M))
      have awr2 : 0 ≤ aw (kM M) ∧ aw (kM M) ≤ 1000000000000001 := awr
      have cok := cnt_ok c3.1.2.1 c3.1.2.2.1 fit
      have ple := fun ha => part_le c3.1.2.1 c3.1.2.2.1 (t := tn) (by omega) ha
      refine x_aload_n dX7_ways_27 0 rfl rfl ?_
      refine x_getR dX7_ways_28 flX7_31 rfl rfl (hR 0 3 19 rfl) ?_
      refine x_aload_n dX7_ways_31 0 rfl rfl ?_
      refine x_getR dX7_ways_32 flX7_50 rfl rfl (hR 0 4 42 rfl) ?_
      refine x_iconst dX7_ways_35 ?_
      refine x_callVl (as := [_, _]) dX7_ways_36 lvX7_215 rfl rfl rfl rfl rfl rfl rfl ⟨rfl, rfl⟩ (s_X6_waysIn hW hp hn3 hn2 (by omega) hv hv2) (fun z36 I36 L36 R36 hq36 => ?_)
      obtain ⟨rfl, rfl, rfl, rfl⟩ := hq36
      rw [ws.1]
      refine x_lstore_n (lv' := [(0, _), (1, _)]) dX7_ways_39 rfl rfl rfl ?_
      exact at40 _ _ _ _ co2 cc2 (Or.inr ⟨rfl, fit, fun z => (cok z).1⟩)
    refine x_aload_n dX7_ways_9 0 rfl rfl ?_
    refine x_getR dX7_ways_10 flX7_31 rfl rfl (hR 0 3 19 rfl) ?_
    refine x_aload_n dX7_ways_13 0 rfl rfl ?_
    refine x_getR dX7_ways_14 flX7_50 rfl rfl (hR 0 4 42 rfl) ?_
    refine x_aload_n dX7_ways_17 0 rfl rfl ?_
    refine x_getR dX7_ways_18 flX7_38 rfl rfl r8 ?_
    refine x_getI dX7_ways_21 flX7_208 (shH0 hh) rfl ?_
    rw [jl]
    refine x_callVv (as := [_, _]) dX7_ways_24 lvX7_211 rfl rfl rfl rfl rfl rfl rfl ⟨rfl, rfl⟩ (s_X6_weigh hR tw hp c1 hh c3 m12 st m15 (by omega)) (fun I24 L24 R24 hq24 => ?_)
    skip
    exact at49 _ _ _ hq24
  refine x_lconst 0 dX7_ways_0 rfl ?_
  refine x_lstore_n (lv' := [(0, _), (1, _)]) dX7_ways_1 rfl rfl rfl ?_
  refine x_aload_n dX7_ways_2 0 rfl rfl ?_
  refine x_callVi (as := []) dX7_ways_3 lvX7_205 rfl rfl rfl rfl rfl rfl rfl ⟨rfl, rfl⟩ (s_X7_knowsWays co0 cc0) (fun z3 I3 L3 R3 hq3 => ?_)
  obtain ⟨rfl, co1, cc1, kw, hK⟩ := hq3
  refine y_ifb_eq (tgt := 40) dX7_ways_6 (by decide) (fun h6 => ?_) (fun h6 => ?_)
  · exact at40 _ _ _ _ co1 cc1 (Or.inl ⟨rfl, fun z => absurd ((okA_eq iE iL).mpr z) (by assumption)⟩)
  · exact body _ _ _ co1 cc1 (kw (by assumption)).1 (kw (by assumption)).2 (by assumption) _
end

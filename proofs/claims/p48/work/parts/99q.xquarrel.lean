/-! THE CLASS'S FACE: quarrel. -/
theorem tbl_tb (x : Int) {k : Nat} (hk : k < 32) : tbl x k = tb x k := by
  simp only [tb, tbl, Int32.toBitVec_ofInt, Int64.toBitVec_ofInt, BitVec.getLsbD, BitVec.toNat_ofInt]
  have e : (x % ((2 ^ 32 : Nat) : Int)).toNat = (x % ((2 ^ 64 : Nat) : Int)).toNat % 2 ^ 32 := by omega
  rw [e, Nat.testBit_mod_two_pow, decide_eq_true hk, Bool.true_and]
theorem tb_m24 : ∀ n : Nat, n < 25 → ∀ k : Nat, k < 32 → tb (z_shl 1 (n : Int) - 1) k = decide (k < n) := by decide +kernel
theorem sh_24 : ∀ n : Nat, n < 25 → z_shll 1 (n : Int) = z_shl 1 (n : Int) ∧ 0 ≤ z_shl 1 (n : Int) - 1 ∧ z_shl 1 (n : Int) - 1 ≤ 2147483647 := by decide +kernel
theorem smi_lt (n : Nat) : ∀ m, smi (fun k => if k < n then (1 : Int) else 0) m = ((min m n : Nat) : Int)
  | 0 => by
    show (0 : Int) = _
    omega
  | m + 1 => by
    unfold smi
    rw [smi_lt n m]
    split <;> omega
theorem rest_bits {n : Nat} (hn : n < 25) {q : Int} (hq : rI q) (hb : ∀ k, n ≤ k → k < 32 → tb q k = false) : pc (z_and (z_shl 1 (n : Int) - 1) (z_xor q (-1))) = (n : Int) - pc q ∧ z_landl (z_shll 1 (n : Int) - 1) (z_xor q (-1)) = z_and (z_shl 1 (n : Int) - 1) (z_xor q (-1)) ∧ 0 ≤ z_and (z_shl 1 (n : Int) - 1) (z_xor q (-1)) ∧ z_and (z_shl 1 (n : Int) - 1) (z_xor q (-1)) ≤ 2147483647 := by
  obtain ⟨s1, s2, s3⟩ := sh_24 n hn
  have hx : ∀ k, k < 32 → tb (z_and (z_shl 1 (n : Int) - 1) (z_xor q (-1))) k = (decide (k < n) && !tb q k) := fun k hk => by
    rw [tb_and, tb_m24 n hn k hk, tb_xor, tb_m1 hk, Bool.xor_true]
  have rx := z_and_r (z_shl 1 (n : Int) - 1) (z_xor q (-1))
  have x0 : 0 ≤ z_and (z_shl 1 (n : Int) - 1) (z_xor q (-1)) := (tb_nn rx).mpr (by rw [hx 31 (by omega), decide_eq_false (by omega)]; rfl)
  have q0 : 0 ≤ q := (tb_nn hq).mpr (hb 31 (by omega) (by omega))
  refine ⟨?_, ?_, x0, rx.2⟩
  · rw [pc_smi ⟨x0, rx.2⟩, pc_smi ⟨q0, hq.2⟩]
    have e := smi_add (fun k => if tb (z_and (z_shl 1 (n : Int) - 1) (z_xor q (-1))) k = true then (1 : Int) else 0) (fun k => if tb q k = true then 1 else 0) 32
    have e2 : smi (fun k => (if tb (z_and (z_shl 1 (n : Int) - 1) (z_xor q (-1))) k = true then (1 : Int) else 0) + (if tb q k = true then 1 else 0)) 32 = smi (fun k => if k < n then (1 : Int) else 0) 32 := smi_cg _ (fun k hk => by
      show (if tb (z_and (z_shl 1 (n : Int) - 1) (z_xor q (-1))) k = true then (1 : Int) else 0) + (if tb q k = true then 1 else 0) = if k < n then 1 else 0
      rw [hx k hk]
      by_cases y : k < n
      · rw [if_pos y, decide_eq_true y, Bool.true_and]
        cases tb q k <;> decide
      · rw [if_neg y, decide_eq_false y, hb k (by omega) hk]
        decide)
    rw [e2, smi_lt] at e
    omega
  · refine tbl_ext (z_landl_r _ _) (by have := rx; omega) (fun k hk => ?_)
    by_cases h32 : k < 32
    · rw [tbl_and, s1, tbl_tb _ h32, tbl_tb _ h32, tbl_tb _ h32, tb_and]
    · have hi : ∀ y : Int, 0 ≤ y ∧ y ≤ 2147483647 → tbl y k = false := fun y hy => by
        rw [tbl_int (by omega)]
        have h1 : 2 ^ 32 ≤ 2 ^ k := Nat.pow_le_pow_right (by omega) (by omega)
        exact Nat.testBit_lt_two_pow (by omega)
      rw [tbl_and, s1, hi _ ⟨s2, s3⟩, Bool.false_and, hi _ ⟨x0, rx.2⟩]
theorem gd_any {M : MI} (hE : iEvs M) (hL : iEvL M) (wo : Int) : gd M wo (M 0 13) = true := by
  unfold gd
  rw [al_iff]
  intro e he
  unfold gdF
  have p11 : ∀ j, pm M 11 j = M 11 j := fun j => pm_at (by unfold per; omega)
  rw [p11, p11]
  by_cases q : M 11 (4 * (e : Int) + 0) = 3
  · rw [decide_eq_true ((hL (e : Int) (by omega) (by omega)).2.2.2.2 q), Bool.or_true]
  · rw [decide_eq_false q, Bool.not_false, Bool.or_true, Bool.true_or]
theorem quW_i (M : MI) : ∀ n, rI (quW M n)
  | 0 => by unfold quW; omega
  | n + 1 => by unfold quW; exact z_or_r _ _
section
variable {G : GT} {I L M N : MI} {R : MR} {h h' : Nat}

theorem s_X7_quarrel  (co0 : CO I L R M N h h') (cc0 : CC I L R M h) : Sp G mtX7_quarrel [mr 0] shX I L R (qi (fun z I' L' R' => z = (s_quarrel M).1 ∧ CO I' L' R' M ((s_quarrel M).2 N) h h' ∧ CC I' L' R' M h)) := by
  refine Sp.of pnX7_quarrel rfl ?_
  show Rn G mtX7_quarrel _ 0 [(0, mr 0)] [] shX I L R
  generalize hQ : (qi (fun z I' L' R' => z = (s_quarrel M).1 ∧ CO I' L' R' M ((s_quarrel M).2 N) h h' ∧ CC I' L' R' M h)) = Q
  have hR := co0.1
  have r8 := co0.2.1.1
  have r9 := co0.2.1.2.1
  have h32 := co0.h32
  have hh := hR.h h32
  obtain ⟨iH, iE, iL, iR, iT⟩ := co0.2.2.2.2.1
  have hrl := co0.2.2.2.2.2.1.1
  have q0 := hrl.1
  have q1 := hrl.2.1
  have q2 := hrl.2.2.1
  have q3 := hrl.2.2.2.1
  have b0 := iH.1
  have b1 := iH.2.1
  have b2 := iH.2.2.1
  have b3 := iH.2.2.2.1
  obtain ⟨W, hW⟩ : ∃ W : Nat, M 0 25 = (W : Int) := ⟨(M 0 25).toNat, by have := iE.1; omega⟩
  have w24 : W ≤ 24 := by have := iE.1; omega
  have lp : ¬ okA M = true → ∀ e : Nat, e ≤ W → ∀ J K S, CO J K S M N h h' → CC J K S M h → Rn G mtX7_quarrel Q 14 [(0, mr 0), (1, mi (quW M e)), (2, mi (e : Int))] [] shX J K S := by
    intro hno
    refine lpn W (fun e he ih => ?_) ?_
    · intro J K S co cc
      have hR := co.1
      have r8 := co.2.1.1
      have r9 := co.2.1.2.1
      have hh := hR.h h32
      have j2 : J h 2 = M 0 13 := co.2.2.2.2.2.1.1.2.2.1
      have j4 : J h 4 = orf (bdF M) (M 0 12).toNat := co.2.2.2.2.2.1.1.2.2.2.2
      have j25 : J 58 0 = M 0 25 := co.2.2.2.2.2.2.1.1
      obtain ⟨op, o3, o2, -, -⟩ := co.2.2.2.2.2.1.ok iH
      have es : quW M (e + 1) = z_or (quW M e) (if fst0 (kap M (z_or (quW M e) (z_shl 1 (e : Int))) (M 0 13)) ≠ -9 then z_shl 1 (e : Int) else 0) := rfl
      have at50 : ∀ J1, MK 50 h (M 0 13) (J h 4) J J1 → Rn G mtX7_quarrel Q 50 [(0, mr 0), (1, mi (quW M e)), (2, mi (e : Int))] [] shX J1 K (m_up S 50 0 (some h)) := by
        intro J1 mk
        generalize hS1 : m_up S 50 0 (some h) = S1
        obtain ⟨hR, ⟨r8, r9⟩, ev, u1, ph3⟩ := trial_pre co ⟨by omega, by omega⟩ mk hS1.symm
        have hh := hR.h h32
        have hp := hR.p (h := 50) (Or.inr rfl)
        have hn := hR.n (h := 58) (Or.inl rfl)
        have at66 : ∀ T, T = tkF J1 50 58 (z_or (quW M e) (z_shl 1 (e : Int))) (J1 58 0).toNat → Rn G mtX7_quarrel Q 66 [(0, mr 0), (1, mi (quW M e)), (2, mi (e : Int))] [] shX T K S1 := by
          intro T hT
          obtain ⟨co3, cc3, -, t4, ⟨n, pk3⟩, p4, p2, d13⟩ := trial_ok co cc ⟨by omega, by omega⟩ mk hT hS1.symm
          obtain ⟨na, nb, nk, tw⟩ := co3.2.2.1
          obtain ⟨m12, m15⟩ := co3.2.2.2.1
          have g01 : T 50 4 = 0 ∨ T 50 4 = 1 := by rw [p4]; have := b01_r (gd M (z_or (quW M e) (z_shl 1 (e : Int))) (M 0 13) = true); omega
          have pkr := lay_PKR pk3 (p2.trans j4) d13 iH
          have fe := s_X6_firstEmpty (G := G) (L := K) (kp := 0) hR tw hp ph3 hh pkr m12 (Or.inl rfl) g01
          have zv : (if T 50 4 = 0 then 0 else fst0 (kap M (z_or (quW M e) (z_shl 1 (e : Int))) (M 0 13))) = -9 ↔ gd M (z_or (quW M e) (z_shl 1 (e : Int))) (M 0 13) = true ∧ fst0 (kap M (z_or (quW M e) (z_shl 1 (e : Int))) (M 0 13)) = -9 := by
            by_cases q : gd M (z_or (quW M e) (z_shl 1 (e : Int))) (M 0 13) = true
            · rw [if_neg (show ¬ T 50 4 = 0 by rw [p4, ← b01_t q]; decide)]
              exact ⟨fun z => ⟨q, z⟩, fun z => z.2⟩
            · rw [if_pos (show T 50 4 = 0 by rw [p4, ← b01_f q])]
              exact ⟨fun z => by omega, fun z => absurd z.1 q⟩
          have zr : rI (if T 50 4 = 0 then 0 else fst0 (kap M (z_or (quW M e) (z_shl 1 (e : Int))) (M 0 13))) := by
            have := fst0_b (kap M (z_or (quW M e) (z_shl 1 (e : Int))) (M 0 13))
            have := KA_lst iH (wo := (z_or (quW M e) (z_shl 1 (e : Int)))) (k := (M 0 13))
            split <;> omega
          refine x_aload_n dX7_quarrel_66 0 rfl rfl ?_
          refine x_getR dX7_quarrel_67 flX7_31 rfl rfl (hR 0 3 19 rfl) ?_
          refine x_aload_n dX7_quarrel_70 0 rfl rfl ?_
          refine x_getR dX7_quarrel_71 flX7_54 rfl rfl (hR 0 5 50 rfl) ?_
          refine x_iconst dX7_quarrel_74 ?_
          refine x_callVi (as := [_, _]) dX7_quarrel_75 lvX7_201 rfl rfl rfl rfl rfl rfl rfl ⟨rfl, rfl⟩ (fe) (fun z75 I75 L75 R75 hq75 => ?_)
          have z9 := fe_ok co3 cc3 hq75
          have zz := hq75.1
          refine x_bipush dX7_quarrel_78 (by decide) ?_
          rw [zz]
          refine x_ic_eq (tgt := 89) dX7_quarrel_80 (by decide) (by omega) (fun h80 => ?_) (fun h80 => ?_)
          · refine x_iinc (lv' := [(0, _), (1, _), (2, _)]) dX7_quarrel_89 2 rfl rfl rfl ?_
            refine x_goto (tgt := 14) dX7_quarrel_92 (by decide) ?_
            first
            | (have hz : (if T 50 4 = 0 then 0 else fst0 (kap M (z_or (quW M e) (z_shl 1 (e : Int))) (M 0 13))) = -9 := by assumption
               rw [if_neg (fun y => y (zv.mp hz).2), z_or_0 (quW_i M e)] at es
               have nx := ih _ _ _ z9.1 z9.2
               rw [es] at nx
               exact nx)
            | (have hz : ¬ (if T 50 4 = 0 then 0 else fst0 (kap M (z_or (quW M e) (z_shl 1 (e : Int))) (M 0 13))) = -9 := by assumption
               rw [if_pos (fun y => hz (zv.mpr ⟨gd_any iE iL _, y⟩))] at es
               have nx := ih _ _ _ z9.1 z9.2
               rw [es] at nx
               exact nx)
          · refine x_iload_n dX7_quarrel_83 1 rfl rfl ?_
            refine x_iconst dX7_quarrel_84 ?_
            refine x_iload_n dX7_quarrel_85 2 rfl rfl ?_
            refine x_ishl dX7_quarrel_86 ?_
            refine x_ior dX7_quarrel_87 ?_
            refine x_istore_n (lv' := [(0, _), (1, _), (2, _)]) dX7_quarrel_88 rfl rfl rfl ?_
            refine x_iinc (lv' := [(0, _), (1, _), (2, _)]) dX7_quarrel_89 2 rfl rfl rfl ?_
            refine x_goto (tgt := 14) dX7_quarrel_92 (by decide) ?_
            first
            | (have hz : (if T 50 4 = 0 then 0 else fst0 (kap M (z_or (quW M e) (z_shl 1 (e : Int))) (M 0 13))) = -9 := by assumption
               rw [if_neg (fun y => y (zv.mp hz).2), z_or_0 (quW_i M e)] at es
               have nx := ih _ _ _ z9.1 z9.2
               rw [es] at nx
               exact nx)
            | (have hz : ¬ (if T 50 4 = 0 then 0 else fst0 (kap M (z_or (quW M e) (z_shl 1 (e : Int))) (M 0 13))) = -9 := by assumption
               rw [if_pos (fun y => hz (zv.mpr ⟨gd_any iE iL _, y⟩))] at es
               have nx := ih _ _ _ z9.1 z9.2
               rw [es] at nx
               exact nx)
        refine x_aload_n dX7_quarrel_50 0 rfl rfl ?_
        refine x_getR dX7_quarrel_51 flX7_54 rfl rfl (hR 0 5 50 rfl) ?_
        refine x_aload_n dX7_quarrel_54 0 rfl rfl ?_
        refine x_getR dX7_quarrel_55 flX7_60 rfl rfl (hR 0 6 58 rfl) ?_
        refine x_iload_n dX7_quarrel_58 1 rfl rfl ?_
        refine x_iconst dX7_quarrel_59 ?_
        refine x_iload_n dX7_quarrel_60 2 rfl rfl ?_
        refine x_ishl dX7_quarrel_61 ?_
        refine x_ior dX7_quarrel_62 ?_
        refine x_callVv (as := [_, _]) dX7_quarrel_63 lvX7_198 rfl rfl rfl rfl rfl rfl rfl ⟨rfl, rfl⟩ (s_X3_take hp hn ev.1 ev.2 u1) (fun I63 L63 R63 hq63 => ?_)
        obtain ⟨w63, rfl, rfl⟩ := hq63
        exact at66 _ w63
      refine x_iload_n dX7_quarrel_14 2 rfl rfl ?_
      refine x_aload_n dX7_quarrel_15 0 rfl rfl ?_
      refine x_getR dX7_quarrel_16 flX7_60 rfl rfl (hR 0 6 58 rfl) ?_
      refine x_getI dX7_quarrel_19 flX7_124 rfl rfl ?_
      rw [j25, hW]
      refine x_ic_ge (tgt := 95) dX7_quarrel_22 (by decide) (by omega) (fun h22 => ?_) (fun h22 => ?_)
      · exfalso; omega
      · refine x_aload_n dX7_quarrel_25 0 rfl rfl ?_
        refine x_getR dX7_quarrel_26 flX7_54 rfl rfl (hR 0 5 50 rfl) ?_
        refine x_aload_n dX7_quarrel_29 0 rfl rfl ?_
        refine x_getR dX7_quarrel_30 flX7_38 rfl rfl r8 ?_
        refine x_aload_n dX7_quarrel_33 0 rfl rfl ?_
        refine x_getR dX7_quarrel_34 flX7_38 rfl rfl r8 ?_
        refine x_getI dX7_quarrel_37 flX7_189 (shH0 hh) rfl ?_
        refine x_aload_n dX7_quarrel_40 0 rfl rfl ?_
        refine x_getR dX7_quarrel_41 flX7_38 rfl rfl r8 ?_
        refine x_getI dX7_quarrel_44 flX7_192 (shH0 hh) rfl ?_
        rw [j2]
        refine x_callVv (as := [_, _, _]) dX7_quarrel_47 lvX7_195 rfl rfl rfl rfl rfl rfl rfl ⟨rfl, rfl⟩ (s_X3_make (hR.p (h := 50) (Or.inr rfl)) hh op o3 (by omega)) (fun I47 L47 R47 hq47 => ?_)
        obtain ⟨rfl, rfl, mk47⟩ := hq47
        exact at50 _ mk47
    · intro J K S co cc
      have hR := co.1
      have r8 := co.2.1.1
      have r9 := co.2.1.2.1
      have hh := hR.h h32
      have j2 : J h 2 = M 0 13 := co.2.2.2.2.2.1.1.2.2.1
      have j4 : J h 4 = orf (bdF M) (M 0 12).toNat := co.2.2.2.2.2.1.1.2.2.2.2
      have j25 : J 58 0 = M 0 25 := co.2.2.2.2.2.2.1.1
      obtain ⟨op, o3, o2, -, -⟩ := co.2.2.2.2.2.1.ok iH
      obtain ⟨b1, b2, b3, b4⟩ := rest_bits (n := W) (by omega) (quW_i M W) (fun k h1 h2 => quW_b M W k w24 h1 h2)
      have x : s_quarrel M = ((W : Int) - pc (quW M W), fun L => m_up L 0 3 (z_landl (z_shll 1 (W : Int) - 1) (z_xor (quW M W) (-1)))) := by
        unfold s_quarrel
        rw [if_neg hno, hW]
        rfl
      have mo := many_ok co cc (z_and (z_shl 1 (W : Int) - 1) (z_xor (quW M W) (-1)))
      refine x_iload_n dX7_quarrel_14 2 rfl rfl ?_
      refine x_aload_n dX7_quarrel_15 0 rfl rfl ?_
      refine x_getR dX7_quarrel_16 flX7_60 rfl rfl (hR 0 6 58 rfl) ?_
      refine x_getI dX7_quarrel_19 flX7_124 rfl rfl ?_
      rw [j25, hW]
      refine x_ic_ge (tgt := 95) dX7_quarrel_22 (by decide) (by omega) (fun h22 => ?_) (fun h22 => ?_)
      · refine x_iconst dX7_quarrel_95 ?_
        refine x_aload_n dX7_quarrel_96 0 rfl rfl ?_
        refine x_getR dX7_quarrel_97 flX7_60 rfl rfl (hR 0 6 58 rfl) ?_
        refine x_getI dX7_quarrel_100 flX7_124 rfl rfl ?_
        rw [j25, hW]
        refine x_ishl dX7_quarrel_103 ?_
        refine x_iconst dX7_quarrel_104 ?_
        refine x_isub dX7_quarrel_105 ?_
        refine x_iload_n dX7_quarrel_106 1 rfl rfl ?_
        refine x_iconst dX7_quarrel_107 ?_
        refine x_ixor dX7_quarrel_108 ?_
        refine x_iand dX7_quarrel_109 ?_
        refine x_istore_n (lv' := [(0, _), (1, _), (2, _)]) dX7_quarrel_110 rfl rfl rfl ?_
        refine x_aload_n dX7_quarrel_111 0 rfl rfl ?_
        refine x_iload_n dX7_quarrel_112 2 rfl rfl ?_
        refine x_i2l dX7_quarrel_113 (by omega) ?_
        refine x_putL dX7_quarrel_114 flX7_221 rfl rfl rfl ?_
        refine x_iload_n dX7_quarrel_117 2 rfl rfl ?_
        refine x_callSi (as := [_]) dX7_quarrel_118 lvX7_319 rfl rfl rfl rfl ⟨rfl, rfl⟩ (s_J6_bitCount ⟨b3, b4⟩) (fun z118 I118 L118 R118 hq118 => ?_)
        obtain ⟨rfl, rfl, rfl, rfl⟩ := hq118
        refine x_iret dX7_quarrel_121 rfl ?_
        rw [← hQ, x]
        rw [← b2] at mo ⊢
        exact ⟨_, rfl, by rw [b2]; exact b1, mo.1, mo.2⟩
      · exfalso; omega
  have body : ∀ J K S, CO J K S M N h h' → CC J K S M h → ¬ okA M = true → Rn G mtX7_quarrel Q 10 [(0, mr 0)] [] shX J K S := by
    intro J K S co cc hno
    refine x_iconst dX7_quarrel_10 ?_
    refine x_istore_n (lv' := [(0, _), (1, _)]) dX7_quarrel_11 rfl rfl rfl ?_
    refine x_iconst dX7_quarrel_12 ?_
    refine x_istore_n (lv' := [(0, _), (1, _), (2, _)]) dX7_quarrel_13 rfl rfl rfl ?_
    exact lp hno 0 (by omega) _ _ _ co cc
  refine x_aload_n dX7_quarrel_0 0 rfl rfl ?_
  refine x_callVi (as := []) dX7_quarrel_1 lvX7_179 rfl rfl rfl rfl rfl rfl rfl ⟨rfl, rfl⟩ (s_X7_canBe co0 cc0) (fun z1 I1 L1 R1 hq1 => ?_)
  obtain ⟨rfl, co1, cc1, h10, hK⟩ := hq1
  refine y_ifb_eq (tgt := 10) dX7_quarrel_4 (by decide) (fun h4 => ?_) (fun h4 => ?_)
  · exact body _ _ _ co1 cc1 (by assumption)
  · refine x_bipush dX7_quarrel_7 (by decide) ?_
    refine x_iret dX7_quarrel_9 rfl ?_
    rw [← hQ]
    have x : s_quarrel M = (-4, fun L => L) := by
      unfold s_quarrel
      exact if_pos (by assumption)
    rw [x]
    exact ⟨_, rfl, rfl, co1, cc1⟩
end

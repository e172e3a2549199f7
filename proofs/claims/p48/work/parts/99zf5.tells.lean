/-! THE LAW'S OWN METHODS: tells. -/
/-- an event by numbers, as a house allows it -/
def EvO (hv : Int → Int) (R D W T : Nat) (k a b t : Int) : Prop := (1 ≤ k ∧ k ≤ 5) ∧ (k = 1 → (0 ≤ a ∧ a < D) ∧ bt_ hv a.toNat = 1 ∧ 0 ≤ t ∧ t < T) ∧ (k = 5 → (0 ≤ a ∧ a < D) ∧ 0 ≤ t ∧ t ≤ b ∧ b < T) ∧ ((k = 2 ∨ k = 3 ∨ k = 4) → (0 ≤ a ∧ a < R) ∧ 0 ≤ t ∧ t ≤ T) ∧ (k = 3 → 0 ≤ b ∧ b < W) ∧ (0 ≤ b ∧ b ≤ 30)
theorem wr4 {f0 f1 f2 f3 f4 : Int → Int} {e k a b t : Int} (h1 : ∀ y, f1 y = if y = 4 * e then k else f0 y) (h2 : ∀ y, f2 y = if y = 4 * e + 1 then a else f1 y) (h3 : ∀ y, f3 y = if y = 4 * e + 2 then b else f2 y) (h4 : ∀ y, f4 y = if y = 4 * e + 3 then t else f3 y) : f4 (4 * e) = k ∧ f4 (4 * e + 1) = a ∧ f4 (4 * e + 2) = b ∧ f4 (4 * e + 3) = t ∧ ∀ y, y < 4 * e → f4 y = f0 y := by
  refine ⟨?_, ?_, ?_, ?_, fun y hy => ?_⟩
  · rw [h4, if_neg (by omega), h3, if_neg (by omega), h2, if_neg (by omega), h1, if_pos rfl]
  · rw [h4, if_neg (by omega), h3, if_neg (by omega), h2, if_pos rfl]
  · rw [h4, if_neg (by omega), h3, if_pos rfl]
  · rw [h4, if_pos rfl]
  · rw [h4, if_neg (by omega), h3, if_neg (by omega), h2, if_neg (by omega), h1, if_neg (by omega)]
theorem wr5 {f0 f4 f5 : Int → Int} {e k a b t b' : Int} (h : f4 (4 * e) = k ∧ f4 (4 * e + 1) = a ∧ f4 (4 * e + 2) = b ∧ f4 (4 * e + 3) = t ∧ ∀ y, y < 4 * e → f4 y = f0 y) (h5 : ∀ y, f5 y = if y = 4 * e + 2 then b' else f4 y) : f5 (4 * e) = k ∧ f5 (4 * e + 1) = a ∧ f5 (4 * e + 2) = b' ∧ f5 (4 * e + 3) = t ∧ ∀ y, y < 4 * e → f5 y = f0 y := by
  obtain ⟨a1, a2, a3, a4, a5⟩ := h
  refine ⟨?_, ?_, ?_, ?_, fun y hy => ?_⟩
  · rw [h5, if_neg (by omega), a1]
  · rw [h5, if_neg (by omega), a2]
  · rw [h5, if_pos rfl]
  · rw [h5, if_neg (by omega), a4]
  · rw [h5, if_neg (by omega), a5 y hy]
/-- three blocks, the script apart -/
theorem n_ap2i {h e n k : Nat} (q : h ≠ e) : n_ap [(h, [.inr (0, n)]), (e, [.inr (0, k)])] := by
  have l1 : ([.inr (0, n)] : MS).length = 1 := rfl
  have l2 : ([.inr (0, k)] : MS).length = 1 := rfl
  intro i j p s hi hj hn k l hk hl
  rcases i with _ | _ | i
  · rcases j with _ | _ | j
    · exact absurd rfl hn
    · cases hi; cases hj
      simp only [l1, l2] at hk hl ⊢
      omega
    · cases hj
  · rcases j with _ | _ | j
    · cases hi; cases hj
      simp only [l1, l2] at hk hl ⊢
      omega
    · exact absurd rfl hn
    · cases hj
  · cases hi
theorem emd {x y : Int} (hy : 0 < y) : 0 ≤ x % y ∧ x % y < y := ⟨Int.emod_nonneg _ (by omega), Int.emod_lt_of_pos _ hy⟩
def TlQ (hv : Int → Int) (R D W T e : Nat) (N0 : NM) (v : Option MV) (N : NM) : Prop := ∃ z : Int, v = some (mi z) ∧ (z = 0 ∨ z = 1) ∧ N 0 = N0 0 ∧ (∀ y : Int, y < 4 * (e : Int) → (N 1).1 0 y = (N0 1).1 0 y) ∧ (z = 1 → EvO hv R D W T ((N 1).1 0 (4 * (e : Int))) ((N 1).1 0 (4 * (e : Int) + 1)) ((N 1).1 0 (4 * (e : Int) + 2)) ((N 1).1 0 (4 * (e : Int) + 3)))

theorem c_tells {G : GT} {a L hh ee e : Nat} {xs : Nat → Int32} {N0 : NM} {R D W T : Nat} {k0 : Int} (hL : L ≤ 260) (hah : a ≠ hh) (hae : a ≠ ee) (hhe : hh ≠ ee) (he : e ≤ 10) (hk0 : 0 ≤ k0 ∧ k0 ≤ 150) (ok : HOK ((N0 0).1 0) R D W T) : n_Spec G mtL_tells (some (a, L, xs)) [mr a, mi k0, mr hh, mr ee, mi (e : Int)] [(hh, [.inr (0, 64)]), (ee, [.inr (0, 48)])] N0 (TlQ ((N0 0).1 0) R D W T e N0) := by
  refine n_Spec.of pnL_tells rfl (fun i q h k hk => ?_) ?_
  · rcases i with _ | _ | i
    · cases h
      have hk : k < 1 := hk
      show a ≠ hh + k
      omega
    · cases h
      have hk : k < 1 := hk
      show a ≠ ee + k
      omega
    · cases h
  show n_Run G mtL_tells _ _ (some (a, L, xs)) [(hh, [.inr (0, 64)]), (ee, [.inr (0, 48)])] 0 0 0 [(0, mr a), (1, mi k0), (2, mr hh), (3, mr ee), (4, mi (e : Int))] [] N0
  have hap := n_ap2i (n := 64) (k := 48) hhe
  generalize hQ : TlQ ((N0 0).1 0) R D W T e N0 = Q
  obtain ⟨hR, hD, hW, hT, ⟨g0, g1, g2, g3, g4⟩, gd, gw⟩ := ok
  have v0 : ∀ {K : NM}, K 0 = N0 0 → (K 0).1 0 0 = (R : Int) := fun e => by rw [e]; exact g0
  have v1 : ∀ {K : NM}, K 0 = N0 0 → (K 0).1 0 1 = (D : Int) := fun e => by rw [e]; exact g1
  have v2 : ∀ {K : NM}, K 0 = N0 0 → (K 0).1 0 2 = (W : Int) := fun e => by rw [e]; exact g2
  have v3 : ∀ {K : NM}, K 0 = N0 0 → (K 0).1 0 3 = (T : Int) := fun e => by rw [e]; exact g3
  have v4 : ∀ {K : NM}, K 0 = N0 0 → (K 0).1 0 4 = (N0 0).1 0 4 := fun e => by rw [e]
  have at34 : ∀ kd dr : Int, (1 ≤ kd ∧ kd ≤ 5) → (0 ≤ dr ∧ dr ≤ D) → n_Run G mtL_tells mtL_tells.rm (n_Zc G mtL_tells [(hh, [.inr (0, 64)]), (ee, [.inr (0, 48)])] Q) (some (a, L, xs)) [(hh, [.inr (0, 64)]), (ee, [.inr (0, 48)])] 0 0 34 [(0, mr a), (1, mi k0), (2, mr hh), (3, mr ee), (4, mi (e : Int)), (5, mi kd), (6, mi (T : Int)), (7, mi dr), (8, mi 1)] [] N0 := by
    intro kd dr hkd hdr
    have kN0 : N0 0 = N0 0 := rfl
    have c : kd = 1 ∨ kd = 2 ∨ kd = 3 ∨ kd = 4 ∨ kd = 5 := by omega
    rcases c with rfl | rfl | rfl | rfl | rfl
    · refine n_aload_n dL_tells_34 3 rfl rfl ?_
      refine n_iconst dL_tells_35 ?_
      refine n_iload dL_tells_36 4 rfl ?_
      refine n_imul dL_tells_38 ?_
      refine n_iload dL_tells_39 5 rfl ?_
      refine n_iasv (i := 1) (n := 48) dL_tells_41 hap rfl (by omega) (fun N41 hw41 ho41 => ?_)
      have kN41 : N41 0 = N0 0 := (ho41 0 (by decide)).trans kN0
      refine n_aload_n dL_tells_42 3 rfl rfl ?_
      refine n_iconst dL_tells_43 ?_
      refine n_iload dL_tells_44 4 rfl ?_
      refine n_imul dL_tells_46 ?_
      refine n_iconst dL_tells_47 ?_
      refine n_iadd dL_tells_48 ?_
      refine n_iload dL_tells_49 5 rfl ?_
      refine n_iconst dL_tells_51 ?_
      refine n_ic_eq (tgt := 61) dL_tells_52 (by decide) (by omega) (fun h52 => ?_) (fun h52 => ?_)
      · refine n_iload dL_tells_61 7 rfl ?_
        refine n_goto (tgt := 77) dL_tells_63 (by decide) ?_
        refine n_iasv (i := 1) (n := 48) dL_tells_77 hap rfl (by omega) (fun N77 hw77 ho77 => ?_)
        have kN77 : N77 0 = N0 0 := (ho77 0 (by decide)).trans kN41
        refine n_aload_n dL_tells_78 3 rfl rfl ?_
        refine n_iconst dL_tells_79 ?_
        refine n_iload dL_tells_80 4 rfl ?_
        refine n_imul dL_tells_82 ?_
        refine n_iconst dL_tells_83 ?_
        refine n_iadd dL_tells_84 ?_
        refine n_iconst dL_tells_85 ?_
        refine n_iasv (i := 1) (n := 48) dL_tells_86 hap rfl (by omega) (fun N86 hw86 ho86 => ?_)
        have kN86 : N86 0 = N0 0 := (ho86 0 (by decide)).trans kN77
        refine n_aload_n dL_tells_87 3 rfl rfl ?_
        refine n_iconst dL_tells_88 ?_
        refine n_iload dL_tells_89 4 rfl ?_
        refine n_imul dL_tells_91 ?_
        refine n_iconst dL_tells_92 ?_
        refine n_iadd dL_tells_93 ?_
        refine n_aload_n dL_tells_94 0 rfl rfl ?_
        refine n_iload_n dL_tells_95 1 rfl rfl ?_
        refine n_iconst dL_tells_96 ?_
        refine n_iadd dL_tells_97 ?_
        refine n_cell dL_tells_98 lvL_19 rfl hap rfl hL (by omega) rfl ⟨Nat.zero_le _, Nat.zero_le _⟩ (fun z98 hz98 => ?_)
        refine n_iload dL_tells_101 5 rfl ?_
        refine n_iconst dL_tells_103 ?_
        refine n_ic_eq (tgt := 113) dL_tells_104 (by decide) (by omega) (fun h104 => ?_) (fun h104 => ?_)
        · refine n_iload dL_tells_113 6 rfl ?_
          refine n_goto (tgt := 122) dL_tells_115 (by decide) ?_
          refine n_mod dL_tells_122 (by omega) (by omega) ?_
          refine n_iasv (i := 1) (n := 48) dL_tells_123 hap rfl (by omega) (fun N123 hw123 ho123 => ?_)
          have kN123 : N123 0 = N0 0 := (ho123 0 (by decide)).trans kN86
          refine n_iload dL_tells_124 5 rfl ?_
          refine n_iconst dL_tells_126 ?_
          refine n_ic_ne (tgt := 160) dL_tells_127 (by decide) (by omega) (fun h127 => ?_) (fun h127 => ?_)
          · exfalso; omega
          · refine n_iload dL_tells_130 7 rfl ?_
            refine n_aload_n dL_tells_132 2 rfl rfl ?_
            refine n_iconst dL_tells_133 ?_
            refine n_ialdv (i := 0) (n := 64) dL_tells_134 rfl (by omega) (v1 kN123) ?_
            refine n_ic_ge (tgt := 154) dL_tells_135 (by decide) (by omega) (fun h135 => ?_) (fun h135 => ?_)
            · refine n_iconst dL_tells_154 ?_
              refine n_istore (lv' := [(0, _), (1, _), (2, _), (3, _), (4, _), (5, _), (6, _), (7, _), (8, _)]) dL_tells_155 rfl rfl ?_
              refine n_goto (tgt := 268) dL_tells_157 (by decide) ?_
              refine n_iload dL_tells_268 8 rfl ?_
              refine n_zret dL_tells_270 rfl (by omega) ?_
              rw [← hQ]
              have w := wr4 (f0 := (N0 1).1 0) hw41 hw77 hw86 hw123
              refine ⟨_, rfl, by omega, kN123, w.2.2.2.2, fun z1 => ?_⟩
              rw [w.1, w.2.1, w.2.2.1, w.2.2.2.1]
              first
              | (exfalso; omega)
              | (have m98 := emd (x := z98) (y := (T : Int)) (by omega)
                 refine ⟨by omega, fun _ => ⟨by omega, ?_, by omega⟩, fun z => by omega, fun z => by omega, fun z => by omega, by omega⟩
                 unfold bt_
                 rw [show ((dr.toNat : Nat) : Int) = dr by omega]
                 exact h147)
            · refine n_aload_n dL_tells_138 2 rfl rfl ?_
              refine n_iconst dL_tells_139 ?_
              refine n_ialdv (i := 0) (n := 64) dL_tells_140 rfl (by omega) (v4 kN123) ?_
              refine n_iload dL_tells_141 7 rfl ?_
              refine n_ishr dL_tells_143 ?_
              refine n_iconst dL_tells_144 ?_
              refine n_iand dL_tells_145 ?_
              refine n_iconst dL_tells_146 ?_
              refine n_ic_ne (tgt := 154) dL_tells_147 (by decide) (by exact ⟨z_and_r _ _, by omega⟩) (fun h147 => ?_) (fun h147 => ?_)
              · refine n_iconst dL_tells_154 ?_
                refine n_istore (lv' := [(0, _), (1, _), (2, _), (3, _), (4, _), (5, _), (6, _), (7, _), (8, _)]) dL_tells_155 rfl rfl ?_
                refine n_goto (tgt := 268) dL_tells_157 (by decide) ?_
                refine n_iload dL_tells_268 8 rfl ?_
                refine n_zret dL_tells_270 rfl (by omega) ?_
                rw [← hQ]
                have w := wr4 (f0 := (N0 1).1 0) hw41 hw77 hw86 hw123
                refine ⟨_, rfl, by omega, kN123, w.2.2.2.2, fun z1 => ?_⟩
                rw [w.1, w.2.1, w.2.2.1, w.2.2.2.1]
                first
                | (exfalso; omega)
                | (have m98 := emd (x := z98) (y := (T : Int)) (by omega)
                   refine ⟨by omega, fun _ => ⟨by omega, ?_, by omega⟩, fun z => by omega, fun z => by omega, fun z => by omega, by omega⟩
                   unfold bt_
                   rw [show ((dr.toNat : Nat) : Int) = dr by omega]
                   exact h147)
              · refine n_iconst dL_tells_150 ?_
                refine n_goto (tgt := 155) dL_tells_151 (by decide) ?_
                refine n_istore (lv' := [(0, _), (1, _), (2, _), (3, _), (4, _), (5, _), (6, _), (7, _), (8, _)]) dL_tells_155 rfl rfl ?_
                refine n_goto (tgt := 268) dL_tells_157 (by decide) ?_
                refine n_iload dL_tells_268 8 rfl ?_
                refine n_zret dL_tells_270 rfl (by omega) ?_
                rw [← hQ]
                have w := wr4 (f0 := (N0 1).1 0) hw41 hw77 hw86 hw123
                refine ⟨_, rfl, by omega, kN123, w.2.2.2.2, fun z1 => ?_⟩
                rw [w.1, w.2.1, w.2.2.1, w.2.2.2.1]
                first
                | (exfalso; omega)
                | (have m98 := emd (x := z98) (y := (T : Int)) (by omega)
                   refine ⟨by omega, fun _ => ⟨by omega, ?_, by omega⟩, fun z => by omega, fun z => by omega, fun z => by omega, by omega⟩
                   unfold bt_
                   rw [show ((dr.toNat : Nat) : Int) = dr by omega]
                   exact h147)
        · exfalso; omega
      · exfalso; omega
    · refine n_aload_n dL_tells_34 3 rfl rfl ?_
      refine n_iconst dL_tells_35 ?_
      refine n_iload dL_tells_36 4 rfl ?_
      refine n_imul dL_tells_38 ?_
      refine n_iload dL_tells_39 5 rfl ?_
      refine n_iasv (i := 1) (n := 48) dL_tells_41 hap rfl (by omega) (fun N41 hw41 ho41 => ?_)
      have kN41 : N41 0 = N0 0 := (ho41 0 (by decide)).trans kN0
      refine n_aload_n dL_tells_42 3 rfl rfl ?_
      refine n_iconst dL_tells_43 ?_
      refine n_iload dL_tells_44 4 rfl ?_
      refine n_imul dL_tells_46 ?_
      refine n_iconst dL_tells_47 ?_
      refine n_iadd dL_tells_48 ?_
      refine n_iload dL_tells_49 5 rfl ?_
      refine n_iconst dL_tells_51 ?_
      refine n_ic_eq (tgt := 61) dL_tells_52 (by decide) (by omega) (fun h52 => ?_) (fun h52 => ?_)
      · exfalso; omega
      · refine n_iload dL_tells_55 5 rfl ?_
        refine n_iconst dL_tells_57 ?_
        refine n_ic_ne (tgt := 66) dL_tells_58 (by decide) (by omega) (fun h58 => ?_) (fun h58 => ?_)
        · refine n_aload_n dL_tells_66 0 rfl rfl ?_
          refine n_iload_n dL_tells_67 1 rfl rfl ?_
          refine n_iconst dL_tells_68 ?_
          refine n_iadd dL_tells_69 ?_
          refine n_cell dL_tells_70 lvL_19 rfl hap rfl hL (by omega) rfl ⟨Nat.zero_le _, Nat.zero_le _⟩ (fun z70 hz70 => ?_)
          refine n_aload_n dL_tells_73 2 rfl rfl ?_
          refine n_iconst dL_tells_74 ?_
          refine n_ialdv (i := 0) (n := 64) dL_tells_75 rfl (by omega) (v0 kN41) ?_
          refine n_mod dL_tells_76 (by omega) (by omega) ?_
          refine n_iasv (i := 1) (n := 48) dL_tells_77 hap rfl (by omega) (fun N77 hw77 ho77 => ?_)
          have kN77 : N77 0 = N0 0 := (ho77 0 (by decide)).trans kN41
          refine n_aload_n dL_tells_78 3 rfl rfl ?_
          refine n_iconst dL_tells_79 ?_
          refine n_iload dL_tells_80 4 rfl ?_
          refine n_imul dL_tells_82 ?_
          refine n_iconst dL_tells_83 ?_
          refine n_iadd dL_tells_84 ?_
          refine n_iconst dL_tells_85 ?_
          refine n_iasv (i := 1) (n := 48) dL_tells_86 hap rfl (by omega) (fun N86 hw86 ho86 => ?_)
          have kN86 : N86 0 = N0 0 := (ho86 0 (by decide)).trans kN77
          refine n_aload_n dL_tells_87 3 rfl rfl ?_
          refine n_iconst dL_tells_88 ?_
          refine n_iload dL_tells_89 4 rfl ?_
          refine n_imul dL_tells_91 ?_
          refine n_iconst dL_tells_92 ?_
          refine n_iadd dL_tells_93 ?_
          refine n_aload_n dL_tells_94 0 rfl rfl ?_
          refine n_iload_n dL_tells_95 1 rfl rfl ?_
          refine n_iconst dL_tells_96 ?_
          refine n_iadd dL_tells_97 ?_
          refine n_cell dL_tells_98 lvL_19 rfl hap rfl hL (by omega) rfl ⟨Nat.zero_le _, Nat.zero_le _⟩ (fun z98 hz98 => ?_)
          refine n_iload dL_tells_101 5 rfl ?_
          refine n_iconst dL_tells_103 ?_
          refine n_ic_eq (tgt := 113) dL_tells_104 (by decide) (by omega) (fun h104 => ?_) (fun h104 => ?_)
          · exfalso; omega
          · refine n_iload dL_tells_107 5 rfl ?_
            refine n_iconst dL_tells_109 ?_
            refine n_ic_ne (tgt := 118) dL_tells_110 (by decide) (by omega) (fun h110 => ?_) (fun h110 => ?_)
            · refine n_iload dL_tells_118 6 rfl ?_
              refine n_iconst dL_tells_120 ?_
              refine n_iadd dL_tells_121 ?_
              refine n_mod dL_tells_122 (by omega) (by omega) ?_
              refine n_iasv (i := 1) (n := 48) dL_tells_123 hap rfl (by omega) (fun N123 hw123 ho123 => ?_)
              have kN123 : N123 0 = N0 0 := (ho123 0 (by decide)).trans kN86
              refine n_iload dL_tells_124 5 rfl ?_
              refine n_iconst dL_tells_126 ?_
              refine n_ic_ne (tgt := 160) dL_tells_127 (by decide) (by omega) (fun h127 => ?_) (fun h127 => ?_)
              · refine n_iload dL_tells_160 5 rfl ?_
                refine n_iconst dL_tells_162 ?_
                refine n_ic_ne (tgt := 220) dL_tells_163 (by decide) (by omega) (fun h163 => ?_) (fun h163 => ?_)
                · refine n_iload dL_tells_220 5 rfl ?_
                  refine n_iconst dL_tells_222 ?_
                  refine n_ic_ne (tgt := 268) dL_tells_223 (by decide) (by omega) (fun h223 => ?_) (fun h223 => ?_)
                  · refine n_iload dL_tells_268 8 rfl ?_
                    refine n_zret dL_tells_270 rfl (by omega) ?_
                    rw [← hQ]
                    have w := wr4 (f0 := (N0 1).1 0) hw41 hw77 hw86 hw123
                    refine ⟨_, rfl, by omega, kN123, w.2.2.2.2, fun z1 => ?_⟩
                    rw [w.1, w.2.1, w.2.2.1, w.2.2.2.1]
                    have m98 := emd (x := z98) (y := (T : Int) + 1) (by omega)
                    have m70 := emd (x := z70) (y := (R : Int)) (by omega)
                    exact ⟨by omega, fun z => by omega, fun z => by omega, fun _ => ⟨m70, by omega⟩, fun z => by omega, by omega⟩
                  · exfalso; omega
                · exfalso; omega
              · exfalso; omega
            · exfalso; omega
        · exfalso; omega
    · refine n_aload_n dL_tells_34 3 rfl rfl ?_
      refine n_iconst dL_tells_35 ?_
      refine n_iload dL_tells_36 4 rfl ?_
      refine n_imul dL_tells_38 ?_
      refine n_iload dL_tells_39 5 rfl ?_
      refine n_iasv (i := 1) (n := 48) dL_tells_41 hap rfl (by omega) (fun N41 hw41 ho41 => ?_)
      have kN41 : N41 0 = N0 0 := (ho41 0 (by decide)).trans kN0
      refine n_aload_n dL_tells_42 3 rfl rfl ?_
      refine n_iconst dL_tells_43 ?_
      refine n_iload dL_tells_44 4 rfl ?_
      refine n_imul dL_tells_46 ?_
      refine n_iconst dL_tells_47 ?_
      refine n_iadd dL_tells_48 ?_
      refine n_iload dL_tells_49 5 rfl ?_
      refine n_iconst dL_tells_51 ?_
      refine n_ic_eq (tgt := 61) dL_tells_52 (by decide) (by omega) (fun h52 => ?_) (fun h52 => ?_)
      · exfalso; omega
      · refine n_iload dL_tells_55 5 rfl ?_
        refine n_iconst dL_tells_57 ?_
        refine n_ic_ne (tgt := 66) dL_tells_58 (by decide) (by omega) (fun h58 => ?_) (fun h58 => ?_)
        · refine n_aload_n dL_tells_66 0 rfl rfl ?_
          refine n_iload_n dL_tells_67 1 rfl rfl ?_
          refine n_iconst dL_tells_68 ?_
          refine n_iadd dL_tells_69 ?_
          refine n_cell dL_tells_70 lvL_19 rfl hap rfl hL (by omega) rfl ⟨Nat.zero_le _, Nat.zero_le _⟩ (fun z70 hz70 => ?_)
          refine n_aload_n dL_tells_73 2 rfl rfl ?_
          refine n_iconst dL_tells_74 ?_
          refine n_ialdv (i := 0) (n := 64) dL_tells_75 rfl (by omega) (v0 kN41) ?_
          refine n_mod dL_tells_76 (by omega) (by omega) ?_
          refine n_iasv (i := 1) (n := 48) dL_tells_77 hap rfl (by omega) (fun N77 hw77 ho77 => ?_)
          have kN77 : N77 0 = N0 0 := (ho77 0 (by decide)).trans kN41
          refine n_aload_n dL_tells_78 3 rfl rfl ?_
          refine n_iconst dL_tells_79 ?_
          refine n_iload dL_tells_80 4 rfl ?_
          refine n_imul dL_tells_82 ?_
          refine n_iconst dL_tells_83 ?_
          refine n_iadd dL_tells_84 ?_
          refine n_iconst dL_tells_85 ?_
          refine n_iasv (i := 1) (n := 48) dL_tells_86 hap rfl (by omega) (fun N86 hw86 ho86 => ?_)
          have kN86 : N86 0 = N0 0 := (ho86 0 (by decide)).trans kN77
          refine n_aload_n dL_tells_87 3 rfl rfl ?_
          refine n_iconst dL_tells_88 ?_
          refine n_iload dL_tells_89 4 rfl ?_
          refine n_imul dL_tells_91 ?_
          refine n_iconst dL_tells_92 ?_
          refine n_iadd dL_tells_93 ?_
          refine n_aload_n dL_tells_94 0 rfl rfl ?_
          refine n_iload_n dL_tells_95 1 rfl rfl ?_
          refine n_iconst dL_tells_96 ?_
          refine n_iadd dL_tells_97 ?_
          refine n_cell dL_tells_98 lvL_19 rfl hap rfl hL (by omega) rfl ⟨Nat.zero_le _, Nat.zero_le _⟩ (fun z98 hz98 => ?_)
          refine n_iload dL_tells_101 5 rfl ?_
          refine n_iconst dL_tells_103 ?_
          refine n_ic_eq (tgt := 113) dL_tells_104 (by decide) (by omega) (fun h104 => ?_) (fun h104 => ?_)
          · exfalso; omega
          · refine n_iload dL_tells_107 5 rfl ?_
            refine n_iconst dL_tells_109 ?_
            refine n_ic_ne (tgt := 118) dL_tells_110 (by decide) (by omega) (fun h110 => ?_) (fun h110 => ?_)
            · refine n_iload dL_tells_118 6 rfl ?_
              refine n_iconst dL_tells_120 ?_
              refine n_iadd dL_tells_121 ?_
              refine n_mod dL_tells_122 (by omega) (by omega) ?_
              refine n_iasv (i := 1) (n := 48) dL_tells_123 hap rfl (by omega) (fun N123 hw123 ho123 => ?_)
              have kN123 : N123 0 = N0 0 := (ho123 0 (by decide)).trans kN86
              refine n_iload dL_tells_124 5 rfl ?_
              refine n_iconst dL_tells_126 ?_
              refine n_ic_ne (tgt := 160) dL_tells_127 (by decide) (by omega) (fun h127 => ?_) (fun h127 => ?_)
              · refine n_iload dL_tells_160 5 rfl ?_
                refine n_iconst dL_tells_162 ?_
                refine n_ic_ne (tgt := 220) dL_tells_163 (by decide) (by omega) (fun h163 => ?_) (fun h163 => ?_)
                · refine n_iload dL_tells_220 5 rfl ?_
                  refine n_iconst dL_tells_222 ?_
                  refine n_ic_ne (tgt := 268) dL_tells_223 (by decide) (by omega) (fun h223 => ?_) (fun h223 => ?_)
                  · exfalso; omega
                  · refine n_aload_n dL_tells_226 2 rfl rfl ?_
                    refine n_iconst dL_tells_227 ?_
                    refine n_ialdv (i := 0) (n := 64) dL_tells_228 rfl (by omega) (v2 kN123) ?_
                    refine n_if_le (tgt := 236) dL_tells_229 (by decide) (by omega) (fun h229 => ?_) (fun h229 => ?_)
                    · exfalso; omega
                    · refine n_iconst dL_tells_232 ?_
                      refine n_goto (tgt := 237) dL_tells_233 (by decide) ?_
                      refine n_istore (lv' := [(0, _), (1, _), (2, _), (3, _), (4, _), (5, _), (6, _), (7, _), (8, _)]) dL_tells_237 rfl rfl ?_
                      refine n_aload_n dL_tells_239 3 rfl rfl ?_
                      refine n_iconst dL_tells_240 ?_
                      refine n_iload dL_tells_241 4 rfl ?_
                      refine n_imul dL_tells_243 ?_
                      refine n_iconst dL_tells_244 ?_
                      refine n_iadd dL_tells_245 ?_
                      refine n_aload_n dL_tells_246 2 rfl rfl ?_
                      refine n_iconst dL_tells_247 ?_
                      refine n_ialdv (i := 0) (n := 64) dL_tells_248 rfl (by omega) (v2 kN123) ?_
                      refine n_if_le (tgt := 266) dL_tells_249 (by decide) (by omega) (fun h249 => ?_) (fun h249 => ?_)
                      · exfalso; omega
                      · refine n_aload_n dL_tells_252 0 rfl rfl ?_
                        refine n_iload_n dL_tells_253 1 rfl rfl ?_
                        refine n_iconst dL_tells_254 ?_
                        refine n_iadd dL_tells_255 ?_
                        refine n_cell dL_tells_256 lvL_19 rfl hap rfl hL (by omega) rfl ⟨Nat.zero_le _, Nat.zero_le _⟩ (fun z256 hz256 => ?_)
                        refine n_aload_n dL_tells_259 2 rfl rfl ?_
                        refine n_iconst dL_tells_260 ?_
                        refine n_ialdv (i := 0) (n := 64) dL_tells_261 rfl (by omega) (v2 kN123) ?_
                        refine n_mod dL_tells_262 (by omega) (by omega) ?_
                        refine n_goto (tgt := 267) dL_tells_263 (by decide) ?_
                        refine n_iasv (i := 1) (n := 48) dL_tells_267 hap rfl (by omega) (fun N267 hw267 ho267 => ?_)
                        have kN267 : N267 0 = N0 0 := (ho267 0 (by decide)).trans kN123
                        refine n_iload dL_tells_268 8 rfl ?_
                        refine n_zret dL_tells_270 rfl (by omega) ?_
                        rw [← hQ]
                        have w := wr4 (f0 := (N0 1).1 0) hw41 hw77 hw86 hw123
                        have w := wr5 w hw267
                        refine ⟨_, rfl, by omega, kN267, w.2.2.2.2, fun z1 => ?_⟩
                        rw [w.1, w.2.1, w.2.2.1, w.2.2.2.1]
                        have m98 := emd (x := z98) (y := (T : Int) + 1) (by omega)
                        have m70 := emd (x := z70) (y := (R : Int)) (by omega)
                        have m256 := emd (x := z256) (y := (W : Int)) (by omega)
                        exact ⟨by omega, fun z => by omega, fun z => by omega, fun _ => ⟨m70, by omega⟩, fun _ => m256, by omega⟩
                · exfalso; omega
              · exfalso; omega
            · exfalso; omega
        · exfalso; omega
    · refine n_aload_n dL_tells_34 3 rfl rfl ?_
      refine n_iconst dL_tells_35 ?_
      refine n_iload dL_tells_36 4 rfl ?_
      refine n_imul dL_tells_38 ?_
      refine n_iload dL_tells_39 5 rfl ?_
      refine n_iasv (i := 1) (n := 48) dL_tells_41 hap rfl (by omega) (fun N41 hw41 ho41 => ?_)
      have kN41 : N41 0 = N0 0 := (ho41 0 (by decide)).trans kN0
      refine n_aload_n dL_tells_42 3 rfl rfl ?_
      refine n_iconst dL_tells_43 ?_
      refine n_iload dL_tells_44 4 rfl ?_
      refine n_imul dL_tells_46 ?_
      refine n_iconst dL_tells_47 ?_
      refine n_iadd dL_tells_48 ?_
      refine n_iload dL_tells_49 5 rfl ?_
      refine n_iconst dL_tells_51 ?_
      refine n_ic_eq (tgt := 61) dL_tells_52 (by decide) (by omega) (fun h52 => ?_) (fun h52 => ?_)
      · exfalso; omega
      · refine n_iload dL_tells_55 5 rfl ?_
        refine n_iconst dL_tells_57 ?_
        refine n_ic_ne (tgt := 66) dL_tells_58 (by decide) (by omega) (fun h58 => ?_) (fun h58 => ?_)
        · refine n_aload_n dL_tells_66 0 rfl rfl ?_
          refine n_iload_n dL_tells_67 1 rfl rfl ?_
          refine n_iconst dL_tells_68 ?_
          refine n_iadd dL_tells_69 ?_
          refine n_cell dL_tells_70 lvL_19 rfl hap rfl hL (by omega) rfl ⟨Nat.zero_le _, Nat.zero_le _⟩ (fun z70 hz70 => ?_)
          refine n_aload_n dL_tells_73 2 rfl rfl ?_
          refine n_iconst dL_tells_74 ?_
          refine n_ialdv (i := 0) (n := 64) dL_tells_75 rfl (by omega) (v0 kN41) ?_
          refine n_mod dL_tells_76 (by omega) (by omega) ?_
          refine n_iasv (i := 1) (n := 48) dL_tells_77 hap rfl (by omega) (fun N77 hw77 ho77 => ?_)
          have kN77 : N77 0 = N0 0 := (ho77 0 (by decide)).trans kN41
          refine n_aload_n dL_tells_78 3 rfl rfl ?_
          refine n_iconst dL_tells_79 ?_
          refine n_iload dL_tells_80 4 rfl ?_
          refine n_imul dL_tells_82 ?_
          refine n_iconst dL_tells_83 ?_
          refine n_iadd dL_tells_84 ?_
          refine n_iconst dL_tells_85 ?_
          refine n_iasv (i := 1) (n := 48) dL_tells_86 hap rfl (by omega) (fun N86 hw86 ho86 => ?_)
          have kN86 : N86 0 = N0 0 := (ho86 0 (by decide)).trans kN77
          refine n_aload_n dL_tells_87 3 rfl rfl ?_
          refine n_iconst dL_tells_88 ?_
          refine n_iload dL_tells_89 4 rfl ?_
          refine n_imul dL_tells_91 ?_
          refine n_iconst dL_tells_92 ?_
          refine n_iadd dL_tells_93 ?_
          refine n_aload_n dL_tells_94 0 rfl rfl ?_
          refine n_iload_n dL_tells_95 1 rfl rfl ?_
          refine n_iconst dL_tells_96 ?_
          refine n_iadd dL_tells_97 ?_
          refine n_cell dL_tells_98 lvL_19 rfl hap rfl hL (by omega) rfl ⟨Nat.zero_le _, Nat.zero_le _⟩ (fun z98 hz98 => ?_)
          refine n_iload dL_tells_101 5 rfl ?_
          refine n_iconst dL_tells_103 ?_
          refine n_ic_eq (tgt := 113) dL_tells_104 (by decide) (by omega) (fun h104 => ?_) (fun h104 => ?_)
          · exfalso; omega
          · refine n_iload dL_tells_107 5 rfl ?_
            refine n_iconst dL_tells_109 ?_
            refine n_ic_ne (tgt := 118) dL_tells_110 (by decide) (by omega) (fun h110 => ?_) (fun h110 => ?_)
            · refine n_iload dL_tells_118 6 rfl ?_
              refine n_iconst dL_tells_120 ?_
              refine n_iadd dL_tells_121 ?_
              refine n_mod dL_tells_122 (by omega) (by omega) ?_
              refine n_iasv (i := 1) (n := 48) dL_tells_123 hap rfl (by omega) (fun N123 hw123 ho123 => ?_)
              have kN123 : N123 0 = N0 0 := (ho123 0 (by decide)).trans kN86
              refine n_iload dL_tells_124 5 rfl ?_
              refine n_iconst dL_tells_126 ?_
              refine n_ic_ne (tgt := 160) dL_tells_127 (by decide) (by omega) (fun h127 => ?_) (fun h127 => ?_)
              · refine n_iload dL_tells_160 5 rfl ?_
                refine n_iconst dL_tells_162 ?_
                refine n_ic_ne (tgt := 220) dL_tells_163 (by decide) (by omega) (fun h163 => ?_) (fun h163 => ?_)
                · refine n_iload dL_tells_220 5 rfl ?_
                  refine n_iconst dL_tells_222 ?_
                  refine n_ic_ne (tgt := 268) dL_tells_223 (by decide) (by omega) (fun h223 => ?_) (fun h223 => ?_)
                  · refine n_iload dL_tells_268 8 rfl ?_
                    refine n_zret dL_tells_270 rfl (by omega) ?_
                    rw [← hQ]
                    have w := wr4 (f0 := (N0 1).1 0) hw41 hw77 hw86 hw123
                    refine ⟨_, rfl, by omega, kN123, w.2.2.2.2, fun z1 => ?_⟩
                    rw [w.1, w.2.1, w.2.2.1, w.2.2.2.1]
                    have m98 := emd (x := z98) (y := (T : Int) + 1) (by omega)
                    have m70 := emd (x := z70) (y := (R : Int)) (by omega)
                    exact ⟨by omega, fun z => by omega, fun z => by omega, fun _ => ⟨m70, by omega⟩, fun z => by omega, by omega⟩
                  · exfalso; omega
                · exfalso; omega
              · exfalso; omega
            · exfalso; omega
        · exfalso; omega
    · refine n_aload_n dL_tells_34 3 rfl rfl ?_
      refine n_iconst dL_tells_35 ?_
      refine n_iload dL_tells_36 4 rfl ?_
      refine n_imul dL_tells_38 ?_
      refine n_iload dL_tells_39 5 rfl ?_
      refine n_iasv (i := 1) (n := 48) dL_tells_41 hap rfl (by omega) (fun N41 hw41 ho41 => ?_)
      have kN41 : N41 0 = N0 0 := (ho41 0 (by decide)).trans kN0
      refine n_aload_n dL_tells_42 3 rfl rfl ?_
      refine n_iconst dL_tells_43 ?_
      refine n_iload dL_tells_44 4 rfl ?_
      refine n_imul dL_tells_46 ?_
      refine n_iconst dL_tells_47 ?_
      refine n_iadd dL_tells_48 ?_
      refine n_iload dL_tells_49 5 rfl ?_
      refine n_iconst dL_tells_51 ?_
      refine n_ic_eq (tgt := 61) dL_tells_52 (by decide) (by omega) (fun h52 => ?_) (fun h52 => ?_)
      · exfalso; omega
      · refine n_iload dL_tells_55 5 rfl ?_
        refine n_iconst dL_tells_57 ?_
        refine n_ic_ne (tgt := 66) dL_tells_58 (by decide) (by omega) (fun h58 => ?_) (fun h58 => ?_)
        · exfalso; omega
        · refine n_iload dL_tells_61 7 rfl ?_
          refine n_goto (tgt := 77) dL_tells_63 (by decide) ?_
          refine n_iasv (i := 1) (n := 48) dL_tells_77 hap rfl (by omega) (fun N77 hw77 ho77 => ?_)
          have kN77 : N77 0 = N0 0 := (ho77 0 (by decide)).trans kN41
          refine n_aload_n dL_tells_78 3 rfl rfl ?_
          refine n_iconst dL_tells_79 ?_
          refine n_iload dL_tells_80 4 rfl ?_
          refine n_imul dL_tells_82 ?_
          refine n_iconst dL_tells_83 ?_
          refine n_iadd dL_tells_84 ?_
          refine n_iconst dL_tells_85 ?_
          refine n_iasv (i := 1) (n := 48) dL_tells_86 hap rfl (by omega) (fun N86 hw86 ho86 => ?_)
          have kN86 : N86 0 = N0 0 := (ho86 0 (by decide)).trans kN77
          refine n_aload_n dL_tells_87 3 rfl rfl ?_
          refine n_iconst dL_tells_88 ?_
          refine n_iload dL_tells_89 4 rfl ?_
          refine n_imul dL_tells_91 ?_
          refine n_iconst dL_tells_92 ?_
          refine n_iadd dL_tells_93 ?_
          refine n_aload_n dL_tells_94 0 rfl rfl ?_
          refine n_iload_n dL_tells_95 1 rfl rfl ?_
          refine n_iconst dL_tells_96 ?_
          refine n_iadd dL_tells_97 ?_
          refine n_cell dL_tells_98 lvL_19 rfl hap rfl hL (by omega) rfl ⟨Nat.zero_le _, Nat.zero_le _⟩ (fun z98 hz98 => ?_)
          refine n_iload dL_tells_101 5 rfl ?_
          refine n_iconst dL_tells_103 ?_
          refine n_ic_eq (tgt := 113) dL_tells_104 (by decide) (by omega) (fun h104 => ?_) (fun h104 => ?_)
          · exfalso; omega
          · refine n_iload dL_tells_107 5 rfl ?_
            refine n_iconst dL_tells_109 ?_
            refine n_ic_ne (tgt := 118) dL_tells_110 (by decide) (by omega) (fun h110 => ?_) (fun h110 => ?_)
            · exfalso; omega
            · refine n_iload dL_tells_113 6 rfl ?_
              refine n_goto (tgt := 122) dL_tells_115 (by decide) ?_
              refine n_mod dL_tells_122 (by omega) (by omega) ?_
              refine n_iasv (i := 1) (n := 48) dL_tells_123 hap rfl (by omega) (fun N123 hw123 ho123 => ?_)
              have kN123 : N123 0 = N0 0 := (ho123 0 (by decide)).trans kN86
              refine n_iload dL_tells_124 5 rfl ?_
              refine n_iconst dL_tells_126 ?_
              refine n_ic_ne (tgt := 160) dL_tells_127 (by decide) (by omega) (fun h127 => ?_) (fun h127 => ?_)
              · refine n_iload dL_tells_160 5 rfl ?_
                refine n_iconst dL_tells_162 ?_
                refine n_ic_ne (tgt := 220) dL_tells_163 (by decide) (by omega) (fun h163 => ?_) (fun h163 => ?_)
                · exfalso; omega
                · refine n_iload dL_tells_166 7 rfl ?_
                  refine n_aload_n dL_tells_168 2 rfl rfl ?_
                  refine n_iconst dL_tells_169 ?_
                  refine n_ialdv (i := 0) (n := 64) dL_tells_170 rfl (by omega) (v1 kN123) ?_
                  refine n_ic_ge (tgt := 178) dL_tells_171 (by decide) (by omega) (fun h171 => ?_) (fun h171 => ?_)
                  · refine n_iconst dL_tells_178 ?_
                    refine n_istore (lv' := [(0, _), (1, _), (2, _), (3, _), (4, _), (5, _), (6, _), (7, _), (8, _)]) dL_tells_179 rfl rfl ?_
                    have m98 := emd (x := z98) (y := (T : Int)) (by omega)
                    refine n_aload_n dL_tells_181 3 rfl rfl ?_
                    refine n_iconst dL_tells_182 ?_
                    refine n_iload dL_tells_183 4 rfl ?_
                    refine n_imul dL_tells_185 ?_
                    refine n_iconst dL_tells_186 ?_
                    refine n_iadd dL_tells_187 ?_
                    refine n_aload_n dL_tells_188 3 rfl rfl ?_
                    refine n_iconst dL_tells_189 ?_
                    refine n_iload dL_tells_190 4 rfl ?_
                    refine n_imul dL_tells_192 ?_
                    refine n_iconst dL_tells_193 ?_
                    refine n_iadd dL_tells_194 ?_
                    refine n_ialdv (i := 1) (n := 48) dL_tells_195 rfl (by omega) ((hw123 _).trans (if_pos rfl)) ?_
                    refine n_aload_n dL_tells_196 0 rfl rfl ?_
                    refine n_iload_n dL_tells_197 1 rfl rfl ?_
                    refine n_iconst dL_tells_198 ?_
                    refine n_iadd dL_tells_199 ?_
                    refine n_cell dL_tells_200 lvL_19 rfl hap rfl hL (by omega) rfl ⟨Nat.zero_le _, Nat.zero_le _⟩ (fun z200 hz200 => ?_)
                    refine n_iload dL_tells_203 6 rfl ?_
                    refine n_aload_n dL_tells_205 3 rfl rfl ?_
                    refine n_iconst dL_tells_206 ?_
                    refine n_iload dL_tells_207 4 rfl ?_
                    refine n_imul dL_tells_209 ?_
                    refine n_iconst dL_tells_210 ?_
                    refine n_iadd dL_tells_211 ?_
                    refine n_ialdv (i := 1) (n := 48) dL_tells_212 rfl (by omega) ((hw123 _).trans (if_pos rfl)) ?_
                    refine n_isub dL_tells_213 ?_
                    refine n_mod dL_tells_214 (by omega) (by omega) ?_
                    refine n_iadd dL_tells_215 ?_
                    refine n_iasv (i := 1) (n := 48) dL_tells_216 hap rfl (by omega) (fun N216 hw216 ho216 => ?_)
                    have kN216 : N216 0 = N0 0 := (ho216 0 (by decide)).trans kN123
                    refine n_goto (tgt := 268) dL_tells_217 (by decide) ?_
                    refine n_iload dL_tells_268 8 rfl ?_
                    refine n_zret dL_tells_270 rfl (by omega) ?_
                    rw [← hQ]
                    have w := wr4 (f0 := (N0 1).1 0) hw41 hw77 hw86 hw123
                    have w := wr5 w hw216
                    refine ⟨_, rfl, by omega, kN216, w.2.2.2.2, fun z1 => ?_⟩
                    rw [w.1, w.2.1, w.2.2.1, w.2.2.2.1]
                    first
                    | (exfalso; omega)
                    | (have m200 := emd (x := z200) (y := (T : Int) - z98 % (T : Int)) (by omega)
                       exact ⟨by omega, fun z => by omega, fun _ => ⟨by omega, by omega⟩, fun z => by omega, fun z => by omega, by omega⟩)
                  · refine n_iconst dL_tells_174 ?_
                    refine n_goto (tgt := 179) dL_tells_175 (by decide) ?_
                    refine n_istore (lv' := [(0, _), (1, _), (2, _), (3, _), (4, _), (5, _), (6, _), (7, _), (8, _)]) dL_tells_179 rfl rfl ?_
                    have m98 := emd (x := z98) (y := (T : Int)) (by omega)
                    refine n_aload_n dL_tells_181 3 rfl rfl ?_
                    refine n_iconst dL_tells_182 ?_
                    refine n_iload dL_tells_183 4 rfl ?_
                    refine n_imul dL_tells_185 ?_
                    refine n_iconst dL_tells_186 ?_
                    refine n_iadd dL_tells_187 ?_
                    refine n_aload_n dL_tells_188 3 rfl rfl ?_
                    refine n_iconst dL_tells_189 ?_
                    refine n_iload dL_tells_190 4 rfl ?_
                    refine n_imul dL_tells_192 ?_
                    refine n_iconst dL_tells_193 ?_
                    refine n_iadd dL_tells_194 ?_
                    refine n_ialdv (i := 1) (n := 48) dL_tells_195 rfl (by omega) ((hw123 _).trans (if_pos rfl)) ?_
                    refine n_aload_n dL_tells_196 0 rfl rfl ?_
                    refine n_iload_n dL_tells_197 1 rfl rfl ?_
                    refine n_iconst dL_tells_198 ?_
                    refine n_iadd dL_tells_199 ?_
                    refine n_cell dL_tells_200 lvL_19 rfl hap rfl hL (by omega) rfl ⟨Nat.zero_le _, Nat.zero_le _⟩ (fun z200 hz200 => ?_)
                    refine n_iload dL_tells_203 6 rfl ?_
                    refine n_aload_n dL_tells_205 3 rfl rfl ?_
                    refine n_iconst dL_tells_206 ?_
                    refine n_iload dL_tells_207 4 rfl ?_
                    refine n_imul dL_tells_209 ?_
                    refine n_iconst dL_tells_210 ?_
                    refine n_iadd dL_tells_211 ?_
                    refine n_ialdv (i := 1) (n := 48) dL_tells_212 rfl (by omega) ((hw123 _).trans (if_pos rfl)) ?_
                    refine n_isub dL_tells_213 ?_
                    refine n_mod dL_tells_214 (by omega) (by omega) ?_
                    refine n_iadd dL_tells_215 ?_
                    refine n_iasv (i := 1) (n := 48) dL_tells_216 hap rfl (by omega) (fun N216 hw216 ho216 => ?_)
                    have kN216 : N216 0 = N0 0 := (ho216 0 (by decide)).trans kN123
                    refine n_goto (tgt := 268) dL_tells_217 (by decide) ?_
                    refine n_iload dL_tells_268 8 rfl ?_
                    refine n_zret dL_tells_270 rfl (by omega) ?_
                    rw [← hQ]
                    have w := wr4 (f0 := (N0 1).1 0) hw41 hw77 hw86 hw123
                    have w := wr5 w hw216
                    refine ⟨_, rfl, by omega, kN216, w.2.2.2.2, fun z1 => ?_⟩
                    rw [w.1, w.2.1, w.2.2.1, w.2.2.2.1]
                    first
                    | (exfalso; omega)
                    | (have m200 := emd (x := z200) (y := (T : Int) - z98 % (T : Int)) (by omega)
                       exact ⟨by omega, fun z => by omega, fun _ => ⟨by omega, by omega⟩, fun z => by omega, fun z => by omega, by omega⟩)
              · exfalso; omega
  have kN0 : N0 0 = N0 0 := rfl
  refine n_iconst dL_tells_0 ?_
  refine n_aload_n dL_tells_1 0 rfl rfl ?_
  refine n_iload_n dL_tells_2 1 rfl rfl ?_
  refine n_cell dL_tells_3 lvL_19 rfl hap rfl hL (by omega) rfl ⟨Nat.zero_le _, Nat.zero_le _⟩ (fun z3 hz3 => ?_)
  refine n_iconst dL_tells_6 ?_
  refine n_mod dL_tells_7 (by omega) (by omega) ?_
  refine n_iadd dL_tells_8 ?_
  refine n_istore (lv' := [(0, _), (1, _), (2, _), (3, _), (4, _), (5, _)]) dL_tells_9 rfl rfl ?_
  refine n_aload_n dL_tells_11 2 rfl rfl ?_
  refine n_iconst dL_tells_12 ?_
  refine n_ialdv (i := 0) (n := 64) dL_tells_13 rfl (by omega) (v3 kN0) ?_
  refine n_istore (lv' := [(0, _), (1, _), (2, _), (3, _), (4, _), (5, _), (6, _)]) dL_tells_14 rfl rfl ?_
  refine n_aload_n dL_tells_16 0 rfl rfl ?_
  refine n_iload_n dL_tells_17 1 rfl rfl ?_
  refine n_iconst dL_tells_18 ?_
  refine n_iadd dL_tells_19 ?_
  refine n_cell dL_tells_20 lvL_19 rfl hap rfl hL (by omega) rfl ⟨Nat.zero_le _, Nat.zero_le _⟩ (fun z20 hz20 => ?_)
  refine n_aload_n dL_tells_23 2 rfl rfl ?_
  refine n_iconst dL_tells_24 ?_
  refine n_ialdv (i := 0) (n := 64) dL_tells_25 rfl (by omega) (v1 kN0) ?_
  refine n_iconst dL_tells_26 ?_
  refine n_iadd dL_tells_27 ?_
  refine n_mod dL_tells_28 (by omega) (by omega) ?_
  refine n_istore (lv' := [(0, _), (1, _), (2, _), (3, _), (4, _), (5, _), (6, _), (7, _)]) dL_tells_29 rfl rfl ?_
  refine n_iconst dL_tells_31 ?_
  refine n_istore (lv' := [(0, _), (1, _), (2, _), (3, _), (4, _), (5, _), (6, _), (7, _), (8, _)]) dL_tells_32 rfl rfl ?_
  refine at34 _ _ ?_ ?_
  · omega
  · have := emd (x := z20) (y := (D : Int) + 1) (by omega)
    omega

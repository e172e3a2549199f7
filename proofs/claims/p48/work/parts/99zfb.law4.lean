/-! THE LAW: its house. -/
theorem n_ap5 {ro rq hh gg ee : Nat} (h : rq = ro + 69 ∧ hh = ro + 138 ∧ gg = ro + 139 ∧ ee = ro + 140) : n_ap [(ro, shX), (rq, shX), (hh, [.inr (0, 64)]), (gg, [.inr (0, 64)]), (ee, [.inr (0, 48)])] := by
  have l0 : shX.length = 69 := rfl
  have l1 : ([.inr (0, 64)] : MS).length = 1 := rfl
  have l2 : ([.inr (0, 48)] : MS).length = 1 := rfl
  intro i j p s hi hj hn k l hk hl
  rcases i with _ | _ | _ | _ | _ | i <;> rcases j with _ | _ | _ | _ | _ | j <;> first | exact absurd rfl hn | (cases hi; done) | (cases hj; done) | (cases hi; cases hj; done) | (cases hi; cases hj; simp only [l0, l1, l2] at hk hl ⊢; omega)
theorem HO0.cg {hv gv : Int → Int} {R D W T : Nat} (h : HO0 hv R D W T) (hD : D ≤ 6) (hW : W ≤ 3) (e : ∀ y : Int, y < 33 → gv y = hv y) : HO0 gv R D W T := by
  obtain ⟨⟨p0, p1, p2, p3, p4⟩, hd, hw⟩ := h
  refine ⟨⟨by rw [e _ (by omega)]; exact p0, by rw [e _ (by omega)]; exact p1, by rw [e _ (by omega)]; exact p2, by rw [e _ (by omega)]; exact p3, by rw [e _ (by omega)]; exact p4⟩, fun x hx => ?_, fun w hx => ?_⟩
  · rw [e _ (by omega), e _ (by omega)]
    exact hd x hx
  · rw [e _ (by omega)]
    exact hw w hx
theorem HO0.ok {hv : Int → Int} {R D W T : Nat} (h : HO0 hv R D W T) (hB : 2 ≤ R ∧ R ≤ 5 ∧ 1 ≤ D ∧ D ≤ 6 ∧ 1 ≤ W ∧ W ≤ 3 ∧ 1 ≤ T ∧ T ≤ 5) (f : ∀ w : Nat, w < W → hv (33 + (w : Int)) = z_shl 1 (R : Int) - 1) : HOK hv R D W T :=
  ⟨by omega, by omega, by omega, by omega, h.1, h.2.1, fun w hw => ⟨h.2.2 w hw, f w hw⟩⟩
theorem HOK.m {hv gv : Int → Int} {R D W T : Nat} (h : HOK hv R D W T) (e : ∀ y : Int, 0 ≤ y → y < 64 → (y < 8 ∨ 8 + 2 * (D : Int) ≤ y) → gv y = hv y) (d : ∀ x : Nat, x < D → gv (8 + 2 * (x : Int)) = (R : Int) - 1 - hv (9 + 2 * (x : Int)) ∧ gv (9 + 2 * (x : Int)) = (R : Int) - 1 - hv (8 + 2 * (x : Int))) : HOK gv R D W T ∧ MG hv gv R D W := by
  obtain ⟨h1, h2, h3, h4, ⟨p0, p1, p2, p3, p4⟩, hd, hw⟩ := h
  refine ⟨⟨h1, h2, h3, h4, ⟨by rw [e _ (by omega) (by omega) (by omega)]; exact p0, by rw [e _ (by omega) (by omega) (by omega)]; exact p1, by rw [e _ (by omega) (by omega) (by omega)]; exact p2, by rw [e _ (by omega) (by omega) (by omega)]; exact p3, by rw [e _ (by omega) (by omega) (by omega)]; exact p4⟩, fun x hx => ?_, fun w hx => ?_⟩, e _ (by omega) (by omega) (by omega), d, fun w hx => e _ (by omega) (by omega) (by omega)⟩
  · obtain ⟨d1, d2⟩ := d x hx
    have := hd x hx
    rw [d1, d2]
    omega
  · rw [e _ (by omega) (by omega) (by omega), e _ (by omega) (by omega) (by omega)]
    exact hw w hx

section
variable {G : GT} {a L ro rq hh gg ee : Nat} {xs : Nat → Int32} {R D W T : Nat}
theorem lw_209 (hL : L ≤ 260) (ha : a < ro) (h5 : rq = ro + 69 ∧ hh = ro + 138 ∧ gg = ro + 139 ∧ ee = ro + 140) (hB : 2 ≤ R ∧ R ≤ 5 ∧ 1 ≤ D ∧ D ≤ 6 ∧ 1 ≤ W ∧ W ≤ 3 ∧ 1 ≤ T ∧ T ≤ 5) {N : NM} {M Nn M' Nn' : MI} {x9 : Int} (hk : HOK ((N 2).1 0) R D W T) (hg : HOK ((N 3).1 0) R D W T) (mg : MG ((N 2).1 0) ((N 3).1 0) R D W) (hc : CRn (N 0) M Nn) (hc' : CRn (N 1) M' Nn') : n_Run G mtL_law room_1 n_Zl (some (a, L, xs)) [(ro, shX), (rq, shX), (hh, [.inr (0, 64)]), (gg, [.inr (0, 64)]), (ee, [.inr (0, 48)])] 600000 7302250 209 [(0, mr a), (1, mr ro), (2, mr rq), (3, mr hh), (4, mr gg), (5, mr ee), (6, mi (W : Int)), (7, mi (T : Int)), (8, mi (R : Int)), (9, mi x9)] [] N := by
  have hap := n_ap5 h5
  refine n_aload_n dL_law_209 1 rfl rfl ?_
  refine n_aload_n dL_law_210 3 rfl rfl ?_
  refine n_callS (ix := fun j => match j with | 0 => 0 | _ => 2) (as := [_, _]) dL_law_211 lvL_63 rfl ⟨rfl, rfl⟩ hap (fun j p hj => by rcases j with _ | _ | _ | j <;> first | exact hj | cases hj) (Or.inl rfl) (c_house (by unfold ap2; omega) hc hk) (fun i j hi hj e => by rcases i with _ | _ | _ | i <;> rcases j with _ | _ | _ | j <;> first | rfl | exact absurd e (by decide) | (exfalso; simp at hi; done) | (exfalso; simp at hj; done) | (exfalso; simp at hi; omega) | (exfalso; simp at hj; omega)) rfl rfl rfl ⟨Nat.le_of_ble_eq_true rfl, Nat.le_of_ble_eq_true rfl⟩ (fun v211 C211 hq211 N211 hi211 ho211 => ?_)
  obtain ⟨rfl, h1, M1, c1, b1⟩ := hq211
  have r0 : N211 0 = C211 0 := hi211 0 (by simp)
  have r2 : N211 2 = C211 1 := hi211 1 (by simp)
  have r1 : N211 1 = N 1 := ho211 1 (fun j hj => by rcases j with _ | _ | _ | j <;> first | decide | (exfalso; simp at hj; done) | (exfalso; simp at hj; omega))
  have r3 : N211 3 = N 3 := ho211 3 (fun j hj => by rcases j with _ | _ | _ | j <;> first | decide | (exfalso; simp at hj; done) | (exfalso; simp at hj; omega))
  have hg1 : HOK ((N211 3).1 0) R D W T := by rw [r3]; exact hg
  have hc1 : CRn (N211 1) M' Nn' := by rw [r1]; exact hc'
  refine n_if_eq (tgt := 226) dL_law_214 (by decide) (by omega) (fun h214 => ?_) (fun h214 => ?_)
  · exfalso; omega
  · refine n_aload_n dL_law_217 2 rfl rfl ?_
    refine n_aload dL_law_218 4 rfl ?_
    refine n_callS (ix := fun j => match j with | 0 => 1 | _ => 3) (as := [_, _]) dL_law_220 lvL_63 rfl ⟨rfl, rfl⟩ hap (fun j p hj => by rcases j with _ | _ | _ | j <;> first | exact hj | cases hj) (Or.inl rfl) (c_house (by unfold ap2; omega) hc1 hg1) (fun i j hi hj e => by rcases i with _ | _ | _ | i <;> rcases j with _ | _ | _ | j <;> first | rfl | exact absurd e (by decide) | (exfalso; simp at hi; done) | (exfalso; simp at hj; done) | (exfalso; simp at hi; omega) | (exfalso; simp at hj; omega)) rfl rfl rfl ⟨Nat.le_of_ble_eq_true rfl, Nat.le_of_ble_eq_true rfl⟩ (fun v220 C220 hq220 N220 hi220 ho220 => ?_)
    obtain ⟨rfl, h2, M2, c2, b2⟩ := hq220
    have h2' : N211 3 = N 3 := r3
    have j1 : N220 1 = C220 0 := hi220 0 (by simp)
    have j0 : N220 0 = N211 0 := ho220 0 (fun j hj => by rcases j with _ | _ | _ | j <;> first | decide | (exfalso; simp at hj; done) | (exfalso; simp at hj; omega))
    have j2 : N220 2 = N211 2 := ho220 2 (fun j hj => by rcases j with _ | _ | _ | j <;> first | decide | (exfalso; simp at hj; done) | (exfalso; simp at hj; omega))
    have k2 : N220 2 = N 2 := j2.trans (r2.trans h1)
    have okN : HOK ((N220 2).1 0) R D W T := by rw [k2]; exact hk
    have hcN : CRn (N220 0) M1 Nn := by rw [j0, r0]; exact c1
    have hmN : HouM M1 ((N220 2).1 0) R D W T := by rw [k2]; exact b1
    refine n_if_ne (tgt := 228) dL_law_223 (by decide) (by omega) (fun h223 => ?_) (fun h223 => ?_)
    · refine n_aload_n dL_law_228 1 rfl rfl ?_
      refine n_aload_n dL_law_229 0 rfl rfl ?_
      refine n_bipush dL_law_230 (by decide) ?_
      refine n_aload_n dL_law_232 3 rfl rfl ?_
      refine n_aload dL_law_233 5 rfl ?_
      refine n_aload_n dL_law_235 0 rfl rfl ?_
      refine n_iconst dL_law_236 ?_
      refine n_cell dL_law_237 lvL_19 rfl hap rfl hL (by omega) rfl ⟨Nat.le_of_ble_eq_true rfl, Nat.le_of_ble_eq_true rfl⟩ (fun z237 hz237 => ?_)
      refine n_bipush dL_law_240 (by decide) ?_
      refine n_mod dL_law_242 (by omega) (by omega) ?_
      obtain ⟨tr, htr2⟩ : ∃ tr : Nat, z237 % 10 = (tr : Int) := ⟨(z237 % 10).toNat, by omega⟩
      have htr : tr ≤ 9 := by omega
      rw [htr2]
      refine n_callS (ix := fun j => match j with | 0 => 0 | 1 => 2 | _ => 4) (as := [_, _, _, _, _, _]) dL_law_243 lvL_66 rfl ⟨rfl, rfl⟩ hap (fun j p hj => by rcases j with _ | _ | _ | j <;> first | exact hj | cases hj) (Or.inr rfl) (c_events hL (by omega) (by omega) (by omega) (by unfold ap2; omega) (by unfold ap2; omega) (by omega) htr okN hcN hmN) (fun i j hi hj e => by rcases i with _ | _ | _ | i <;> rcases j with _ | _ | _ | j <;> first | rfl | exact absurd e (by decide) | (exfalso; simp at hi; done) | (exfalso; simp at hj; done) | (exfalso; simp at hi; omega) | (exfalso; simp at hj; omega)) rfl rfl rfl ⟨Nat.le_of_ble_eq_true rfl, Nat.le_of_ble_eq_true rfl⟩ (fun v243 C243 hq243 N243 hi243 ho243 => ?_)
      obtain ⟨n, rfl, hn9, d1, es, M3, c3, b3, a3⟩ := hq243
      have i0 : N243 0 = C243 0 := hi243 0 (by simp)
      have i2 : N243 2 = C243 1 := hi243 1 (by simp)
      have i4 : N243 4 = C243 2 := hi243 2 (by simp)
      refine n_istore (lv' := [(0, _), (1, _), (2, _), (3, _), (4, _), (5, _), (6, _), (7, _), (8, _), (9, _)]) dL_law_246 rfl rfl ?_
      refine n_iload dL_law_248 9 rfl ?_
      refine n_if_ge (tgt := 255) dL_law_250 (by decide) (by omega) (fun h250 => ?_) (fun h250 => ?_)
      · refine n_iconst dL_law_255 ?_
        refine n_istore (lv' := [(0, _), (1, _), (2, _), (3, _), (4, _), (5, _), (6, _), (7, _), (8, _), (9, _), (10, _)]) dL_law_256 rfl rfl ?_
        have e2 : N243 2 = N 2 := i2.trans (d1.trans k2)
        have e3 : N243 1 = N220 1 := ho243 1 (fun j hj => by rcases j with _ | _ | _ | j <;> first | decide | (exfalso; simp at hj; done) | (exfalso; simp at hj; omega))
        have hq : CRn (N243 1) M2 Nn' := by rw [e3, j1]; exact c2
        have b2' : HouM M2 ((N211 3).1 0) R D W T := b2
        rw [h2'] at b2'
        have hb' := b2'.b
        refine lw_258 hap (by omega) (hv := (N 2).1 0) (gv := (N 3).1 0) (ev := (N243 4).1 0) (M := M3) (Nn := Nn) (Nn' := Nn') hk mg ?_ ?_ ?_ 0 (Nat.zero_le _) (M' := M2) ?_ hq hb'.1 ⟨hb'.2, fun e he => by omega⟩ (by rw [e2]) rfl
        · rw [← k2, i4]; exact es
        · rw [← k2]; exact b3
        · rw [i4]; exact a3
        · rw [i0]; exact c3
      · exfalso; omega
    · exfalso; omega
theorem lw_147 (hL : L ≤ 260) (ha : a < ro) (h5 : rq = ro + 69 ∧ hh = ro + 138 ∧ gg = ro + 139 ∧ ee = ro + 140) (hB : 2 ≤ R ∧ R ≤ 5 ∧ 1 ≤ D ∧ D ≤ 6 ∧ 1 ≤ W ∧ W ≤ 3 ∧ 1 ≤ T ∧ T ≤ 5) {M Nn M' Nn' : MI} : ∀ e : Nat, e ≤ D → ∀ {N : NM}, HOK ((N 2).1 0) R D W T → (∀ y : Int, 0 ≤ y → y < 64 → (y < 8 ∨ 8 + 2 * (e : Int) ≤ y) → (N 3).1 0 y = (N 2).1 0 y) → (∀ x : Nat, x < e → (N 3).1 0 (8 + 2 * (x : Int)) = (R : Int) - 1 - (N 2).1 0 (9 + 2 * (x : Int)) ∧ (N 3).1 0 (9 + 2 * (x : Int)) = (R : Int) - 1 - (N 2).1 0 (8 + 2 * (x : Int))) → CRn (N 0) M Nn → CRn (N 1) M' Nn' → n_Run G mtL_law room_1 n_Zl (some (a, L, xs)) [(ro, shX), (rq, shX), (hh, [.inr (0, 64)]), (gg, [.inr (0, 64)]), (ee, [.inr (0, 48)])] 600000 7302250 147 [(0, mr a), (1, mr ro), (2, mr rq), (3, mr hh), (4, mr gg), (5, mr ee), (6, mi (W : Int)), (7, mi (T : Int)), (8, mi (R : Int)), (9, mi (e : Int))] [] N := by
  have hap := n_ap5 h5
  refine lpn D (fun e he ih => ?_) ?_
  · intro N hk hy hd hc hc'
    refine n_iload dL_law_147 9 rfl ?_
    refine n_aload_n dL_law_149 3 rfl rfl ?_
    refine n_iconst dL_law_150 ?_
    refine n_ialdv (i := 2) (n := 64) dL_law_151 rfl (by omega) hk.2.2.2.2.1.2.1 ?_
    refine n_ic_ge (tgt := 209) dL_law_152 (by decide) (by omega) (fun h152 => ?_) (fun h152 => ?_)
    · exfalso; omega
    · refine n_aload dL_law_155 4 rfl ?_
      refine n_bipush dL_law_157 (by decide) ?_
      refine n_iconst dL_law_159 ?_
      refine n_iload dL_law_160 9 rfl ?_
      refine n_imul dL_law_162 ?_
      refine n_iadd dL_law_163 ?_
      refine n_iload dL_law_164 8 rfl ?_
      refine n_iconst dL_law_166 ?_
      refine n_isub dL_law_167 ?_
      refine n_aload_n dL_law_168 3 rfl rfl ?_
      refine n_bipush dL_law_169 (by decide) ?_
      refine n_iconst dL_law_171 ?_
      refine n_iload dL_law_172 9 rfl ?_
      refine n_imul dL_law_174 ?_
      refine n_iadd dL_law_175 ?_
      refine n_iald (i := 2) (n := 64) dL_law_176 rfl (by omega) ?_
      refine n_isub dL_law_177 ?_
      refine n_iasv (i := 3) (n := 64) dL_law_178 hap rfl (by omega) (fun N178 hw178 ho178 => ?_)
      refine n_aload dL_law_179 4 rfl ?_
      refine n_bipush dL_law_181 (by decide) ?_
      refine n_iconst dL_law_183 ?_
      refine n_iload dL_law_184 9 rfl ?_
      refine n_imul dL_law_186 ?_
      refine n_iadd dL_law_187 ?_
      refine n_iload dL_law_188 8 rfl ?_
      refine n_iconst dL_law_190 ?_
      refine n_isub dL_law_191 ?_
      refine n_aload_n dL_law_192 3 rfl rfl ?_
      refine n_bipush dL_law_193 (by decide) ?_
      refine n_iconst dL_law_195 ?_
      refine n_iload dL_law_196 9 rfl ?_
      refine n_imul dL_law_198 ?_
      refine n_iadd dL_law_199 ?_
      refine n_iald (i := 2) (n := 64) dL_law_200 rfl (by omega) ?_
      refine n_isub dL_law_201 ?_
      refine n_iasv (i := 3) (n := 64) dL_law_202 hap rfl (by omega) (fun N202 hw202 ho202 => ?_)
      refine n_iinc (lv' := [(0, _), (1, _), (2, _), (3, _), (4, _), (5, _), (6, _), (7, _), (8, _), (9, _)]) dL_law_203 9 rfl rfl rfl ?_
      refine n_goto (tgt := 147) dL_law_206 (by decide) ?_
      have g2 : N202 2 = N 2 := (ho202 2 (by decide)).trans (ho178 2 (by decide))
      have g2' : N178 2 = N 2 := ho178 2 (by decide)
      refine ih (by rw [g2]; exact hk) (fun y y0 y1 y2 => ?_) (fun x hx => ?_) (by rw [ho202 0 (by decide), ho178 0 (by decide)]; exact hc) (by rw [ho202 1 (by decide), ho178 1 (by decide)]; exact hc')
      · rw [g2, hw202, if_neg (by omega), hw178, if_neg (by omega)]
        exact hy y y0 y1 (by omega)
      · rw [g2, hw202, hw202, if_neg (by omega), hw178]
        by_cases q : x = e
        · subst q
          rw [if_pos rfl, if_pos rfl, g2']
          exact ⟨rfl, rfl⟩
        · rw [if_neg (by omega), if_neg (by omega), hw178, if_neg (by omega)]
          exact hd x (by omega)
  · intro N hk hy hd hc hc'
    refine n_iload dL_law_147 9 rfl ?_
    refine n_aload_n dL_law_149 3 rfl rfl ?_
    refine n_iconst dL_law_150 ?_
    refine n_ialdv (i := 2) (n := 64) dL_law_151 rfl (by omega) hk.2.2.2.2.1.2.1 ?_
    refine n_ic_ge (tgt := 209) dL_law_152 (by decide) (by omega) (fun h152 => ?_) (fun h152 => ?_)
    · obtain ⟨g1, g2⟩ := hk.m hy hd
      exact lw_209 hL ha h5 hB hk g1 g2 hc hc'
    · exfalso; omega
theorem lw_122 (hL : L ≤ 260) (ha : a < ro) (h5 : rq = ro + 69 ∧ hh = ro + 138 ∧ gg = ro + 139 ∧ ee = ro + 140) (hB : 2 ≤ R ∧ R ≤ 5 ∧ 1 ≤ D ∧ D ≤ 6 ∧ 1 ≤ W ∧ W ≤ 3 ∧ 1 ≤ T ∧ T ≤ 5) {M Nn M' Nn' : MI} : ∀ i : Nat, i ≤ 64 → ∀ {N : NM}, HOK ((N 2).1 0) R D W T → (∀ y : Int, 0 ≤ y → y < i → (N 3).1 0 y = (N 2).1 0 y) → CRn (N 0) M Nn → CRn (N 1) M' Nn' → n_Run G mtL_law room_1 n_Zl (some (a, L, xs)) [(ro, shX), (rq, shX), (hh, [.inr (0, 64)]), (gg, [.inr (0, 64)]), (ee, [.inr (0, 48)])] 600000 7302250 122 [(0, mr a), (1, mr ro), (2, mr rq), (3, mr hh), (4, mr gg), (5, mr ee), (6, mi (W : Int)), (7, mi (T : Int)), (8, mi (R : Int)), (9, mi (i : Int))] [] N := by
  have hap := n_ap5 h5
  refine lpn 64 (fun i hi ih => ?_) ?_
  · intro N hk hy hc hc'
    refine n_iload dL_law_122 9 rfl ?_
    refine n_bipush dL_law_124 (by decide) ?_
    refine n_ic_ge (tgt := 144) dL_law_126 (by decide) (by omega) (fun h126 => ?_) (fun h126 => ?_)
    · exfalso; omega
    · refine n_aload dL_law_129 4 rfl ?_
      refine n_iload dL_law_131 9 rfl ?_
      refine n_aload_n dL_law_133 3 rfl rfl ?_
      refine n_iload dL_law_134 9 rfl ?_
      refine n_iald (i := 2) (n := 64) dL_law_136 rfl (by omega) ?_
      refine n_iasv (i := 3) (n := 64) dL_law_137 hap rfl (by omega) (fun N137 hw137 ho137 => ?_)
      refine n_iinc (lv' := [(0, _), (1, _), (2, _), (3, _), (4, _), (5, _), (6, _), (7, _), (8, _), (9, _)]) dL_law_138 9 rfl rfl rfl ?_
      refine n_goto (tgt := 122) dL_law_141 (by decide) ?_
      have g2 : N137 2 = N 2 := ho137 2 (by decide)
      refine ih (by rw [g2]; exact hk) (fun y y0 y1 => ?_) (by rw [ho137 0 (by decide)]; exact hc) (by rw [ho137 1 (by decide)]; exact hc')
      rw [g2, hw137]
      split
      · rename_i q
        rw [q]
      · exact hy y y0 (by omega)
  · intro N hk hy hc hc'
    refine n_iload dL_law_122 9 rfl ?_
    refine n_bipush dL_law_124 (by decide) ?_
    refine n_ic_ge (tgt := 144) dL_law_126 (by decide) (by omega) (fun h126 => ?_) (fun h126 => ?_)
    · refine n_iconst dL_law_144 ?_
      refine n_istore (lv' := [(0, _), (1, _), (2, _), (3, _), (4, _), (5, _), (6, _), (7, _), (8, _), (9, _)]) dL_law_145 rfl rfl ?_
      exact lw_147 hL ha h5 hB 0 (Nat.zero_le _) hk (fun y y0 y1 _ => hy y y0 (by omega)) (fun x hx => by omega) hc hc'
    · exfalso; omega
theorem lw_93 (hL : L ≤ 260) (ha : a < ro) (h5 : rq = ro + 69 ∧ hh = ro + 138 ∧ gg = ro + 139 ∧ ee = ro + 140) (hB : 2 ≤ R ∧ R ≤ 5 ∧ 1 ≤ D ∧ D ≤ 6 ∧ 1 ≤ W ∧ W ≤ 3 ∧ 1 ≤ T ∧ T ≤ 5) {M Nn M' Nn' : MI} : ∀ w : Nat, w ≤ W → ∀ {N : NM}, HO0 ((N 2).1 0) R D W T → (∀ x : Nat, x < w → (N 2).1 0 (33 + (x : Int)) = z_shl 1 (R : Int) - 1) → CRn (N 0) M Nn → CRn (N 1) M' Nn' → n_Run G mtL_law room_1 n_Zl (some (a, L, xs)) [(ro, shX), (rq, shX), (hh, [.inr (0, 64)]), (gg, [.inr (0, 64)]), (ee, [.inr (0, 48)])] 600000 7302250 93 [(0, mr a), (1, mr ro), (2, mr rq), (3, mr hh), (4, mr gg), (5, mr ee), (6, mi (W : Int)), (7, mi (T : Int)), (8, mi (R : Int)), (9, mi (w : Int))] [] N := by
  have hap := n_ap5 h5
  refine lpn W (fun w hw ih => ?_) ?_
  · intro N hk hy hc hc'
    refine n_iload dL_law_93 9 rfl ?_
    refine n_iload dL_law_95 6 rfl ?_
    refine n_ic_ge (tgt := 119) dL_law_97 (by decide) (by omega) (fun h97 => ?_) (fun h97 => ?_)
    · exfalso; omega
    · refine n_aload_n dL_law_100 3 rfl rfl ?_
      refine n_bipush dL_law_101 (by decide) ?_
      refine n_iload dL_law_103 9 rfl ?_
      refine n_iadd dL_law_105 ?_
      refine n_iconst dL_law_106 ?_
      refine n_iload dL_law_107 8 rfl ?_
      refine n_ishl dL_law_109 ?_
      refine n_iconst dL_law_110 ?_
      refine n_isub dL_law_111 ?_
      refine n_iasv (i := 2) (n := 64) dL_law_112 hap rfl (by omega) (fun N112 hw112 ho112 => ?_)
      refine n_iinc (lv' := [(0, _), (1, _), (2, _), (3, _), (4, _), (5, _), (6, _), (7, _), (8, _), (9, _)]) dL_law_113 9 rfl rfl rfl ?_
      refine n_goto (tgt := 93) dL_law_116 (by decide) ?_
      refine ih (hk.cg (by omega) (by omega) (fun y hy2 => by rw [hw112, if_neg (by omega)])) (fun x hx => ?_) (by rw [ho112 0 (by decide)]; exact hc) (by rw [ho112 1 (by decide)]; exact hc')
      rw [hw112]
      split
      · rfl
      · exact hy x (by omega)
  · intro N hk hy hc hc'
    refine n_iload dL_law_93 9 rfl ?_
    refine n_iload dL_law_95 6 rfl ?_
    refine n_ic_ge (tgt := 119) dL_law_97 (by decide) (by omega) (fun h97 => ?_) (fun h97 => ?_)
    · refine n_iconst dL_law_119 ?_
      refine n_istore (lv' := [(0, _), (1, _), (2, _), (3, _), (4, _), (5, _), (6, _), (7, _), (8, _), (9, _)]) dL_law_120 rfl rfl ?_
      exact lw_122 hL ha h5 hB 0 (Nat.zero_le _) (hk.ok hB hy) (fun y y0 y1 => by omega) hc hc'
    · exfalso; omega
theorem lw_33 (hL : L ≤ 260) (ha : a < ro) (h5 : rq = ro + 69 ∧ hh = ro + 138 ∧ gg = ro + 139 ∧ ee = ro + 140) {N : NM} {M Nn M' Nn' : MI} (hc : CRn (N 0) M Nn) (hc' : CRn (N 1) M' Nn') : n_Run G mtL_law room_1 n_Zl (some (a, L, xs)) [(ro, shX), (rq, shX), (hh, [.inr (0, 64)]), (gg, [.inr (0, 64)]), (ee, [.inr (0, 48)])] 600000 7302250 33 [(0, mr a), (1, mr ro), (2, mr rq), (3, mr hh), (4, mr gg), (5, mr ee)] [] N := by
  have hap := n_ap5 h5
  refine n_iconst dL_law_33 ?_
  refine n_aload_n dL_law_34 0 rfl rfl ?_
  refine n_iconst dL_law_35 ?_
  refine n_cell dL_law_36 lvL_19 rfl hap rfl hL (by omega) rfl ⟨Nat.le_of_ble_eq_true rfl, Nat.le_of_ble_eq_true rfl⟩ (fun z36 hz36 => ?_)
  refine n_iconst dL_law_39 ?_
  refine n_mod dL_law_40 (by omega) (by omega) ?_
  refine n_iadd dL_law_41 ?_
  obtain ⟨W, hW⟩ : ∃ W : Nat, (1 : Int) + z36 % 3 = (W : Int) := ⟨((1 : Int) + z36 % 3).toNat, by omega⟩
  rw [hW]
  refine n_istore (lv' := [(0, _), (1, _), (2, _), (3, _), (4, _), (5, _), (6, _)]) dL_law_42 rfl rfl ?_
  refine n_iconst dL_law_44 ?_
  refine n_aload_n dL_law_45 0 rfl rfl ?_
  refine n_iconst dL_law_46 ?_
  refine n_cell dL_law_47 lvL_19 rfl hap rfl hL (by omega) rfl ⟨Nat.le_of_ble_eq_true rfl, Nat.le_of_ble_eq_true rfl⟩ (fun z47 hz47 => ?_)
  refine n_iconst dL_law_50 ?_
  refine n_mod dL_law_51 (by omega) (by omega) ?_
  refine n_iadd dL_law_52 ?_
  obtain ⟨T, hT⟩ : ∃ T : Nat, (1 : Int) + z47 % 5 = (T : Int) := ⟨((1 : Int) + z47 % 5).toNat, by omega⟩
  rw [hT]
  refine n_istore (lv' := [(0, _), (1, _), (2, _), (3, _), (4, _), (5, _), (6, _), (7, _)]) dL_law_53 rfl rfl ?_
  refine n_aload_n dL_law_55 0 rfl rfl ?_
  refine n_bipush dL_law_56 (by decide) ?_
  refine n_iconst dL_law_58 ?_
  refine n_aload_n dL_law_59 0 rfl rfl ?_
  refine n_iconst dL_law_60 ?_
  refine n_cell dL_law_61 lvL_19 rfl hap rfl hL (by omega) rfl ⟨Nat.le_of_ble_eq_true rfl, Nat.le_of_ble_eq_true rfl⟩ (fun z61 hz61 => ?_)
  refine n_iconst dL_law_64 ?_
  refine n_mod dL_law_65 (by omega) (by omega) ?_
  refine n_iadd dL_law_66 ?_
  obtain ⟨R, hR⟩ : ∃ R : Nat, (2 : Int) + z61 % 4 = (R : Int) := ⟨((2 : Int) + z61 % 4).toNat, by omega⟩
  rw [hR]
  refine n_iconst dL_law_67 ?_
  refine n_aload_n dL_law_68 0 rfl rfl ?_
  refine n_iconst dL_law_69 ?_
  refine n_cell dL_law_70 lvL_19 rfl hap rfl hL (by omega) rfl ⟨Nat.le_of_ble_eq_true rfl, Nat.le_of_ble_eq_true rfl⟩ (fun z70 hz70 => ?_)
  refine n_bipush dL_law_73 (by decide) ?_
  refine n_mod dL_law_75 (by omega) (by omega) ?_
  refine n_iadd dL_law_76 ?_
  obtain ⟨D, hD⟩ : ∃ D : Nat, (1 : Int) + z70 % 6 = (D : Int) := ⟨((1 : Int) + z70 % 6).toNat, by omega⟩
  rw [hD]
  refine n_iload dL_law_77 6 rfl ?_
  refine n_iload dL_law_79 7 rfl ?_
  refine n_aload_n dL_law_81 3 rfl rfl ?_
  refine n_callS (ix := fun _ => 2) (as := [_, _, _, _, _, _, _]) dL_law_82 lvL_59 rfl ⟨rfl, rfl⟩ hap (fun j p hj => by rcases j with _ | _ | _ | j <;> first | exact hj | cases hj) (Or.inr rfl) (c_numbers hL (by omega) (by omega) (by omega) (by omega) (by omega)) (fun i j hi hj e => by rcases i with _ | _ | _ | i <;> rcases j with _ | _ | _ | j <;> first | rfl | exact absurd e (by decide) | (exfalso; simp at hi; done) | (exfalso; simp at hj; done) | (exfalso; simp at hi; omega) | (exfalso; simp at hj; omega)) rfl rfl rfl ⟨Nat.le_of_ble_eq_true rfl, Nat.le_of_ble_eq_true rfl⟩ (fun v82 C82 hq82 N82 hi82 ho82 => ?_)
  obtain ⟨rfl, h0⟩ := hq82
  have i0 : N82 2 = C82 0 := hi82 0 (by simp)
  have o0 : N82 0 = N 0 := ho82 0 (fun j hj => by rcases j with _ | _ | _ | j <;> first | decide | (exfalso; simp at hj; done) | (exfalso; simp at hj; omega))
  have o1 : N82 1 = N 1 := ho82 1 (fun j hj => by rcases j with _ | _ | _ | j <;> first | decide | (exfalso; simp at hj; done) | (exfalso; simp at hj; omega))
  refine n_aload_n dL_law_85 3 rfl rfl ?_
  refine n_iconst dL_law_86 ?_
  refine n_ialdv (i := 2) (n := 64) dL_law_87 rfl (by omega) (show (N82 2).1 0 0 = (R : Int) by rw [i0]; exact h0.1.1) ?_
  refine n_istore (lv' := [(0, _), (1, _), (2, _), (3, _), (4, _), (5, _), (6, _), (7, _), (8, _)]) dL_law_88 rfl rfl ?_
  refine n_iconst dL_law_90 ?_
  refine n_istore (lv' := [(0, _), (1, _), (2, _), (3, _), (4, _), (5, _), (6, _), (7, _), (8, _), (9, _)]) dL_law_91 rfl rfl ?_
  exact lw_93 (D := D) hL ha h5 (by omega) 0 (Nat.zero_le _) (by rw [i0]; exact h0) (fun x hx => by omega) (by rw [o0]; exact hc) (by rw [o1]; exact hc')
end

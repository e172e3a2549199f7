/-! THE REFERENCE'S QUESTIONS, part nine: prices, stuck boards, quarrels. -/
/-- bits below the eighth alone -/
def sm8 (x : Int) : Prop := rI x ∧ ∀ k, 8 ≤ k → k < 32 → tb x k = false
theorem sm8_or {x y : Int} (hx : sm8 x) (hy : sm8 y) : sm8 (z_or x y) := ⟨z_or_r _ _, fun k h1 h2 => by rw [tb_or, hx.2 k h1 h2, hy.2 k h1 h2]; rfl⟩
theorem sm8_and {x y : Int} (hx : sm8 x) : sm8 (z_and x y) := ⟨z_and_r _ _, fun k h1 h2 => by rw [tb_and, hx.2 k h1 h2]; rfl⟩
theorem sm8_0 : sm8 0 := ⟨by omega, fun k _ _ => tb_0 k⟩
theorem sm8_1 {d : Int} (h : 0 ≤ d ∧ d < 8) : sm8 (z_shl 1 d) := ⟨z_shl_r _ _, fun k h1 h2 => by rw [tb_sh1 (by omega) h2]; simp; omega⟩
theorem sm8_r {x : Int} (h : sm8 x) : 0 ≤ x ∧ x < 256 := (tb_up h.1 8 (by omega)).mpr h.2
theorem sm8_orf {f : Nat → Int} : ∀ n, (∀ k, k < n → sm8 (f k)) → sm8 (orf f n)
  | 0, _ => sm8_0
  | n + 1, h => sm8_or (sm8_orf n (fun k hk => h k (by omega))) (h n (by omega))
theorem pcN_up : ∀ n k x, x < 2 ^ k → pcN n x ≤ k
  | 0, k, x, _ => by unfold pcN; omega
  | n + 1, 0, x, h => by
    have : x = 0 := by simp at h; exact h
    subst this
    rw [pcN_0]; omega
  | n + 1, k + 1, x, h => by
    have := pcN_up n k (x / 2) (by rw [Nat.pow_succ] at h; omega)
    unfold pcN
    omega
theorem pc8 {x : Int} (h : 0 ≤ x ∧ x < 256) : 0 ≤ pc x ∧ pc x ≤ 8 := by
  have := pcN_up 32 8 x.toNat (by omega)
  unfold pc
  omega
theorem pas_sm {κ : MI} (hH : iHs κ) {t : Int} {s : Nat} (hs : s < 1728) (c : Nat) : sm8 (pas κ t s c) := by
  unfold pas
  refine sm8_orf _ (fun w _ => ?_)
  have := mv_r hH hs (t := t) c w
  split
  · exact sm8_0
  · exact sm8_1 (by omega)
theorem kap_35 {I : MI} (h : iHs I) (wo k : Int) : sm8 (kap I wo k 0 35) := by
  unfold kap
  rw [scn_0]
  unfold sc0
  simp only [if_true, Int.reduceEq, if_false]
  have hd := (iHs_pm h).2.1
  refine sm8_orf _ (fun d hd2 => ?_)
  unfold bdF
  split
  · exact sm8_1 (by omega)
  · exact sm8_0
theorem scn_sm {κ : MI} {wo k : Int} (t : Int) : ∀ e : Nat, (∀ i : Nat, i < e → iEv κ i) → sm8 (scn κ wo k e 13 t)
  | 0, _ => by unfold scn sc0; rw [if_neg (by omega), if_pos (by omega)]; exact sm8_0
  | e + 1, h => by
    have ih := scn_sm (κ := κ) (wo := wo) (k := k) t e (fun i hi => h i (by omega))
    unfold scn
    split
    · exact ih
    · unfold noteM
      rw [ntM_13]
      have ha := (h e (by omega)).2.1
      split
      · rw [scn_ot (c := 11) (by omega) (4 * (e : Int) + 1)]
        exact sm8_or ih (sm8_1 (by omega))
      · exact ih
theorem kap_13 {I : MI} (h : iEvs I) (wo k t : Int) : sm8 (kap I wo k 13 t) := scn_sm t _ (iEv_pm h)
def mis (κ : MI) (t s c : Nat) : Int := pc (z_and (z_and (pas κ t s c) (κ 0 35)) (z_xor (κ 13 t) (-1)))
def slf (κ : MI) (t s c : Nat) : Int := pc (z_and (κ 13 t) (z_xor (pas κ t s c) (-1)))
def cst (κ : MI) (m f : Int) (t s c : Nat) : Int := 1000 * (m * mis κ t s c + f * slf κ t s c) + mis κ t s c
def cbF (κ : MI) (m f : Int) (t : Nat) (V : Nat → Int) (s c : Nat) (W : Nat → Int) : Nat → Int :=
  if okb κ ((t : Int) + 1) (nxt κ t s c) = true ∧ (W (nxt κ t s c) < 0 ∨ V s + cst κ m f t s c < W (nxt κ t s c)) then upn W (nxt κ t s c) (V s + cst κ m f t s c) else W
theorem cbF_t {κ : MI} {m f : Int} {t : Nat} {V : Nat → Int} {s c : Nat} {W : Nat → Int} (h : okb κ ((t : Int) + 1) (nxt κ t s c) = true ∧ (W (nxt κ t s c) < 0 ∨ V s + cst κ m f t s c < W (nxt κ t s c))) : cbF κ m f t V s c W = upn W (nxt κ t s c) (V s + cst κ m f t s c) := if_pos h
theorem cbF_f {κ : MI} {m f : Int} {t : Nat} {V : Nat → Int} {s c : Nat} {W : Nat → Int} (h : ¬ (okb κ ((t : Int) + 1) (nxt κ t s c) = true ∧ (W (nxt κ t s c) < 0 ∨ V s + cst κ m f t s c < W (nxt κ t s c)))) : cbF κ m f t V s c W = W := if_neg h
def cbI (κ : MI) (s : Nat) : Int := if begb κ s then 0 else -1
def cbV (κ : MI) (m f : Int) : Nat → Nat → Int
  | 0 => cbI κ
  | t + 1 => swS (cbV κ m f t) (cbF κ m f t (cbV κ m f t)) (fun s => mal κ t s) (nst κ) (fun _ => -1)
def cbB (V : Nat → Int) : Nat → Int
  | 0 => -9
  | s + 1 => if 0 ≤ V s ∧ (cbB V s = -9 ∨ V s < cbB V s) then V s else cbB V s
noncomputable def chB (I : MI) (k m f : Int) : Int := if gd I 0 k then cbB (cbV (kap I 0 k) m f (lst (kap I 0 k))) (nst (kap I 0 k)) else -9
theorem mul_99 {a b : Int} (ha : 0 ≤ a ∧ a ≤ 99) (hb : 0 ≤ b ∧ b ≤ 8) : 0 ≤ a * b ∧ a * b ≤ 792 := by
  have h1 : a * b ≤ 99 * b := Int.mul_le_mul_of_nonneg_right ha.2 hb.1
  have h2 := Int.mul_nonneg ha.1 hb.1
  omega
theorem cst_r {κ : MI} {m f : Int} {t s c : Nat} (hm : 0 ≤ m ∧ m ≤ 99) (hf : 0 ≤ f ∧ f ≤ 99) (h1 : 0 ≤ mis κ t s c ∧ mis κ t s c ≤ 8) (h2 : 0 ≤ slf κ t s c ∧ slf κ t s c ≤ 8) : 0 ≤ cst κ m f t s c ∧ cst κ m f t s c ≤ 1584008 := by
  have := mul_99 hm h1
  have := mul_99 hf h2
  unfold cst
  omega
/-- what a scene's masks are like -/
def iMs (κ : MI) : Prop := sm8 (κ 0 35) ∧ ∀ t, sm8 (κ 13 t)
theorem mis_r {κ : MI} (hH : iHs κ) {t s : Nat} (hs : s < 1728) (c : Nat) : 0 ≤ mis κ t s c ∧ mis κ t s c ≤ 8 := pc8 (sm8_r (sm8_and (sm8_and (pas_sm hH hs c))))
theorem slf_r {κ : MI} (hM : iMs κ) (t s c : Nat) : 0 ≤ slf κ t s c ∧ slf κ t s c ≤ 8 := pc8 (sm8_r (sm8_and (hM.2 t)))
theorem cbF_r {κ : MI} {m f : Int} {t : Nat} {V : Nat → Int} {b : Int} (hV : ∀ s, -1 ≤ V s ∧ V s ≤ b) (s : Nat) (h0 : 0 ≤ V s) (hc : ∀ c, 0 ≤ cst κ m f t s c ∧ cst κ m f t s c ≤ 1584008) (c : Nat) (W : Nat → Int) (h : ∀ s, -1 ≤ W s ∧ W s ≤ b + 1584008) (x : Nat) : -1 ≤ cbF κ m f t V s c W x ∧ cbF κ m f t V s c W x ≤ b + 1584008 := by
  have hh : cbF κ m f t V s c W = upn W (nxt κ t s c) (V s + cst κ m f t s c) ∨ cbF κ m f t V s c W = W := by unfold cbF; exact ite_or _ _
  rcases hh with e | e
  · rw [e]
    unfold upn
    have := hc c
    have := hV s
    have := h x
    split <;> omega
  · rw [e]; exact h x
/-- as swS_rb, where a state counts -/
theorem swS_rc {b : Int} {V : Nat → Int} {f : Nat → Nat → (Nat → Int) → (Nat → Int)} {m : Nat → Nat} : ∀ (n : Nat) (W : Nat → Int), (∀ s, s < n → 0 ≤ V s → ∀ c W, (∀ s, -1 ≤ W s ∧ W s ≤ b) → ∀ x, -1 ≤ f s c W x ∧ f s c W x ≤ b) → (∀ s, -1 ≤ W s ∧ W s ≤ b) → ∀ x, -1 ≤ swS V f m n W x ∧ swS V f m n W x ≤ b
  | 0, W, _, h => h
  | n + 1, W, hf, h => by
    unfold swS
    split
    · rename_i hv
      exact swC_rb (hf n (by omega) hv) _ _ (swS_rc n W (fun s hs => hf s (by omega)) h)
    · exact swS_rc n W (fun s hs => hf s (by omega)) h
theorem cbV_r {κ : MI} (hH : iHs κ) (hS : iSc κ) (hM : iMs κ) {m f : Int} (hm : 0 ≤ m ∧ m ≤ 99) (hf : 0 ≤ f ∧ f ≤ 99) : ∀ t x : Nat, -1 ≤ cbV κ m f t x ∧ cbV κ m f t x ≤ 1584008 * t
  | 0, x => by
    show -1 ≤ cbI κ x ∧ cbI κ x ≤ _
    unfold cbI; split <;> omega
  | t + 1, x => by
    have hn := (nst_le hH hS).2
    have h := swS_rc (b := 1584008 * (t : Int) + 1584008) (V := cbV κ m f t) (f := cbF κ m f t (cbV κ m f t)) (m := fun s => mal κ t s) (nst κ) (fun _ => -1) (fun s hs h0 c W hW x => cbF_r (fun s => cbV_r hH hS hM hm hf t s) s h0 (fun c => cst_r hm hf (mis_r hH (by omega) c) (slf_r hM t s c)) c W hW x) (fun _ => by omega) x
    show -1 ≤ swS _ _ _ _ _ x ∧ swS _ _ _ _ _ x ≤ 1584008 * ((t + 1 : Nat) : Int)
    omega
theorem cbB_r {V : Nat → Int} {b : Int} (hV : ∀ s, V s ≤ b) (hb : 0 ≤ b) : ∀ n, cbB V n = -9 ∨ (0 ≤ cbB V n ∧ cbB V n ≤ b)
  | 0 => Or.inl rfl
  | n + 1 => by
    have h1 := cbB_r hV hb n
    have h2 := hV n
    unfold cbB
    split
    · rename_i h; right; omega
    · exact h1
theorem kap_M {I : MI} (h : iHs I) (h2 : iEvs I) (wo k : Int) : iMs (kap I wo k) := ⟨kap_35 h wo k, fun t => kap_13 h2 wo k t⟩
theorem chB_r {I : MI} (hH : iHs I) (hE : iEvs I) {k m f : Int} (hk : 0 ≤ k ∧ k ≤ I 0 13) (hm : 0 ≤ m ∧ m ≤ 99) (hf : 0 ≤ f ∧ f ≤ 99) : chB I k m f = -9 ∨ (0 ≤ chB I k m f ∧ chB I k m f ≤ 47520240) := by
  have hT := hH.2.2.2.1
  have hl := KA_lst hH (wo := 0) (k := k)
  unfold chB
  split
  · have h := cbB_r (V := cbV (kap I 0 k) m f (lst (kap I 0 k))) (b := 1584008 * (lst (kap I 0 k) : Int)) (fun s => (cbV_r (kap_H hH _ _) (kap_S hE hk) (kap_M hH hE _ _) hm hf _ s).2) (by omega) (nst (kap I 0 k))
    omega
  · exact Or.inl rfl
noncomputable def s_cheapest (m f : Int) (I : MI) : Int × MI := if m < 0 ∨ 99 < m ∨ f < 0 ∨ 99 < f then (-1, I) else if chB I (I 0 13) m f = -9 then (-9, I) else (chB I (I 0 13) m f / 1000, a_tl I (chB I (I 0 13) m f % 1000))
/-- the best k of the first n, and its sum -/
noncomputable def seF (I : MI) (m f h : Int) : Nat → Int × Int
  | 0 => (-9, 0)
  | k + 1 => if chB I k m f ≠ -9 ∧ ((seF I m f h k).1 = -9 ∨ chB I k m f / 1000 + h * k < (seF I m f h k).2) then ((k : Int), chB I k m f / 1000 + h * k) else seF I m f h k
noncomputable def s_settle (m f h : Int) (I : MI) : Int × MI := if m < 0 ∨ 99 < m ∨ f < 0 ∨ 99 < f ∨ h < 0 ∨ 99 < h then (-1, I) else if (seF I m f h (I 0 13 + 1).toNat).1 = -9 then (-9, I) else ((seF I m f h (I 0 13 + 1).toNat).1, a_tl I (seF I m f h (I 0 13 + 1).toNat).2)
section
variable {G : GT} {sh : MS} {I L : MI} {R : MR} {κ : MI}

set_option maxHeartbeats 1500000 in
theorem s_X8_cheapestBy {k m f : Int} (hHI : iHs I) (hE : iEvs I) (hk : 0 ≤ k ∧ k ≤ I 0 13) (hm : 0 ≤ m ∧ m ≤ 99) (hf : 0 ≤ f ∧ f ≤ 99) : Sp G mtX8_cheapestBy [mr 0, mi k, mi m, mi f] shM I L rM (qi (fun z I' L' R' => z = chB I k m f ∧ Pe I I' ∧ L = L' ∧ R' = rM)) := by
  refine Sp.of pnX8_cheapestBy rfl ?_
  show Rn G mtX8_cheapestBy _ 0 [(0, mr 0), (1, mi k), (2, mi m), (3, mi f)] [] shM I L rM
  generalize hQ : (qi (fun z I' L' R' => z = chB I k m f ∧ Pe I I' ∧ L = L' ∧ R' = rM)) = Q
  have hH := kap_H hHI 0 k
  have hS := kap_S hE hk (wo := 0)
  have hM := kap_M hHI hE 0 k
  have hlI := KA_lst hHI (wo := 0) (k := k)
  have hTI := hHI.2.2.2.1
  have hpe : ∀ J, E1 (kap I 0 k) J → Pe I J := fun J h => kap_pe h
  obtain ⟨κ, hκ⟩ : ∃ κ, κ = kap I 0 k := ⟨_, rfl⟩
  have hch : chB I k m f = if gd I 0 k then cbB (cbV κ m f (lst κ)) (nst κ) else -9 := by rw [hκ]; rfl
  rw [← hκ] at hH hS hM hlI hpe
  have hu := us_le hH hS
  have hnn := (nst_le hH hS).2
  have hT := hH.2.2.2.1
  have hlt : (lst κ : Int) = κ 0 14 := by unfold lst; omega
  have hcr := cbV_r hH hS hM hm hf
  have i0 : ∀ s, cbI κ s = if begb κ s = true then 0 else -1 := fun s => rfl
  refine x_aload_n dX8_cheapestBy_0 0 rfl rfl ?_
  refine x_iconst dX8_cheapestBy_1 ?_
  refine x_iload_n dX8_cheapestBy_2 1 rfl rfl ?_
  refine x_callVi (as := [_, _]) dX8_cheapestBy_3 lvX8_310 rfl rfl rfl rfl rfl rfl rfl ⟨rfl, rfl⟩ (s_X8_layNight hHI hE hk) (fun z3 I3 L3 R3 hq3 => ?_)
  obtain ⟨rfl, hE2, rfl, rfl⟩ := hq3
  rw [← hκ] at hE2
  refine y_ifb_ne (tgt := 12) dX8_cheapestBy_6 (by decide) (fun h6 => ?_) (fun h6 => ?_)
  · refine x_iconst dX8_cheapestBy_12 ?_
    refine x_istore (lv' := [(0, _), (1, _), (2, _), (3, _), (4, _)]) dX8_cheapestBy_13 rfl rfl ?_
    have hgd : gd I 0 k = true := by assumption
    have bl : ∀ s : Nat, s ≤ nst κ → ∀ J : MI, E1 κ J → (∀ x : Nat, x < nst κ → J 24 (x : Int) = cbV κ m f (lst κ) x) → Rn G mtX8_cheapestBy Q 265 [(0, mr 0), (1, mi k), (2, mi m), (3, mi f), (4, mi (cbB (cbV κ m f (lst κ)) s)), (5, mi (s : Int))] [] shM J L rM := by
      refine lpn _ (fun s hs ih => ?_) ?_
      · intro J hJ hA
        have hvs := hA s hs
        have hvr := hcr (lst κ) s
        have hbr := cbB_r (V := cbV κ m f (lst κ)) (b := 1584008 * (lst κ : Int)) (fun s => (hcr _ s).2) (by omega) s
        have h9 := ih J hJ hA
        refine x_iload dX8_cheapestBy_265 5 rfl ?_
        refine x_aload_n dX8_cheapestBy_267 0 rfl rfl ?_
        refine x_callVi (as := []) dX8_cheapestBy_268 lvX8_286 rfl rfl rfl rfl rfl rfl rfl ⟨rfl, rfl⟩ (s_X8_states hJ hH hS) (fun z268 I268 L268 R268 hq268 => ?_)
        obtain ⟨rfl, rfl, rfl, rfl⟩ := hq268
        refine x_ic_ge (tgt := 323) dX8_cheapestBy_271 (by decide) (by omega) (fun h271 => ?_) (fun h271 => ?_)
        · exfalso; omega
        · refine x_aload_n dX8_cheapestBy_274 0 rfl rfl ?_
          refine x_getR dX8_cheapestBy_275 flX8_82 rfl rfl rfl ?_
          refine x_iload dX8_cheapestBy_278 5 rfl ?_
          refine x_iald dX8_cheapestBy_280 rfl (by omega) ?_
          refine x_if_lt (tgt := 313) dX8_cheapestBy_281 (by decide) (by omega) (fun h281 => ?_) (fun h281 => ?_)
          · refine x_iload dX8_cheapestBy_313 4 rfl ?_
            refine x_istore (lv' := [(0, _), (1, _), (2, _), (3, _), (4, _), (5, _)]) dX8_cheapestBy_315 rfl rfl ?_
            refine x_iinc (lv' := [(0, _), (1, _), (2, _), (3, _), (4, _), (5, _)]) dX8_cheapestBy_317 5 rfl rfl rfl ?_
            refine x_goto (tgt := 265) dX8_cheapestBy_320 (by decide) ?_
            unfold cbB at h9
            first
            | (rw [if_pos ⟨by omega, by omega⟩] at h9; rw [hvs]; exact h9)
            | (rw [if_neg (by rintro ⟨x1, x2⟩; omega)] at h9; exact h9)
          · refine x_iload dX8_cheapestBy_284 4 rfl ?_
            refine x_bipush dX8_cheapestBy_286 (by decide) ?_
            refine x_ic_eq (tgt := 303) dX8_cheapestBy_288 (by decide) (by omega) (fun h288 => ?_) (fun h288 => ?_)
            · refine x_aload_n dX8_cheapestBy_303 0 rfl rfl ?_
              refine x_getR dX8_cheapestBy_304 flX8_82 rfl rfl rfl ?_
              refine x_iload dX8_cheapestBy_307 5 rfl ?_
              refine x_iald dX8_cheapestBy_309 rfl (by omega) ?_
              refine x_goto (tgt := 315) dX8_cheapestBy_310 (by decide) ?_
              refine x_istore (lv' := [(0, _), (1, _), (2, _), (3, _), (4, _), (5, _)]) dX8_cheapestBy_315 rfl rfl ?_
              refine x_iinc (lv' := [(0, _), (1, _), (2, _), (3, _), (4, _), (5, _)]) dX8_cheapestBy_317 5 rfl rfl rfl ?_
              refine x_goto (tgt := 265) dX8_cheapestBy_320 (by decide) ?_
              unfold cbB at h9
              first
              | (rw [if_pos ⟨by omega, by omega⟩] at h9; rw [hvs]; exact h9)
              | (rw [if_neg (by rintro ⟨x1, x2⟩; omega)] at h9; exact h9)
            · refine x_aload_n dX8_cheapestBy_291 0 rfl rfl ?_
              refine x_getR dX8_cheapestBy_292 flX8_82 rfl rfl rfl ?_
              refine x_iload dX8_cheapestBy_295 5 rfl ?_
              refine x_iald dX8_cheapestBy_297 rfl (by omega) ?_
              refine x_iload dX8_cheapestBy_298 4 rfl ?_
              refine x_ic_ge (tgt := 313) dX8_cheapestBy_300 (by decide) (by omega) (fun h300 => ?_) (fun h300 => ?_)
              · refine x_iload dX8_cheapestBy_313 4 rfl ?_
                refine x_istore (lv' := [(0, _), (1, _), (2, _), (3, _), (4, _), (5, _)]) dX8_cheapestBy_315 rfl rfl ?_
                refine x_iinc (lv' := [(0, _), (1, _), (2, _), (3, _), (4, _), (5, _)]) dX8_cheapestBy_317 5 rfl rfl rfl ?_
                refine x_goto (tgt := 265) dX8_cheapestBy_320 (by decide) ?_
                unfold cbB at h9
                first
                | (rw [if_pos ⟨by omega, by omega⟩] at h9; rw [hvs]; exact h9)
                | (rw [if_neg (by rintro ⟨x1, x2⟩; omega)] at h9; exact h9)
              · refine x_aload_n dX8_cheapestBy_303 0 rfl rfl ?_
                refine x_getR dX8_cheapestBy_304 flX8_82 rfl rfl rfl ?_
                refine x_iload dX8_cheapestBy_307 5 rfl ?_
                refine x_iald dX8_cheapestBy_309 rfl (by omega) ?_
                refine x_goto (tgt := 315) dX8_cheapestBy_310 (by decide) ?_
                refine x_istore (lv' := [(0, _), (1, _), (2, _), (3, _), (4, _), (5, _)]) dX8_cheapestBy_315 rfl rfl ?_
                refine x_iinc (lv' := [(0, _), (1, _), (2, _), (3, _), (4, _), (5, _)]) dX8_cheapestBy_317 5 rfl rfl rfl ?_
                refine x_goto (tgt := 265) dX8_cheapestBy_320 (by decide) ?_
                unfold cbB at h9
                first
                | (rw [if_pos ⟨by omega, by omega⟩] at h9; rw [hvs]; exact h9)
                | (rw [if_neg (by rintro ⟨x1, x2⟩; omega)] at h9; exact h9)
      · intro J hJ hA
        refine x_iload dX8_cheapestBy_265 5 rfl ?_
        refine x_aload_n dX8_cheapestBy_267 0 rfl rfl ?_
        refine x_callVi (as := []) dX8_cheapestBy_268 lvX8_286 rfl rfl rfl rfl rfl rfl rfl ⟨rfl, rfl⟩ (s_X8_states hJ hH hS) (fun z268 I268 L268 R268 hq268 => ?_)
        obtain ⟨rfl, rfl, rfl, rfl⟩ := hq268
        refine x_ic_ge (tgt := 323) dX8_cheapestBy_271 (by decide) (by omega) (fun h271 => ?_) (fun h271 => ?_)
        · refine x_iload dX8_cheapestBy_323 4 rfl ?_
          refine x_iret dX8_cheapestBy_325 rfl ?_
          rw [← hQ, hch, if_pos hgd]
          exact ⟨_, rfl, rfl, hpe _ hJ, rfl, rfl⟩
        · exfalso; omega
    have tl : ∀ t : Nat, t ≤ lst κ → ∀ J : MI, E1 κ J → (∀ x : Nat, x < nst κ → J 24 (x : Int) = cbV κ m f t x ∧ J 25 (x : Int) = -1) → Rn G mtX8_cheapestBy Q 62 [(0, mr 0), (1, mi k), (2, mi m), (3, mi f), (4, mi (t : Int))] [] shM J L rM := by
      refine lpn _ (fun t ht iht => ?_) ?_
      · intro J hJ hV
        have j14 : J 0 14 = κ 0 14 := hJ.at (by unfold sce per; omega)
        have sl : ∀ s : Nat, s ≤ nst κ → ∀ J : MI, E1 κ J → (∀ x : Nat, x < nst κ → J 24 (x : Int) = cbV κ m f t x) → (∀ x : Nat, x < nst κ → J 25 (x : Int) = swS (cbV κ m f t) (cbF κ m f t (cbV κ m f t)) (fun s => mal κ t s) s (fun _ => -1) x) → Rn G mtX8_cheapestBy Q 74 [(0, mr 0), (1, mi k), (2, mi m), (3, mi f), (4, mi (t : Int)), (5, mi (s : Int))] [] shM J L rM := by
          refine lpn _ (fun s hs ih => ?_) ?_
          · intro J hJ hA hW
            have hs2 : s < 1728 := by omega
            have hml : mal κ t s ≤ 729 := mal_le hH hS t s
            have hvs := hA s hs
            have hvr := hcr t s
            have cl : ∀ c : Nat, c ≤ mal κ t s → 0 ≤ cbV κ m f t s → ∀ J3, E1 κ J3 → J3 0 41 = (mal κ t s : Int) → hMv κ t s (us κ) J3 → (∀ x : Nat, x < nst κ → J3 24 (x : Int) = cbV κ m f t x) → (∀ x : Nat, x < nst κ → J3 25 (x : Int) = swC (cbF κ m f t (cbV κ m f t) s) c (swS (cbV κ m f t) (cbF κ m f t (cbV κ m f t)) (fun s => mal κ t s) s (fun _ => -1)) x) → Rn G mtX8_cheapestBy Q 104 [(0, mr 0), (1, mi k), (2, mi m), (3, mi f), (4, mi (t : Int)), (5, mi (s : Int)), (6, mi (c : Int))] [] shM J3 L rM := by
              refine lpn _ (fun c hc ihc => ?_) ?_
              · intro hpos J3 hJ3 hm41 hMv3 hA3 hW3
                have hnx := nxt_lt hH hs2 (t := (t : Int)) c
                have hmi := mis_r hH (t := t) hs2 c
                have hsl := slf_r hM t s c
                have hct := cst_r (t := t) (s := s) (c := c) hm hf hmi hsl
                have hvs3 := hA3 s hs
                have hwx := hW3 _ hnx
                have hps := sm8_r (pas_sm hH hs2 c (t := (t : Int)))
                have hwr := swC_rb (b := 1584008 * (t : Int) + 1584008) (f := cbF κ m f t (cbV κ m f t) s) (fun c W hW x => cbF_r (fun s => hcr t s) s hpos (fun c => cst_r hm hf (mis_r hH hs2 c) (slf_r hM t s c)) c W hW x) c _ (swS_rc (b := 1584008 * (t : Int) + 1584008) (V := cbV κ m f t) (f := cbF κ m f t (cbV κ m f t)) (m := fun s => mal κ t s) s (fun _ => -1) (fun s hs3 h0 c W hW x => cbF_r (fun s => hcr t s) s h0 (fun c => cst_r hm hf (mis_r hH (by omega) c) (slf_r hM t s c)) c W hW x) (fun _ => by omega)) (nxt κ t s c)
                have nx : ∀ J4 : MI, E1 κ J4 → J4 0 41 = (mal κ t s : Int) → hMv κ t s (us κ) J4 → (∀ x : Nat, x < nst κ → J4 24 (x : Int) = cbV κ m f t x) → (∀ x : Nat, x < nst κ → J4 25 (x : Int) = swC (cbF κ m f t (cbV κ m f t) s) (c + 1) (swS (cbV κ m f t) (cbF κ m f t (cbV κ m f t)) (fun s => mal κ t s) s (fun _ => -1)) x) → ∀ lv8, lv8 = [(0, mr 0), (1, mi k), (2, mi m), (3, mi f), (4, mi (t : Int)), (5, mi (s : Int)), (6, mi (c : Int))] → Rn G mtX8_cheapestBy Q 236 lv8 [] shM J4 L rM := by
                  intro J4 hJ4 hm4 hM4 hA4 hW4 lv8 hlv
                  subst hlv
                  refine x_iinc (lv' := [(0, _), (1, _), (2, _), (3, _), (4, _), (5, _), (6, _)]) dX8_cheapestBy_236 6 rfl rfl rfl ?_
                  refine x_goto (tgt := 104) dX8_cheapestBy_239 (by decide) ?_
                  exact ihc hpos _ hJ4 hm4 hM4 hA4 hW4
                refine x_iload dX8_cheapestBy_104 6 rfl ?_
                refine x_aload_n dX8_cheapestBy_106 0 rfl rfl ?_
                refine x_getI dX8_cheapestBy_107 flX8_270 rfl rfl ?_
                refine x_ic_ge (tgt := 242) dX8_cheapestBy_110 (by decide) (by omega) (fun h110 => ?_) (fun h110 => ?_)
                · exfalso; omega
                · refine x_aload_n dX8_cheapestBy_113 0 rfl rfl ?_
                  refine x_iload dX8_cheapestBy_114 6 rfl ?_
                  refine x_callVv (as := [_]) dX8_cheapestBy_116 lvX8_300 rfl rfl rfl rfl rfl rfl rfl ⟨rfl, rfl⟩ (s_X8_take hJ3 hH hS hs2 hMv3 hc) (fun I116 L116 R116 hq116 => ?_)
                  obtain ⟨rfl, rfl, hE0, h42, h43, h21⟩ := hq116
                  have hJ4 := hJ3.tr hE0.e1
                  have hm2 : I116 0 41 = (mal κ t s : Int) := by rw [hE0 0 41 (by unfold scr0; omega)]; exact hm41
                  have hM2 : hMv κ t s (us κ) I116 := hMv_same (fun w => (mvl_len hH.2.1 t s w).2) hMv3 (fun j _ => hE0 18 j (by unfold scr0; omega)) (fun j _ => ⟨hE0 19 j (by unfold scr0; omega), hE0 20 j (by unfold scr0; omega)⟩)
                  refine x_aload_n dX8_cheapestBy_119 0 rfl rfl ?_
                  refine x_getI dX8_cheapestBy_120 flX8_273 rfl rfl ?_
                  rw [h42]
                  refine x_aload_n dX8_cheapestBy_123 0 rfl rfl ?_
                  refine x_getI dX8_cheapestBy_124 flX8_249 rfl rfl ?_
                  rw [show I116 0 35 = κ 0 35 by exact hJ4.at (by unfold sce per; omega)]
                  refine x_iand dX8_cheapestBy_127 ?_
                  refine x_aload_n dX8_cheapestBy_128 0 rfl rfl ?_
                  refine x_getR dX8_cheapestBy_129 flX8_47 rfl rfl rfl ?_
                  refine x_iload dX8_cheapestBy_132 4 rfl ?_
                  refine x_iald dX8_cheapestBy_134 rfl (by omega) ?_
                  rw [show I116 13 (t : Int) = κ 13 (t : Int) by exact hJ4.at (by unfold sce per; omega)]
                  refine x_iconst dX8_cheapestBy_135 ?_
                  refine x_ixor dX8_cheapestBy_136 ?_
                  refine x_iand dX8_cheapestBy_137 ?_
                  refine x_callSi (as := [_]) dX8_cheapestBy_138 lvX8_413 rfl rfl rfl rfl ⟨rfl, rfl⟩ (s_X8_bits (by have := sm8_r (sm8_and (y := z_xor (κ 13 t) (-1)) (sm8_and (y := κ 0 35) (pas_sm hH hs2 c (t := (t : Int))))); omega)) (fun z138 I138 L138 R138 hq138 => ?_)
                  obtain ⟨rfl, rfl, rfl, rfl⟩ := hq138
                  refine x_istore (lv' := [(0, _), (1, _), (2, _), (3, _), (4, _), (5, _), (6, _), (7, _)]) dX8_cheapestBy_141 rfl rfl ?_
                  refine x_aload_n dX8_cheapestBy_143 0 rfl rfl ?_
                  refine x_getR dX8_cheapestBy_144 flX8_82 rfl rfl rfl ?_
                  refine x_iload dX8_cheapestBy_147 5 rfl ?_
                  refine x_iald dX8_cheapestBy_149 rfl (by omega) ?_
                  rw [hE0 24 _ (by unfold scr0; omega), hvs3]
                  refine x_sipush dX8_cheapestBy_150 (by decide) ?_
                  refine x_iload_n dX8_cheapestBy_153 2 rfl rfl ?_
                  refine x_iload dX8_cheapestBy_154 7 rfl ?_
                  refine x_imul dX8_cheapestBy_156 ?_
                  refine x_iload_n dX8_cheapestBy_157 3 rfl rfl ?_
                  refine x_aload_n dX8_cheapestBy_158 0 rfl rfl ?_
                  refine x_getR dX8_cheapestBy_159 flX8_47 rfl rfl rfl ?_
                  refine x_iload dX8_cheapestBy_162 4 rfl ?_
                  refine x_iald dX8_cheapestBy_164 rfl (by omega) ?_
                  rw [show I116 13 (t : Int) = κ 13 (t : Int) by exact hJ4.at (by unfold sce per; omega)]
                  refine x_aload_n dX8_cheapestBy_165 0 rfl rfl ?_
                  refine x_getI dX8_cheapestBy_166 flX8_273 rfl rfl ?_
                  rw [h42]
                  refine x_iconst dX8_cheapestBy_169 ?_
                  refine x_ixor dX8_cheapestBy_170 ?_
                  refine x_iand dX8_cheapestBy_171 ?_
                  refine x_callSi (as := [_]) dX8_cheapestBy_172 lvX8_413 rfl rfl rfl rfl ⟨rfl, rfl⟩ (s_X8_bits (by have := sm8_r (sm8_and (y := z_xor (pas κ t s c) (-1)) (hM.2 t)); omega)) (fun z172 I172 L172 R172 hq172 => ?_)
                  obtain ⟨rfl, rfl, rfl, rfl⟩ := hq172
                  refine x_imul dX8_cheapestBy_175 ?_
                  refine x_iadd dX8_cheapestBy_176 ?_
                  refine x_imul dX8_cheapestBy_177 ?_
                  refine x_iadd dX8_cheapestBy_178 ?_
                  refine x_iload dX8_cheapestBy_179 7 rfl ?_
                  refine x_iadd dX8_cheapestBy_181 ?_
                  have e25 : I116 25 (nxt κ t s c : Int) = J3 25 (nxt κ t s c : Int) := by rw [hE0 25 _ (by unfold scr0; omega)]
                  have hval : cbV κ m f t s + 1000 * (m * mis κ t s c + f * slf κ t s c) + mis κ t s c = cbV κ m f t s + cst κ m f t s c := by unfold cst; omega
                  unfold mis slf at hval
                  rw [hval]
                  refine x_istore (lv' := [(0, _), (1, _), (2, _), (3, _), (4, _), (5, _), (6, _), (7, _), (8, _)]) dX8_cheapestBy_182 rfl rfl ?_
                  refine x_aload_n dX8_cheapestBy_184 0 rfl rfl ?_
                  refine x_iload dX8_cheapestBy_185 4 rfl ?_
                  refine x_iconst dX8_cheapestBy_187 ?_
                  refine x_iadd dX8_cheapestBy_188 ?_
                  refine x_aload_n dX8_cheapestBy_189 0 rfl rfl ?_
                  refine x_getI dX8_cheapestBy_190 flX8_276 rfl rfl ?_
                  rw [h43]
                  refine x_callVi (as := [_, _]) dX8_cheapestBy_193 lvX8_267 rfl rfl rfl rfl rfl rfl rfl ⟨rfl, rfl⟩ (s_X8_canBe hJ4 hH hS (by omega) (by omega)) (fun z193 I193 L193 R193 hq193 => ?_)
                  obtain ⟨rfl, rfl, rfl, rfl⟩ := hq193
                  refine y_ifb_eq (tgt := 236) dX8_cheapestBy_196 (by decide) (fun h196 => ?_) (fun h196 => ?_)
                  · refine x_top (lv' := [(0, _), (1, _), (2, _), (3, _), (4, _), (5, _), (6, _)]) 7 rfl ?_
                    first
                    | (have hg : ¬ (okb κ ((t : Int) + 1) (nxt κ t s c) = true ∧ (swC (cbF κ m f t (cbV κ m f t) s) c (swS (cbV κ m f t) (cbF κ m f t (cbV κ m f t)) (fun s => mal κ t s) s (fun _ => -1)) (nxt κ t s c) < 0 ∨ cbV κ m f t s + cst κ m f t s c < swC (cbF κ m f t (cbV κ m f t) s) c (swS (cbV κ m f t) (cbF κ m f t (cbV κ m f t)) (fun s => mal κ t s) s (fun _ => -1)) (nxt κ t s c))) := by
                         rintro ⟨x1, x2⟩
                         rw [← hwx] at x2
                         first | contradiction | omega
                       refine nx _ hJ4 hm2 hM2 (fun x hx => by rw [hE0 24 _ (by unfold scr0; omega)]; exact hA3 x hx) (fun x hx => ?_) _ rfl
                       show _ = cbF κ m f t (cbV κ m f t) s c (swC (cbF κ m f t (cbV κ m f t) s) c (swS (cbV κ m f t) (cbF κ m f t (cbV κ m f t)) (fun s => mal κ t s) s (fun _ => -1))) x
                       rw [cbF_f hg, hE0 25 _ (by unfold scr0; omega)]
                       exact hW3 x hx)
                    | (have hg : okb κ ((t : Int) + 1) (nxt κ t s c) = true ∧ (swC (cbF κ m f t (cbV κ m f t) s) c (swS (cbV κ m f t) (cbF κ m f t (cbV κ m f t)) (fun s => mal κ t s) s (fun _ => -1)) (nxt κ t s c) < 0 ∨ cbV κ m f t s + cst κ m f t s c < swC (cbF κ m f t (cbV κ m f t) s) c (swS (cbV κ m f t) (cbF κ m f t (cbV κ m f t)) (fun s => mal κ t s) s (fun _ => -1)) (nxt κ t s c)) := by
                         rw [← hwx]
                         refine ⟨by assumption, ?_⟩
                         omega
                       refine nx _ (hJ4.up (by unfold sce per; omega)) (by rw [m_up_ne (by decide)]; exact hm2) (hMv_same (fun w => (mvl_len hH.2.1 t s w).2) hM2 (fun j _ => m_up_ne (by decide) j) (fun j _ => ⟨m_up_ne (by decide) j, m_up_ne (by decide) j⟩)) (fun x hx => by rw [m_up_ne (by decide), hE0 24 _ (by unfold scr0; omega)]; exact hA3 x hx) (fun x hx => ?_) _ rfl
                       show _ = cbF κ m f t (cbV κ m f t) s c (swC (cbF κ m f t (cbV κ m f t) s) c (swS (cbV κ m f t) (cbF κ m f t (cbV κ m f t)) (fun s => mal κ t s) s (fun _ => -1))) x
                       rw [cbF_t hg]
                       unfold upn
                       by_cases e : x = nxt κ t s c
                       · rw [if_pos e, e, m_up_eq]
                       · rw [if_neg e, m_up_nj (by omega), hE0 25 _ (by unfold scr0; omega)]
                         exact hW3 x hx)
                  · refine x_aload_n dX8_cheapestBy_199 0 rfl rfl ?_
                    refine x_getR dX8_cheapestBy_200 flX8_85 rfl rfl rfl ?_
                    refine x_aload_n dX8_cheapestBy_203 0 rfl rfl ?_
                    refine x_getI dX8_cheapestBy_204 flX8_276 rfl rfl ?_
                    rw [h43]
                    refine x_iald dX8_cheapestBy_207 rfl (by omega) ?_
                    refine x_if_lt (tgt := 225) dX8_cheapestBy_208 (by decide) (by omega) (fun h208 => ?_) (fun h208 => ?_)
                    · refine x_aload_n dX8_cheapestBy_225 0 rfl rfl ?_
                      refine x_getR dX8_cheapestBy_226 flX8_85 rfl rfl rfl ?_
                      refine x_aload_n dX8_cheapestBy_229 0 rfl rfl ?_
                      refine x_getI dX8_cheapestBy_230 flX8_276 rfl rfl ?_
                      rw [h43]
                      refine x_iload dX8_cheapestBy_233 8 rfl ?_
                      refine x_iast dX8_cheapestBy_235 rfl (by omega) ?_
                      refine x_top (lv' := [(0, _), (1, _), (2, _), (3, _), (4, _), (5, _), (6, _)]) 7 rfl ?_
                      first
                      | (have hg : ¬ (okb κ ((t : Int) + 1) (nxt κ t s c) = true ∧ (swC (cbF κ m f t (cbV κ m f t) s) c (swS (cbV κ m f t) (cbF κ m f t (cbV κ m f t)) (fun s => mal κ t s) s (fun _ => -1)) (nxt κ t s c) < 0 ∨ cbV κ m f t s + cst κ m f t s c < swC (cbF κ m f t (cbV κ m f t) s) c (swS (cbV κ m f t) (cbF κ m f t (cbV κ m f t)) (fun s => mal κ t s) s (fun _ => -1)) (nxt κ t s c))) := by
                           rintro ⟨x1, x2⟩
                           rw [← hwx] at x2
                           first | contradiction | omega
                         refine nx _ hJ4 hm2 hM2 (fun x hx => by rw [hE0 24 _ (by unfold scr0; omega)]; exact hA3 x hx) (fun x hx => ?_) _ rfl
                         show _ = cbF κ m f t (cbV κ m f t) s c (swC (cbF κ m f t (cbV κ m f t) s) c (swS (cbV κ m f t) (cbF κ m f t (cbV κ m f t)) (fun s => mal κ t s) s (fun _ => -1))) x
                         rw [cbF_f hg, hE0 25 _ (by unfold scr0; omega)]
                         exact hW3 x hx)
                      | (have hg : okb κ ((t : Int) + 1) (nxt κ t s c) = true ∧ (swC (cbF κ m f t (cbV κ m f t) s) c (swS (cbV κ m f t) (cbF κ m f t (cbV κ m f t)) (fun s => mal κ t s) s (fun _ => -1)) (nxt κ t s c) < 0 ∨ cbV κ m f t s + cst κ m f t s c < swC (cbF κ m f t (cbV κ m f t) s) c (swS (cbV κ m f t) (cbF κ m f t (cbV κ m f t)) (fun s => mal κ t s) s (fun _ => -1)) (nxt κ t s c)) := by
                           rw [← hwx]
                           refine ⟨by assumption, ?_⟩
                           omega
                         refine nx _ (hJ4.up (by unfold sce per; omega)) (by rw [m_up_ne (by decide)]; exact hm2) (hMv_same (fun w => (mvl_len hH.2.1 t s w).2) hM2 (fun j _ => m_up_ne (by decide) j) (fun j _ => ⟨m_up_ne (by decide) j, m_up_ne (by decide) j⟩)) (fun x hx => by rw [m_up_ne (by decide), hE0 24 _ (by unfold scr0; omega)]; exact hA3 x hx) (fun x hx => ?_) _ rfl
                         show _ = cbF κ m f t (cbV κ m f t) s c (swC (cbF κ m f t (cbV κ m f t) s) c (swS (cbV κ m f t) (cbF κ m f t (cbV κ m f t)) (fun s => mal κ t s) s (fun _ => -1))) x
                         rw [cbF_t hg]
                         unfold upn
                         by_cases e : x = nxt κ t s c
                         · rw [if_pos e, e, m_up_eq]
                         · rw [if_neg e, m_up_nj (by omega), hE0 25 _ (by unfold scr0; omega)]
                           exact hW3 x hx)
                    · refine x_iload dX8_cheapestBy_211 8 rfl ?_
                      refine x_aload_n dX8_cheapestBy_213 0 rfl rfl ?_
                      refine x_getR dX8_cheapestBy_214 flX8_85 rfl rfl rfl ?_
                      refine x_aload_n dX8_cheapestBy_217 0 rfl rfl ?_
                      refine x_getI dX8_cheapestBy_218 flX8_276 rfl rfl ?_
                      rw [h43]
                      refine x_iald dX8_cheapestBy_221 rfl (by omega) ?_
                      refine x_ic_ge (tgt := 236) dX8_cheapestBy_222 (by decide) (by omega) (fun h222 => ?_) (fun h222 => ?_)
                      · refine x_top (lv' := [(0, _), (1, _), (2, _), (3, _), (4, _), (5, _), (6, _)]) 7 rfl ?_
                        first
                        | (have hg : ¬ (okb κ ((t : Int) + 1) (nxt κ t s c) = true ∧ (swC (cbF κ m f t (cbV κ m f t) s) c (swS (cbV κ m f t) (cbF κ m f t (cbV κ m f t)) (fun s => mal κ t s) s (fun _ => -1)) (nxt κ t s c) < 0 ∨ cbV κ m f t s + cst κ m f t s c < swC (cbF κ m f t (cbV κ m f t) s) c (swS (cbV κ m f t) (cbF κ m f t (cbV κ m f t)) (fun s => mal κ t s) s (fun _ => -1)) (nxt κ t s c))) := by
                             rintro ⟨x1, x2⟩
                             rw [← hwx] at x2
                             first | contradiction | omega
                           refine nx _ hJ4 hm2 hM2 (fun x hx => by rw [hE0 24 _ (by unfold scr0; omega)]; exact hA3 x hx) (fun x hx => ?_) _ rfl
                           show _ = cbF κ m f t (cbV κ m f t) s c (swC (cbF κ m f t (cbV κ m f t) s) c (swS (cbV κ m f t) (cbF κ m f t (cbV κ m f t)) (fun s => mal κ t s) s (fun _ => -1))) x
                           rw [cbF_f hg, hE0 25 _ (by unfold scr0; omega)]
                           exact hW3 x hx)
                        | (have hg : okb κ ((t : Int) + 1) (nxt κ t s c) = true ∧ (swC (cbF κ m f t (cbV κ m f t) s) c (swS (cbV κ m f t) (cbF κ m f t (cbV κ m f t)) (fun s => mal κ t s) s (fun _ => -1)) (nxt κ t s c) < 0 ∨ cbV κ m f t s + cst κ m f t s c < swC (cbF κ m f t (cbV κ m f t) s) c (swS (cbV κ m f t) (cbF κ m f t (cbV κ m f t)) (fun s => mal κ t s) s (fun _ => -1)) (nxt κ t s c)) := by
                             rw [← hwx]
                             refine ⟨by assumption, ?_⟩
                             omega
                           refine nx _ (hJ4.up (by unfold sce per; omega)) (by rw [m_up_ne (by decide)]; exact hm2) (hMv_same (fun w => (mvl_len hH.2.1 t s w).2) hM2 (fun j _ => m_up_ne (by decide) j) (fun j _ => ⟨m_up_ne (by decide) j, m_up_ne (by decide) j⟩)) (fun x hx => by rw [m_up_ne (by decide), hE0 24 _ (by unfold scr0; omega)]; exact hA3 x hx) (fun x hx => ?_) _ rfl
                           show _ = cbF κ m f t (cbV κ m f t) s c (swC (cbF κ m f t (cbV κ m f t) s) c (swS (cbV κ m f t) (cbF κ m f t (cbV κ m f t)) (fun s => mal κ t s) s (fun _ => -1))) x
                           rw [cbF_t hg]
                           unfold upn
                           by_cases e : x = nxt κ t s c
                           · rw [if_pos e, e, m_up_eq]
                           · rw [if_neg e, m_up_nj (by omega), hE0 25 _ (by unfold scr0; omega)]
                             exact hW3 x hx)
                      · refine x_aload_n dX8_cheapestBy_225 0 rfl rfl ?_
                        refine x_getR dX8_cheapestBy_226 flX8_85 rfl rfl rfl ?_
                        refine x_aload_n dX8_cheapestBy_229 0 rfl rfl ?_
                        refine x_getI dX8_cheapestBy_230 flX8_276 rfl rfl ?_
                        rw [h43]
                        refine x_iload dX8_cheapestBy_233 8 rfl ?_
                        refine x_iast dX8_cheapestBy_235 rfl (by omega) ?_
                        refine x_top (lv' := [(0, _), (1, _), (2, _), (3, _), (4, _), (5, _), (6, _)]) 7 rfl ?_
                        first
                        | (have hg : ¬ (okb κ ((t : Int) + 1) (nxt κ t s c) = true ∧ (swC (cbF κ m f t (cbV κ m f t) s) c (swS (cbV κ m f t) (cbF κ m f t (cbV κ m f t)) (fun s => mal κ t s) s (fun _ => -1)) (nxt κ t s c) < 0 ∨ cbV κ m f t s + cst κ m f t s c < swC (cbF κ m f t (cbV κ m f t) s) c (swS (cbV κ m f t) (cbF κ m f t (cbV κ m f t)) (fun s => mal κ t s) s (fun _ => -1)) (nxt κ t s c))) := by
                             rintro ⟨x1, x2⟩
                             rw [← hwx] at x2
                             first | contradiction | omega
                           refine nx _ hJ4 hm2 hM2 (fun x hx => by rw [hE0 24 _ (by unfold scr0; omega)]; exact hA3 x hx) (fun x hx => ?_) _ rfl
                           show _ = cbF κ m f t (cbV κ m f t) s c (swC (cbF κ m f t (cbV κ m f t) s) c (swS (cbV κ m f t) (cbF κ m f t (cbV κ m f t)) (fun s => mal κ t s) s (fun _ => -1))) x
                           rw [cbF_f hg, hE0 25 _ (by unfold scr0; omega)]
                           exact hW3 x hx)
                        | (have hg : okb κ ((t : Int) + 1) (nxt κ t s c) = true ∧ (swC (cbF κ m f t (cbV κ m f t) s) c (swS (cbV κ m f t) (cbF κ m f t (cbV κ m f t)) (fun s => mal κ t s) s (fun _ => -1)) (nxt κ t s c) < 0 ∨ cbV κ m f t s + cst κ m f t s c < swC (cbF κ m f t (cbV κ m f t) s) c (swS (cbV κ m f t) (cbF κ m f t (cbV κ m f t)) (fun s => mal κ t s) s (fun _ => -1)) (nxt κ t s c)) := by
                             rw [← hwx]
                             refine ⟨by assumption, ?_⟩
                             omega
                           refine nx _ (hJ4.up (by unfold sce per; omega)) (by rw [m_up_ne (by decide)]; exact hm2) (hMv_same (fun w => (mvl_len hH.2.1 t s w).2) hM2 (fun j _ => m_up_ne (by decide) j) (fun j _ => ⟨m_up_ne (by decide) j, m_up_ne (by decide) j⟩)) (fun x hx => by rw [m_up_ne (by decide), hE0 24 _ (by unfold scr0; omega)]; exact hA3 x hx) (fun x hx => ?_) _ rfl
                           show _ = cbF κ m f t (cbV κ m f t) s c (swC (cbF κ m f t (cbV κ m f t) s) c (swS (cbV κ m f t) (cbF κ m f t (cbV κ m f t)) (fun s => mal κ t s) s (fun _ => -1))) x
                           rw [cbF_t hg]
                           unfold upn
                           by_cases e : x = nxt κ t s c
                           · rw [if_pos e, e, m_up_eq]
                           · rw [if_neg e, m_up_nj (by omega), hE0 25 _ (by unfold scr0; omega)]
                             exact hW3 x hx)
              · intro hpos J3 hJ3 hm41 hMv3 hA3 hW3
                refine x_iload dX8_cheapestBy_104 6 rfl ?_
                refine x_aload_n dX8_cheapestBy_106 0 rfl rfl ?_
                refine x_getI dX8_cheapestBy_107 flX8_270 rfl rfl ?_
                refine x_ic_ge (tgt := 242) dX8_cheapestBy_110 (by decide) (by omega) (fun h110 => ?_) (fun h110 => ?_)
                · refine x_iinc (lv' := [(0, _), (1, _), (2, _), (3, _), (4, _), (5, _), (6, _)]) dX8_cheapestBy_242 5 rfl rfl rfl ?_
                  refine x_goto (tgt := 74) dX8_cheapestBy_245 (by decide) ?_
                  refine x_top (lv' := [(0, _), (1, _), (2, _), (3, _), (4, _), (5, _)]) 6 rfl ?_
                  exact ih _ hJ3 hA3 (fun x hx => by rw [swS_t hpos]; exact hW3 x hx)
                · exfalso; omega
            refine x_iload dX8_cheapestBy_74 5 rfl ?_
            refine x_aload_n dX8_cheapestBy_76 0 rfl rfl ?_
            refine x_callVi (as := []) dX8_cheapestBy_77 lvX8_286 rfl rfl rfl rfl rfl rfl rfl ⟨rfl, rfl⟩ (s_X8_states hJ hH hS) (fun z77 I77 L77 R77 hq77 => ?_)
            obtain ⟨rfl, rfl, rfl, rfl⟩ := hq77
            refine x_ic_ge (tgt := 248) dX8_cheapestBy_80 (by decide) (by omega) (fun h80 => ?_) (fun h80 => ?_)
            · exfalso; omega
            · refine x_aload_n dX8_cheapestBy_83 0 rfl rfl ?_
              refine x_getR dX8_cheapestBy_84 flX8_82 rfl rfl rfl ?_
              refine x_iload dX8_cheapestBy_87 5 rfl ?_
              refine x_iald dX8_cheapestBy_89 rfl (by omega) ?_
              refine x_if_lt (tgt := 242) dX8_cheapestBy_90 (by decide) (by omega) (fun h90 => ?_) (fun h90 => ?_)
              · refine x_iinc (lv' := [(0, _), (1, _), (2, _), (3, _), (4, _), (5, _)]) dX8_cheapestBy_242 5 rfl rfl rfl ?_
                refine x_goto (tgt := 74) dX8_cheapestBy_245 (by decide) ?_
                exact ih _ hJ hA (fun x hx => by rw [swS_f (by omega)]; exact hW x hx)
              · refine x_aload_n dX8_cheapestBy_93 0 rfl rfl ?_
                refine x_iload dX8_cheapestBy_94 4 rfl ?_
                refine x_iload dX8_cheapestBy_96 5 rfl ?_
                refine x_callVv (as := [_, _]) dX8_cheapestBy_98 lvX8_297 rfl rfl rfl rfl rfl rfl rfl ⟨rfl, rfl⟩ (s_X8_layMoves hJ hH hS (by omega) hs2) (fun I98 L98 R98 hq98 => ?_)
                obtain ⟨rfl, rfl, hX3, hE4, h41, hv41⟩ := hq98
                refine x_iconst dX8_cheapestBy_101 ?_
                refine x_istore (lv' := [(0, _), (1, _), (2, _), (3, _), (4, _), (5, _), (6, _)]) dX8_cheapestBy_102 rfl rfl ?_
                exact cl 0 (by omega) (by omega) _ hE4 h41 hv41 (fun x hx => by rw [hX3 24 _ (by unfold scr3; omega)]; exact hA x hx) (fun x hx => by rw [hX3 25 _ (by unfold scr3; omega)]; exact hW x hx)
          · intro J hJ hA hW
            refine x_iload dX8_cheapestBy_74 5 rfl ?_
            refine x_aload_n dX8_cheapestBy_76 0 rfl rfl ?_
            refine x_callVi (as := []) dX8_cheapestBy_77 lvX8_286 rfl rfl rfl rfl rfl rfl rfl ⟨rfl, rfl⟩ (s_X8_states hJ hH hS) (fun z77 I77 L77 R77 hq77 => ?_)
            obtain ⟨rfl, rfl, rfl, rfl⟩ := hq77
            refine x_ic_ge (tgt := 248) dX8_cheapestBy_80 (by decide) (by omega) (fun h80 => ?_) (fun h80 => ?_)
            · refine x_aload_n dX8_cheapestBy_248 0 rfl rfl ?_
              refine x_callVv (as := []) dX8_cheapestBy_249 lvX8_355 rfl rfl rfl rfl rfl rfl rfl ⟨rfl, rfl⟩ (s_X8_turnValues hJ hH hS) (fun I249 L249 R249 hq249 => ?_)
              obtain ⟨rfl, rfl, ht1, ht2⟩ := hq249
              have hJ8 : E1 κ I249 := fun c j q => by rw [ht1 c j (by unfold sce per at q; omega) (by unfold sce per at q; omega)]; exact hJ c j q
              refine x_iinc (lv' := [(0, _), (1, _), (2, _), (3, _), (4, _), (5, _)]) dX8_cheapestBy_252 4 rfl rfl rfl ?_
              refine x_goto (tgt := 62) dX8_cheapestBy_255 (by decide) ?_
              refine x_top (lv' := [(0, _), (1, _), (2, _), (3, _), (4, _)]) 5 rfl ?_
              exact iht _ hJ8 (fun x hx => ⟨by rw [(ht2 x hx).1]; exact hW x hx, (ht2 x hx).2⟩)
            · exfalso; omega
        refine x_iload dX8_cheapestBy_62 4 rfl ?_
        refine x_aload_n dX8_cheapestBy_64 0 rfl rfl ?_
        refine x_getI dX8_cheapestBy_65 flX8_99 rfl rfl ?_
        refine x_ic_ge (tgt := 258) dX8_cheapestBy_68 (by decide) (by omega) (fun h68 => ?_) (fun h68 => ?_)
        · exfalso; omega
        · refine x_iconst dX8_cheapestBy_71 ?_
          refine x_istore (lv' := [(0, _), (1, _), (2, _), (3, _), (4, _), (5, _)]) dX8_cheapestBy_72 rfl rfl ?_
          exact sl 0 (by omega) J hJ (fun x hx => (hV x hx).1) (fun x hx => (hV x hx).2)
      · intro J hJ hV
        have j14 : J 0 14 = κ 0 14 := hJ.at (by unfold sce per; omega)
        refine x_iload dX8_cheapestBy_62 4 rfl ?_
        refine x_aload_n dX8_cheapestBy_64 0 rfl rfl ?_
        refine x_getI dX8_cheapestBy_65 flX8_99 rfl rfl ?_
        refine x_ic_ge (tgt := 258) dX8_cheapestBy_68 (by decide) (by omega) (fun h68 => ?_) (fun h68 => ?_)
        · refine x_bipush dX8_cheapestBy_258 (by decide) ?_
          refine x_istore (lv' := [(0, _), (1, _), (2, _), (3, _), (4, _)]) dX8_cheapestBy_260 rfl rfl ?_
          refine x_iconst dX8_cheapestBy_262 ?_
          refine x_istore (lv' := [(0, _), (1, _), (2, _), (3, _), (4, _), (5, _)]) dX8_cheapestBy_263 rfl rfl ?_
          exact bl 0 (by omega) J hJ (fun x hx => (hV x hx).1)
        · exfalso; omega
    have il : ∀ s : Nat, s ≤ nst κ → ∀ J : MI, E1 κ J → (∀ x : Nat, x < s → J 24 (x : Int) = cbI κ x ∧ J 25 (x : Int) = -1) → Rn G mtX8_cheapestBy Q 15 [(0, mr 0), (1, mi k), (2, mi m), (3, mi f), (4, mi (s : Int))] [] shM J L rM := by
      refine lpn _ (fun s hs ih => ?_) ?_
      · intro J hJ hA
        have hs2 : s < 1728 := by omega
        have j44 : ∀ v : Int, v = cbI κ s → Rn G mtX8_cheapestBy Q 44 [(0, mr 0), (1, mi k), (2, mi m), (3, mi f), (4, mi (s : Int))] [mi v, mi (s : Int), mr 24] shM J L rM := by
          intro v hv
          refine x_iast dX8_cheapestBy_44 rfl (by omega) ?_
          refine x_aload_n dX8_cheapestBy_45 0 rfl rfl ?_
          refine x_getR dX8_cheapestBy_46 flX8_85 rfl rfl rfl ?_
          refine x_iload dX8_cheapestBy_49 4 rfl ?_
          refine x_iconst dX8_cheapestBy_51 ?_
          refine x_iast dX8_cheapestBy_52 rfl (by omega) ?_
          refine x_iinc (lv' := [(0, _), (1, _), (2, _), (3, _), (4, _)]) dX8_cheapestBy_53 4 rfl rfl rfl ?_
          refine x_goto (tgt := 15) dX8_cheapestBy_56 (by decide) ?_
          refine ih _ ((hJ.up (by unfold sce per; omega)).up (by unfold sce per; omega)) (fun x hx => ?_)
          by_cases e : x = s
          · subst e
            rw [m_up_ne (by decide), m_up_eq, m_up_eq]
            exact ⟨hv, rfl⟩
          · rw [m_up_ne (by decide), m_up_nj (by omega), m_up_nj (by omega), m_up_ne (by decide)]
            exact hA x (by omega)
        refine x_iload dX8_cheapestBy_15 4 rfl ?_
        refine x_aload_n dX8_cheapestBy_17 0 rfl rfl ?_
        refine x_callVi (as := []) dX8_cheapestBy_18 lvX8_286 rfl rfl rfl rfl rfl rfl rfl ⟨rfl, rfl⟩ (s_X8_states hJ hH hS) (fun z18 I18 L18 R18 hq18 => ?_)
        obtain ⟨rfl, rfl, rfl, rfl⟩ := hq18
        refine x_ic_ge (tgt := 59) dX8_cheapestBy_21 (by decide) (by omega) (fun h21 => ?_) (fun h21 => ?_)
        · exfalso; omega
        · refine x_aload_n dX8_cheapestBy_24 0 rfl rfl ?_
          refine x_getR dX8_cheapestBy_25 flX8_82 rfl rfl rfl ?_
          refine x_iload dX8_cheapestBy_28 4 rfl ?_
          refine x_aload_n dX8_cheapestBy_30 0 rfl rfl ?_
          refine x_iload dX8_cheapestBy_31 4 rfl ?_
          refine x_callVi (as := [_]) dX8_cheapestBy_33 lvX8_290 rfl rfl rfl rfl rfl rfl rfl ⟨rfl, rfl⟩ (s_X8_canBegin hJ hH hS hs2) (fun z33 I33 L33 R33 hq33 => ?_)
          obtain ⟨rfl, rfl, rfl, rfl⟩ := hq33
          refine y_ifb_eq (tgt := 43) dX8_cheapestBy_36 (by decide) (fun h36 => ?_) (fun h36 => ?_)
          · refine x_iconst dX8_cheapestBy_43 ?_
            first | exact j44 _ (by rw [i0, if_pos (by assumption)]) | exact j44 _ (by rw [i0, if_neg (by assumption)])
          · refine x_iconst dX8_cheapestBy_39 ?_
            refine x_goto (tgt := 44) dX8_cheapestBy_40 (by decide) ?_
            first | exact j44 _ (by rw [i0, if_pos (by assumption)]) | exact j44 _ (by rw [i0, if_neg (by assumption)])
      · intro J hJ hA
        refine x_iload dX8_cheapestBy_15 4 rfl ?_
        refine x_aload_n dX8_cheapestBy_17 0 rfl rfl ?_
        refine x_callVi (as := []) dX8_cheapestBy_18 lvX8_286 rfl rfl rfl rfl rfl rfl rfl ⟨rfl, rfl⟩ (s_X8_states hJ hH hS) (fun z18 I18 L18 R18 hq18 => ?_)
        obtain ⟨rfl, rfl, rfl, rfl⟩ := hq18
        refine x_ic_ge (tgt := 59) dX8_cheapestBy_21 (by decide) (by omega) (fun h21 => ?_) (fun h21 => ?_)
        · refine x_iconst dX8_cheapestBy_59 ?_
          refine x_istore (lv' := [(0, _), (1, _), (2, _), (3, _), (4, _)]) dX8_cheapestBy_60 rfl rfl ?_
          exact tl 0 (by omega) J hJ hA
        · exfalso; omega
    exact il 0 (by omega) _ hE2 (fun x hx => by omega)
  · refine x_bipush dX8_cheapestBy_9 (by decide) ?_
    refine x_iret dX8_cheapestBy_11 rfl ?_
    rw [← hQ, hch, if_neg (by assumption)]
    exact ⟨_, rfl, rfl, hpe _ hE2, rfl, rfl⟩
end

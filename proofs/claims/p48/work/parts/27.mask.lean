/-! THE REFERENCE'S QUESTIONS, part nine: prices, stuck boards, quarrels. -/
/-- bits below the eighth alone -/
def sm8 (x : Int) : Prop := rI x ∧ ∀ k, 8 ≤ k → k < 32 → tb x k = false
theorem sm8_or {x y : Int} (hx : sm8 x) (hy : sm8 y) : sm8 (z_or x y) := ⟨z_or_r _ _, fun k h1 h2 => by rw [tb_or, hx.2 k h1 h2, hy.2 k h1 h2]; rfl⟩
theorem sm8_and {x y : Int} (hx : sm8 x) : sm8 (z_and x y) := ⟨z_and_r _ _, fun k h1 h2 => by rw [tb_and, hx.2 k h1 h2]; rfl⟩
theorem sm8_0 : sm8 0 := ⟨by omega, fun k _ _ => tb_0 k⟩
theorem sm8_1 {d : Int} (h : 0 ≤ d ∧ d < 8) : sm8 (z_shl 1 d) := ⟨z_shl_r _ _, fun k h1 h2 => by rw [tb_sh1 (by omega) h2]; simp; omega⟩
theorem sm8_r {x : Int} (h : sm8 x) : 0 ≤ x ∧ x < 256 := (tb_up h.1 8 (by omega)).mpr h.2
theorem sm8_orf {f : Nat → Int} : ∀ n, (∀ k, k < n → sm8 (f k)) → sm8 (orf f n)
  | 0, _ => sm8_0
  | n + 1, h => sm8_or (sm8_orf n (fun k hk => h k (by omega))) (h n (by omega))
theorem pcN_up : ∀ n k x, x < 2 ^ k → pcN n x ≤ k
  | 0, k, x, _ => by unfold pcN; omega
  | n + 1, 0, x, h => by
    have : x = 0 := by simp at h; exact h
    subst this
    rw [pcN_0]; omega
  | n + 1, k + 1, x, h => by
    have := pcN_up n k (x / 2) (by rw [Nat.pow_succ] at h; omega)
    unfold pcN
    omega
theorem pc8 {x : Int} (h : 0 ≤ x ∧ x < 256) : 0 ≤ pc x ∧ pc x ≤ 8 := by
  have := pcN_up 32 8 x.toNat (by omega)
  unfold pc
  omega
theorem pas_sm {κ : MI} (hH : iHs κ) {t : Int} {s : Nat} (hs : s < 1728) (c : Nat) : sm8 (pas κ t s c) := by
  unfold pas
  refine sm8_orf _ (fun w _ => ?_)
  have := mv_r hH hs (t := t) c w
  split
  · exact sm8_0
  · exact sm8_1 (by omega)
theorem kap_35 {I : MI} (h : iHs I) (wo k : Int) : sm8 (kap I wo k 0 35) := by
  unfold kap
  rw [scn_0]
  unfold sc0
  simp only [if_true, Int.reduceEq, if_false]
  have hd := (iHs_pm h).2.1
  refine sm8_orf _ (fun d hd2 => ?_)
  unfold bdF
  split
  · exact sm8_1 (by omega)
  · exact sm8_0
theorem scn_sm {κ : MI} {wo k : Int} (t : Int) : ∀ e : Nat, (∀ i : Nat, i < e → iEv κ i) → sm8 (scn κ wo k e 13 t)
  | 0, _ => by unfold scn sc0; rw [if_neg (by omega), if_pos (by omega)]; exact sm8_0
  | e + 1, h => by
    have ih := scn_sm (κ := κ) (wo := wo) (k := k) t e (fun i hi => h i (by omega))
    unfold scn
    split
    · exact ih
    · unfold noteM
      rw [ntM_13]
      have ha := (h e (by omega)).2.1
      split
      · rw [scn_ot (c := 11) (by omega) (4 * (e : Int) + 1)]
        exact sm8_or ih (sm8_1 (by omega))
      · exact ih
theorem kap_13 {I : MI} (h : iEvs I) (wo k t : Int) : sm8 (kap I wo k 13 t) := scn_sm t _ (iEv_pm h)
def mis (κ : MI) (t s c : Nat) : Int := pc (z_and (z_and (pas κ t s c) (κ 0 35)) (z_xor (κ 13 t) (-1)))
def slf (κ : MI) (t s c : Nat) : Int := pc (z_and (κ 13 t) (z_xor (pas κ t s c) (-1)))
def cst (κ : MI) (m f : Int) (t s c : Nat) : Int := 1000 * (m * mis κ t s c + f * slf κ t s c) + mis κ t s c
def cbF (κ : MI) (m f : Int) (t : Nat) (V : Nat → Int) (s c : Nat) (W : Nat → Int) : Nat → Int :=
  if okb κ ((t : Int) + 1) (nxt κ t s c) = true ∧ (W (nxt κ t s c) < 0 ∨ V s + cst κ m f t s c < W (nxt κ t s c)) then upn W (nxt κ t s c) (V s + cst κ m f t s c) else W
theorem cbF_t {κ : MI} {m f : Int} {t : Nat} {V : Nat → Int} {s c : Nat} {W : Nat → Int} (h : okb κ ((t : Int) + 1) (nxt κ t s c) = true ∧ (W (nxt κ t s c) < 0 ∨ V s + cst κ m f t s c < W (nxt κ t s c))) : cbF κ m f t V s c W = upn W (nxt κ t s c) (V s + cst κ m f t s c) := if_pos h
theorem cbF_f {κ : MI} {m f : Int} {t : Nat} {V : Nat → Int} {s c : Nat} {W : Nat → Int} (h : ¬ (okb κ ((t : Int) + 1) (nxt κ t s c) = true ∧ (W (nxt κ t s c) < 0 ∨ V s + cst κ m f t s c < W (nxt κ t s c)))) : cbF κ m f t V s c W = W := if_neg h
def cbI (κ : MI) (s : Nat) : Int := if begb κ s then 0 else -1
def cbV (κ : MI) (m f : Int) : Nat → Nat → Int
  | 0 => cbI κ
  | t + 1 => swS (cbV κ m f t) (cbF κ m f t (cbV κ m f t)) (fun s => mal κ t s) (nst κ) (fun _ => -1)
def cbB (V : Nat → Int) : Nat → Int
  | 0 => -9
  | s + 1 => if 0 ≤ V s ∧ (cbB V s = -9 ∨ V s < cbB V s) then V s else cbB V s
noncomputable def chB (I : MI) (k m f : Int) : Int := if gd I 0 k then cbB (cbV (kap I 0 k) m f (lst (kap I 0 k))) (nst (kap I 0 k)) else -9
theorem mul_99 {a b : Int} (ha : 0 ≤ a ∧ a ≤ 99) (hb : 0 ≤ b ∧ b ≤ 8) : 0 ≤ a * b ∧ a * b ≤ 792 := by
  have h1 : a * b ≤ 99 * b := Int.mul_le_mul_of_nonneg_right ha.2 hb.1
  have h2 := Int.mul_nonneg ha.1 hb.1
  omega
theorem cst_r {κ : MI} {m f : Int} {t s c : Nat} (hm : 0 ≤ m ∧ m ≤ 99) (hf : 0 ≤ f ∧ f ≤ 99) (h1 : 0 ≤ mis κ t s c ∧ mis κ t s c ≤ 8) (h2 : 0 ≤ slf κ t s c ∧ slf κ t s c ≤ 8) : 0 ≤ cst κ m f t s c ∧ cst κ m f t s c ≤ 1584008 := by
  have := mul_99 hm h1
  have := mul_99 hf h2
  unfold cst
  omega
/-- what a scene's masks are like -/
def iMs (κ : MI) : Prop := sm8 (κ 0 35) ∧ ∀ t, sm8 (κ 13 t)
theorem mis_r {κ : MI} (hH : iHs κ) {t s : Nat} (hs : s < 1728) (c : Nat) : 0 ≤ mis κ t s c ∧ mis κ t s c ≤ 8 := pc8 (sm8_r (sm8_and (sm8_and (pas_sm hH hs c))))
theorem slf_r {κ : MI} (hM : iMs κ) (t s c : Nat) : 0 ≤ slf κ t s c ∧ slf κ t s c ≤ 8 := pc8 (sm8_r (sm8_and (hM.2 t)))
theorem cbF_r {κ : MI} {m f : Int} {t : Nat} {V : Nat → Int} {b : Int} (hV : ∀ s, -1 ≤ V s ∧ V s ≤ b) (s : Nat) (h0 : 0 ≤ V s) (hc : ∀ c, 0 ≤ cst κ m f t s c ∧ cst κ m f t s c ≤ 1584008) (c : Nat) (W : Nat → Int) (h : ∀ s, -1 ≤ W s ∧ W s ≤ b + 1584008) (x : Nat) : -1 ≤ cbF κ m f t V s c W x ∧ cbF κ m f t V s c W x ≤ b + 1584008 := by
  have hh : cbF κ m f t V s c W = upn W (nxt κ t s c) (V s + cst κ m f t s c) ∨ cbF κ m f t V s c W = W := by unfold cbF; exact ite_or _ _
  rcases hh with e | e
  · rw [e]
    unfold upn
    have := hc c
    have := hV s
    have := h x
    split <;> omega
  · rw [e]; exact h x
/-- as swS_rb, where a state counts -/
theorem swS_rc {b : Int} {V : Nat → Int} {f : Nat → Nat → (Nat → Int) → (Nat → Int)} {m : Nat → Nat} : ∀ (n : Nat) (W : Nat → Int), (∀ s, s < n → 0 ≤ V s → ∀ c W, (∀ s, -1 ≤ W s ∧ W s ≤ b) → ∀ x, -1 ≤ f s c W x ∧ f s c W x ≤ b) → (∀ s, -1 ≤ W s ∧ W s ≤ b) → ∀ x, -1 ≤ swS V f m n W x ∧ swS V f m n W x ≤ b
  | 0, W, _, h => h
  | n + 1, W, hf, h => by
    unfold swS
    split
    · rename_i hv
      exact swC_rb (hf n (by omega) hv) _ _ (swS_rc n W (fun s hs => hf s (by omega)) h)
    · exact swS_rc n W (fun s hs => hf s (by omega)) h
theorem cbV_r {κ : MI} (hH : iHs κ) (hS : iSc κ) (hM : iMs κ) {m f : Int} (hm : 0 ≤ m ∧ m ≤ 99) (hf : 0 ≤ f ∧ f ≤ 99) : ∀ t x : Nat, -1 ≤ cbV κ m f t x ∧ cbV κ m f t x ≤ 1584008 * t
  | 0, x => by
    show -1 ≤ cbI κ x ∧ cbI κ x ≤ _
    unfold cbI; split <;> omega
  | t + 1, x => by
    have hn := (nst_le hH hS).2
    have h := swS_rc (b := 1584008 * (t : Int) + 1584008) (V := cbV κ m f t) (f := cbF κ m f t (cbV κ m f t)) (m := fun s => mal κ t s) (nst κ) (fun _ => -1) (fun s hs h0 c W hW x => cbF_r (fun s => cbV_r hH hS hM hm hf t s) s h0 (fun c => cst_r hm hf (mis_r hH (by omega) c) (slf_r hM t s c)) c W hW x) (fun _ => by omega) x
    show -1 ≤ swS _ _ _ _ _ x ∧ swS _ _ _ _ _ x ≤ 1584008 * ((t + 1 : Nat) : Int)
    omega
theorem cbB_r {V : Nat → Int} {b : Int} (hV : ∀ s, V s ≤ b) (hb : 0 ≤ b) : ∀ n, cbB V n = -9 ∨ (0 ≤ cbB V n ∧ cbB V n ≤ b)
  | 0 => Or.inl rfl
  | n + 1 => by
    have h1 := cbB_r hV hb n
    have h2 := hV n
    unfold cbB
    split
    · rename_i h; right; omega
    · exact h1
theorem kap_M {I : MI} (h : iHs I) (h2 : iEvs I) (wo k : Int) : iMs (kap I wo k) := ⟨kap_35 h wo k, fun t => kap_13 h2 wo k t⟩
theorem chB_r {I : MI} (hH : iHs I) (hE : iEvs I) {k m f : Int} (hk : 0 ≤ k ∧ k ≤ I 0 13) (hm : 0 ≤ m ∧ m ≤ 99) (hf : 0 ≤ f ∧ f ≤ 99) : chB I k m f = -9 ∨ (0 ≤ chB I k m f ∧ chB I k m f ≤ 47520240) := by
  have hT := hH.2.2.2.1
  have hl := KA_lst hH (wo := 0) (k := k)
  unfold chB
  split
  · have h := cbB_r (V := cbV (kap I 0 k) m f (lst (kap I 0 k))) (b := 1584008 * (lst (kap I 0 k) : Int)) (fun s => (cbV_r (kap_H hH _ _) (kap_S hE hk) (kap_M hH hE _ _) hm hf _ s).2) (by omega) (nst (kap I 0 k))
    omega
  · exact Or.inl rfl
noncomputable def s_cheapest (m f : Int) (I : MI) : Int × MI := if m < 0 ∨ 99 < m ∨ f < 0 ∨ 99 < f then (-1, I) else if chB I (I 0 13) m f = -9 then (-9, I) else (chB I (I 0 13) m f / 1000, a_tl I (chB I (I 0 13) m f % 1000))
/-- the best k of the first n, and its sum -/
noncomputable def seF (I : MI) (m f h : Int) : Nat → Int × Int
  | 0 => (-9, 0)
  | k + 1 => if chB I k m f ≠ -9 ∧ ((seF I m f h k).1 = -9 ∨ chB I k m f / 1000 + h * k < (seF I m f h k).2) then ((k : Int), chB I k m f / 1000 + h * k) else seF I m f h k
noncomputable def s_settle (m f h : Int) (I : MI) : Int × MI := if m < 0 ∨ 99 < m ∨ f < 0 ∨ 99 < f ∨ h < 0 ∨ 99 < h then (-1, I) else if (seF I m f h (I 0 13 + 1).toNat).1 = -9 then (-9, I) else ((seF I m f h (I 0 13 + 1).toNat).1, a_tl I (seF I m f h (I 0 13 + 1).toNat).2)
section
variable {G : GT} {sh : MS} {I L : MI} {R : MR} {κ : MI}
end

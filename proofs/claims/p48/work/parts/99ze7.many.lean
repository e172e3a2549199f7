/-! THE MIRROR: how many ways, through what. -/
section
variable {κ κ' : MI}
theorem CH_eq {κ : MI} {t : Nat} {x : List (Nat × Nat) × Nat} (h : x ∈ CH κ t) : x = ((List.range t).map (fun i => (Sx x i, Cx x i)), Sx x t) := by
  have hl := CH_len t x h
  refine Prod.ext (List.ext_getElem? (fun i => ?_)) (Sx_ad (c := 0) (n := 0) hl).2.2.2.2.symm
  by_cases q : i < t
  · have e : x.1[i]? = some (x.1[i]'(by omega)) := List.getElem?_eq_getElem (by omega)
    have e2 : ((List.range t).map (fun i => (Sx x i, Cx x i)))[i]? = some (Sx x i, Cx x i) := by
      rw [List.getElem?_map, List.getElem?_range q]; rfl
    rw [e, e2]
    unfold Sx Cx
    rw [e]
  · rw [List.getElem?_eq_none (by omega), List.getElem?_eq_none (by simp; omega)]
theorem cnt_le (hH : iHs κ) (hS : iSc κ) (hH' : iHs κ') (hS' : iSc κ') (m : Mir κ κ') {t u : Nat} (e : t + u = lst κ) (P P' : Nat → Bool) (hP : ∀ s s', (∀ w, w < us κ → ((rm s w : Nat) : Int) < κ 0 11 ∧ rm s' w = mr_ κ (rm s w)) → P s = true → P' s' = true) :
    ((CH κ (lst κ)).filter (fun x => P (Sx x t))).length ≤ ((CH κ' (lst κ')).filter (fun x => P' (Sx x u))).length := by
  have hl := m.1.2.1
  refine inj_len (fun x y => RM κ κ' (Sx x) (Cx x) (Sx y) (Cx y)) _ _ (List.Pairwise.filter _ (CH_nd κ _)) (fun x hx => ?_) (fun x x' y hx hx' r r' => ?_)
  · obtain ⟨h1, h2⟩ := List.mem_filter.mp hx
    obtain ⟨S', C', a, r⟩ := mir_tg hH hS hH' hS' m (CH_ch _ _ h1)
    obtain ⟨e1, e2⟩ := Sx_mk (S := S') (C := C') (t := lst κ')
    refine ⟨_, List.mem_filter.mpr ⟨ch_CH _ a, ?_⟩, fun i j hij w hw => ?_, fun i j hij w hw => ?_⟩
    · rw [e1 u (by omega)]
      exact hP _ _ (fun w hw => r.1 t u e w hw) h2
    · rw [e1 j (by omega)]; exact r.1 i j hij w hw
    · rw [e1 j (by omega), e2 j (by omega)]; exact r.2 i j hij w hw
  · have h1 := (List.mem_filter.mp hx).1
    have h2 := (List.mem_filter.mp hx').1
    have un := ch_un hH hS (CH_ch _ _ h1) (CH_ch _ _ h2) (fun w hw => ?_) (fun i hi w hw => ?_)
    · rw [CH_eq h1, CH_eq h2]
      refine Prod.ext (List.map_congr_left (fun i hi => ?_)) (un _ (Nat.le_refl _)).1
      have hi := List.mem_range.mp hi
      exact Prod.ext (un i (by omega)).1 ((un i (by omega)).2 hi)
    · obtain ⟨a1, a2⟩ := r.1 0 (lst κ) (by omega) w hw
      obtain ⟨b1, b2⟩ := r'.1 0 (lst κ) (by omega) w hw
      rw [← mr_mr a1, ← a2, b2, mr_mr b1]
    · rw [← r.2 i (lst κ - 1 - i) (by omega) w hw, r'.2 i (lst κ - 1 - i) (by omega) w hw]
/-- the ways through states of a kind -/
def Nt_ (κ : MI) (t : Nat) (P : Nat → Bool) : Int := smi (fun s => (if P s = true then 1 else 0) * (Fx κ t s * Rx κ (lst κ - t) s)) (nst κ)
theorem Nt_len (hH : iHs κ) (hS : iSc κ) {t : Nat} (ht : t ≤ lst κ) (P : Nat → Bool) : Nt_ κ t P = (((CH κ (lst κ)).filter (fun x => P (Sx x t))).length : Int) := by
  unfold Nt_
  rw [thr_CH hH hS ht (fun s => if P s = true then 1 else 0), ← lsm_len]
theorem m_Nt (hH : iHs κ) (hS : iSc κ) (hH' : iHs κ') (hS' : iSc κ') (m : Mir κ κ') (m' : Mir κ' κ) {t u : Nat} (e : t + u = lst κ) (P P' : Nat → Bool) (hP : ∀ s s', (∀ w, w < us κ → ((rm s w : Nat) : Int) < κ 0 11 ∧ rm s' w = mr_ κ (rm s w)) → P s = true → P' s' = true) (hP' : ∀ s s', (∀ w, w < us κ' → ((rm s w : Nat) : Int) < κ' 0 11 ∧ rm s' w = mr_ κ' (rm s w)) → P' s = true → P s' = true) : Nt_ κ' u P' = Nt_ κ t P := by
  have hl := m.1.2.1
  rw [Nt_len hH hS (by omega), Nt_len hH' hS' (by omega)]
  have a := cnt_le hH hS hH' hS' m e P P' hP
  have b := cnt_le hH' hS' hH hS m' (t := u) (u := t) (by omega) P' P hP'
  omega
theorem Wx_Nt (t : Nat) : Wx κ t = Nt_ κ t (fun _ => true) := by
  unfold Wx Nt_
  exact smi_cg _ (fun s _ => by rw [if_pos rfl, Int.one_mul])
theorem m_aw (hH : iHs κ) (hS : iSc κ) (hH' : iHs κ') (hS' : iSc κ') (m : Mir κ κ') (m' : Mir κ' κ) : aw κ' = aw κ := by
  have hl := m.1.2.1
  rw [(aw_cap hH hS (t := 0) (by omega)).1, (aw_cap hH' hS' (t := lst κ) (by omega)).1, Wx_Nt, Wx_Nt, m_Nt hH hS hH' hS' m m' (t := 0) (u := lst κ) (by omega) _ _ (fun _ _ _ h => h) (fun _ _ _ h => h)]
theorem chS_Nt (hH : iHs κ) (hS : iSc κ) {t : Nat} (ht : t ≤ lst κ) (ha : aw κ ≤ 1000000000000000) (r : Int) : chS κ r t (nst κ) = Nt_ κ t (fun s => decide (0 < mnI s r (us κ))) := by
  rw [chS_smi]
  refine smi_cg _ (fun s hs => ?_)
  rw [((wyB_x hH hS ht ha).2 s hs).1]
  by_cases q : 0 < mnI s r (us κ)
  · simp [q]
  · simp [q]
theorem lkS_Nt (hH : iHs κ) (hS : iSc κ) {t : Nat} (ht : t ≤ lst κ) (ha : aw κ ≤ 1000000000000000) (w r : Nat) : lkS κ w t r (nst κ) = Nt_ κ t (fun s => decide (rm s w = r)) := by
  rw [lkS_smi]
  refine smi_cg _ (fun s hs => ?_)
  rw [((wyB_x hH hS ht ha).2 s hs).1]
  by_cases q : rm s w = r
  · simp [q]
  · simp [q]
theorem m_chS (hH : iHs κ) (hS : iSc κ) (hH' : iHs κ') (hS' : iSc κ') (m : Mir κ κ') (m' : Mir κ' κ) (ha : aw κ ≤ 1000000000000000) {r q t u : Nat} (er : (r : Int) + q + 1 = κ 0 11) (e : t + u = lst κ) : chS κ' (q : Int) u (nst κ') = chS κ (r : Int) t (nst κ) := by
  have hl := m.1.2.1
  have er' : (q : Int) + r + 1 = κ' 0 11 := by rw [m.1.2.2.2.1]; omega
  rw [chS_Nt hH hS (by omega) ha, chS_Nt hH' hS' (by omega) (by rw [m_aw hH hS hH' hS' m m']; exact ha)]
  refine m_Nt hH hS hH' hS' m m' e _ _ (fun s s' h p => ?_) (fun s s' h p => ?_)
  · rw [decide_eq_true_eq] at p ⊢
    rw [m.1.1, mnI_m er _ h]; exact p
  · rw [decide_eq_true_eq] at p ⊢
    rw [← m.1.1, mnI_m er' _ h]; exact p
theorem m_lkS (hH : iHs κ) (hS : iSc κ) (hH' : iHs κ') (hS' : iSc κ') (m : Mir κ κ') (m' : Mir κ' κ) (ha : aw κ ≤ 1000000000000000) {w r q t u : Nat} (hw : w < us κ) (er : (r : Int) + q + 1 = κ 0 11) (e : t + u = lst κ) : lkS κ' w u q (nst κ') = lkS κ w t r (nst κ) := by
  have hl := m.1.2.1
  have er' : (q : Int) + r + 1 = κ' 0 11 := by rw [m.1.2.2.2.1]; omega
  rw [lkS_Nt hH hS (by omega) ha, lkS_Nt hH' hS' (by omega) (by rw [m_aw hH hS hH' hS' m m']; exact ha)]
  refine m_Nt hH hS hH' hS' m m' e _ _ (fun s s' h p => ?_) (fun s s' h p => ?_)
  · rw [decide_eq_true_eq] at p ⊢
    obtain ⟨a, b⟩ := h w hw
    have := mr_r a
    rw [b]; omega
  · rw [decide_eq_true_eq] at p ⊢
    obtain ⟨a, b⟩ := h w (by rw [m.1.1]; exact hw)
    have := mr_r a
    rw [b]; omega
theorem lkS_nn (hH : iHs κ) (hS : iSc κ) {t : Nat} (ht : t ≤ lst κ) (ha : aw κ ≤ 1000000000000000) (w r : Nat) : 0 ≤ lkS κ w t r (nst κ) := by
  rw [lkS_Nt hH hS ht ha, Nt_len hH hS ht]; omega
theorem lkS_out (hH : iHs κ) (hS : iSc κ) {w t r : Nat} (ht : t ≤ lst κ) (hw : w < us κ) (hr : κ 0 11 ≤ (r : Int)) : lkS κ w t r (nst κ) = 0 := by
  rw [lkS_smi]
  have h : ∀ n, n ≤ nst κ → smi (fun s => if rm s w = r then wyB κ t s else 0) n = 0 := by
    intro n
    induction n with
    | zero => intro _; rfl
    | succ n ih =>
      intro hn
      unfold smi
      rw [ih (by omega)]
      by_cases q : rm n w = r
      · rw [if_pos q]
        unfold wyB
        by_cases ha : alv κ t n = true
        · obtain ⟨S, C, a, e⟩ := al_ch hH hS ht (by omega) ha
          have : ((rm (S t) w : Nat) : Int) < κ 0 11 := ((((ch_Wy hH hS tgv_ok a).2.1 t ht).2 w hw).2).1
          rw [e] at this
          omega
        · rw [if_neg ha]; rfl
      · rw [if_neg q]; rfl
  exact h _ (Nat.le_refl _)
theorem lkB_mx (f : Nat → Int) : ∀ n r, r ≤ n → f r ≤ f (lkB f n)
  | 0, r, h => by rw [show r = 0 by omega]; exact Int.le_refl _
  | n + 1, r, h => by
    unfold lkB
    by_cases e : r = n + 1
    · subst e
      split
      · exact Int.le_refl _
      · omega
    · have := lkB_mx f n r (by omega)
      split
      · omega
      · exact this
theorem lk_le (hH : iHs κ) (hS : iSc κ) (hH' : iHs κ') (hS' : iSc κ') (m : Mir κ κ') (m' : Mir κ' κ) (ha : aw κ ≤ 1000000000000000) {w t u : Nat} (hw : w < us κ) (e : t + u = lst κ) : lkS κ' w u (lkB (fun r => lkS κ' w u r (nst κ')) 5) (nst κ') ≤ lkS κ w t (lkB (fun r => lkS κ w t r (nst κ)) 5) (nst κ) := by
  have hl := m.1.2.1
  have hR := hH.1
  have hq := lkB_r (fun r => lkS κ' w u r (nst κ')) 5
  generalize lkB (fun r => lkS κ' w u r (nst κ')) 5 = q at hq ⊢
  by_cases h : (q : Int) < κ 0 11
  · obtain ⟨r, er⟩ : ∃ r : Nat, (r : Int) + q + 1 = κ 0 11 := ⟨(κ 0 11 - 1 - q).toNat, by omega⟩
    rw [m_lkS hH hS hH' hS' m m' ha hw er e]
    exact lkB_mx (fun r => lkS κ w t r (nst κ)) 5 r (by omega)
  · rw [lkS_out hH' hS' (by omega) (by rw [m.1.1]; exact hw) (by rw [m.1.2.2.2.1]; omega)]
    exact lkS_nn hH hS (by omega) ha w _
theorem m_lk (hH : iHs κ) (hS : iSc κ) (hH' : iHs κ') (hS' : iSc κ') (m : Mir κ κ') (m' : Mir κ' κ) (ha : aw κ ≤ 1000000000000000) {w t u : Nat} (hw : w < us κ) (e : t + u = lst κ) : lkS κ' w u (lkB (fun r => lkS κ' w u r (nst κ')) 5) (nst κ') = lkS κ w t (lkB (fun r => lkS κ w t r (nst κ)) 5) (nst κ) := by
  have a := lk_le hH hS hH' hS' m m' ha hw e
  have b := lk_le hH' hS' hH hS m' m (by rw [m_aw hH hS hH' hS' m m']; exact ha) (w := w) (t := u) (u := t) (by rw [m.1.1]; exact hw) (by rw [m.1.2.1]; omega)
  omega
/-- there are not too many -/
theorem beg_5 (hH : iHs κ) (hS : iSc κ) (h5 : κ 0 11 ≤ 5) : ((List.range (nst κ)).filter (begb κ)).length ≤ 125 := by
  have h := inj_len (fun (s : Nat) (y : Nat) => y = rm s 0 + 5 * rm s 1 + 25 * rm s 2) ((List.range (nst κ)).filter (begb κ)) (List.range 125) (List.Pairwise.filter _ List.nodup_range) (fun s hs => ?_) (fun s s' y hs hs' e e' => ?_)
  · rwa [List.length_range] at h
  · obtain ⟨h1, h2⟩ := List.mem_filter.mp hs
    have h1 := List.mem_range.mp h1
    have hb := (begb_i (nst_1728 hH hS h1)).mp h2
    have hu := (us_le hH hS).1
    have k : ∀ w, w < 3 → rm s w < 5 := fun w hw => by
      by_cases q : w < us κ
      · have := (hb.1.2 w q).2.1; omega
      · have c : us κ = 0 ∨ us κ = 1 ∨ us κ = 2 := by omega
        unfold nst at h1
        have c2 : w = 0 ∨ w = 1 ∨ w = 2 := by omega
        rcases c with c | c | c <;> rw [c] at h1 q <;> rcases c2 with rfl | rfl | rfl <;> simp [rm, pl] at * <;> omega
    have k0 := k 0 (by omega)
    have k1 := k 1 (by omega)
    have k2 := k 2 (by omega)
    exact ⟨_, List.mem_range.mpr (by omega), rfl⟩
  · obtain ⟨h1, h2⟩ := List.mem_filter.mp hs
    obtain ⟨h1', h2'⟩ := List.mem_filter.mp hs'
    have h1 := List.mem_range.mp h1
    have h1' := List.mem_range.mp h1'
    have hb := (begb_i (nst_1728 hH hS h1)).mp h2
    have hb' := (begb_i (nst_1728 hH hS h1')).mp h2'
    have hu := (us_le hH hS).1
    have k : ∀ s, s < nst κ → (rOK κ 0 (rm s)) → ∀ w, w < 3 → rm s w < 5 := fun s h1 hb w hw => by
      by_cases q : w < us κ
      · have := (hb.2 w q).2.1; omega
      · have c : us κ = 0 ∨ us κ = 1 ∨ us κ = 2 := by omega
        unfold nst at h1
        have c2 : w = 0 ∨ w = 1 ∨ w = 2 := by omega
        rcases c with c | c | c <;> rw [c] at h1 q <;> rcases c2 with rfl | rfl | rfl <;> simp [rm, pl] at * <;> omega
    refine st_ex hu h1 h1' (fun w hw => ?_)
    have a := k s h1 hb.1
    have a' := k s' h1' hb'.1
    have a0 := a 0 (by omega)
    have a1 := a 1 (by omega)
    have a2 := a 2 (by omega)
    have a0' := a' 0 (by omega)
    have a1' := a' 1 (by omega)
    have a2' := a' 2 (by omega)
    have c2 : w = 0 ∨ w = 1 ∨ w = 2 := by omega
    have p := (hb.2 w hw).1
    have p' := (hb'.2 w hw).1
    have er : rm s w = rm s' w := by rcases c2 with rfl | rfl | rfl <;> omega
    unfold rm at er
    omega
theorem mal_7 (hH : iHs κ) (hS : iSc κ) (h6 : κ 0 12 ≤ 6) (t : Int) (s : Nat) : mal κ t s ≤ 343 := by
  have h3 := us_le hH hS
  have hl : ∀ w, (mvl κ t s w).length ≤ 7 := fun w => by
    have h1 := mlp_len κ t s w (κ 0 12).toNat
    have h2 := mlp_len κ t s w 0
    unfold mvl
    split <;> omega
  have h : ∀ n, prf (fun w => (mvl κ t s w).length) n ≤ 7 ^ n := by
    intro n
    induction n with
    | zero => exact Nat.le_refl _
    | succ n ih => unfold prf; rw [Nat.pow_succ]; exact Nat.mul_le_mul ih (hl n)
  have h4 := h (us κ)
  unfold mal
  have : us κ = 0 ∨ us κ = 1 ∨ us κ = 2 ∨ us κ = 3 := by omega
  rcases this with e | e | e | e <;> rw [e] at h4 ⊢ <;> (simp at h4; omega)
theorem fm_le {α β : Type} {f : α → List β} {k : Nat} : ∀ l : List α, (∀ a ∈ l, (f a).length ≤ k) → (l.flatMap f).length ≤ l.length * k
  | [], _ => by simp
  | a :: l, h => by
    rw [List.flatMap_cons, List.length_append, List.length_cons, Nat.add_mul, Nat.one_mul]
    have := h a List.mem_cons_self
    have := fm_le l (fun b hb => h b (List.mem_cons_of_mem _ hb))
    omega
theorem CH_5 (hH : iHs κ) (hS : iSc κ) (h5 : κ 0 11 ≤ 5) (h6 : κ 0 12 ≤ 6) : ∀ t, (CH κ t).length ≤ 125 * 343 ^ t
  | 0 => by
    have h := beg_5 hH hS h5
    have e : (CH κ 0).length = ((List.range (nst κ)).filter (begb κ)).length := by
      show ((List.range (nst κ)).flatMap fun s => one (begb κ s) (([] : List (Nat × Nat)), s)).length = _
      generalize List.range (nst κ) = l
      induction l with
      | nil => rfl
      | cons a l ih =>
        rw [List.flatMap_cons, List.length_append, ih]
        unfold one
        by_cases q : begb κ a = true
        · rw [if_pos q, List.filter_cons_of_pos q]
          simp; omega
        · rw [if_neg q, List.filter_cons_of_neg q]
          simp
    rw [e]
    omega
  | t + 1 => by
    have ih := CH_5 hH hS h5 h6 t
    have h := fm_le (k := 343) (f := fun x : List (Nat × Nat) × Nat => (List.range (mal κ (t : Int) x.2)).flatMap fun c => one (vld κ (t : Int) x.2 c) (x.1 ++ [(x.2, c)], nxt κ (t : Int) x.2 c)) (CH κ t) (fun x _ => by
      have h1 := fm_le (k := 1) (f := fun c => one (vld κ (t : Int) x.2 c) (x.1 ++ [(x.2, c)], nxt κ (t : Int) x.2 c)) (List.range (mal κ (t : Int) x.2)) (fun c _ => by unfold one; split <;> simp)
      rw [List.length_range] at h1
      have := mal_7 hH hS h6 (t : Int) x.2
      omega)
    show ((CH κ t).flatMap _).length ≤ _
    rw [Nat.pow_succ, ← Nat.mul_assoc]
    exact Nat.le_trans h (Nat.mul_le_mul_right _ ih)
theorem aw_5 (hH : iHs κ) (hS : iSc κ) (h5 : κ 0 11 ≤ 5) (h6 : κ 0 12 ≤ 6) (hT : lst κ ≤ 5) : aw κ ≤ 1000000000000000 := by
  rw [(aw_cap hH hS (t := 0) (by omega)).1, Wx_Nt, Nt_len hH hS (by omega)]
  have h := CH_5 hH hS h5 h6 (lst κ)
  have h2 : 125 * 343 ^ lst κ ≤ 125 * 343 ^ 5 := Nat.mul_le_mul_left _ (Nat.pow_le_pow_right (by omega) hT)
  have h3 : 125 * 343 ^ 5 ≤ 1000000000000000 := by decide
  have h4 := List.length_filter_le (fun _ => true) (CH κ (lst κ))
  rw [capX_m]
  omega
end

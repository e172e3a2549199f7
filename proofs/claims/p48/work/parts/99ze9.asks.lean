/-! THE MIRROR: what the class's calls answer. -/
theorem PM.hn {M M' K K' : MI} (h : PM M M') (k : HN M K) (k' : HN M' K') : PM K K' := by
  obtain ⟨⟨a1, a2, a3⟩, ⟨b1, b2, b3⟩, ⟨c1, c2, c3, c4⟩⟩ := h
  refine ⟨⟨k.h a1, k.e a2, k.l a3⟩, ⟨k'.h b1, k'.e b2, k'.l b3⟩, ?_⟩
  have e7 : ∀ j, K 7 j = M 7 j := fun j => k.1 7 j (by omega)
  have e8 : ∀ j, K 8 j = M 8 j := fun j => k.1 8 j (by omega)
  have e11 : ∀ j, K 11 j = M 11 j := fun j => k.1 11 j (by omega)
  have f7 : ∀ j, K' 7 j = M' 7 j := fun j => k'.1 7 j (by omega)
  have f8 : ∀ j, K' 8 j = M' 8 j := fun j => k'.1 8 j (by omega)
  have f11 : ∀ j, K' 11 j = M' 11 j := fun j => k'.1 11 j (by omega)
  unfold MirM EvM
  simp only [e7, e8, e11, f7, f8, f11, k.2 11 (by omega), k.2 12 (by omega), k.2 13 (by omega), k.2 14 (by omega), k.2 25 (by omega), k'.2 11 (by omega), k'.2 12 (by omega), k'.2 13 (by omega), k'.2 14 (by omega), k'.2 25 (by omega)]
  exact ⟨c1, c2, c3, c4⟩
theorem HN.tl (M : MI) (v : Int) : HN M (a_tl M v) := by
  refine ⟨fun c j q => m_up_ne (by omega) j, fun j q => ?_⟩
  unfold a_tl
  rw [m_up_nj (by omega)]
theorem HN.mt (M : MI) (f : Int) : HN M (a_mt M f) := by
  refine ⟨fun c j q => ?_, fun j q => ?_⟩
  · unfold a_mt
    rw [m_up_ne (by omega), m_up_ne (by omega)]
  · unfold a_mt
    rw [m_up_ne (by omega), m_up_nj (by omega)]
theorem tl_02 (M : MI) (v : Int) : a_tl M v 0 2 = v := m_up_eq
section
variable {M M' : MI}
theorem PM.k (h : PM M M') : KP (kM M) (kM M') := by
  have := h.kp (wo := 0) (k := M 0 13) ⟨h.1.1.2.2.1.1, Int.le_refl _⟩
  unfold kM
  rw [h.2.2.1.2.2.1]
  exact this
theorem PM.ok (h : PM M M') : okA M' = okA M := by
  have k := h.k
  rw [Bool.eq_iff_iff, okA_eq h.1.2.1 h.1.2.2, okA_eq h.2.1.2.1 h.2.1.2.2]
  exact ⟨fun q => m_fst k.2.1.1 k.2.1.2 k.1.1 k.1.2 k.2.2.2 q, fun q => m_fst k.1.1 k.1.2 k.2.1.1 k.2.1.2 k.2.2.1 q⟩
theorem kM_T (h : PM M M') : (lst (kM M) : Int) = M 0 14 ∧ kM M 0 11 = M 0 11 ∧ (us (kM M) : Int) = M 0 13 ∧ kM M 0 12 = M 0 12 := ⟨KA_lst h.1.1, kap_per (by unfold per; omega), KA_us h.1.1, kap_per (by unfold per; omega)⟩
theorem ok_9 (h : PM M M') : okA M = true ↔ fst0 (kM M) = -9 := okA_eq h.1.2.1 h.1.2.2
theorem could_v (h : PM M M') : (s_could M).1 = b01 (okA M = true) ∧ HN M (s_could M).2 := by
  have e := ok_9 h
  unfold s_could b01
  show (if fst0 (kM M) = -9 then (1, M) else (0, a_tl M (fst0 (kM M)))).1 = _ ∧ HN M (if fst0 (kM M) = -9 then (1, M) else (0, a_tl M (fst0 (kM M)))).2
  by_cases q : fst0 (kM M) = -9
  · rw [if_pos q, if_pos (e.mpr q)]; exact ⟨rfl, HN.rf M⟩
  · rw [if_neg q, if_neg (fun z => q (e.mp z))]; exact ⟨rfl, HN.tl M _⟩
/-- the law's houses are small -/
def Bd (M : MI) : Prop := M 0 11 ≤ 5 ∧ M 0 12 ≤ 6 ∧ M 0 14 ≤ 5
theorem aw_bd (h : PM M M') (b : Bd M) : aw (kM M) ≤ 1000000000000000 := by
  have k := kM_T h
  obtain ⟨b1, b2, b3⟩ := b
  exact aw_5 h.k.1.1 h.k.1.2 (by omega) (by omega) (by omega)
theorem Bd.m (b : Bd M) (h : PM M M') : Bd M' := by
  obtain ⟨a1, a2, a3, a4, a5⟩ := h.2.2.1
  unfold Bd
  rw [a1, a2, a4]; exact b
theorem ways_v (h : PM M M') (b : Bd M) (N : MI) : (s_ways M).1 = b01 (okA M = true) ∧ b01 (okA M = true) ≤ (s_ways M).2 N 0 3 ∧ (s_ways M).2 N 0 3 = (if okA M = true then aw (kM M) else 0) := by
  have e := ok_9 h
  have ha := aw_bd h b
  have e2 : s_ways M = if fst0 (kM M) ≠ -9 then (0, fun L => m_up L 0 3 0) else if 1000000000000000 < aw (kM M) then (-6, fun L => L) else (1, fun L => m_up L 0 3 (aw (kM M))) := rfl
  rw [e2]
  unfold b01
  by_cases q : fst0 (kM M) = -9
  · rw [if_neg (fun z => z q), if_neg (by omega), if_pos (e.mpr q), if_pos (e.mpr q)]
    have := (cnt_ok h.k.1.1 h.k.1.2 q ha).1
    refine ⟨rfl, ?_, by show m_up N 0 3 _ 0 3 = _; exact m_up_eq⟩
    show 1 ≤ m_up N 0 3 (aw (kM M)) 0 3
    rw [m_up_eq]; omega
  · rw [if_pos q, if_neg (fun z => q (e.mp z)), if_neg (fun z => q (e.mp z))]
    refine ⟨rfl, ?_, by show m_up N 0 3 _ 0 3 = _; exact m_up_eq⟩
    show 0 ≤ m_up N 0 3 0 0 3
    rw [m_up_eq]; omega
theorem ways_m (h : PM M M') (b : Bd M) (N N' : MI) : (s_ways M').2 N' 0 3 = (s_ways M).2 N 0 3 := by
  have k := h.k
  rw [(ways_v h b N).2.2, (ways_v h.sy (b.m h) N').2.2, h.ok, m_aw k.1.1 k.1.2 k.2.1.1 k.2.1.2 k.2.2.1 k.2.2.2]
theorem gd_m (h : PM M M') (wo k : Int) : gd M' wo k = gd M wo k := by
  have a5 := h.2.2.1.2.2.2.2
  have hE := h.1.2.1.1
  unfold gd
  rw [a5]
  refine al_congr (fun e he => ?_)
  obtain ⟨b1, b2, b3, b4, b5, b6⟩ := h.2.2.2.2.2 e (by omega)
  unfold gdF
  rw [pm_11, pm_11, pm_11, pm_11, b1]
  by_cases q : M 11 (4 * (e : Int) + 0) = 3
  · rw [b6 q]
  · rw [decide_eq_false q]
    simp
theorem fst_m (h : PM M M') (wo : Int) {k : Int} (hk : 0 ≤ k ∧ k ≤ M 0 13) : fst0 (kap M' wo k) = -9 ↔ fst0 (kap M wo k) = -9 := by
  have q := h.kp (wo := wo) hk
  exact ⟨fun z => m_fst q.2.1.1 q.2.1.2 q.1.1 q.1.2 q.2.2.2 z, fun z => m_fst q.1.1 q.1.2 q.2.1.1 q.2.1.2 q.2.2.1 z⟩
theorem fw_m (h : PM M M') : ∀ n k : Nat, (n : Int) + k ≤ M 0 13 + 1 → fwF M' n k = fwF M n k
  | 0, _, _ => rfl
  | n + 1, k, hk => by
    unfold fwF
    rw [gd_m h, fw_m h n (k + 1) (by omega)]
    have e := fst_m h 0 (k := (k : Int)) (by omega)
    by_cases q : gd M 0 (k : Int) = true ∧ fst0 (kap M 0 (k : Int)) = -9
    · rw [if_pos q, if_pos ⟨q.1, e.mpr q.2⟩]
    · rw [if_neg q, if_neg (fun z => q ⟨z.1, e.mp z.2⟩)]
theorem fewest_m (h : PM M M') : fwF M' ((M' 0 13).toNat + 1) 0 = fwF M ((M 0 13).toNat + 1) 0 := by
  have a3 := h.2.2.1.2.2.1
  have := h.1.1.2.2.1
  rw [a3]
  exact fw_m h _ 0 (by omega)
theorem qu_m (h : PM M M') : ∀ e : Nat, quW M' e = quW M e
  | 0 => rfl
  | e + 1 => by
    have a3 := h.2.2.1.2.2.1
    unfold quW
    rw [qu_m h e, a3]
    have := fst_m h (z_or (quW M e) (z_shl 1 (e : Int))) (k := M 0 13) ⟨h.1.1.2.2.1.1, Int.le_refl _⟩
    rw [ifc (not_congr this)]
theorem quarrel_m (h : PM M M') {N N' : MI} (hN : N' 0 3 = N 0 3) : (s_quarrel M').1 = (s_quarrel M).1 ∧ (s_quarrel M').2 N' 0 3 = (s_quarrel M).2 N 0 3 := by
  have a5 := h.2.2.1.2.2.2.2
  unfold s_quarrel
  rw [h.ok, a5, qu_m h]
  by_cases q : okA M = true
  · rw [if_pos q]; exact ⟨rfl, hN⟩
  · rw [if_neg q]
    refine ⟨rfl, ?_⟩
    exact (m_up_eq (f := N') (a := 0) (i := 3)).trans (m_up_eq (f := N) (a := 0) (i := 3)).symm
theorem chB_e (k m f : Int) : chB M k m f = if gd M 0 k = true then cB_ (kap M 0 k) m f else -9 := rfl
theorem chB_m (h : PM M M') {k m f : Int} (hk : 0 ≤ k ∧ k ≤ M 0 13) (hm : 0 ≤ m) (hf : 0 ≤ f) : chB M' k m f = chB M k m f := by
  have q := h.kp (wo := 0) hk
  rw [chB_e, chB_e, gd_m h, m_cB q.1.1 q.1.2 q.2.1.1 q.2.1.2 q.2.2.1 q.2.2.2 hm hf]
theorem cheap_e {m f : Int} (hm : 0 ≤ m ∧ m ≤ 99) (hf : 0 ≤ f ∧ f ≤ 99) : s_cheapest m f M = if chB M (M 0 13) m f = -9 then (-9, M) else (chB M (M 0 13) m f / 1000, a_tl M (chB M (M 0 13) m f % 1000)) := if_neg (by omega)
theorem cheapest_m (h : PM M M') {m f : Int} (hm : 0 ≤ m ∧ m ≤ 99) (hf : 0 ≤ f ∧ f ≤ 99) : (s_cheapest m f M').1 = (s_cheapest m f M).1 ∧ (0 ≤ (s_cheapest m f M).1 → (s_cheapest m f M').2 0 2 = (s_cheapest m f M).2 0 2) := by
  have a3 := h.2.2.1.2.2.1
  have e := chB_m h (k := M 0 13) (m := m) (f := f) ⟨h.1.1.2.2.1.1, Int.le_refl _⟩ hm.1 hf.1
  rw [cheap_e hm hf, cheap_e hm hf, a3, e]
  by_cases q : chB M (M 0 13) m f = -9
  · rw [if_pos q, if_pos q]; exact ⟨rfl, fun z => absurd z (show ¬ (0 : Int) ≤ -9 by decide)⟩
  · rw [if_neg q, if_neg q]
    refine ⟨rfl, fun _ => ?_⟩
    exact (tl_02 M' _).trans (tl_02 M _).symm
theorem cheapest_v (m f : Int) : HN M (s_cheapest m f M).2 := by
  unfold s_cheapest
  split
  · exact HN.rf M
  · split
    · exact HN.rf M
    · exact HN.tl M _
theorem se_m (h : PM M M') {m f q : Int} (hm : 0 ≤ m) (hf : 0 ≤ f) : ∀ n : Nat, (n : Int) ≤ M 0 13 + 1 → seF M' m f q n = seF M m f q n
  | 0, _ => rfl
  | n + 1, hn => by
    rw [seF_s, seF_s, se_m h hm hf n (by omega), chB_m h (k := (n : Int)) (by omega) hm hf]
theorem settle_e {m f q : Int} (hm : 0 ≤ m ∧ m ≤ 99) (hf : 0 ≤ f ∧ f ≤ 99) (hq : 0 ≤ q ∧ q ≤ 99) : s_settle m f q M = if (seF M m f q (M 0 13 + 1).toNat).1 = -9 then (-9, M) else ((seF M m f q (M 0 13 + 1).toNat).1, a_tl M (seF M m f q (M 0 13 + 1).toNat).2) := if_neg (by omega)
theorem settle_m (h : PM M M') {m f q : Int} (hm : 0 ≤ m ∧ m ≤ 99) (hf : 0 ≤ f ∧ f ≤ 99) (hq : 0 ≤ q ∧ q ≤ 99) : (s_settle m f q M').1 = (s_settle m f q M).1 ∧ (0 ≤ (s_settle m f q M).1 → (s_settle m f q M').2 0 2 = (s_settle m f q M).2 0 2) := by
  have a3 := h.2.2.1.2.2.1
  have := h.1.1.2.2.1
  have e := se_m h (q := q) hm.1 hf.1 (M 0 13 + 1).toNat (by omega)
  rw [settle_e hm hf hq, settle_e hm hf hq, a3, e]
  by_cases z : (seF M m f q (M 0 13 + 1).toNat).1 = -9
  · rw [if_pos z, if_pos z]; exact ⟨rfl, fun z => absurd z (show ¬ (0 : Int) ≤ -9 by decide)⟩
  · rw [if_neg z, if_neg z]
    refine ⟨rfl, fun _ => ?_⟩
    exact (tl_02 M' _).trans (tl_02 M _).symm
theorem settle_v (m f q : Int) : HN M (s_settle m f q M).2 := by
  unfold s_settle
  split
  · exact HN.rf M
  · split
    · exact HN.rf M
    · exact HN.tl M _
/-- prices, where the night cannot be -/
theorem isCh_sc {κ κ' : MI} (h : Sc κ κ') (T : Nat) (S C : Nat → Nat) : isCh κ' (lov κ') T S C ↔ isCh κ (lov κ) T S C := by
  unfold isCh lov
  rw [nst_sc h, begb_sc h, mal_sc h, okb_sc h, nxt_sc h]
theorem CBs_sc {κ κ' : MI} (h : Sc κ κ') (m f v : Int) : CBs κ' m f v ↔ CBs κ m f v := by
  have e : ∀ S C, cs_ κ' m f S C (lst κ) = cs_ κ m f S C (lst κ) := fun S C => by
    unfold cs_ cst mis slf
    rw [pas_sc h, h.2 35 (by omega)]
    exact smi_cg _ (fun i _ => by rw [sc13 h])
  unfold CBs
  rw [lst_sc h]
  constructor
  · rintro ⟨S, C, a, b⟩
    exact ⟨S, C, (isCh_sc h _ _ _).mp a, by rw [← e]; exact b⟩
  · rintro ⟨S, C, a, b⟩
    exact ⟨S, C, (isCh_sc h _ _ _).mpr a, by rw [e]; exact b⟩
theorem cB_sc {κ κ' : MI} (hH : iHs κ) (hS : iSc κ) (h : Sc κ κ') {m f : Int} (hm : 0 ≤ m) (hf : 0 ≤ f) : cB_ κ' m f = cB_ κ m f := by
  rcases cb_all hH hS hm hf with ⟨h1, h2⟩ | ⟨h1, h2, h3⟩ <;> rcases cb_all (iHs_sc h hH) (iSc_sc h hS) hm hf with ⟨k1, k2⟩ | ⟨k1, k2, k3⟩
  · rw [h1, k1]
  · exact absurd ((CBs_sc h _ _ _).mp k1) (h2 _)
  · exact absurd ((CBs_sc h _ _ _).mpr h1) (k2 _)
  · have a := h3 _ ((CBs_sc h _ _ _).mp k1)
    have b := k3 _ ((CBs_sc h _ _ _).mpr h1)
    omega
theorem chB_k (h : PM M M') (m f : Int) : chB M (M 0 13) m f = cB_ (kM M) m f := by
  rw [chB_e, gd_all h.1.2.1 h.1.2.2, if_pos rfl]
  rfl
theorem cheap_1 (h : PM M M') {m f : Int} (hm : 0 ≤ m ∧ m ≤ 99) (hf : 0 ≤ f ∧ f ≤ 99) : (s_cheapest m f M).1 = if cB_ (kM M) m f = -9 then -9 else cB_ (kM M) m f / 1000 := by
  unfold s_cheapest
  rw [if_neg (by omega), chB_k h]
  split <;> rfl
theorem h13_35 (h : PM M M') : ∀ t : Nat, t < lst (kM M) → ∀ k, k < 32 → tb (kM M 13 (t : Int)) k = true → tb (kM M 0 35) k = true := by
  intro t _ k hk hb
  have hE := h.1.2.1
  have hR := h.1.1.2.1
  obtain ⟨a, b⟩ := scn_13 hE h.1.2.2 hk (M 0 25).toNat (by have := hE.1; omega) hb
  unfold kM
  rw [kap_35v, tb_orf]
  refine ⟨k, by omega, ?_⟩
  unfold bdF
  rw [if_pos b, tb_sh1 (by omega) hk, decide_eq_true_eq]
  omega
/-- one night that cannot be: what is dear stays dear, what is cheaper is no dearer -/
theorem dear (h : PM M M') (hk : okA M = false) {K1 K2 K3 K4 : MI} (n1 : HN M K1) (n2 : HN M K2) (n3 : HN M K3) (n4 : HN M K4) (hn : (s_cheapest 3 5 M).1 ≠ -9) : 0 < (s_cheapest 3 5 M).1 ∧ (s_cheapest 2 5 K1).1 ≤ (s_cheapest 3 5 M).1 ∧ (s_cheapest 3 4 K2).1 ≤ (s_cheapest 3 5 M).1 ∧ (s_cheapest 0 0 K3).1 = 0 ∧ 0 ≤ (s_settle 3 5 0 K4).1 := by
  have k := h.k
  have h9 : fst0 (kM M) ≠ -9 := fun z => by rw [(ok_9 h).mpr z] at hk; cases hk
  have p1 : PM K1 M' := h.hn n1 (HN.rf _)
  have p2 : PM K2 M' := h.hn n2 (HN.rf _)
  have p3 : PM K3 M' := h.hn n3 (HN.rf _)
  have p4 : PM K4 M' := h.hn n4 (HN.rf _)
  have e0 := cheap_1 h (m := 3) (f := 5) (by omega) (by omega)
  have nn : cB_ (kM M) 3 5 ≠ -9 := fun z => by rw [if_pos z] at e0; exact hn e0
  rw [if_neg nn] at e0
  obtain ⟨a1, a2⟩ := cB_le k.1.1 k.1.2 (m := 3) (f := 5) (m' := 2) (f' := 5) (by omega) (by omega) (by omega) nn
  obtain ⟨b1, b2⟩ := cB_le k.1.1 k.1.2 (m := 3) (f := 5) (m' := 3) (f' := 4) (by omega) (by omega) (by omega) nn
  obtain ⟨c1, c2⟩ := cB_le k.1.1 k.1.2 (m := 3) (f := 5) (m' := 0) (f' := 0) (by omega) (by omega) (by omega) nn
  refine ⟨?_, ?_, ?_, ?_, ?_⟩
  · rw [e0]
    exact cB_pos k.1.1 k.1.2 (kap_M h.1.1 h.1.2.1 _ _) (by unfold kM; rw [kap_36]; omega) (h13_35 h) h9 (by omega) (by omega) nn
  · rw [cheap_1 p1 (by omega) (by omega), cB_sc k.1.1 k.1.2 (kM_hn n1) (by omega) (by omega), if_neg a1, e0]
    omega
  · rw [cheap_1 p2 (by omega) (by omega), cB_sc k.1.1 k.1.2 (kM_hn n2) (by omega) (by omega), if_neg b1, e0]
    omega
  · rw [cheap_1 p3 (by omega) (by omega), cB_sc k.1.1 k.1.2 (kM_hn n3) (by omega) (by omega), if_neg c1]
    exact cB_00 k.1.1 k.1.2 c1
  · have hW := p4.1.1.2.2.1
    obtain ⟨W, hw⟩ : ∃ W : Nat, K4 0 13 = (W : Int) := ⟨(K4 0 13).toNat, by omega⟩
    have f1 : chB K4 (W : Int) 3 5 ≠ -9 := by
      rw [← hw, chB_k p4, cB_sc k.1.1 k.1.2 (kM_hn n4) (by omega) (by omega)]
      exact nn
    have f2 : ∀ n, (seF K4 3 5 0 n).1 = -9 ∨ 0 ≤ (seF K4 3 5 0 n).1 := by
      intro n
      induction n with
      | zero => exact Or.inl rfl
      | succ n ih =>
        rw [seF_s]
        split
        · right; show 0 ≤ (n : Int); omega
        · exact ih
    have f3 : 0 ≤ (seF K4 3 5 0 (W + 1)).1 := by
      rw [seF_s]
      split
      · show 0 ≤ (W : Int); omega
      · rename_i z
        rcases f2 W with q | q
        · exact absurd ⟨f1, Or.inl q⟩ z
        · exact q
    unfold s_settle
    rw [if_neg (by omega), hw, show ((W : Int) + 1).toNat = W + 1 by omega, if_neg (by omega)]
    exact f3
theorem rooms_m (h : PM M M') (ok : okA M = true) {r q t u : Nat} (er : (r : Int) + q + 1 = M 0 11) (e : (t : Int) + u = M 0 14) : (s_rooms q u M').1 = (s_rooms r t M).1 ∧ (s_rooms q u M').2 0 2 = (s_rooms r t M).2 0 2 := by
  have k := h.k
  have kt := kM_T h
  have a := h.2.2.1
  have ok' : okA M' = true := by rw [h.ok]; exact ok
  have e1 : s_rooms r t M = (fiF (kM M) r t (nst (kM M)), a_tl M (moF (kM M) r t (nst (kM M)))) := by
    unfold s_rooms
    rw [if_neg (by omega), if_neg (by rw [ok]; simp)]
    rfl
  have e2 : s_rooms q u M' = (fiF (kM M') q u (nst (kM M')), a_tl M' (moF (kM M') q u (nst (kM M')))) := by
    unfold s_rooms
    rw [if_neg (by omega), if_neg (by rw [ok']; simp)]
    rfl
  have h9 := (ok_9 h).mp ok
  have h9' := (ok_9 h.sy).mp ok'
  have kt' := kM_T h.sy
  rw [e1, e2]
  show fiF (kM M') (q : Int) u (nst (kM M')) = fiF (kM M) (r : Int) t (nst (kM M)) ∧ a_tl M' (moF (kM M') (q : Int) u (nst (kM M'))) 0 2 = a_tl M (moF (kM M) (r : Int) t (nst (kM M))) 0 2
  rw [tl_02, tl_02]
  have f1 := m_fi k.1.1 k.1.2 k.2.1.1 k.2.1.2 k.2.2.1 h9 (r := r) (q := q) (t := t) (u := u) (by omega) (by omega)
  have f2 := m_fi k.2.1.1 k.2.1.2 k.1.1 k.1.2 k.2.2.2 h9' (r := q) (q := r) (t := u) (u := t) (by omega) (by omega)
  have g1 := m_mo k.1.1 k.1.2 k.2.1.1 k.2.1.2 k.2.2.1 (r := r) (q := q) (t := t) (u := u) (by omega) (by omega)
  have g2 := m_mo k.2.1.1 k.2.1.2 k.1.1 k.1.2 k.2.2.2 (r := q) (q := r) (t := u) (u := t) (by omega) (by omega)
  exact ⟨by omega, by omega⟩
theorem rooms_v (r t : Int) : HN M (s_rooms r t M).2 := by
  unfold s_rooms
  split
  · exact HN.rf M
  · split
    · exact HN.mt M _
    · exact HN.tl M _
theorem fr_45 (u l : Int) (N : MI) : frT u l N 0 4 = u.tdiv (a_gcd u l) ∧ frT u l N 0 5 = l.tdiv (a_gcd u l) := by
  unfold frT
  rw [m_up_nj (i := 5) (j := 4) (by decide), m_up_eq, m_up_eq]
  exact ⟨rfl, rfl⟩
theorem chance_m (h : PM M M') (b : Bd M) (ok : okA M = true) {r q t u : Nat} (er : (r : Int) + q + 1 = M 0 11) (e : (t : Int) + u = M 0 14) (N N' : MI) : (s_chance r t M).1 = 1 ∧ (s_chance q u M').1 = 1 ∧ l_chance q u M' N' 0 4 = l_chance r t M N 0 4 ∧ l_chance q u M' N' 0 5 = l_chance r t M N 0 5 := by
  have k := h.k
  have kt := kM_T h
  have a := h.2.2.1
  have ok' : okA M' = true := by rw [h.ok]; exact ok
  have w := aw_bd h b
  have w' := aw_bd h.sy (b.m h)
  have kt' := kM_T h.sy
  have ew := m_aw k.1.1 k.1.2 k.2.1.1 k.2.1.2 k.2.2.1 k.2.2.2
  have ec := m_chS k.1.1 k.1.2 k.2.1.1 k.2.1.2 k.2.2.1 k.2.2.2 w (r := r) (q := q) (t := t) (u := u) (by omega) (by omega)
  have e1 : s_chance r t M = (1, M) := by
    unfold s_chance
    rw [if_neg (by omega), if_neg (by rw [ok]; simp)]
    exact if_neg (by show ¬ _ < aw (kM M); omega)
  have e2 : s_chance q u M' = (1, M') := by
    unfold s_chance
    rw [if_neg (by omega), if_neg (by rw [ok']; simp)]
    exact if_neg (by show ¬ _ < aw (kM M'); omega)
  have e3 : l_chance r t M N = frT (chS (kM M) r t (nst (kM M))) (aw (kM M)) N := by
    unfold l_chance
    rw [if_neg (by omega), if_neg (by rw [ok]; simp)]
    exact if_neg (by show ¬ _ < aw (kM M); omega)
  have e4 : l_chance q u M' N' = frT (chS (kM M') q u (nst (kM M'))) (aw (kM M')) N' := by
    unfold l_chance
    rw [if_neg (by omega), if_neg (by rw [ok']; simp)]
    exact if_neg (by show ¬ _ < aw (kM M'); omega)
  rw [e1, e2, e3, e4, ec, ew, (fr_45 _ _ _).1, (fr_45 _ _ _).1, (fr_45 _ _ _).2, (fr_45 _ _ _).2]
  exact ⟨rfl, rfl, rfl, rfl⟩
theorem chance_v (r t : Int) : HN M (s_chance r t M).2 := by
  unfold s_chance
  split
  · exact HN.rf M
  · split
    · exact HN.mt M _
    · split <;> exact HN.rf M
theorem likely_m (h : PM M M') (b : Bd M) (ok : okA M = true) {w t u : Nat} (hw : (w : Int) < M 0 13) (e : (t : Int) + u = M 0 14) (N N' : MI) : 0 ≤ (s_likely w t M).1 ∧ 0 ≤ (s_likely w u M').1 ∧ l_likely w u M' N' 0 4 = l_likely w t M N 0 4 ∧ l_likely w u M' N' 0 5 = l_likely w t M N 0 5 := by
  have k := h.k
  have kt := kM_T h
  have a := h.2.2.1
  have ok' : okA M' = true := by rw [h.ok]; exact ok
  have wa := aw_bd h b
  have wa' := aw_bd h.sy (b.m h)
  have kt' := kM_T h.sy
  have ew := m_aw k.1.1 k.1.2 k.2.1.1 k.2.1.2 k.2.2.1 k.2.2.2
  have ec := m_lk k.1.1 k.1.2 k.2.1.1 k.2.1.2 k.2.2.1 k.2.2.2 wa (w := w) (t := t) (u := u) (by omega) (by omega)
  have e1 : (s_likely w t M).1 = ((lkB (fun r => lkS (kM M) w t r (nst (kM M))) 5 : Nat) : Int) := by
    unfold s_likely
    rw [if_neg (by omega), if_neg (by rw [ok]; simp), if_neg (by show ¬ _ < aw (kM M); omega)]
    rfl
  have e2 : (s_likely w u M').1 = ((lkB (fun r => lkS (kM M') w u r (nst (kM M'))) 5 : Nat) : Int) := by
    unfold s_likely
    rw [if_neg (by omega), if_neg (by rw [ok']; simp), if_neg (by show ¬ _ < aw (kM M'); omega)]
    rfl
  have e3 : l_likely w t M N = frT (lkS (kM M) w t (lkB (fun r => lkS (kM M) w t r (nst (kM M))) 5) (nst (kM M))) (aw (kM M)) N := by
    unfold l_likely
    rw [if_neg (by omega), if_neg (by rw [ok]; simp)]
    exact if_neg (by show ¬ _ < aw (kM M); omega)
  have e4 : l_likely w u M' N' = frT (lkS (kM M') w u (lkB (fun r => lkS (kM M') w u r (nst (kM M'))) 5) (nst (kM M'))) (aw (kM M')) N' := by
    unfold l_likely
    rw [if_neg (by omega), if_neg (by rw [ok']; simp)]
    exact if_neg (by show ¬ _ < aw (kM M'); omega)
  rw [e1, e2, e3, e4, ec, ew, (fr_45 _ _ _).1, (fr_45 _ _ _).1, (fr_45 _ _ _).2, (fr_45 _ _ _).2]
  exact ⟨by omega, by omega, rfl, rfl⟩
theorem likely_v (w t : Int) : HN M (s_likely w t M).2 := by
  unfold s_likely
  split
  · exact HN.rf M
  · split
    · exact HN.mt M _
    · split <;> exact HN.rf M
theorem where_m (h : PM M M') (ok : okA M = true) {w t u : Nat} (hw : (w : Int) < M 0 13) (e : (t : Int) + u = M 0 14) {r q : Nat} (er : (r : Int) + q + 1 = M 0 11) : tb (s_where w u M').1 q = tb (s_where w t M).1 r := by
  have k := h.k
  have kt := kM_T h
  have a := h.2.2.1
  have ok' : okA M' = true := by rw [h.ok]; exact ok
  have kt' := kM_T h.sy
  have e1 : (s_where w t M).1 = whF (kM M) w t (nst (kM M)) := by
    unfold s_where
    rw [if_neg (by omega), if_neg (by rw [ok]; simp)]
    rfl
  have e2 : (s_where w u M').1 = whF (kM M') w u (nst (kM M')) := by
    unfold s_where
    rw [if_neg (by omega), if_neg (by rw [ok']; simp)]
    rfl
  rw [e1, e2, Bool.eq_iff_iff]
  exact ⟨m_wh k.2.1.1 k.2.1.2 k.1.1 k.1.2 k.2.2.2 (w := w) (r := q) (q := r) (t := u) (u := t) (by omega) (by omega) (by omega), m_wh k.1.1 k.1.2 k.2.1.1 k.2.1.2 k.2.2.1 (w := w) (r := r) (q := q) (t := t) (u := u) (by omega) (by omega) (by omega)⟩
theorem where_v (w t : Int) : HN M (s_where w t M).2 := by
  unfold s_where
  split
  · exact HN.rf M
  · split
    · exact HN.mt M _
    · exact HN.rf M
theorem passes_m (h : PM M M') (ok : okA M = true) {d : Nat} (hd : (d : Int) < M 0 12) : (s_passes d M').1 = (s_passes d M).1 ∧ (s_passes d M').2 0 2 = (s_passes d M).2 0 2 ∧ (s_passes d M).2 0 2 ≤ (s_passes d M).1 ∧ (s_passes d M).1 ≤ M 0 14 := by
  have k := h.k
  have kt := kM_T h
  have a := h.2.2.1
  have ok' : okA M' = true := by rw [h.ok]; exact ok
  have e1 : s_passes d M = (pmn (kM M) d, a_tl M (pmx (kM M) d)) := by
    unfold s_passes
    rw [if_neg (by omega), if_neg (by rw [ok]; simp)]
    rfl
  have e2 : s_passes d M' = (pmn (kM M') d, a_tl M' (pmx (kM M') d)) := by
    unfold s_passes
    rw [if_neg (by omega), if_neg (by rw [ok']; simp)]
    rfl
  have p := pmx_le ((ok_9 h).mp ok) (d : Int)
  rw [e1, e2]
  show pmn (kM M') (d : Int) = pmn (kM M) (d : Int) ∧ a_tl M' (pmx (kM M') (d : Int)) 0 2 = a_tl M (pmx (kM M) (d : Int)) 0 2 ∧ a_tl M (pmx (kM M) (d : Int)) 0 2 ≤ pmn (kM M) (d : Int) ∧ pmn (kM M) (d : Int) ≤ M 0 14
  rw [tl_02, tl_02]
  exact ⟨m_pmn k.1.1 k.1.2 k.2.1.1 k.2.1.2 k.2.2.1 k.2.2.2 _, m_pmx k.1.1 k.1.2 k.2.1.1 k.2.1.2 k.2.2.1 k.2.2.2 _, p.1, by omega⟩
theorem passes_v (d : Int) : HN M (s_passes d M).2 := by
  unfold s_passes
  split
  · exact HN.rf M
  · split
    · exact HN.mt M _
    · exact HN.tl M _
theorem still_e (h : PM M M') (ok : okA M = true) {w n : Nat} (hw : (w : Int) < M 0 13) (hn : 1 ≤ n ∧ n ≤ 30) : (s_still w n M).2 = M ∧ ((¬ sd1 (kM M) w n ∧ (s_still w n M).1 = 0) ∨ (sd1 (kM M) w n ∧ sd2 (kM M) w n ∧ (s_still w n M).1 = 1) ∨ (sd1 (kM M) w n ∧ ¬ sd2 (kM M) w n ∧ (s_still w n M).1 = 2)) := by
  have k := h.k
  have f1 := sd_f k.1.1 k.1.2 (w := w) hn.1
  have f2 := sd_t k.1.1 k.1.2 (w := w) hn.1
  have e1 : s_still w n M = (if stA (kM M) w n false = false then 0 else if stA (kM M) w n true = true then 1 else 2, M) := by
    unfold s_still
    rw [if_neg (by omega), if_neg (by rw [ok]; simp)]
    rfl
  rw [e1]
  refine ⟨rfl, ?_⟩
  by_cases q1 : stA (kM M) w n false = true
  · rw [if_neg (by rw [q1]; simp)]
    by_cases q2 : stA (kM M) w n true = true
    · rw [if_pos q2]; exact Or.inr (Or.inl ⟨f1.mp q1, f2.mp q2, rfl⟩)
    · rw [if_neg q2]; exact Or.inr (Or.inr ⟨f1.mp q1, fun z => q2 (f2.mpr z), rfl⟩)
  · rw [if_pos (by simpa using q1)]; exact Or.inl ⟨fun z => q1 (f1.mpr z), rfl⟩
theorem still_m (h : PM M M') (ok : okA M = true) {w n : Nat} (hw : (w : Int) < M 0 13) (hn : 1 ≤ n ∧ n ≤ 30) : (s_still w n M').1 = (s_still w n M).1 := by
  have k := h.k
  have kt := kM_T h
  have kt' := kM_T h.sy
  have a := h.2.2.1
  have ok' : okA M' = true := by rw [h.ok]; exact ok
  obtain ⟨-, s1⟩ := still_e h ok hw hn
  obtain ⟨-, s2⟩ := still_e h.sy ok' (w := w) (n := n) (by omega) hn
  obtain ⟨d1, d2⟩ := m_sd k.1.1 k.1.2 k.2.1.1 k.2.1.2 k.2.2.1 (w := w) (n := n) (by omega)
  obtain ⟨c1, c2⟩ := m_sd k.2.1.1 k.2.1.2 k.1.1 k.1.2 k.2.2.2 (w := w) (n := n) (by omega)
  rcases s1 with ⟨p1, p2⟩ | ⟨p1, p2, p3⟩ | ⟨p1, p2, p3⟩ <;> rcases s2 with ⟨q1, q2⟩ | ⟨q1, q2, q3⟩ | ⟨q1, q2, q3⟩
  · rw [p2, q2]
  · exact absurd (c1 q1) p1
  · exact absurd (c1 q1) p1
  · exact absurd (d1 p1) q1
  · rw [p3, q3]
  · exact absurd (d2 p2) q2
  · exact absurd (d1 p1) q1
  · exact absurd (c2 q2) p2
  · rw [p3, q3]
theorem still_le (h : PM M M') (ok : okA M = true) {w n : Nat} (hw : (w : Int) < M 0 13) (hn : 1 ≤ n ∧ n + 1 ≤ 30) : (s_still w ((n + 1 : Nat) : Int) M).1 ≤ (s_still w n M).1 := by
  obtain ⟨-, s1⟩ := still_e h ok (n := n + 1) hw (by omega)
  obtain ⟨-, s2⟩ := still_e h ok (n := n) hw (by omega)
  have f1 : sd1 (kM M) w (n + 1) → sd1 (kM M) w n := fun ⟨S, C, a, b⟩ => ⟨S, C, a, hr_mono (by omega) b⟩
  have f2 : sd2 (kM M) w n → sd2 (kM M) w (n + 1) := fun ⟨S, C, a, b⟩ => ⟨S, C, a, fun z => b (hr_mono (by omega) z)⟩
  rcases s1 with ⟨p1, p2⟩ | ⟨p1, p2, p3⟩ | ⟨p1, p2, p3⟩ <;> rcases s2 with ⟨q1, q2⟩ | ⟨q1, q2, q3⟩ | ⟨q1, q2, q3⟩
  all_goals first
    | omega
    | exact absurd (f1 p1) q1
    | exact absurd (f2 q2) p2
theorem still_v (w n : Int) : HN M (s_still w n M).2 := by
  unfold s_still
  split
  · exact HN.rf M
  · split
    · exact HN.mt M _
    · exact HN.rf M
theorem met_e (h : PM M M') (ok : okA M = true) {w o : Nat} (hw : (w : Int) < M 0 13) (ho : (o : Int) < M 0 13) (hn : w ≠ o) : (¬ mt1 (kM M) w o ∧ (s_met w o M).1 = 0) ∨ (mt1 (kM M) w o ∧ mt2 (kM M) w o ∧ (s_met w o M).1 = 1) ∨ (mt1 (kM M) w o ∧ ¬ mt2 (kM M) w o ∧ (s_met w o M).1 = 2) := by
  have k := h.k
  have kt := kM_T h
  have hT := h.1.1.2.2.2.1
  have f1 := me_1 k.1.1 k.1.2 (w := w) (o := o)
  have f2 := me_2 k.1.1 k.1.2 (w := w) (o := o)
  have t1 : (M 0 14 + 1).toNat = lst (kM M) + 1 := by omega
  have t2 : (M 0 14).toNat = lst (kM M) := by omega
  have e1 : (s_met w o M).1 = if meF (kM M) w o (lst (kM M) + 1) 0 = -9 then 0 else if anv (cmV (kM M) w o (lst (kM M))) (nst (kM M)) = true then 1 else 2 := by
    unfold s_met
    rw [if_neg (by omega), if_neg (by rw [ok]; simp), t1, t2]
    rfl
  rw [e1]
  by_cases q1 : meF (kM M) w o (lst (kM M) + 1) 0 = -9
  · rw [if_pos q1]; exact Or.inl ⟨f1.mp q1, rfl⟩
  · rw [if_neg q1]
    have y : mt1 (kM M) w o := Classical.byContradiction (fun z => q1 (f1.mpr z))
    by_cases q2 : anv (cmV (kM M) w o (lst (kM M))) (nst (kM M)) = true
    · rw [if_pos q2]; exact Or.inr (Or.inl ⟨y, f2.mp q2, rfl⟩)
    · rw [if_neg q2]; exact Or.inr (Or.inr ⟨y, fun z => q2 (f2.mpr z), rfl⟩)
theorem met_m (h : PM M M') (ok : okA M = true) {w o : Nat} (hw : (w : Int) < M 0 13) (ho : (o : Int) < M 0 13) (hn : w ≠ o) : (s_met w o M').1 = (s_met w o M).1 := by
  have k := h.k
  have kt := kM_T h
  have kt' := kM_T h.sy
  have a := h.2.2.1
  have ok' : okA M' = true := by rw [h.ok]; exact ok
  have s1 := met_e h ok hw ho hn
  have s2 := met_e h.sy ok' (w := w) (o := o) (by omega) (by omega) hn
  have d1 := m_mt1 k.1.1 k.1.2 k.2.1.1 k.2.1.2 k.2.2.1 (w := w) (o := o) (by omega) (by omega)
  have d2 := m_mt2 k.1.1 k.1.2 k.2.1.1 k.2.1.2 k.2.2.1 (w := w) (o := o) (by omega) (by omega)
  have c1 := m_mt1 k.2.1.1 k.2.1.2 k.1.1 k.1.2 k.2.2.2 (w := w) (o := o) (by omega) (by omega)
  have c2 := m_mt2 k.2.1.1 k.2.1.2 k.1.1 k.1.2 k.2.2.2 (w := w) (o := o) (by omega) (by omega)
  rcases s1 with ⟨p1, p2⟩ | ⟨p1, p2, p3⟩ | ⟨p1, p2, p3⟩ <;> rcases s2 with ⟨q1, q2⟩ | ⟨q1, q2, q3⟩ | ⟨q1, q2, q3⟩
  · rw [p2, q2]
  · exact absurd (c1 q1) p1
  · exact absurd (c1 q1) p1
  · exact absurd (d1 p1) q1
  · rw [p3, q3]
  · exact absurd (d2 p2) q2
  · exact absurd (d1 p1) q1
  · exact absurd (c2 q2) p2
  · rw [p3, q3]
theorem met_s (h : PM M M') (ok : okA M = true) {w o : Nat} (hw : (w : Int) < M 0 13) (ho : (o : Int) < M 0 13) (hn : w ≠ o) : (s_met o w M).1 = (s_met w o M).1 := by
  have s1 := met_e h ok hw ho hn
  have s2 := met_e h ok ho hw (fun z => hn z.symm)
  rcases s1 with ⟨p1, p2⟩ | ⟨p1, p2, p3⟩ | ⟨p1, p2, p3⟩ <;> rcases s2 with ⟨q1, q2⟩ | ⟨q1, q2, q3⟩ | ⟨q1, q2, q3⟩
  · rw [p2, q2]
  · exact absurd (mt1_s q1) p1
  · exact absurd (mt1_s q1) p1
  · exact absurd (mt1_s p1) q1
  · rw [p3, q3]
  · exact absurd (mt2_s p2) q2
  · exact absurd (mt1_s p1) q1
  · exact absurd (mt2_s q2) p2
  · rw [p3, q3]
theorem met_v (w o : Int) : HN M (s_met w o M).2 := by
  unfold s_met
  split
  · exact HN.rf M
  · split
    · exact HN.mt M _
    · exact HN.tl M _
theorem whose_e (ok : okA M = true) {e : Nat} (he : (e : Int) < M 0 25) : s_whose e M = if ¬ M 11 (4 * (e : Int) + 0) = 1 then (-3, a_mt M 3) else (pMay (kM M) (M 11 (4 * (e : Int) + 1)) (M 11 (4 * (e : Int) + 3)).toNat (nst (kM M)), a_tl M (pMus (kM M) (M 11 (4 * (e : Int) + 1)) (M 11 (4 * (e : Int) + 3)).toNat (nst (kM M)))) := by
  have e0 : s_whose e M = if ¬ M 11 (4 * (e : Int) + 0) = 1 then (-3, a_mt M 3) else if okA M = false then (-3, a_mt M 4) else (pMay (kM M) (M 11 (4 * (e : Int) + 1)) (M 11 (4 * (e : Int) + 3)).toNat (nst (kM M)), a_tl M (pMus (kM M) (M 11 (4 * (e : Int) + 1)) (M 11 (4 * (e : Int) + 3)).toNat (nst (kM M)))) := if_neg (by omega)
  rw [e0, if_neg (c := okA M = false) (by rw [ok]; simp)]
theorem whose_m (h : PM M M') (ok : okA M = true) {e : Nat} (he : (e : Int) < M 0 25) : (s_whose e M').1 = (s_whose e M).1 ∧ (0 ≤ (s_whose e M).1 → (s_whose e M').2 0 2 = (s_whose e M).2 0 2) := by
  have k := h.k
  have kt := kM_T h
  have a := h.2.2.1
  have ok' : okA M' = true := by rw [h.ok]; exact ok
  obtain ⟨b1, b2, b3, b4, b5, b6⟩ := h.2.2.2.2.2 e he
  obtain ⟨v1, v2, v3, v4, v5, v6⟩ := h.1.2.1.2 e he
  obtain ⟨l1, l2, l3, l4, l5⟩ := h.1.2.2 e (by omega) he
  rw [whose_e ok he, whose_e ok' (e := e) (by omega), b1]
  by_cases q : M 11 (4 * (e : Int) + 0) = 1
  · rw [if_neg (fun z => z q), if_neg (fun z => z q), b2 (Or.inl q), b4 q]
    have l := l1 (Or.inl q)
    have c1 := m_pMay k.1.1 k.1.2 k.2.1.1 k.2.1.2 k.2.2.1 k.2.2.2 (t := (M 11 (4 * (e : Int) + 3)).toNat) (u := (M 0 14 - 1 - M 11 (4 * (e : Int) + 3)).toNat) (by omega) (M 11 (4 * (e : Int) + 1))
    have c2 := m_pMus k.1.1 k.1.2 k.2.1.1 k.2.1.2 k.2.2.1 k.2.2.2 (t := (M 11 (4 * (e : Int) + 3)).toNat) (u := (M 0 14 - 1 - M 11 (4 * (e : Int) + 3)).toNat) (by omega) (M 11 (4 * (e : Int) + 1))
    refine ⟨c1, fun _ => ?_⟩
    exact ((tl_02 M' _).trans c2).trans (tl_02 M _).symm
  · rw [if_pos q, if_pos q]
    exact ⟨rfl, fun z => absurd z (show ¬ (0 : Int) ≤ -3 by decide)⟩
theorem whose_v (e : Int) : HN M (s_whose e M).2 := by
  unfold s_whose
  split
  · exact HN.rf M
  · split
    · exact HN.mt M _
    · split
      · exact HN.mt M _
      · exact HN.tl M _
theorem same_e (ok : okA M = true) {e : Nat} (he : (e : Int) < M 0 25) : s_same e M = if ¬ (M 11 (4 * (e : Int) + 0) = 2 ∨ M 11 (4 * (e : Int) + 0) = 3) then (-3, a_mt M 3) else (smMay (kM M) (M 11 (4 * (e : Int) + 1)) (M 11 (4 * (e : Int) + 3)).toNat (nst (kM M)), a_tl M (smMus (kM M) (M 11 (4 * (e : Int) + 1)) (M 11 (4 * (e : Int) + 3)).toNat (nst (kM M)))) := by
  have e0 : s_same e M = if ¬ (M 11 (4 * (e : Int) + 0) = 2 ∨ M 11 (4 * (e : Int) + 0) = 3) then (-3, a_mt M 3) else if okA M = false then (-3, a_mt M 4) else (smMay (kM M) (M 11 (4 * (e : Int) + 1)) (M 11 (4 * (e : Int) + 3)).toNat (nst (kM M)), a_tl M (smMus (kM M) (M 11 (4 * (e : Int) + 1)) (M 11 (4 * (e : Int) + 3)).toNat (nst (kM M)))) := if_neg (by omega)
  rw [e0, if_neg (c := okA M = false) (by rw [ok]; simp)]
theorem same_m (h : PM M M') (ok : okA M = true) {e : Nat} (he : (e : Int) < M 0 25) : (s_same e M').1 = (s_same e M).1 ∧ (0 ≤ (s_same e M).1 → (s_same e M').2 0 2 = (s_same e M).2 0 2) := by
  have k := h.k
  have kt := kM_T h
  have a := h.2.2.1
  have ok' : okA M' = true := by rw [h.ok]; exact ok
  obtain ⟨b1, b2, b3, b4, b5, b6⟩ := h.2.2.2.2.2 e he
  obtain ⟨v1, v2, v3, v4, v5, v6⟩ := h.1.2.1.2 e he
  obtain ⟨l1, l2, l3, l4, l5⟩ := h.1.2.2 e (by omega) he
  rw [same_e ok he, same_e ok' (e := e) (by omega), b1]
  by_cases q : M 11 (4 * (e : Int) + 0) = 2 ∨ M 11 (4 * (e : Int) + 0) = 3
  · have q' : M 11 (4 * (e : Int) + 0) = 2 ∨ M 11 (4 * (e : Int) + 0) = 3 ∨ M 11 (4 * (e : Int) + 0) = 4 := by omega
    rw [if_neg (fun z => z q), if_neg (fun z => z q), (b3 q').1, (b3 q').2]
    have l := l4 q'
    obtain ⟨r, hr⟩ : ∃ r : Nat, M 11 (4 * (e : Int) + 1) = (r : Int) := ⟨(M 11 (4 * (e : Int) + 1)).toNat, by omega⟩
    obtain ⟨q1, hq1⟩ : ∃ q1 : Nat, M 0 11 - 1 - M 11 (4 * (e : Int) + 1) = (q1 : Int) := ⟨(M 0 11 - 1 - M 11 (4 * (e : Int) + 1)).toNat, by omega⟩
    have c := m_sm k.1.1 k.1.2 k.2.1.1 k.2.1.2 k.2.2.1 k.2.2.2 (r := r) (q := q1) (t := (M 11 (4 * (e : Int) + 3)).toNat) (u := (M 0 14 - M 11 (4 * (e : Int) + 3)).toNat) (by omega) (by omega)
    rw [hq1, hr]
    refine ⟨c.1, fun _ => ?_⟩
    exact ((tl_02 M' _).trans c.2).trans (tl_02 M _).symm
  · rw [if_pos q, if_pos q]
    exact ⟨rfl, fun z => absurd z (show ¬ (0 : Int) ≤ -3 by decide)⟩
theorem same_v (e : Int) : HN M (s_same e M).2 := by
  unfold s_same
  split
  · exact HN.rf M
  · split
    · exact HN.mt M _
    · split
      · exact HN.mt M _
      · exact HN.tl M _
theorem third_m (h : PM M M') (ok : okA M = true) : (s_third M').1 = (s_third M).1 := by
  have k := h.k
  have kt := kM_T h
  have a := h.2.2.1
  have hD := h.1.1.2.1
  have ok' : okA M' = true := by rw [h.ok]; exact ok
  have e := m_th k.1.1 k.1.2 k.2.1.1 k.2.1.2 k.2.2.1 k.2.2.2 (M 0 12).toNat (by omega)
  have e1 : (s_third M).1 = (thF (kM M) (M 0 12).toNat).1 := by
    unfold s_third
    rw [if_neg (by rw [ok]; simp)]
    show (if (thF (kM M) (M 0 12).toNat).1 = -9 then (-9, M) else ((thF (kM M) (M 0 12).toNat).1, a_tl M (thF (kM M) (M 0 12).toNat).2)).1 = _
    split
    · rename_i z; rw [z]
    · rfl
  have e2 : (s_third M').1 = (thF (kM M') (M' 0 12).toNat).1 := by
    unfold s_third
    rw [if_neg (by rw [ok']; simp)]
    show (if (thF (kM M') (M' 0 12).toNat).1 = -9 then (-9, M') else ((thF (kM M') (M' 0 12).toNat).1, a_tl M' (thF (kM M') (M' 0 12).toNat).2)).1 = _
    split
    · rename_i z; rw [z]
    · rfl
  rw [e1, e2, a.2.1, e]
theorem third_v : HN M (s_third M).2 := by
  unfold s_third
  split
  · exact HN.mt M _
  · split
    · exact HN.rf M
    · exact HN.tl M _
theorem empty_nn (h : PM M M') (ok : okA M = true) : 0 ≤ (s_empty 0 M).1 := by
  have hT := h.1.1.2.2.2.1
  have hR := h.1.1.1
  have e1 : (s_empty 0 M).1 = emN (kM M) 0 (M 0 11).toNat := by
    unfold s_empty
    rw [if_neg (by omega), if_neg (by rw [ok]; simp)]
    rfl
  rw [e1]
  unfold emN
  rw [tb_nn (orf_r _ _)]
  have : ¬ tb (orf (fun r => if moF (kM M) (r : Int) 0 (nst (kM M)) = 0 then z_shl 1 (r : Int) else 0) (M 0 11).toNat) 31 = true := by
    rw [tb_orf]
    rintro ⟨r, h1, h2⟩
    split at h2
    · rw [tb_sh1 (by omega) (by omega), decide_eq_true_eq] at h2
      omega
    · rw [tb_0] at h2; cases h2
  simpa using this
theorem stuck_4 (ok : okA M = true) : s_stuck M = -4 := by
  unfold s_stuck
  rw [if_pos ok]
end

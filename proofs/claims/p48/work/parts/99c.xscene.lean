/-! THE SCENE ALONE COUNTS: who can be where, in two memories of one scene. -/
def Sc (κ κ' : MI) : Prop := (∀ c j, (c = 7 ∨ c = 8 ∨ (13 ≤ c ∧ c ≤ 17)) → κ' c j = κ c j) ∧ ∀ j, (j = 11 ∨ j = 12 ∨ j = 13 ∨ j = 14 ∨ j = 34 ∨ j = 35 ∨ j = 36 ∨ j = 37) → κ' 0 j = κ 0 j
section
variable {κ κ' : MI}
theorem sc7 (h : Sc κ κ') (j : Int) : κ' 7 j = κ 7 j := h.1 7 j (by omega)
theorem sc8 (h : Sc κ κ') (j : Int) : κ' 8 j = κ 8 j := h.1 8 j (by omega)
theorem sc13 (h : Sc κ κ') (j : Int) : κ' 13 j = κ 13 j := h.1 13 j (by omega)
theorem sc14 (h : Sc κ κ') (j : Int) : κ' 14 j = κ 14 j := h.1 14 j (by omega)
theorem sc15 (h : Sc κ κ') (j : Int) : κ' 15 j = κ 15 j := h.1 15 j (by omega)
theorem sc16 (h : Sc κ κ') (j : Int) : κ' 16 j = κ 16 j := h.1 16 j (by omega)
theorem sc17 (h : Sc κ κ') (j : Int) : κ' 17 j = κ 17 j := h.1 17 j (by omega)
theorem us_sc (h : Sc κ κ') : us κ' = us κ := by unfold us; rw [h.2 34 (by omega)]
theorem lst_sc (h : Sc κ κ') : lst κ' = lst κ := by unfold lst; rw [h.2 14 (by omega)]
theorem nst_sc (h : Sc κ κ') : nst κ' = nst κ := by unfold nst; rw [us_sc h]
theorem rsK_sc (h : Sc κ κ') : rsK κ' = rsK κ := by funext s; unfold rsK; rw [us_sc h]
theorem okb_sc (h : Sc κ κ') : okb κ' = okb κ := by
  funext t s
  unfold okb
  simp only [us_sc h, rsK_sc h, sc15 h, sc16 h, sc17 h, h.2 11 (by omega)]
theorem begb_sc (h : Sc κ κ') : begb κ' = begb κ := by
  funext s
  unfold begb
  simp only [us_sc h, okb_sc h, sc8 h]
theorem mcd_sc (h : Sc κ κ') : mcd κ' = mcd κ := by
  funext t s w d
  unfold mcd
  simp only [sc7 h, sc14 h]
theorem mto_sc (h : Sc κ κ') : mto κ' = mto κ := by
  funext s w d
  unfold mto
  simp only [sc7 h, sc8 h]
theorem mlp_sc (h : Sc κ κ') : mlp κ' = mlp κ := by
  funext t s w d
  induction d with
  | zero => rfl
  | succ d ih => unfold mlp; rw [ih, mcd_sc h, mto_sc h]
theorem mvl_sc (h : Sc κ κ') : mvl κ' = mvl κ := by
  funext t s w
  unfold mvl
  rw [mlp_sc h, h.2 12 (by omega)]
theorem mal_sc (h : Sc κ κ') : mal κ' = mal κ := by funext t s; unfold mal; rw [mvl_sc h, us_sc h]
theorem mvd_sc (h : Sc κ κ') : mvd κ' = mvd κ := by funext t s c w; unfold mvd mix; rw [mvl_sc h]
theorem mvt_sc (h : Sc κ κ') : mvt κ' = mvt κ := by funext t s c w; unfold mvt mix; rw [mvl_sc h]
theorem pas_sc (h : Sc κ κ') : pas κ' = pas κ := by funext t s c; unfold pas; rw [mvd_sc h, us_sc h]
theorem nxt_sc (h : Sc κ κ') : nxt κ' = nxt κ := by funext t s c; unfold nxt; rw [mvt_sc h, us_sc h]
theorem byK_sc (h : Sc κ κ') : byK κ' = byK κ := by funext t; unfold byK; rw [h.2 35 (by omega), h.2 36 (by omega), h.2 37 (by omega)]
theorem vld_sc (h : Sc κ κ') : vld κ' = vld κ := by funext t s c; unfold vld; rw [pas_sc h, byK_sc h, sc13 h, okb_sc h, nxt_sc h]
theorem stp_sc (h : Sc κ κ') (t : Int) (s : Nat) (v : Int) (A : Nat → Int) : ∀ c, stp κ' t s v A c = stp κ t s v A c
  | 0 => rfl
  | c + 1 => by unfold stp; rw [stp_sc h t s v A c, vld_sc h, nxt_sc h]
theorem rwl_sc (h : Sc κ κ') (t : Int) (F : Nat → Int) : ∀ s, rwl κ' t F s = rwl κ t F s
  | 0 => rfl
  | s + 1 => by unfold rwl; rw [rwl_sc h t F s, stp_sc h, mal_sc h]
theorem Fr_sc (h : Sc κ κ') : ∀ t, Fr κ' t = Fr κ t
  | 0 => by unfold Fr; rw [begb_sc h]
  | t + 1 => by unfold Fr; rw [Fr_sc h t, nst_sc h, rwl_sc h]
theorem Fr_sc' (h : Sc κ κ') : Fr κ' = Fr κ := by funext t; exact Fr_sc h t
theorem rst_sc (h : Sc κ κ') (t : Int) (s : Nat) (B : Nat → Int) : ∀ c, rst κ' t s B c = rst κ t s B c
  | 0 => rfl
  | c + 1 => by unfold rst; rw [rst_sc h t s B c, vld_sc h, nxt_sc h]
theorem Rb_sc (h : Sc κ κ') : ∀ u, Rb κ' u = Rb κ u
  | 0 => by unfold Rb; rw [Fr_sc h, lst_sc h]
  | u + 1 => by unfold Rb; rw [Rb_sc h u, lst_sc h, Fr_sc h, mal_sc h]; funext s; rw [rst_sc h]
theorem Re_sc (h : Sc κ κ') : Re κ' = Re κ := by funext t s; unfold Re; rw [Rb_sc h, lst_sc h]
theorem alv_sc (h : Sc κ κ') : alv κ' = alv κ := by funext t s; unfold alv; rw [Fr_sc h, Re_sc h]
theorem som_sc (F : Nat → Int) : ∀ n, som κ' F n = som κ F n
  | 0 => rfl
  | n + 1 => by unfold som; rw [som_sc F n]
theorem fsF_sc (h : Sc κ κ') : ∀ n t, fsF κ' t n = fsF κ t n
  | 0, t => rfl
  | n + 1, t => by unfold fsF; rw [fsF_sc h n, som_sc (κ := κ), Fr_sc h, nst_sc h]
theorem fst0_sc (h : Sc κ κ') : fst0 κ' = fst0 κ := by unfold fst0; rw [fsF_sc h, lst_sc h]
theorem dv_sc (h : Sc κ κ') : dv κ' = dv κ := by funext t s c w; unfold dv; rw [us_sc h, mvd_sc h]
theorem SR_sc (h : Sc κ κ') : SR κ' = SR κ := by funext t s c; unfold SR; rw [nst_sc h, alv_sc h, mal_sc h, vld_sc h, nxt_sc h]
theorem NTS_sc (h : Sc κ κ') : NTS κ' = NTS κ := by funext I t; unfold NTS dvs; rw [SR_sc h, dv_sc h]
theorem SETS_sc (h : Sc κ κ') : SETS κ' = SETS κ := by funext I L p x n; unfold SETS; rw [lst_sc h, alv_sc h]
theorem iHs_sc (h : Sc κ κ') (k : iHs κ) : iHs κ' := by
  unfold iHs
  rw [h.2 11 (by omega), h.2 12 (by omega), h.2 13 (by omega), h.2 14 (by omega)]
  simp only [sc7 h, sc8 h]
  exact k
theorem iSc_sc (h : Sc κ κ') (k : iSc κ) : iSc κ' := by
  unfold iSc
  rw [h.2 34 (by omega), h.2 35 (by omega), h.2 36 (by omega), h.2 37 (by omega), h.2 13 (by omega)]
  simp only [sc13 h, sc14 h, sc15 h, sc16 h, sc17 h]
  exact k
theorem PK_sc (h : Sc κ κ') {I : MI} {p x n : Nat} (k : PK I p x n κ) : PK I p x n κ' := by
  obtain ⟨k1, k2, k3, k4, k5, k6, k7, k8⟩ := k
  refine ⟨k1, iHs_sc h k2, iSc_sc h k3, ?_, ?_, ?_, ?_, ?_⟩
  · rw [h.2 34 (by omega)]; exact k4
  · rw [h.2 11 (by omega), h.2 12 (by omega), h.2 14 (by omega)]; exact k5
  · simp only [sc7 h]; exact k6
  · simp only [sc8 h]; exact k7
  · simp only [sc13 h, sc14 h, sc15 h, sc16 h, sc17 h, sc8 h]; exact k8
theorem PKR_sc (h : Sc κ κ') {I : MI} {p x n : Nat} (k : PKR I p x n κ) : PKR I p x n κ' := by
  refine ⟨PK_sc h k.1, fun t ht => ?_⟩
  unfold hRd
  rw [byK_sc h, sc13 h]
  exact k.2 t ht
end
/-- two memories of one house and one night -/
def HN (M M' : MI) : Prop := (∀ c j, (c = 7 ∨ c = 8 ∨ c = 11) → M' c j = M c j) ∧ ∀ j, (j = 11 ∨ j = 12 ∨ j = 13 ∨ j = 14 ∨ j = 25) → M' 0 j = M 0 j
theorem HN.rf (M : MI) : HN M M := ⟨fun _ _ _ => rfl, fun _ _ => rfl⟩
theorem HN.tr {M M' K : MI} (h : HN M M') (k : HN M' K) : HN M K := ⟨fun c j q => (k.1 c j q).trans (h.1 c j q), fun j q => (k.2 j q).trans (h.2 j q)⟩
theorem scn_hn {M M' : MI} (h : HN M M') (wo k : Int) : ∀ e, (∀ c j, (c = 7 ∨ c = 8 ∨ c = 11 ∨ (13 ≤ c ∧ c ≤ 17)) → scn (pm M') wo k e c j = scn (pm M) wo k e c j) ∧ ∀ j, (j = 11 ∨ j = 12 ∨ j = 13 ∨ j = 14 ∨ j = 34 ∨ j = 35 ∨ j = 36 ∨ j = 37) → scn (pm M') wo k e 0 j = scn (pm M) wo k e 0 j := by
  have p7 : ∀ c j, (c = 7 ∨ c = 8 ∨ c = 11) → pm M' c j = pm M c j := fun c j q => by
    rw [pm_at (by unfold per; omega), pm_at (by unfold per; omega)]
    exact h.1 c j q
  have p0 : ∀ j, (j = 11 ∨ j = 12 ∨ j = 13 ∨ j = 14) → pm M' 0 j = pm M 0 j := fun j q => by
    rw [pm_at (by unfold per; omega), pm_at (by unfold per; omega)]
    exact h.2 j (by omega)
  have hb : bdF (pm M') = bdF (pm M) := by
    funext d
    unfold bdF
    rw [p7 7 _ (by omega)]
  intro e
  have z0 : ∀ e j, (j = 11 ∨ j = 12 ∨ j = 13 ∨ j = 14 ∨ j = 34 ∨ j = 35 ∨ j = 36 ∨ j = 37) → scn (pm M') wo k e 0 j = scn (pm M) wo k e 0 j := fun e j q => by
    rw [scn_0, scn_0]
    unfold sc0
    rw [if_pos rfl, if_pos rfl]
    by_cases e4 : j = 34
    · rw [if_pos e4, if_pos e4]
    · rw [if_neg e4, if_neg e4]
      by_cases e5 : j = 35
      · rw [if_pos e5, if_pos e5, hb, p0 12 (by omega)]
      · rw [if_neg e5, if_neg e5]
        by_cases e6 : j = 36
        · rw [if_pos e6, if_pos e6]
        · rw [if_neg e6, if_neg e6]
          by_cases e7 : j = 37
          · rw [if_pos e7, if_pos e7]
          · rw [if_neg e7, if_neg e7]
            exact p0 j (by omega)
  refine ⟨?_, z0 e⟩
  induction e with
  | zero =>
    intro c j q
    show sc0 (pm M') k c j = sc0 (pm M) k c j
    have c0 : ¬ c = 0 := by omega
    unfold sc0
    rw [if_neg c0, if_neg c0]
    by_cases e1 : c = 13 ∨ c = 14 ∨ c = 15 ∨ c = 16
    · rw [if_pos e1, if_pos e1]
    · rw [if_neg e1, if_neg e1]
      by_cases e2 : c = 17
      · rw [if_pos e2, if_pos e2]
      · rw [if_neg e2, if_neg e2]
        exact p7 c j (by omega)
  | succ e ih =>
    intro c j q
    unfold scn
    split
    · exact ih c j q
    · unfold noteM
      have h11 : ∀ x, scn (pm M') wo k e 11 x = scn (pm M) wo k e 11 x := fun x => ih 11 x (by omega)
      rw [h11, h11, h11, h11]
      have := ih c j q
      by_cases c13 : c = 13
      · subst c13; rw [ntM_13, ntM_13, this]
      by_cases c14 : c = 14
      · subst c14; rw [ntM_14, ntM_14, this]
      by_cases c15 : c = 15
      · subst c15; rw [ntM_15, ntM_15, this]
      by_cases c16 : c = 16
      · subst c16; rw [ntM_16, ntM_16, this]
      by_cases c17 : c = 17
      · subst c17; rw [ntM_17, ntM_17, this]
      unfold ntM
      rw [if_neg c13, if_neg c14, if_neg c15, if_neg c16, if_neg c17, if_neg c13, if_neg c14, if_neg c15, if_neg c16, if_neg c17, this]
theorem kap_hn {M M' : MI} (h : HN M M') (wo k : Int) : Sc (kap M wo k) (kap M' wo k) := by
  unfold kap
  rw [h.2 25 (by omega)]
  have z := scn_hn h wo k (M 0 25).toNat
  exact ⟨fun c j q => z.1 c j (by omega), z.2⟩
theorem kM_hn {M M' : MI} (h : HN M M') : Sc (kM M) (kM M') := by
  unfold kM
  rw [h.2 13 (by omega)]
  exact kap_hn h 0 _
theorem HN.h {M M' : MI} (h : HN M M') (k : iHs M) : iHs M' := by
  unfold iHs
  rw [h.2 11 (by omega), h.2 12 (by omega), h.2 13 (by omega), h.2 14 (by omega)]
  have a7 : ∀ j, M' 7 j = M 7 j := fun j => h.1 7 j (by omega)
  have a8 : ∀ j, M' 8 j = M 8 j := fun j => h.1 8 j (by omega)
  simp only [a7, a8]
  exact k
theorem HN.e {M M' : MI} (h : HN M M') (k : iEvs M) : iEvs M' := by
  unfold iEvs
  rw [h.2 25 (by omega)]
  exact ⟨k.1, fun e he => iEv_eq (fun j => h.1 11 j (by omega)) (k.2 e he)⟩
theorem HN.l {M M' : MI} (h : HN M M') (k : iEvL M) : iEvL M' := by
  unfold iEvL
  rw [h.2 11 (by omega), h.2 12 (by omega), h.2 13 (by omega), h.2 14 (by omega), h.2 25 (by omega)]
  have a7 : ∀ j, M' 7 j = M 7 j := fun j => h.1 7 j (by omega)
  have a11 : ∀ j, M' 11 j = M 11 j := fun j => h.1 11 j (by omega)
  simp only [a7, a11]
  exact k
theorem HN.hr {M M' I : MI} {x : Nat} (h : HN M M') (k : HRL I M x) : HRL I M' x := by
  have hb : bdF M' = bdF M := by
    funext d
    unfold bdF
    rw [h.1 7 _ (by omega)]
  unfold HRL
  rw [h.2 11 (by omega), h.2 12 (by omega), h.2 13 (by omega), h.2 14 (by omega), hb]
  have a7 : ∀ j, M' 7 j = M 7 j := fun j => h.1 7 j (by omega)
  have a8 : ∀ j, M' 8 j = M 8 j := fun j => h.1 8 j (by omega)
  simp only [a7, a8]
  exact k
theorem HN.nr {M M' I : MI} {x : Nat} (h : HN M M') (k : NRL I M x) : NRL I M' x := by
  unfold NRL
  rw [h.2 25 (by omega)]
  have a11 : ∀ j, M' 11 j = M 11 j := fun j => h.1 11 j (by omega)
  simp only [a11]
  exact k
theorem CC.hn {I L M M' : MI} {R : MR} {x : Nat} (h : HN M M') (k : CC I L R M x) : CC I L R M' x := by
  have e := kM_hn h
  unfold CC
  rw [fst0_sc e, lst_sc e, Fr_sc' e, SETS_sc e, NTS_sc e]
  refine ⟨k.1, fun q => ?_⟩
  obtain ⟨k1, k2, n, k3, k4⟩ := k.2 q
  exact ⟨k1, k2, n, PKR_sc e k3, k4⟩


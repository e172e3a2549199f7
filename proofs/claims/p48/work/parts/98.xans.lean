/-! CLASS AND REFERENCE: who passes, who is there. -/
theorem foC_ex {α : Type} {T : α → Prop} {q : Nat → Bool} {f : Nat → α → α} {Q : Nat → Prop} (h : ∀ c x, T (f c x) ↔ T x ∨ Q c) (x : α) : ∀ m, T (foC q f m x) ↔ T x ∨ ∃ c, c < m ∧ q c = true ∧ Q c
  | 0 => ⟨Or.inl, fun z => z.elim id (fun ⟨c, hc, _⟩ => by omega)⟩
  | m + 1 => by
    have ih := foC_ex (q := q) h x m
    by_cases e : q m = true
    · rw [foC_t e, h, ih]
      constructor
      · rintro ((z | ⟨c, c1, c2⟩) | z)
        · exact Or.inl z
        · exact Or.inr ⟨c, by omega, c2⟩
        · exact Or.inr ⟨m, by omega, e, z⟩
      · rintro (z | ⟨c, c1, c2, c3⟩)
        · exact Or.inl (Or.inl z)
        · by_cases y : c = m
          · subst y; exact Or.inr c3
          · exact Or.inl (Or.inr ⟨c, by omega, c2, c3⟩)
    · rw [foC_f e, ih]
      refine or_congr Iff.rfl ⟨fun ⟨c, c1, c2⟩ => ⟨c, by omega, c2⟩, fun ⟨c, c1, c2, c3⟩ => ⟨c, ?_, c2, c3⟩⟩
      by_cases y : c = m
      · subst y; exact absurd c2 e
      · omega
theorem foC_al {α : Type} {T : α → Prop} {q : Nat → Bool} {f : Nat → α → α} {Q : Nat → Prop} (h : ∀ c x, T (f c x) ↔ T x ∧ Q c) (x : α) : ∀ m, T (foC q f m x) ↔ T x ∧ ∀ c, c < m → q c = true → Q c
  | 0 => ⟨fun z => ⟨z, fun c hc => by omega⟩, fun z => z.1⟩
  | m + 1 => by
    have ih := foC_al (q := q) h x m
    by_cases e : q m = true
    · rw [foC_t e, h, ih]
      constructor
      · rintro ⟨⟨z1, z2⟩, z3⟩
        refine ⟨z1, fun c c1 c2 => ?_⟩
        by_cases y : c = m
        · subst y; exact z3
        · exact z2 c (by omega) c2
      · rintro ⟨z1, z2⟩
        exact ⟨⟨z1, fun c c1 => z2 c (by omega)⟩, z2 m (by omega) e⟩
    · rw [foC_f e, ih]
      refine and_congr Iff.rfl ⟨fun z c c1 c2 => ?_, fun z c c1 => z c (by omega)⟩
      by_cases y : c = m
      · subst y; exact absurd c2 e
      · exact z c (by omega) c2
theorem foC_inv {α : Type} {T : α → Prop} {q : Nat → Bool} {f : Nat → α → α} (h : ∀ c x, T x → T (f c x)) {x : α} (hx : T x) : ∀ m, T (foC q f m x)
  | 0 => hx
  | m + 1 => by
    by_cases e : q m = true
    · rw [foC_t e]; exact h _ _ (foC_inv h hx m)
    · rw [foC_f e]; exact foC_inv h hx m
theorem paF_inv {α : Type} {κ : MI} {t : Nat} {T : α → Prop} {f : Nat → Nat → α → α} (h : ∀ s c x, T x → T (f s c x)) {x : α} (hx : T x) : T (paF κ t f (nst κ) x) := by
  unfold paF
  exact foC_inv (T := T) (fun s y hy => foC_inv (T := T) (h s) hy _) hx _
theorem wkX_r (x a : Int) : ∀ m, rI (wkX x a m)
  | 0 => by unfold wkX; omega
  | m + 1 => by unfold wkX; exact z_or_r _ _
theorem paQ_vl {κ : MI} {t s c : Nat} : paQ κ t s c = true ↔ vld κ (t : Int) s c = true ∧ alv κ (t + 1) (nxt κ (t : Int) s c) = true := by
  unfold paQ
  rw [Bool.and_eq_true]
theorem paF_ex {α : Type} {κ : MI} {t : Nat} {T : α → Prop} {f : Nat → Nat → α → α} {Q : Nat → Nat → Prop} (h : ∀ s c x, T (f s c x) ↔ T x ∨ Q s c) (x : α) : T (paF κ t f (nst κ) x) ↔ T x ∨ ∃ s c, SR κ t s c ∧ Q s c := by
  unfold paF
  rw [foC_ex (Q := fun s => ∃ c, c < mal κ (t : Int) s ∧ paQ κ t s c = true ∧ Q s c) (fun s y => foC_ex (h s) y _) x (nst κ)]
  refine or_congr Iff.rfl ?_
  constructor
  · rintro ⟨s, s1, s2, c, c1, c2, c3⟩
    rw [paQ_vl] at c2
    exact ⟨s, c, ⟨s1, s2, c1, c2.1, c2.2⟩, c3⟩
  · rintro ⟨s, c, ⟨s1, s2, c1, c2, c3⟩, c4⟩
    exact ⟨s, s1, s2, c, c1, paQ_vl.mpr ⟨c2, c3⟩, c4⟩
theorem paF_al {α : Type} {κ : MI} {t : Nat} {T : α → Prop} {f : Nat → Nat → α → α} {Q : Nat → Nat → Prop} (h : ∀ s c x, T (f s c x) ↔ T x ∧ Q s c) (x : α) : T (paF κ t f (nst κ) x) ↔ T x ∧ ∀ s c, SR κ t s c → Q s c := by
  unfold paF
  rw [foC_al (Q := fun s => ∀ c, c < mal κ (t : Int) s → paQ κ t s c = true → Q s c) (fun s y => foC_al (h s) y _) x (nst κ)]
  refine and_congr Iff.rfl ?_
  constructor
  · rintro z s c ⟨s1, s2, c1, c2, c3⟩
    exact z s s1 s2 c c1 (paQ_vl.mpr ⟨c2, c3⟩)
  · intro z s s1 s2 c c1 c2
    rw [paQ_vl] at c2
    exact z s c ⟨s1, s2, c1, c2.1, c2.2⟩
/-- there is a step in each minute but the last -/
theorem SR_some {κ : MI} {t : Nat} (ht : t < lst κ) (fit : fst0 κ = -9) : ∃ s c, SR κ t s c := by
  obtain ⟨s, hs, ha⟩ := alv_some fit (lst κ - t) t (by omega)
  obtain ⟨-, c, c1, c2, c3⟩ := (alv_s ht hs).mp ha
  exact ⟨s, c, hs, ha, c1, c2, c3⟩
theorem tb_dv {κ : MI} {t s c w d : Nat} (hd : d < 32) (hm : mvd κ (t : Int) s c w < 32) : tb (dv κ (t : Int) s c w) d = true ↔ w < us κ ∧ mvd κ (t : Int) s c w = (d : Int) := by
  unfold dv
  by_cases q : w < us κ ∧ 0 ≤ mvd κ (t : Int) s c w
  · rw [if_pos q, tb_sh1 ⟨q.2, hm⟩ hd, decide_eq_true_eq]
    exact ⟨fun z => ⟨q.1, by omega⟩, fun z => by omega⟩
  · rw [if_neg q, tb_0]
    exact ⟨fun z => Bool.noConfusion z, fun z => absurd ⟨z.1, by omega⟩ q⟩
theorem tb_pst {κ : MI} {d t s c w : Nat} (hu : us κ ≤ 3) (hw : w < 32) : tb (pst κ (d : Int) t s c) w = true ↔ w < us κ ∧ mvd κ (t : Int) s c w = (d : Int) := by
  unfold pst
  rw [tb_orf]
  constructor
  · rintro ⟨v, hv, q⟩
    by_cases e : mvd κ (t : Int) s c v = (d : Int)
    · rw [if_pos e, tb_sh1 (by omega) hw, decide_eq_true_eq] at q
      have : v = w := by omega
      subst this
      exact ⟨hv, e⟩
    · rw [if_neg e, tb_0] at q
      exact Bool.noConfusion q
  · rintro ⟨hv, e⟩
    refine ⟨w, hv, ?_⟩
    rw [if_pos e, tb_sh1 (by omega) hw, decide_eq_true_eq]
    omega
theorem nz_iff {x : Int} (hx : rI x) : x ≠ 0 ↔ ∃ b, b < 32 ∧ tb x b = true := by
  constructor
  · intro q
    apply Classical.byContradiction
    intro z
    refine q (tb_ext hx (by omega) (fun b hb => ?_))
    rw [tb_0]
    cases h : tb x b
    · rfl
    · exact absurd ⟨b, hb, h⟩ z
  · rintro ⟨b, hb, h⟩ rfl
    rw [tb_0] at h
    exact Bool.noConfusion h
section
variable {I L κ : MI} {p h n t : Nat}
theorem SR_mv (hH : iHs κ) (hS : iSc κ) {s c : Nat} (q : SR κ t s c) (w : Nat) : mvd κ (t : Int) s c w < 32 := by
  have hnn := (nst_le hH hS).2
  have := mv_r hH (s := s) (by have := q.1; omega) (t := (t : Int)) c w
  have := hH.2.1
  omega
theorem wt_bit {c : Nat} {d : Nat} (hd : d < 32) {k : Nat} (hk : k < 32) : tb (orf (fun w => z_shl (z_and (z_shr (I c (31 * (w : Int) + (t : Int))) (d : Int)) 1) (w : Int)) 3) k = true ↔ k < 3 ∧ tb (I c (31 * (k : Int) + (t : Int))) d = true := by
  rw [tb_orf]
  have one : ∀ w : Nat, w < 3 → (tb (z_shl (z_and (z_shr (I c (31 * (w : Int) + (t : Int))) (d : Int)) 1) (w : Int)) k = true ↔ k = w ∧ tb (I c (31 * (w : Int) + (t : Int))) d = true) := fun w hw => by
    rw [tb_shl (by omega) hk, Bool.and_eq_true, decide_eq_true_eq, tb_and, tb_1, Bool.and_eq_true, decide_eq_true_eq, Int.toNat_natCast]
    constructor
    · rintro ⟨h1, h2, h3⟩
      rw [h3, tb_shr (by omega) (by omega), Int.toNat_natCast, Nat.zero_add] at h2
      exact ⟨by omega, h2⟩
    · rintro ⟨h1, h2⟩
      refine ⟨by omega, ?_, by omega⟩
      rw [show k - w = 0 by omega, tb_shr (by omega) (by omega), Int.toNat_natCast, Nat.zero_add]
      exact h2
  constructor
  · rintro ⟨w, hw, q⟩
    obtain ⟨rfl, q⟩ := (one w hw).mp q
    exact ⟨hw, q⟩
  · rintro ⟨hk3, q⟩
    exact ⟨k, hk3, (one k hk3).mpr ⟨rfl, q⟩⟩
theorem pm_eq (hH : iHs κ) (hS : iSc κ) (ht : t < lst κ) (fit : fst0 κ = -9) (nt : NTS κ I t) {d : Nat} (hd : d < 32) : orf (fun w => z_shl (z_and (z_shr (I 25 (31 * (w : Int) + (t : Int))) (d : Int)) 1) (w : Int)) 3 = pMay κ (d : Int) t (nst κ) ∧ orf (fun w => z_shl (z_and (z_shr (I 26 (31 * (w : Int) + (t : Int))) (d : Int)) 1) (w : Int)) 3 = pMus κ (d : Int) t (nst κ) := by
  have hu := (us_le hH hS).1
  have hu2 := (us_le hH hS).2
  have hlo : rI (z_shl 1 (κ 0 34) - 1) := by
    have : κ 0 34 = 0 ∨ κ 0 34 = 1 ∨ κ 0 34 = 2 ∨ κ 0 34 = 3 := by omega
    rcases this with q | q | q | q <;> rw [q] <;> decide
  obtain ⟨s0, c0, q0⟩ := SR_some ht fit
  have may : ∀ b, b < 32 → (tb (pMay κ (d : Int) t (nst κ)) b = true ↔ ∃ s c, SR κ t s c ∧ (b < us κ ∧ mvd κ (t : Int) s c b = (d : Int))) := fun b hb => by
    unfold pMay
    rw [paF_ex (T := fun x => tb x b = true) (Q := fun s c => b < us κ ∧ mvd κ (t : Int) s c b = (d : Int)) (fun s c x => by rw [tb_or, Bool.or_eq_true, tb_pst hu hb]) 0, tb_0]
    exact ⟨fun z => z.elim (fun z => Bool.noConfusion z) id, Or.inr⟩
  have mus : ∀ b, b < 32 → (tb (pMus κ (d : Int) t (nst κ)) b = true ↔ ∀ s c, SR κ t s c → (b < us κ ∧ mvd κ (t : Int) s c b = (d : Int))) := fun b hb => by
    unfold pMus
    rw [paF_al (T := fun x => tb x b = true) (Q := fun s c => b < us κ ∧ mvd κ (t : Int) s c b = (d : Int)) (fun s c x => by rw [tb_and, Bool.and_eq_true, tb_pst hu hb]) (z_shl 1 (κ 0 34) - 1), tb_low (by omega) hb, decide_eq_true_eq]
    exact ⟨fun z => z.2, fun z => ⟨by have := (z s0 c0 q0).1; omega, z⟩⟩
  constructor
  · refine tb_ext (orf_r _ _) ?_ (fun b hb => ?_)
    · exact paF_inv (T := fun x => rI x) (fun s c x _ => z_or_r _ _) (show rI 0 by omega)
    · rw [Bool.eq_iff_iff, wt_bit hd hb, may b hb]
      constructor
      · rintro ⟨h3, q⟩
        obtain ⟨s, c, h1, h2⟩ := ((nt.1 b h3 d hd).1).mp q
        exact ⟨s, c, h1, (tb_dv hd (SR_mv hH hS h1 b)).mp h2⟩
      · rintro ⟨s, c, h1, h2⟩
        have h3 : b < 3 := by omega
        exact ⟨h3, ((nt.1 b h3 d hd).1).mpr ⟨s, c, h1, (tb_dv hd (SR_mv hH hS h1 b)).mpr h2⟩⟩
  · refine tb_ext (orf_r _ _) ?_ (fun b hb => ?_)
    · exact paF_inv (T := fun x => rI x) (fun s c x _ => z_and_r _ _) hlo
    · rw [Bool.eq_iff_iff, wt_bit hd hb, mus b hb]
      constructor
      · rintro ⟨h3, q⟩ s c h1
        exact (tb_dv hd (SR_mv hH hS h1 b)).mp (((nt.1 b h3 d hd).2).mp q s c h1)
      · intro q
        have h3 : b < 3 := by have := (q s0 c0 q0).1; omega
        exact ⟨h3, ((nt.1 b h3 d hd).2).mpr (fun s c h1 => (tb_dv hd (SR_mv hH hS h1 b)).mpr (q s c h1))⟩
theorem bit_01 {x : Int} {d : Nat} (hd : d < 32) : z_and (z_shr x (d : Int)) 1 = if tb x d = true then 1 else 0 := by
  refine tb_ext (z_and_r _ _) (by split <;> omega) (fun b hb => ?_)
  rw [tb_and, tb_1]
  by_cases e : b = 0
  · subst e
    rw [tb_shr (by omega) (by omega), Int.toNat_natCast, Nat.zero_add, decide_eq_true rfl, Bool.and_true]
    cases q : tb x d
    · rw [if_neg (fun z => Bool.noConfusion z), tb_0]
    · rw [if_pos rfl, tb_1]
      rfl
  · rw [decide_eq_false e, Bool.and_false]
    split
    · rw [tb_1, decide_eq_false e]
    · rw [tb_0]
theorem mnF_smi (f : Nat → Bool) : ∀ m, mnF f m = smi (fun t => if f t = true then 1 else 0) m
  | 0 => rfl
  | m + 1 => by
    show mnF f m + _ = smi _ m + _
    rw [mnF_smi f m]
theorem mn_eq (hH : iHs κ) (hS : iSc κ) (nt : ∀ t : Nat, t < lst κ → NTS κ I t) {d : Nat} (hd : d < 32) : mnX I 27 (d : Int) (lst κ) = pmn κ (d : Int) ∧ mnX I 28 (d : Int) (lst κ) = pmx κ (d : Int) := by
  have hu := (us_le hH hS).1
  have pn : ∀ t s c : Nat, SR κ t s c → (tb (dA (dvs κ t s c)) d = true ↔ pst κ (d : Int) t s c ≠ 0) := fun t s c q => by
    rw [nz_iff (x := pst κ (d : Int) t s c) (orf_r _ _)]
    have e : tb (dA (dvs κ t s c)) d = true ↔ ∃ w, w < 3 ∧ tb (dv κ (t : Int) s c w) d = true := by
      show tb (z_or (z_or (dv κ (t : Int) s c 0) (dv κ (t : Int) s c 1)) (dv κ (t : Int) s c 2)) d = true ↔ _
      rw [tb_or, tb_or, Bool.or_eq_true, Bool.or_eq_true]
      constructor
      · rintro ((z | z) | z)
        · exact ⟨0, by omega, z⟩
        · exact ⟨1, by omega, z⟩
        · exact ⟨2, by omega, z⟩
      · rintro ⟨w, hw, z⟩
        have : w = 0 ∨ w = 1 ∨ w = 2 := by omega
        rcases this with rfl | rfl | rfl
        · exact Or.inl (Or.inl z)
        · exact Or.inl (Or.inr z)
        · exact Or.inr z
    rw [e]
    constructor
    · rintro ⟨w, hw, z⟩
      exact ⟨w, by omega, (tb_pst hu (by omega)).mpr ((tb_dv hd (SR_mv hH hS q w)).mp z)⟩
    · rintro ⟨w, hw, z⟩
      have z2 := (tb_pst hu hw).mp z
      exact ⟨w, by omega, (tb_dv hd (SR_mv hH hS q w)).mpr z2⟩
  constructor
  · unfold pmn mnX
    rw [mnF_smi]
    refine smi_cg _ (fun t ht => ?_)
    rw [bit_01 hd]
    refine ifc ?_
    rw [((nt t ht).2 d hd).1]
    unfold pAny
    rw [paF_ex (T := fun b : Bool => b = true) (Q := fun s c => pst κ (d : Int) t s c ≠ 0) (fun s c x => by rw [Bool.or_eq_true, decide_eq_true_eq]) false]
    constructor
    · rintro ⟨s, c, h1, h2⟩
      exact Or.inr ⟨s, c, h1, (pn t s c h1).mp h2⟩
    · rintro (z | ⟨s, c, h1, h2⟩)
      · exact Bool.noConfusion z
      · exact ⟨s, c, h1, (pn t s c h1).mpr h2⟩
  · unfold pmx mnX
    rw [mnF_smi]
    refine smi_cg _ (fun t ht => ?_)
    rw [bit_01 hd]
    refine ifc ?_
    rw [((nt t ht).2 d hd).2]
    unfold pAll
    rw [paF_al (T := fun b : Bool => b = true) (Q := fun s c => pst κ (d : Int) t s c ≠ 0) (fun s c x => by rw [Bool.and_eq_true, decide_eq_true_eq]) true]
    constructor
    · intro q
      exact ⟨rfl, fun s c h1 => (pn t s c h1).mp (q s c h1)⟩
    · rintro ⟨-, q⟩ s c h1
      exact (pn t s c h1).mpr (q s c h1)
theorem tb_smS {a s b : Nat} (hu : us κ ≤ 3) (hb : b < 32) : tb (smS κ (a : Int) s) b = true ↔ b < us κ ∧ rm s b = a := by
  unfold smS
  rw [tb_orf]
  constructor
  · rintro ⟨v, hv, q⟩
    by_cases e : ((rm s v : Nat) : Int) = (a : Int)
    · rw [if_pos e, tb_sh1 (by omega) hb, decide_eq_true_eq] at q
      have : v = b := by omega
      subst this
      exact ⟨hv, by omega⟩
    · rw [if_neg e, tb_0] at q
      exact Bool.noConfusion q
  · rintro ⟨hv, e⟩
    refine ⟨b, hv, ?_⟩
    rw [if_pos (by omega), tb_sh1 (by omega) hb, decide_eq_true_eq]
    omega
theorem wk_bit {x a : Int} {b : Nat} (hb : b < 32) : ∀ m, m ≤ 3 → (tb (wkX x a m) b = true ↔ b < m ∧ tb x (6 * (b : Int) + a).toNat = true)
  | 0, _ => by
    show tb 0 b = true ↔ _
    rw [tb_0]
    exact ⟨fun z => Bool.noConfusion z, fun z => by omega⟩
  | m + 1, hm => by
    unfold wkX
    rw [tb_or, Bool.or_eq_true, wk_bit hb m (by omega), tb_shl (by omega) hb, Bool.and_eq_true, decide_eq_true_eq, Int.toNat_natCast]
    have hl : tb (b01 (tb x (6 * (m : Int) + a).toNat = true)) (b - m) = true ↔ b - m = 0 ∧ tb x (6 * (m : Int) + a).toNat = true := by
      by_cases q : tb x (6 * (m : Int) + a).toNat = true
      · rw [← b01_t q, tb_1, decide_eq_true_eq]
        exact ⟨fun z => ⟨z, q⟩, fun z => z.1⟩
      · rw [← b01_f q, tb_0]
        exact ⟨fun z => Bool.noConfusion z, fun z => absurd z.2 q⟩
    rw [hl]
    constructor
    · rintro (⟨z1, z2⟩ | ⟨z1, z2, z3⟩)
      · exact ⟨by omega, z2⟩
      · have : b = m := by omega
        subst this
        exact ⟨by omega, z3⟩
    · rintro ⟨z1, z2⟩
      by_cases e : b = m
      · subst e
        exact Or.inr ⟨by omega, by omega, z2⟩
      · exact Or.inl ⟨by omega, z2⟩
theorem sm_eq (k : PKR I p h n κ) (st : SETS κ I L p h n) (ht : t ≤ lst κ) (fit : fst0 κ = -9) {a : Nat} (ha : a < 6) : wkX (mbF I L p t n) (a : Int) 3 = smMay κ (a : Int) t (nst κ) ∧ wkX (muF I L p t n) (a : Int) 3 = smMus κ (a : Int) t (nst κ) := by
  have hu := (PK_us k.1).1
  have hu2 : ((us κ : Nat) : Int) = κ 0 34 := by have := (PK_us k.1).2; have := k.1.2.2.2.1; omega
  have hlo : rI (z_shl 1 (κ 0 34) - 1) := by
    have : κ 0 34 = 0 ∨ κ 0 34 = 1 ∨ κ 0 34 = 2 ∨ κ 0 34 = 3 := by omega
    rcases this with q | q | q | q <;> rw [q] <;> decide
  obtain ⟨s0, hs0, ha0⟩ := alv_some fit (lst κ - t) t (by have := PK_last k.1; omega)
  have may : ∀ b, b < 32 → (tb (smMay κ (a : Int) t (nst κ)) b = true ↔ ∃ s, s < nst κ ∧ alv κ t s = true ∧ (b < us κ ∧ rm s b = a)) := fun b hb => by
    unfold smMay
    rw [foC_ex (T := fun x => tb x b = true) (Q := fun s => b < us κ ∧ rm s b = a) (fun s x => by rw [tb_or, Bool.or_eq_true, tb_smS hu hb]) 0, tb_0]
    exact ⟨fun z => z.elim (fun z => Bool.noConfusion z) id, Or.inr⟩
  have mus : ∀ b, b < 32 → (tb (smMus κ (a : Int) t (nst κ)) b = true ↔ ∀ s, s < nst κ → alv κ t s = true → (b < us κ ∧ rm s b = a)) := fun b hb => by
    unfold smMus
    rw [foC_al (T := fun x => tb x b = true) (Q := fun s => b < us κ ∧ rm s b = a) (fun s x => by rw [tb_and, Bool.and_eq_true, tb_smS hu hb]) (z_shl 1 (κ 0 34) - 1), tb_low (by omega) hb, decide_eq_true_eq]
    exact ⟨fun z => z.2, fun z => ⟨by have := (z s0 hs0 ha0).1; omega, z⟩⟩
  have sp : ∀ s, s < nst κ → alv κ t s = true → ∀ b, b < 3 → (spB κ s (6 * b + a) ↔ b < us κ ∧ rm s b = a) := fun s hs hal b hb => by
    constructor
    · rintro ⟨w, hw, e⟩
      have hr := al_room k ht hs hal hw
      have : w = b := by omega
      subst this
      exact ⟨hw, by omega⟩
    · rintro ⟨hw, e⟩
      exact ⟨b, hw, Or.inl (by omega)⟩
  constructor
  · refine tb_ext (wkX_r _ _ _) (foC_inv (T := fun x => rI x) (fun s x _ => z_or_r _ _) (show rI 0 by omega) _) (fun b hb => ?_)
    rw [Bool.eq_iff_iff, wk_bit hb 3 (Nat.le_refl _), may b hb]
    constructor
    · rintro ⟨h3, q⟩
      rw [show (6 * (b : Int) + (a : Int)).toNat = 6 * b + a by omega, may_iff k st ht (by omega)] at q
      obtain ⟨s, hs, hal, q⟩ := q
      exact ⟨s, hs, hal, (sp s hs hal b h3).mp q⟩
    · rintro ⟨s, hs, hal, q⟩
      have h3 : b < 3 := by omega
      refine ⟨h3, ?_⟩
      rw [show (6 * (b : Int) + (a : Int)).toNat = 6 * b + a by omega, may_iff k st ht (by omega)]
      exact ⟨s, hs, hal, (sp s hs hal b h3).mpr q⟩
  · refine tb_ext (wkX_r _ _ _) (foC_inv (T := fun x => rI x) (fun s x _ => z_and_r _ _) hlo _) (fun b hb => ?_)
    rw [Bool.eq_iff_iff, wk_bit hb 3 (Nat.le_refl _), mus b hb]
    constructor
    · rintro ⟨h3, q⟩ s hs hal
      rw [show (6 * (b : Int) + (a : Int)).toNat = 6 * b + a by omega, mus_iff k st ht (by omega)] at q
      exact (sp s hs hal b h3).mp (q s hs hal)
    · intro q
      have h3 : b < 3 := by have := (q s0 hs0 ha0).1; omega
      refine ⟨h3, ?_⟩
      rw [show (6 * (b : Int) + (a : Int)).toNat = 6 * b + a by omega, mus_iff k st ht (by omega)]
      exact fun s hs hal => (sp s hs hal b h3).mpr (q s hs hal)
end

/-! CLASS AND REFERENCE: the least price. -/
/-- the steps out of a joint state, as members, whatever is heard -/
theorem stp_memG {I κ : MI} {p h n j t : Nat} (k : PK I p h n κ) (hj : j < n) (ht : (t : Int) < I h 3) (Q : Nat → Int × Int × Int → Prop) :
    (∃ (x : Nat) (D : Int × Int × Int), x < n ∧ ((x : Int), D) ∈ stX I p h (t : Int) j ∧ ftX I p (x : Int) ((t : Int) + 1) = true ∧ Q (sgX I p h x) D) ↔ ∃ c, c < mal κ (t : Int) (sgX I p h j) ∧ (z_and (pas κ (t : Int) (sgX I p h j) c) (I p 2) = z_and (I (p + 1) (t : Int)) (I p 2) ∧ okb κ ((t : Int) + 1) (nxt κ (t : Int) (sgX I p h j) c) = true) ∧ Q (nxt κ (t : Int) (sgX I p h j) c) (dvs κ t (sgX I p h j) c) := by
  have pm := stp_perm k hj ht
  constructor
  · rintro ⟨x, D, hx, hm, hf, hq⟩
    have h1 : (sgX I p h x, D) ∈ (stX I p h (t : Int) j).flatMap fun s => one (ftX I p s.1 ((t : Int) + 1)) (sgX I p h s.1.toNat, s.2) := by
      refine List.mem_flatMap.mpr ⟨_, hm, ?_⟩
      unfold one
      rw [if_pos hf]
      exact List.mem_singleton.mpr rfl
    obtain ⟨c, hc, h2⟩ := List.mem_flatMap.mp (pm.mem_iff.mp h1)
    unfold one at h2
    split at h2
    · rename_i hv
      rw [Bool.and_eq_true, decide_eq_true_eq] at hv
      have e := List.mem_singleton.mp h2
      rw [Prod.mk.injEq] at e
      rw [e.1, e.2] at hq
      exact ⟨c, List.mem_range.mp hc, hv, hq⟩
    · exact absurd h2 (List.not_mem_nil)
  · rintro ⟨c, hc, hv, hq⟩
    have h1 : (nxt κ (t : Int) (sgX I p h j) c, dv κ (t : Int) (sgX I p h j) c 0, dv κ (t : Int) (sgX I p h j) c 1, dv κ (t : Int) (sgX I p h j) c 2) ∈ (List.range (mal κ (t : Int) (sgX I p h j))).flatMap fun c => one (decide (z_and (pas κ (t : Int) (sgX I p h j) c) (I p 2) = z_and (I (p + 1) (t : Int)) (I p 2)) && okb κ ((t : Int) + 1) (nxt κ (t : Int) (sgX I p h j) c)) (nxt κ (t : Int) (sgX I p h j) c, dv κ (t : Int) (sgX I p h j) c 0, dv κ (t : Int) (sgX I p h j) c 1, dv κ (t : Int) (sgX I p h j) c 2) := by
      refine List.mem_flatMap.mpr ⟨c, List.mem_range.mpr hc, ?_⟩
      unfold one
      rw [if_pos (by rw [Bool.and_eq_true, decide_eq_true_eq]; exact hv)]
      exact List.mem_singleton.mpr rfl
    obtain ⟨s, hs, h2⟩ := List.mem_flatMap.mp (pm.mem_iff.mpr h1)
    unfold one at h2
    split at h2
    · rename_i hf
      have e := List.mem_singleton.mp h2
      obtain ⟨⟨x, hx, ex⟩, -⟩ := stX_mem k.1 hj hs
      rw [Prod.mk.injEq] at e
      rw [ex] at hf
      have hq2 : Q (nxt κ (t : Int) (sgX I p h j) c) (dv κ (t : Int) (sgX I p h j) c 0, dv κ (t : Int) (sgX I p h j) c 1, dv κ (t : Int) (sgX I p h j) c 2) := hq
      rw [e.1, e.2, ex, Int.toNat_natCast] at hq2
      exact ⟨x, s.2, hx, by rw [← ex]; exact hs, hf, hq2⟩
    · exact absurd h2 (List.not_mem_nil)
/-- the least of positive values; 0: there is none -/
theorem lsr_fold {α : Type} (g : α → Prop) [DecidablePred g] (f : α → Int) : ∀ (l : List α) (w : Int), 0 ≤ w → (∀ q, q ∈ l → g q → 1 ≤ f q) → ∀ r, r = l.foldl (fun w q => if g q then lsr w (f q) else w) w → (r = 0 ∧ w = 0 ∧ ∀ q, q ∈ l → ¬ g q) ∨ (1 ≤ r ∧ (r = w ∨ ∃ q, q ∈ l ∧ g q ∧ r = f q) ∧ (w = 0 ∨ r ≤ w) ∧ ∀ q, q ∈ l → g q → r ≤ f q)
  | [], w, hw, _, r, hr => by
    have e : r = w := hr
    rw [e]
    by_cases z : w = 0
    · exact Or.inl ⟨z, z, fun q h => absurd h (List.not_mem_nil)⟩
    · exact Or.inr ⟨by omega, Or.inl rfl, Or.inr (Int.le_refl _), fun q h => absurd h (List.not_mem_nil)⟩
  | a :: l, w, hw, hf, r, hr => by
    rw [List.foldl_cons] at hr
    by_cases z : g a
    · have ha := hf a List.mem_cons_self z
      rw [if_pos z] at hr
      have e : 1 ≤ lsr w (f a) ∧ (lsr w (f a) = w ∨ lsr w (f a) = f a) ∧ (w = 0 ∨ lsr w (f a) ≤ w) ∧ lsr w (f a) ≤ f a := by unfold lsr; split <;> omega
      rcases lsr_fold g f l _ (by omega) (fun q hq => hf q (List.mem_cons_of_mem _ hq)) r hr with ⟨h1, h2, h3⟩ | ⟨h1, h2, h3, h4⟩
      · omega
      · refine Or.inr ⟨h1, ?_, by omega, fun q hq gq => ?_⟩
        · rcases h2 with h2 | ⟨q, q1, q2⟩
          · rcases e.2.1 with e2 | e2
            · exact Or.inl (h2.trans e2)
            · exact Or.inr ⟨a, List.mem_cons_self, z, h2.trans e2⟩
          · exact Or.inr ⟨q, List.mem_cons_of_mem _ q1, q2⟩
        · rcases List.mem_cons.mp hq with rfl | hq
          · omega
          · exact h4 q hq gq
    · rw [if_neg z] at hr
      rcases lsr_fold g f l w hw (fun q hq => hf q (List.mem_cons_of_mem _ hq)) r hr with ⟨h1, h2, h3⟩ | ⟨h1, h2, h3, h4⟩
      · refine Or.inl ⟨h1, h2, fun q hq => ?_⟩
        rcases List.mem_cons.mp hq with rfl | hq
        · exact z
        · exact h3 q hq
      · refine Or.inr ⟨h1, ?_, h3, fun q hq gq => ?_⟩
        · rcases h2 with h2 | ⟨q, q1, q2⟩
          · exact Or.inl h2
          · exact Or.inr ⟨q, List.mem_cons_of_mem _ q1, q2⟩
        · rcases List.mem_cons.mp hq with rfl | hq
          · exact absurd gq z
          · exact h4 q hq gq
/-- one price in two writings -/
def LRL (t : Nat) (v w : Int) : Prop := (v = 0 ∧ w = -1) ∨ ∃ P M : Int, 0 ≤ P ∧ P ≤ 6336 * (t : Int) ∧ 0 ≤ M ∧ M ≤ 8 * (t : Int) ∧ v = 1024 * P + M + 1 ∧ w = 1000 * P + M
def LSR (I : MI) (p h n m t : Nat) (K W : Nat → Int) : Prop := (∀ x, x < n → LRL t (K x) (W (sgX I p h x))) ∧ ∀ s, s < m → 0 ≤ W s → ∃ j, j < n ∧ sgX I p h j = s
theorem pas_D {κ : MI} (hH : iHs κ) (hS : iSc κ) {t s c : Nat} (hc : c < mal κ (t : Int) s) : dA (dvs κ t s c) = pas κ (t : Int) s c := by
  obtain ⟨e1, e2, e3, e4, e5⟩ := ch_3 hH hS (t : Int) s c hc _ _ _ rfl rfl rfl
  unfold dA dvs
  simp only
  rw [e2, e3, e4, e5]
theorem cb_opt {κ : MI} {m f : Int} {t : Nat} {V : Nat → Int} (hV : ∀ s c, 0 ≤ V s → 0 ≤ V s + cst κ m f t s c) (x : Nat) : OPT true (swS V (cbF κ m f t V) (fun s => mal κ (t : Int) s) (nst κ) (fun _ => -1) x) (fun v => ∃ s c, s < nst κ ∧ 0 ≤ V s ∧ c < mal κ (t : Int) s ∧ okb κ ((t : Int) + 1) (nxt κ (t : Int) s c) = true ∧ nxt κ (t : Int) s c = x ∧ v = V s + cst κ m f t s c) := by
  refine opt_sw (l := true) (V := V) (f := cbF κ m f t V) (m := fun s => mal κ (t : Int) s) (g := fun s c => okb κ ((t : Int) + 1) (nxt κ (t : Int) s c) = true) (tg := fun s c => nxt κ (t : Int) s c) (vl := fun s c => V s + cst κ m f t s c) (fun s c W x _ => ⟨?_, ?_⟩) (fun s c h _ => hV s c h) x (nst κ)
  · rintro ⟨h1, rfl⟩
    by_cases q : W (nxt κ (t : Int) s c) < 0 ∨ (if true = true then V s + cst κ m f t s c < W (nxt κ (t : Int) s c) else W (nxt κ (t : Int) s c) < V s + cst κ m f t s c)
    · rw [if_pos q]
      rw [if_pos rfl] at q
      rw [cbF_t ⟨h1, q⟩]
      unfold upn
      rw [if_pos rfl]
    · rw [if_neg q]
      rw [if_pos rfl] at q
      rw [cbF_f (fun z => q z.2)]
  · intro h
    by_cases z : okb κ ((t : Int) + 1) (nxt κ (t : Int) s c) = true ∧ (W (nxt κ (t : Int) s c) < 0 ∨ V s + cst κ m f t s c < W (nxt κ (t : Int) s c))
    · rw [cbF_t z]
      unfold upn
      rw [if_neg (fun e => h ⟨z.1, e.symm⟩)]
    · rw [cbF_f z]
theorem mul_8 {a b : Int} (ha : 0 ≤ a ∧ a ≤ 8) (hb : 0 ≤ b ∧ b ≤ 99) : 0 ≤ a * b ∧ a * b ≤ 792 := by
  refine ⟨Int.mul_nonneg ha.1 hb.1, ?_⟩
  have h1 : a * b ≤ 8 * b := Int.mul_le_mul_of_nonneg_right ha.2 hb.1
  omega
/-- a step's price in two writings -/
theorem pr_two {J κ : MI} {p h n t s c : Nat} (k : PK J p h n κ) (ht : (t : Int) < J h 3) (hM : iMs κ) (h4 : J h 4 = κ 0 35) {m f : Int} (e13 : J 19 13 = m) (e14 : J 19 14 = f) (hm : 0 ≤ m ∧ m ≤ 99) (hf : 0 ≤ f ∧ f ≤ 99) (hs : s < 1728) (hc : c < mal κ (t : Int) s) (hp : 32 ≤ p) (hh : 32 ≤ h) :
    ∃ P M : Int, 0 ≤ P ∧ P ≤ 1584 ∧ 0 ≤ M ∧ M ≤ 8 ∧ prX (m_up J 19 11 (t : Int)) p h (dA (dvs κ t s c)) = 1024 * P + M ∧ cst κ m f t s c = 1000 * P + M := by
  have sn : J (p + 1) (t : Int) = κ 13 (t : Int) := (k.2.2.2.2.2.2.2 t (by omega)).1
  have ep := pas_D k.2.1 k.2.2.1 hc
  have r1 := mis_r (t := t) k.2.1 hs c
  have r2 := slf_r hM t s c
  have a1 := mul_8 r1 hm
  have a2 := mul_8 r2 hf
  have em : msX (m_up J 19 11 (t : Int)) p h (dA (dvs κ t s c)) = mis κ t s c := by
    unfold msX mis
    rw [m_up_eq, m_up_ne (by omega), m_up_ne (by omega), ep, h4, sn]
  have es : slX (m_up J 19 11 (t : Int)) p (dA (dvs κ t s c)) = slf κ t s c := by
    unfold slX slf
    rw [m_up_eq, m_up_ne (by omega), ep, sn]
  refine ⟨mis κ t s c * m + slf κ t s c * f, mis κ t s c, by omega, by omega, r1.1, r1.2, ?_, ?_⟩
  · unfold prX
    rw [em, es, m_up_nj (by decide), m_up_nj (by decide), e13, e14]
  · unfold cst
    rw [Int.mul_comm m, Int.mul_comm f]
theorem least_step {J κ : MI} {p h n t : Nat} (k : PK J p h n κ) (ht : (t : Int) < J h 3) (hM : iMs κ) (h2 : J p 2 = 0) (h4 : J h 4 = κ 0 35) {m f : Int} (e13 : J 19 13 = m) (e14 : J 19 14 = f) (hm : 0 ≤ m ∧ m ≤ 99) (hf : 0 ≤ f ∧ f ≤ 99) (hp : 32 ≤ p) (hh : 32 ≤ h) {K W : Nat → Int} (r : LSR J p h n (nst κ) t K W) :
    LSR J p h n (nst κ) (t + 1) (fun x => if ftX J p (x : Int) ((t : Int) + 1) = true then (clS J p h (t : Int) (fun j => decide (K j ≠ 0)) n).foldl (fun w q => if q.2.1.toNat = x then lsr w (K q.1 + prX (m_up J 19 11 (t : Int)) p h (dA q.2.2)) else w) 0 else 0) (swS W (cbF κ m f t W) (fun s => mal κ (t : Int) s) (nst κ) (fun _ => -1)) := by
  have hl := PK_last k
  have hr2 : ∀ {s c}, z_and (pas κ (t : Int) s c) (J p 2) = z_and (J (p + 1) (t : Int)) (J p 2) := fun {s c} => by rw [h2, z_and_0, z_and_0]
  have cst0 : ∀ s c, s < nst κ → 0 ≤ cst κ m f t s c := fun s c hs => by
    have hn := nst_le k.2.1 k.2.2.1
    exact (cst_r hm hf (mis_r k.2.1 (by omega) c) (slf_r hM t s c)).1
  have op := fun x => cb_opt (κ := κ) (m := m) (f := f) (t := t) (V := W) (fun s c h => by
    have h1 : 0 ≤ mis κ t s c := (pc_r _).1
    have h2 : 0 ≤ slf κ t s c := (pc_r _).1
    have h3 : 0 ≤ m * mis κ t s c := Int.mul_nonneg hm.1 h1
    have h4 : 0 ≤ f * slf κ t s c := Int.mul_nonneg hf.1 h2
    unfold cst
    omega) x
  refine ⟨fun x hx => ?_, fun s' hs' hw => ?_⟩
  · have opx := op (sgX J p h x)
    simp only
    by_cases q : ftX J p (x : Int) ((t : Int) + 1) = true
    · rw [if_pos q]
      obtain ⟨rr, hrr⟩ : ∃ rr, rr = (clS J p h (t : Int) (fun j => decide (K j ≠ 0)) n).foldl (fun w q => if q.2.1.toNat = x then lsr w (K q.1 + prX (m_up J 19 11 (t : Int)) p h (dA q.2.2)) else w) 0 := ⟨_, rfl⟩
      rw [← hrr]
      -- what a step of the class is
      have stepC : ∀ q0, q0 ∈ clS J p h (t : Int) (fun j => decide (K j ≠ 0)) n → q0.2.1.toNat = x → ∃ j c P M P' M' : _, j < n ∧ c < mal κ (t : Int) (sgX J p h j) ∧ okb κ ((t : Int) + 1) (nxt κ (t : Int) (sgX J p h j) c) = true ∧ nxt κ (t : Int) (sgX J p h j) c = sgX J p h x ∧ (0 ≤ P ∧ P ≤ 6336 * (t : Int) ∧ 0 ≤ M ∧ M ≤ 8 * (t : Int) ∧ K j = 1024 * P + M + 1 ∧ W (sgX J p h j) = 1000 * P + M) ∧ (0 ≤ P' ∧ P' ≤ 1584 ∧ 0 ≤ M' ∧ M' ≤ 8 ∧ K q0.1 + prX (m_up J 19 11 (t : Int)) p h (dA q0.2.2) = 1024 * (P + P') + (M + M') + 1 ∧ cst κ m f t (sgX J p h j) c = 1000 * P' + M') := by
        rintro ⟨j, s⟩ z1 z2
        obtain ⟨y1, y2, y3⟩ := clS_mem k.1 (Nat.le_refl n) z1
        have y1' : j < n := y1
        have y2' : K j ≠ 0 := by
          have : decide (K j ≠ 0) = true := y2
          rw [decide_eq_true_eq] at this
          exact this
        have y3' : s ∈ stX J p h (t : Int) j := y3
        have z2' : s.1.toNat = x := z2
        obtain ⟨⟨y, hy, ey⟩, -⟩ := stX_mem k.1 y1' y3'
        rw [ey, Int.toNat_natCast] at z2'
        subst z2'
        obtain ⟨c, c1, ⟨-, c2⟩, c3, c4⟩ := (stp_memG k y1' ht (fun s2 D => s2 = sgX J p h y ∧ D = s.2)).mp ⟨y, s.2, hy, by rw [← ey]; exact y3', q, rfl, rfl⟩
        have hlt := (sgX_lt k y1').2
        obtain ⟨P', M', p1, p2, p3, p4, p5, p6⟩ := pr_two k ht hM h4 e13 e14 hm hf hlt c1 hp hh
        rcases r.1 j y1' with ⟨e, -⟩ | ⟨P, M, a1, a2, a3, a4, a5, a6⟩
        · exact absurd e y2'
        · refine ⟨j, c, P, M, P', M', y1', c1, c2, c3, ⟨a1, a2, a3, a4, a5, a6⟩, p1, p2, p3, p4, ?_, p6⟩
          show K j + prX (m_up J 19 11 (t : Int)) p h (dA s.2) = _
          rw [← c4, p5, a5]
          omega
      have stepR : ∀ s c, s < nst κ → 0 ≤ W s → c < mal κ (t : Int) s → okb κ ((t : Int) + 1) (nxt κ (t : Int) s c) = true → nxt κ (t : Int) s c = sgX J p h x → ∃ q0 P M P' M' : _, q0 ∈ clS J p h (t : Int) (fun j => decide (K j ≠ 0)) n ∧ q0.2.1.toNat = x ∧ (0 ≤ P ∧ P ≤ 6336 * (t : Int) ∧ 0 ≤ M ∧ M ≤ 8 * (t : Int) ∧ W s = 1000 * P + M) ∧ (0 ≤ P' ∧ P' ≤ 1584 ∧ 0 ≤ M' ∧ M' ≤ 8 ∧ K q0.1 + prX (m_up J 19 11 (t : Int)) p h (dA q0.2.2) = 1024 * (P + P') + (M + M') + 1 ∧ cst κ m f t s c = 1000 * P' + M') := by
        intro s c hs hw c1 c2 c3
        obtain ⟨j, hj, rfl⟩ := r.2 s hs hw
        obtain ⟨P', M', p1, p2, p3, p4, p5, p6⟩ := pr_two k ht hM h4 e13 e14 hm hf (sgX_lt k hj).2 c1 hp hh
        obtain ⟨y, D, hy, hmm, hff, e, eD⟩ := (stp_memG k hj ht (fun s2 D => s2 = sgX J p h x ∧ D = dvs κ t (sgX J p h j) c)).mpr ⟨c, c1, ⟨hr2, c2⟩, c3, rfl⟩
        have e2 := sgX_inj k.1 hy hx e
        subst e2
        rcases r.1 j hj with ⟨-, e⟩ | ⟨P, M, a1, a2, a3, a4, a5, a6⟩
        · omega
        · refine ⟨(j, ((y : Int), D)), P, M, P', M', ?_, ?_, ⟨a1, a2, a3, a4, a6⟩, p1, p2, p3, p4, ?_, p6⟩
          · refine List.mem_flatMap.mpr ⟨j, List.mem_range.mpr hj, ?_⟩
            rw [if_pos (by rw [decide_eq_true_eq]; omega)]
            exact List.mem_map.mpr ⟨_, hmm, rfl⟩
          · exact Int.toNat_natCast y
          · show K j + prX (m_up J 19 11 (t : Int)) p h (dA D) = _
            rw [eD, p5, a5]
            omega
      have pos : ∀ q0, q0 ∈ clS J p h (t : Int) (fun j => decide (K j ≠ 0)) n → q0.2.1.toNat = x → 1 ≤ K q0.1 + prX (m_up J 19 11 (t : Int)) p h (dA q0.2.2) := fun q0 z1 z2 => by
        obtain ⟨j, c, P, M, P', M', -, -, -, -, ⟨a1, a2, a3, a4, a5, a6⟩, p1, p2, p3, p4, p5, p6⟩ := stepC q0 z1 z2
        omega
      rcases lsr_fold (fun q : Nat × LT => q.2.1.toNat = x) (fun q : Nat × LT => K q.1 + prX (m_up J 19 11 (t : Int)) p h (dA q.2.2)) _ 0 (Int.le_refl _) pos rr hrr with ⟨h1, -, h3⟩ | ⟨h1, hat, -, hmin⟩
      · refine Or.inl ⟨h1, ?_⟩
        rcases opx with ⟨o1, -⟩ | ⟨⟨s, c, b1, b2, b3, b4, b5, b6⟩, -⟩
        · exact o1
        · obtain ⟨q0, P, M, P', M', z1, z2, -⟩ := stepR s c b1 b2 b3 b4 b5
          exact absurd z2 (h3 q0 z1)
      · rcases hat with hat | ⟨q0, z1, z2, hat⟩
        · omega
        · obtain ⟨j, c, P, M, P', M', j1, c1, c2, c3, ⟨a1, a2, a3, a4, a5, a6⟩, p1, p2, p3, p4, p5, p6⟩ := stepC q0 z1 z2
          have con : ∃ s c0, s < nst κ ∧ 0 ≤ W s ∧ c0 < mal κ (t : Int) s ∧ okb κ ((t : Int) + 1) (nxt κ (t : Int) s c0) = true ∧ nxt κ (t : Int) s c0 = sgX J p h x ∧ 1000 * (P + P') + (M + M') = W s + cst κ m f t s c0 := ⟨_, c, (sgX_lt k j1).1, by omega, c1, c2, c3, by omega⟩
          rcases opx with ⟨-, o2⟩ | ⟨⟨s, c0, b1, b2, b3, b4, b5, b6⟩, o2, o3⟩
          · exact absurd con (o2 _)
          · have l1 := o3 _ con
            rw [if_pos rfl] at l1
            obtain ⟨q1, P2, M2, P2', M2', y1, y2, ⟨d1, d2, d3, d4, d5⟩, g1, g2, g3, g4, g5, g6⟩ := stepR s c0 b1 b2 b3 b4 b5
            have l2 := hmin q1 y1 y2
            refine Or.inr ⟨P + P', M + M', by omega, by omega, by omega, by omega, by omega, ?_⟩
            omega
    · rw [if_neg q]
      refine Or.inl ⟨rfl, ?_⟩
      rcases opx with ⟨o1, -⟩ | ⟨⟨s, c, b1, b2, b3, b4, b5, b6⟩, -⟩
      · exact o1
      · have hft := ft_ok (t := t + 1) k hx (by omega)
        rw [show ((t + 1 : Nat) : Int) = (t : Int) + 1 by omega] at hft
        rw [b5] at b4
        exact absurd (hft.mpr ⟨b4, fun z => by omega⟩) q
  · rcases op s' with ⟨o1, -⟩ | ⟨⟨s, c, b1, b2, b3, b4, b5, b6⟩, -⟩
    · omega
    · obtain ⟨j, hj, rfl⟩ := r.2 s b1 b2
      obtain ⟨y, D, hy, hmm, hff, e⟩ := (stp_memG k hj ht (fun s2 D => s2 = s')).mpr ⟨c, b3, ⟨hr2, b4⟩, b5⟩
      exact ⟨y, hy, e⟩


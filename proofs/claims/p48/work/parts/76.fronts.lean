/-! CLASS AND REFERENCE: the fronts, minute by minute. -/
theorem okP_d {I J : MI} {h : Nat} (e : ∀ c i, 32 ≤ c → J c i = I c i) (hh : 32 ≤ h) (k : okP I h) : okP J h := by
  unfold okP at k ⊢
  rw [e h 0 hh, e h 2 hh]
  exact ⟨k.1, k.2.1, fun w hw => by rw [e (h + 3) _ (by omega)]; exact k.2.2 w hw⟩
theorem okD_d {I J : MI} {h : Nat} (e : ∀ c i, 32 ≤ c → J c i = I c i) (hh : 32 ≤ h) (k : okD I h) : okD J h := by
  unfold okD at k ⊢
  rw [e h 0 hh, e h 1 hh]
  exact ⟨k.1, fun w hw => by rw [e (h + 1) _ (by omega), e (h + 2) _ (by omega)]; exact k.2 w hw⟩
theorem SHP_d {I J : MI} {p h : Nat} (e : ∀ c i, 32 ≤ c → J c i = I c i) (hp : 32 ≤ p) (hh : 32 ≤ h) (s : SHP p h I) : SHP p h J := by
  have c1 := e p 1 hp
  have c0 := e h 0 hh
  have c3 : ∀ i, J (h + 3) i = I (h + 3) i := fun i => e _ _ (by omega)
  refine ⟨?_, fun w hw => ?_, fun a b c ha hb hc => ?_⟩
  · rw [e p 3 hp, std_c c1 c0 c3]
    exact s.1
  · rw [e (p + 5) _ (by omega), e (p + 6) _ (by omega), std_c c1 c0 c3, stW_c c1 c0 c3]
    exact s.2.1 w hw
  · rw [stW_c c1 c0 c3] at ha hb hc
    rw [stW_c c1 c0 c3, stW_c c1 c0 c3, e (p + 7) _ (by omega)]
    unfold sp3
    rw [spX_c c1 c0, spX_c c1 c0, spX_c c1 c0]
    exact s.2.2 a b c ha hb hc
theorem PQ_d {I J : MI} {p h n : Nat} (e : ∀ c i, 32 ≤ c → J c i = I c i) (hp : 32 ≤ p) (hh : 32 ≤ h) (s : PQ I p h n) : PQ J p h n := by
  obtain ⟨s1, s2, s3, s4, s5, s6, s7, s8⟩ := s
  refine ⟨SHP_d e hp hh s1, okP_d e hh s2, okD_d e hh s3, ?_, ?_, ?_, ?_, fun t ht => ?_⟩
  · rw [e p 1 hp, e h 2 hh]; exact s4
  · rw [e p 3 hp]; exact s5
  · rw [e h 3 hh]; exact s6
  · rw [e h 4 hh]; exact s7
  · rw [e h 3 hh] at ht
    rw [e (p + 1) _ (by omega)]; exact s8 t ht
theorem PK_d {I J κ : MI} {p h n : Nat} (e : ∀ c i, 32 ≤ c → J c i = I c i) (hp : 32 ≤ p) (hh : 32 ≤ h) (k : PK I p h n κ) : PK J p h n κ := by
  obtain ⟨k1, k2, k3, k4, k5, k8, k9, k10⟩ := k
  refine ⟨PQ_d e hp hh k1, k2, k3, ?_, ?_, fun d hd => ?_, fun w hw => ?_, fun t ht => ?_⟩
  · rw [e p 1 hp]; exact k4
  · rw [e h 0 hh, e h 1 hh, e h 3 hh]; exact k5
  · rw [e h 1 hh] at hd
    rw [e (h + 1) _ (by omega), e (h + 2) _ (by omega)]; exact k8 d hd
  · rw [e p 1 hp] at hw
    rw [e (h + 3) _ (by omega)]; exact k9 w hw
  · rw [e h 3 hh] at ht
    obtain ⟨m1, m2, m3, m4, m5, m6⟩ := k10 t ht
    rw [e (p + 1) _ (by omega), e (p + 2) _ (by omega), e (p + 3) _ (by omega), e (p + 4) _ (by omega), e p 1 hp, e h 0 hh]
    exact ⟨m1, m2, m3, m4, m5, m6⟩
theorem sgX_d {I J : MI} {p h : Nat} (e : ∀ c i, 32 ≤ c → J c i = I c i) (hp : 32 ≤ p) (hh : 32 ≤ h) (j : Nat) : sgX J p h j = sgX I p h j := by
  have eW : ∀ w, nW J p h w = nW I p h w := fun w => by unfold nW; rw [stW_c (e _ _ (by omega)) (e _ _ (by omega)) (fun i => e _ _ (by omega))]
  have eP : ∀ w s, plX J p h w s = plX I p h w s := fun w s => by unfold plX; rw [e p 1 hp, e h 0 hh]
  unfold sgX
  rw [eW, eW, eP, eP, eP]
/-- the class's plan and the scene, with what is heard -/
def PKR (I : MI) (p h n : Nat) (κ : MI) : Prop := PK I p h n κ ∧ ∀ t : Nat, (t : Int) < I h 3 → hRd I κ p t
theorem PKR_d {I J κ : MI} {p h n : Nat} (e : ∀ c i, 32 ≤ c → J c i = I c i) (hp : 32 ≤ p) (hh : 32 ≤ h) (k : PKR I p h n κ) : PKR J p h n κ := by
  refine ⟨PK_d e hp hh k.1, fun t ht => ?_⟩
  rw [e h 3 hh] at ht
  have := k.2 t ht
  unfold hRd at this ⊢
  rw [e p 2 hp, e (p + 1) _ (by omega)]
  exact this
theorem PK_last {I κ : MI} {p h n : Nat} (k : PK I p h n κ) : ((lst κ : Nat) : Int) = I h 3 ∧ 1 ≤ lst κ ∧ lst κ ≤ 30 := by
  have h1 := k.2.2.2.2.1.2.2
  have h2 := k.1.2.2.2.2.2.1
  unfold lst
  omega
/-- a state of the reference whose walkers are in rooms, tired only at pace 2, is one of the class -/
theorem sg_sur {I κ : MI} {p h n s : Nat} (k : PK I p h n κ) (hs : s < nst κ) (hr : ∀ w, w < us κ → ((rm s w : Nat) : Int) < I h 0 ∧ (pl s w % 2 ≠ 0 → I (h + 3) (w : Int) = 2)) : ∃ j, j < n ∧ sgX I p h j = s := by
  have u := PK_us k
  have h6 := k.1.2.1.1
  have hs2 : s < 1728 := by
    have := nst_le k.2.1 k.2.2.1
    omega
  have z : ∀ w, w < 3 → us κ ≤ w → pl s w = 0 := by
    unfold nst at hs
    have : us κ = 0 ∨ us κ = 1 ∨ us κ = 2 ∨ us κ = 3 := by omega
    refine ptri ?_ ?_ ?_
    · intro q
      have e : us κ = 0 := by omega
      rw [e] at hs
      unfold pl
      rw [if_pos rfl]; omega
    · intro q
      have e : us κ = 0 ∨ us κ = 1 := by omega
      unfold pl
      rw [if_neg (by decide), if_pos rfl]
      rcases e with e | e <;> rw [e] at hs <;> omega
    · intro q
      have e : us κ = 0 ∨ us κ = 1 ∨ us κ = 2 := by omega
      unfold pl
      rw [if_neg (by decide), if_neg (by decide)]
      rcases e with e | e | e <;> rw [e] at hs <;> omega
  have c : ∀ w, w < 3 → clX I p h w (pl s w : Int) < nW I p h w ∧ plX I p h w (clX I p h w (pl s w : Int)) = pl s w := by
    intro w hw
    have e := nW_e k.1 w
    by_cases hwu : w < us κ
    · have hwI : (w : Int) < I p 1 := by omega
      have h1 := hr w hwu
      unfold rm at h1
      have e1 := e.1 hwI
      unfold clX plX
      rw [if_pos hwI, if_pos hwI]
      by_cases q2 : (pl s w : Int) % 2 = 0
      · rw [if_pos q2, if_pos (show ((((pl s w : Nat) : Int) / 2).toNat : Int) < I h 0 by omega)]; omega
      · rw [if_neg q2, if_neg (show ¬ (((I h 0 + ((pl s w : Nat) : Int) / 2).toNat : Nat) : Int) < I h 0 by omega)]
        have := h1.2 (by omega)
        omega
    · have hwI : ¬ (w : Int) < I p 1 := by omega
      have e2 := e.2 hwI
      unfold clX plX
      rw [if_neg hwI, if_neg hwI, z w hw (by omega)]
      omega
  obtain ⟨a0, b0⟩ := c 0 (by omega)
  obtain ⟨a1, b1⟩ := c 1 (by omega)
  obtain ⟨a2, b2⟩ := c 2 (by omega)
  refine ⟨ix3 (nW I p h 0) (nW I p h 1) (clX I p h 0 (pl s 0 : Int)) (clX I p h 1 (pl s 1 : Int)) (clX I p h 2 (pl s 2 : Int)), by rw [(PQ_n k.1).1]; exact ix3_lt a0 a1 a2, ?_⟩
  obtain ⟨x0, x1, x2⟩ := stJ_at (c2 := clX I p h 2 (pl s 2 : Int)) k.1 a0 a1
  rw [sgX_e, x0, x1, x2, b0, b1, b2]
  unfold pl
  rw [if_pos rfl, if_neg (by decide), if_pos rfl, if_neg (by decide), if_neg (by decide)]
  omega
/-- where all may begin -/
theorem beg_ok {I κ : MI} {p h n j : Nat} (k : PK I p h n κ) (hj : j < n) : begb κ (sgX I p h j) = true ↔ (stJ I p h j 0 < nR I p h 0 ∧ stJ I p h j 1 < nR I p h 1 ∧ stJ I p h j 2 < nR I p h 2) ∧ ftX I p (j : Int) 0 = true := by
  have u := PK_us k
  have h6 := k.1.2.1.1
  have hl := k.1.2.2.2.2.2.1
  have hf := ft_ok (t := 0) k hj (by omega)
  rw [show ((0 : Nat) : Int) = 0 from rfl] at hf
  have hR : ∀ w, w < 3 → (stJ I p h j w < nR I p h w ↔ (w < us κ → pl (sgX I p h j) w % 2 = 0)) := fun w hw => by
    rw [pl_sg k.1 hj hw]
    have h1 := stJ_lt k.1 hj w hw
    unfold nR rsX
    by_cases q : w < us κ
    · have h2 := plX_rm (w := w) k.1 (by omega) h1
      rw [if_pos (show (w : Int) < I p 1 by omega), h2.2.1]
      omega
    · have h2 := (nW_e k.1 w).2 (by omega)
      rw [if_neg (show ¬ (w : Int) < I p 1 by omega)]
      omega
  unfold begb
  rw [Bool.and_eq_true, al_iff, hf]
  constructor
  · rintro ⟨h1, h2⟩
    have h3 : ∀ w, w < us κ → pl (sgX I p h j) w % 2 = 0 ∧ tb (κ 8 (2 * (w : Int) + 1)) (rm (sgX I p h j) w) = true := fun w hw => by
      have := h2 w hw
      rw [Bool.and_eq_true, beq_iff_eq] at this
      exact this
    exact ⟨⟨(hR 0 (by omega)).mpr (fun q => (h3 0 q).1), (hR 1 (by omega)).mpr (fun q => (h3 1 q).1), (hR 2 (by omega)).mpr (fun q => (h3 2 q).1)⟩, h1, fun _ w hw => (h3 w hw).2⟩
  · rintro ⟨⟨a0, a1, a2⟩, h1, h2⟩
    refine ⟨h1, fun w hw => ?_⟩
    rw [Bool.and_eq_true, beq_iff_eq]
    refine ⟨?_, h2 rfl w hw⟩
    have : w = 0 ∨ w = 1 ∨ w = 2 := by omega
    rcases this with rfl | rfl | rfl
    · exact (hR 0 (by omega)).mp a0 hw
    · exact (hR 1 (by omega)).mp a1 hw
    · exact (hR 2 (by omega)).mp a2 hw
theorem fold_none {F : Nat → Int} {x : Nat} (op : Int → Int × Int × Int → Int → Int) : ∀ (l : List (Nat × PT)) (w : Int), (∀ y ∈ l, y.2.1 ≠ x) → l.foldl (fun w y => if y.2.1 = x then op (F y.1) y.2.2 w else w) w = w
  | [], _, _ => rfl
  | y :: l, w, h => by
    rw [List.foldl_cons, if_neg (h y List.mem_cons_self)]
    exact fold_none op l w (fun z hz => h z (List.mem_cons_of_mem _ hz))
theorem clP_mem {I : MI} {p h n t : Nat} (k : PQ I p h n) {act : Nat → Bool} {y : Nat × PT} (hy : y ∈ clP I p h n t act) : ∃ i j, i < n ∧ j < n ∧ act i = true ∧ y.1 = sgX I p h i ∧ y.2.1 = sgX I p h j ∧ ftX I p (j : Int) ((t : Int) + 1) = true ∧ ((j : Int), y.2.2) ∈ stX I p h (t : Int) i := by
  obtain ⟨i, hi, hy⟩ := List.mem_flatMap.mp hy
  have hi2 := List.mem_range.mp hi
  split at hy
  · rename_i ha
    obtain ⟨s, hs, hy⟩ := List.mem_flatMap.mp hy
    unfold one at hy
    split at hy
    · rename_i hf
      have e := List.mem_singleton.mp hy
      obtain ⟨⟨x, hx, ex⟩, -⟩ := stX_mem k hi2 hs
      rw [ex] at hf
      rw [e]
      refine ⟨i, x, hi2, hx, ha, rfl, ?_, hf, ?_⟩
      · show sgX I p h s.1.toNat = _
        rw [ex, Int.toNat_natCast]
      · rw [← ex]; exact hs
    · exact absurd hy (List.not_mem_nil)
  · exact absurd hy (List.not_mem_nil)
/-- steps of the reference from a state of the class lead to states of the class -/
theorem mpQ_sup {I κ : MI} {p h n t : Nat} (k : PK I p h n κ) (ht : (t : Int) < I h 3) {P : Nat → Bool} (hP : ∀ s, s < nst κ → P s = true → ∃ j, j < n ∧ sgX I p h j = s) {y : Nat × PT} (hy : y ∈ mpQ κ t (I p 2) (z_and (I (p + 1) (t : Int)) (I p 2)) P (nst κ)) : ∃ i j, i < n ∧ j < n ∧ P (sgX I p h i) = true ∧ y.1 = sgX I p h i ∧ y.2.1 = sgX I p h j ∧ ftX I p (j : Int) ((t : Int) + 1) = true ∧ ((j : Int), y.2.2) ∈ stX I p h (t : Int) i :=
  clP_mem k.1 ((flat_perm k ht P hP).mem_iff.mpr hy)
theorem sup_0 {I κ : MI} {p h n : Nat} (k : PK I p h n κ) : SUP I p h n (nst κ) (Fr κ 0) := by
  intro s hs hF
  have u := PK_us k
  have hb : begb κ s = true := by
    have e : Fr κ 0 s = if begb κ s then 1 else 0 := rfl
    rw [e] at hF
    split at hF
    · assumption
    · omega
  have hs2 : s < 1728 := by
    have := nst_le k.2.1 k.2.2.1
    omega
  unfold begb at hb
  rw [Bool.and_eq_true, al_iff, okb_iff hs2] at hb
  refine sg_sur k hs (fun w hw => ?_)
  have h1 := (hb.1.2 w hw).2.1
  have h2 := hb.2 w hw
  rw [Bool.and_eq_true, beq_iff_eq] at h2
  have := k.2.2.2.2.1.1
  exact ⟨by omega, fun q => absurd h2.1 q⟩
theorem sup_s {I κ : MI} {p h n t : Nat} (k : PKR I p h n κ) (ht : (t : Int) < I h 3) (sup : SUP I p h n (nst κ) (Fr κ t)) : SUP I p h n (nst κ) (Fr κ (t + 1)) := by
  intro s hs hF
  have hr := k.2 t ht
  have e2 : Fr κ (t + 1) s = rwl κ (t : Int) (Fr κ t) (nst κ) s := rfl
  rw [e2, rwl_fold] at hF
  apply Classical.byContradiction
  intro hc
  rw [fold_none (fun v _ w => capX (w + v)) _ _ (fun y hy e => hc ?_)] at hF
  · omega
  · rw [← hr.2, ← hr.1] at hy
    obtain ⟨i, j, hi, hj, -, -, e3, -⟩ := mpQ_sup k.1 ht (fun s hs q => sup s hs (by rw [decide_eq_true_eq] at q; exact q)) hy
    exact ⟨j, hj, by rw [← e3]; exact e⟩
theorem sup_t {I κ : MI} {p h n : Nat} (k : PKR I p h n κ) : ∀ t : Nat, (t : Int) ≤ I h 3 → SUP I p h n (nst κ) (Fr κ t)
  | 0, _ => sup_0 k.1
  | t + 1, ht => sup_s k (by omega) (sup_t k t (by omega))
/-- some state of the reference counts: some state of the class does -/
theorem som_iff {κ : MI} {F : Nat → Int} : ∀ m, som κ F m = true ↔ ∃ s, s < m ∧ 0 < F s
  | 0 => ⟨fun q => Bool.noConfusion q, fun ⟨s, h, _⟩ => by omega⟩
  | m + 1 => by
    unfold som
    rw [Bool.or_eq_true, som_iff m, decide_eq_true_eq]
    constructor
    · rintro (⟨s, h1, h2⟩ | h)
      · exact ⟨s, by omega, h2⟩
      · exact ⟨m, by omega, h⟩
    · rintro ⟨s, h1, h2⟩
      by_cases e : s = m
      · subst e; exact Or.inr h2
      · exact Or.inl ⟨s, by omega, h2⟩
theorem som_cl {I κ : MI} {p h n t : Nat} (k : PKR I p h n κ) (ht : (t : Int) ≤ I h 3) : som κ (Fr κ t) (nst κ) = true ↔ ∃ j, j < n ∧ Fr κ t (sgX I p h j) ≠ 0 := by
  rw [som_iff]
  constructor
  · rintro ⟨s, h1, h2⟩
    obtain ⟨j, hj, e⟩ := sup_t k t ht s h1 h2
    exact ⟨j, hj, by rw [e]; omega⟩
  · rintro ⟨j, hj, h2⟩
    have := (Fr_r κ t (sgX I p h j)).1
    exact ⟨_, (sgX_lt k.1 hj).1, by omega⟩


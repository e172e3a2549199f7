/-! THE CLASS: the Walks: forward sweeps within the sets of what is alive. -/
/-- the sets hold what is alive -/
def SETS (κ : MI) (I L : MI) (p h n : Nat) : Prop := ∀ t : Nat, t ≤ lst κ → ∀ j : Nat, j < 1728 → (inX L j t = true ↔ j < n ∧ alv κ t (sgX I p h j) = true)
/-- the reference's values count just where the class's do -/
def RELn (κ : MI) (I : MI) (p h n t : Nat) (K : Nat → Int) (W : Nat → Int) : Prop := (∀ x, x < n → (0 ≤ K x ∧ K x ≤ 1000000000000001) ∧ (K x ≠ 0 ↔ 0 ≤ W (sgX I p h x))) ∧ ∀ s, s < nst κ → 0 ≤ W s → alv κ t s = true
def alI (I L : MI) (R : MR) (p h n nk : Nat) (κ : MI) (na nb : Nat) (J K : MI) (S : MR) : Prop :=
  isW S p na nb nk ∧ S p 0 = some h ∧ isH S h ∧ RFw R S ∧ FIw I J ∧ (J 19 10 = 0 ∧ J 19 15 = 1 ∧ rI (J 19 12)) ∧ (∀ c i, ¬ (c = 29 ∨ c = 30 ∨ c = 31) → K c i = L c i) ∧ PKR J p h n κ ∧ SETS κ J K p h n
theorem SETS_d {κ I J K L : MI} {p h n : Nat} (e : ∀ c i, 32 ≤ c → J c i = I c i) (hp : 32 ≤ p) (hh : 32 ≤ h) (e24 : ∀ i, K 24 i = L 24 i) (s : SETS κ I L p h n) : SETS κ J K p h n := fun t ht j hj => by
  rw [inX_c e24, sgX_d e hp hh]
  exact s t ht j hj
theorem gW_iff {κ : MI} {t : Nat} {W : Nat → Int} {x : Nat} : 0 ≤ gW κ t W x ↔ ∃ s c, s < nst κ ∧ 0 ≤ W s ∧ c < mal κ (t : Int) s ∧ vld κ (t : Int) s c = true ∧ alv κ (t + 1) (nxt κ (t : Int) s c) = true ∧ nxt κ (t : Int) s c = x := by
  have inner : ∀ (s m : Nat) (A : Nat → Int), 0 ≤ swC (gF κ t s) m A x ↔ 0 ≤ A x ∨ ∃ c, c < m ∧ vld κ (t : Int) s c = true ∧ alv κ (t + 1) (nxt κ (t : Int) s c) = true ∧ nxt κ (t : Int) s c = x := by
    intro s m A
    induction m with
    | zero =>
      show 0 ≤ A x ↔ _
      exact ⟨Or.inl, fun z => z.elim id (fun ⟨c, z, _⟩ => by omega)⟩
    | succ m ih =>
      have e : swC (gF κ t s) (m + 1) A = gF κ t s m (swC (gF κ t s) m A) := rfl
      rw [e]
      generalize swC (gF κ t s) m A = B at ih
      unfold gF
      by_cases q : (vld κ (t : Int) s m && alv κ (t + 1) (nxt κ (t : Int) s m)) = true
      · rw [if_pos q]
        rw [Bool.and_eq_true] at q
        unfold upn
        by_cases y : x = nxt κ (t : Int) s m
        · rw [if_pos y]
          exact ⟨fun _ => Or.inr ⟨m, by omega, q.1, q.2, y.symm⟩, fun _ => by omega⟩
        · rw [if_neg y]
          rw [ih]
          refine or_congr Iff.rfl ⟨fun ⟨c, z1, z2⟩ => ⟨c, by omega, z2⟩, fun ⟨c, z1, z2, z3, z4⟩ => ⟨c, ?_, z2, z3, z4⟩⟩
          by_cases e : c = m
          · subst e; exact absurd z4.symm y
          · omega
      · rw [if_neg q]
        rw [ih]
        refine or_congr Iff.rfl ⟨fun ⟨c, z1, z2⟩ => ⟨c, by omega, z2⟩, fun ⟨c, z1, z2, z3, z4⟩ => ⟨c, ?_, z2, z3, z4⟩⟩
        by_cases e : c = m
        · subst e; exact absurd (by rw [Bool.and_eq_true]; exact ⟨z2, z3⟩) q
        · omega
  have outer : ∀ (m : Nat) (A : Nat → Int), 0 ≤ swS W (gF κ t) (fun s => mal κ t s) m A x ↔ 0 ≤ A x ∨ ∃ s c, s < m ∧ 0 ≤ W s ∧ c < mal κ (t : Int) s ∧ vld κ (t : Int) s c = true ∧ alv κ (t + 1) (nxt κ (t : Int) s c) = true ∧ nxt κ (t : Int) s c = x := by
    intro m A
    induction m with
    | zero =>
      show 0 ≤ A x ↔ _
      exact ⟨Or.inl, fun z => z.elim id (fun ⟨s, c, z, _⟩ => by omega)⟩
    | succ m ih =>
      by_cases q : 0 ≤ W m
      · rw [swS_t q, inner, ih]
        constructor
        · rintro ((z | ⟨s, c, z1, z2⟩) | ⟨c, z⟩)
          · exact Or.inl z
          · exact Or.inr ⟨s, c, by omega, z2⟩
          · exact Or.inr ⟨m, c, by omega, q, z⟩
        · rintro (z | ⟨s, c, z1, z2, z3⟩)
          · exact Or.inl (Or.inl z)
          · by_cases e : s = m
            · subst e; exact Or.inr ⟨c, z3⟩
            · exact Or.inl (Or.inr ⟨s, c, by omega, z2, z3⟩)
      · rw [swS_f q, ih]
        refine or_congr Iff.rfl ⟨fun ⟨s, c, z1, z2⟩ => ⟨s, c, by omega, z2⟩, fun ⟨s, c, z1, z2, z3⟩ => ⟨s, c, ?_, z2, z3⟩⟩
        by_cases e : s = m
        · subst e; exact absurd z2 q
        · omega
  unfold gW
  rw [outer]
  constructor
  · rintro (z | z)
    · omega
    · exact z
  · exact Or.inr
/-- a class's fold within the sets counts just where a step of the reference leads -/
theorem set_pos {J κ : MI} {p h n t : Nat} (k : PKR J p h n κ) (ht : (t : Int) < J h 3) {V : Nat → Int} (hV : ∀ x, x < n → 0 ≤ V x) {x : Nat} (hx : x < n) (ha : alv κ (t + 1) (sgX J p h x) = true) :
    0 < (clS J p h (t : Int) (fun j => decide (V j ≠ 0)) n).foldl (fun w q => if q.2.1.toNat = x then capX (w + V q.1) else w) 0 ↔ ∃ j c, j < n ∧ V j ≠ 0 ∧ c < mal κ (t : Int) (sgX J p h j) ∧ vld κ (t : Int) (sgX J p h j) c = true ∧ nxt κ (t : Int) (sgX J p h j) c = sgX J p h x := by
  have e : (clS J p h (t : Int) (fun j => decide (V j ≠ 0)) n).foldl (fun w q => if q.2.1.toNat = x then capX (w + V q.1) else w) 0 = (clS J p h (t : Int) (fun j => decide (V j ≠ 0)) n).foldl (fun w q => if decide (q.2.1.toNat = x) = true then capX (w + (if q.1 < n then V q.1 else 0)) else w) 0 := by
    refine foldl_congr _ _ (fun q hq w => ?_)
    obtain ⟨m1, -⟩ := clS_mem k.1.1 (Nat.le_refl n) hq
    rw [if_pos m1]
    by_cases z : q.2.1.toNat = x
    · rw [if_pos z, if_pos (decide_eq_true z)]
    · rw [if_neg z, if_neg (by rw [decide_eq_true_eq]; exact z)]
  rw [e, cap_pos (f := fun q : Nat × LT => if q.1 < n then V q.1 else 0) (g := fun q : Nat × LT => decide (q.2.1.toNat = x)) (fun q => by split; exact hV _ (by assumption); exact Int.le_refl _) _ _ (Int.le_refl _)]
  constructor
  · rintro (z | ⟨⟨j, s⟩, z1, z2, z3⟩)
    · omega
    · obtain ⟨y1, y2, y3⟩ := clS_mem k.1.1 (Nat.le_refl n) z1
      have y1' : j < n := y1
      have y2' : V j ≠ 0 := by
        have : decide (V j ≠ 0) = true := y2
        rw [decide_eq_true_eq] at this
        exact this
      have y3' : s ∈ stX J p h (t : Int) j := y3
      have z2' : s.1.toNat = x := by
        have : decide (s.1.toNat = x) = true := z2
        rw [decide_eq_true_eq] at this
        exact this
      obtain ⟨⟨y, hy, ey⟩, -⟩ := stX_mem k.1.1 y1' y3'
      rw [ey, Int.toNat_natCast] at z2'
      subst z2'
      obtain ⟨c, c1, c2, c3⟩ := (stp_mem k y1' ht (fun s' _ => s' = sgX J p h y)).mp ⟨y, s.2, hy, by rw [← ey]; exact y3', Fr_ok k hy ht (alv_iff.mp ha).1, rfl⟩
      exact ⟨j, c, y1', y2', c1, c2, c3⟩
  · rintro ⟨j, c, hj, hv, c1, c2, c3⟩
    obtain ⟨y, D, hy, hm, hf, e⟩ := (stp_mem k hj ht (fun s' _ => s' = sgX J p h x)).mpr ⟨c, c1, c2, c3⟩
    have e2 := sgX_inj k.1.1 hy hx e
    subst e2
    refine Or.inr ⟨(j, ((y : Int), D)), ?_, ?_, ?_⟩
    · refine List.mem_flatMap.mpr ⟨j, List.mem_range.mpr hj, ?_⟩
      rw [if_pos (decide_eq_true hv)]
      exact List.mem_map.mpr ⟨_, hm, rfl⟩
    · show decide ((y : Int).toNat = y) = true
      rw [Int.toNat_natCast]
      exact decide_eq_true rfl
    · show 0 < (if j < n then V j else 0)
      rw [if_pos hj]
      have := hV j hj
      omega
section
variable {G : GT} {I L : MI} {R : MR} {p h na nb nk : Nat}
/-- the raw sweep within the sets -/
theorem s_sweepA {κ J K : MI} {S : MR} {n t : Nat} (g : alI I L R p h n nk κ na nb J K S) (ht : (t : Int) < J h 3) (hV : ∀ x : Nat, x < n → 0 ≤ K na (x : Int) ∧ K na (x : Int) ≤ 1000000000000001) :
    Sp G mtX6_sweep [mr 19, mi (t : Int)] shX J K S (qv (fun I' L' R' => alI I L R p h n nk κ nb na I' L' R' ∧ (∀ c i, 32 ≤ c → I' c i = J c i) ∧ ∀ x : Nat, x < n → L' nb (x : Int) = if alv κ (t + 1) (sgX J p h x) = true then (clS J p h (t : Int) (fun j => decide (K na (j : Int) ≠ 0)) n).foldl (fun w q => if q.2.1.toNat = x then capX (w + K na (q.1 : Int)) else w) 0 else 0)) := by
  obtain ⟨hW, hph, hh, r, f, ⟨m0, m15, m12⟩, fl, k, st⟩ := g
  have hp1 := hW.2.1.1
  have hh1 := hh.1
  have hn1 := hW.2.2.2.2.2.2.1
  have hn2 := hW.2.2.2.2.2.2.2.1
  have hlt := PK_last k.1
  have hn := (PQ_n k.1.1).2
  refine (s_sweepG (G := G) hW hph hh k.1.1 ht (Or.inl m0) m12 (by omega) (fun q => by omega) (fun x hx => ?_)).mono (fun v I' L' R' hq => ?_)
  · have := hV x hx
    exact ⟨fun _ => by omega, by omega⟩
  · obtain ⟨rfl, e1, e2, e4, e5, rfl⟩ := hq
    have e32 : ∀ c i, 32 ≤ c → I' c i = J c i := fun c i q => e1 c i (by omega)
    refine ⟨rfl, ⟨hW.sw, ?_, ?_, (r.up (by omega) _).up (by omega) _, fun c i q => (e1 c i q).trans (f c i q), ⟨(e2 10 (by decide)).trans m0, (e2 15 (by decide)).trans m15, by rw [e2 12 (by decide)]; exact m12⟩, fun c i q => (e4 c i (by omega)).trans (fl c i q), PKR_d e32 (by omega) (by omega) k, SETS_d e32 (by omega) (by omega) (fun i => e4 24 i (by omega)) st⟩, e32, fun x hx => ?_⟩
    · rw [m_up_ne (by omega), m_up_ne (by omega)]; exact hph
    · exact (((RFw.rf S).up (by omega) _).up (by omega) _).iH hh
    · rw [e5 x hx, m0, if_neg (show ¬ (0 : Int) = 4 by decide), swV_0 (by omega) (by omega) m0]
      have esy : syX J K p x (t + 1) = true ↔ alv κ (t + 1) (sgX J p h x) = true := by
        unfold syX
        rw [if_neg (by omega), st (t + 1) (by omega) x (by omega)]
        exact ⟨fun z => z.2, fun z => ⟨hx, z⟩⟩
      by_cases q : alv κ (t + 1) (sgX J p h x) = true
      · rw [if_pos q, if_neg (fun z => z.2 (esy.mpr q))]
      · rw [if_neg q, if_pos ⟨by decide, fun z => q (esy.mp z)⟩]
theorem cap_fold_r {α : Type} {f : α → Int} {g : α → Prop} [DecidablePred g] : ∀ (l : List α) (w : Int), (0 ≤ w ∧ w ≤ 1000000000000001) → (∀ y ∈ l, 0 ≤ f y) → 0 ≤ l.foldl (fun w y => if g y then capX (w + f y) else w) w ∧ l.foldl (fun w y => if g y then capX (w + f y) else w) w ≤ 1000000000000001
  | [], w, hw, _ => hw
  | y :: l, w, hw, hf => by
    rw [List.foldl_cons]
    refine cap_fold_r l _ ?_ (fun z hz => hf z (List.mem_cons_of_mem _ hz))
    split
    · have := hf y List.mem_cons_self
      exact capX_r (by omega)
    · exact hw
theorem s_sweepN {κ J K : MI} {S : MR} {n t : Nat} {W : Nat → Int} (g : alI I L R p h n nk κ na nb J K S) (hr : RELn κ J p h n t (fun x => K na (x : Int)) W) (ht : (t : Int) < J h 3) :
    Sp G mtX6_sweep [mr 19, mi (t : Int)] shX J K S (qv (fun I' L' R' => alI I L R p h n nk κ nb na I' L' R' ∧ RELn κ I' p h n (t + 1) (fun x => L' nb (x : Int)) (gW κ t W))) := by
  have hp1 := g.1.2.1.1
  have hh1 := g.2.2.1.1
  have k := g.2.2.2.2.2.2.2.1
  refine (s_sweepA (G := G) g ht (fun x hx => (hr.1 x hx).1)).mono (fun v I' L' R' hq => ?_)
  obtain ⟨rfl, g', e32, ev⟩ := hq
  refine ⟨rfl, g', fun x hx => ?_, fun s hs hw => ?_⟩
  · simp only
    rw [sgX_d e32 (by omega) (by omega), ev x hx, gW_iff]
    by_cases q : alv κ (t + 1) (sgX J p h x) = true
    · rw [if_pos q]
      have r1 := cap_fold_r (f := fun q : Nat × LT => K na (q.1 : Int)) (g := fun q : Nat × LT => q.2.1.toNat = x) (clS J p h (t : Int) (fun j => decide (K na (j : Int) ≠ 0)) n) 0 (by omega) (fun y hy => ((hr.1 y.1 (clS_mem k.1.1 (Nat.le_refl n) hy).1).1).1)
      refine ⟨r1, ?_⟩
      have sp := set_pos k ht (V := fun x => K na (x : Int)) (fun x hx => (hr.1 x hx).1.1) hx q
      rw [show ((clS J p h (t : Int) (fun j => decide (K na (j : Int) ≠ 0)) n).foldl (fun w q => if q.2.1.toNat = x then capX (w + K na (q.1 : Int)) else w) 0 ≠ 0 ↔ 0 < (clS J p h (t : Int) (fun j => decide (K na (j : Int) ≠ 0)) n).foldl (fun w q => if q.2.1.toNat = x then capX (w + K na (q.1 : Int)) else w) 0) from ⟨fun z => by omega, fun z => by omega⟩, sp]
      constructor
      · rintro ⟨j, c, hj, hv, c1, c2, c3⟩
        exact ⟨_, c, (sgX_lt k.1 hj).1, (hr.1 j hj).2.mp hv, c1, c2, by rw [c3]; exact q, c3⟩
      · rintro ⟨s, c, hs, hw, c1, c2, c3, c4⟩
        obtain ⟨j, hj, rfl⟩ := alv_cl k (by omega) hs (hr.2 s hs hw)
        exact ⟨j, c, hj, (hr.1 j hj).2.mpr hw, c1, c2, c4⟩
    · rw [if_neg q]
      refine ⟨by omega, fun z => absurd rfl z, ?_⟩
      rintro ⟨s, c, hs, hw, c1, c2, c3, c4⟩
      rw [c4] at c3
      exact absurd c3 q
  · obtain ⟨s0, c, -, -, -, -, c3, c4⟩ := gW_iff.mp hw
    rw [c4] at c3
    exact c3
/-- all that is alive begins -/
theorem s_beginA {κ : MI} {n : Nat} {md : Int} (hR : okR R) (tw : tW R na nb nk) (hp : p = 42 ∨ p = 50) (hph : R p 0 = some h) (hh : isH R h) (k : PKR I p h n κ) (m12 : rI (I 19 12)) (st : SETS κ I L p h n) : Sp G mtX6_begin [mr 19, mr p, mi md, mi 1] shX I L R (qv (fun I' L' R' => (isW R' p na nb nk ∧ R' p 0 = some h ∧ isH R' h ∧ RFw R R' ∧ FIw I I' ∧ (I' 19 10 = md ∧ I' 19 15 = 1 ∧ ∀ i, i ≠ 10 → i ≠ 15 → I' 19 i = I 19 i) ∧ (∀ c i, ¬ (c = 29 ∨ c = 30 ∨ c = 31) → L' c i = L c i) ∧ PKR I' p h n κ ∧ SETS κ I' L' p h n) ∧ (∀ c i, 32 ≤ c → I' c i = I c i) ∧ ∀ x : Nat, x < n → L' na (x : Int) = if alv κ 0 (sgX I p h x) = true then 1 else 0)) := by
  have hW := tw.w (p := p) hR hp
  have hh1 := hh.1
  have hn1 := hW.2.2.2.2.2.2.1
  have hlt := PK_last k.1
  have hnn := (PQ_n k.1.1).2
  refine (s_X6_begin (G := G) (I := I) (L := L) (sb := 1) (md := md) hW hph hh k.1.1 (Or.inr rfl)).mono (fun v I' L' R' hq => ?_)
  obtain ⟨rfl, rfl, hbg, rfl⟩ := hq
  have ie : ∀ c i, c ≠ 19 → (m_up (m_up I 19 10 md) 19 15 1) c i = I c i := fun c i q => by rw [m_up_ne q, m_up_ne q]
  have e32 : ∀ c i, 32 ≤ c → (m_up (m_up I 19 10 md) 19 15 1) c i = I c i := fun c i q => ie c i (by omega)
  refine ⟨rfl, ⟨hW, ?_, ?_, (RFw.rf R).up (by omega) _, ?_, ⟨?_, ?_, fun i q1 q2 => ?_⟩, fun c i q => hbg.1 c i (by omega), PKR_d e32 (by omega) (by omega) k, SETS_d e32 (by omega) (by omega) (fun i => hbg.1 24 i (by omega)) st⟩, e32, fun x hx => ?_⟩
  · rw [m_up_ne (by omega)]; exact hph
  · exact ((RFw.rf R).up (by omega) _).iH hh
  · exact ((FIw.rf I).up (by omega) _ _).up (by omega) _ _
  · rw [m_up_nj (by decide), m_up_eq]
  · rw [m_up_eq]
  · rw [m_up_nj q2, m_up_nj q1]
  · have s := k.1.1
    have h1 := hbg.2 _ _ _ (stJ_lt s hx 0 (by omega)) (stJ_lt s hx 1 (by omega)) (stJ_lt s hx 2 (by omega))
    simp only [stJ_ix s hx] at h1
    have esy : syX (m_up (m_up I 19 10 md) 19 15 1) L p x 0 = true ↔ alv κ 0 (sgX I p h x) = true := by
      unfold syX
      rw [if_neg (by rw [m_up_eq]; decide), st 0 (by omega) x (by omega)]
      exact ⟨fun z => z.2, fun z => ⟨hx, z⟩⟩
    have hb := beg_ok k.1 hx
    rcases h1 with ⟨a, b⟩ | ⟨a, b⟩
    · rw [a, if_pos (esy.mp b.2)]
    · rw [a, if_neg (fun q => b ⟨?_, esy.mpr q⟩)]
      have h0 := (alv_iff.mp q).1
      have e0 : Fr κ 0 (sgX I p h x) = if begb κ (sgX I p h x) then 1 else 0 := rfl
      rw [e0] at h0
      split at h0
      · rename_i hbb
        exact (hb.mp hbb).1
      · omega
theorem s_beginN {κ : MI} {n : Nat} (hR : okR R) (tw : tW R na nb nk) (hp : p = 42 ∨ p = 50) (hph : R p 0 = some h) (hh : isH R h) (k : PKR I p h n κ) (m12 : rI (I 19 12)) (st : SETS κ I L p h n) : Sp G mtX6_begin [mr 19, mr p, mi 0, mi 1] shX I L R (qv (fun I' L' R' => alI I L R p h n nk κ na nb I' L' R' ∧ RELn κ I' p h n 0 (fun x => L' na (x : Int)) (bgV κ 0))) := by
  have hh1 := hh.1
  refine (s_beginA (G := G) (md := 0) hR tw hp hph hh k m12 st).mono (fun v I' L' R' hq => ?_)
  obtain ⟨rfl, ⟨x1, x2, x3, x4, x5, ⟨y1, y2, y3⟩, x7, x8, x9⟩, e32, ev⟩ := hq
  refine ⟨rfl, ⟨x1, x2, x3, x4, x5, ⟨y1, y2, by rw [y3 12 (by decide) (by decide)]; exact m12⟩, x7, x8, x9⟩, fun x hx => ?_, fun s hs hw => ?_⟩
  · simp only
    rw [ev x hx, sgX_d e32 (by omega) (by omega)]
    unfold bgV
    by_cases q : alv κ 0 (sgX I p h x) = true
    · rw [if_pos q, if_pos q]
      exact ⟨by omega, fun _ => Int.le_refl _, fun _ => by decide⟩
    · rw [if_neg q, if_neg q]
      exact ⟨by omega, fun z => absurd rfl z, fun z => by omega⟩
  · unfold bgV at hw
    split at hw
    · assumption
    · omega
end

/-! CLASS AND REFERENCE: all steps of a minute, from all states that count. -/
def clP (I : MI) (p h n t : Nat) (act : Nat → Bool) : List (Nat × PT) := (List.range n).flatMap fun j => if act j = true then (stX I p h (t : Int) j).flatMap (fun s => one (ftX I p s.1 ((t : Int) + 1)) (sgX I p h j, (sgX I p h s.1.toNat, s.2))) else []
def mpR (κ : MI) (t : Nat) (hd wt : Int) (s m : Nat) : List (Nat × PT) := (List.range m).flatMap fun c => one (decide (z_and (pas κ (t : Int) s c) hd = wt) && okb κ ((t : Int) + 1) (nxt κ (t : Int) s c)) (s, (nxt κ (t : Int) s c, dv κ (t : Int) s c 0, dv κ (t : Int) s c 1, dv κ (t : Int) s c 2))
def mpQ (κ : MI) (t : Nat) (hd wt : Int) (P : Nat → Bool) (m : Nat) : List (Nat × PT) := (List.range m).flatMap fun s => if P s = true then mpR κ t hd wt s (mal κ (t : Int) s) else []
theorem one_map {α β : Type} (c : Bool) (x : α) (f : α → β) : (one c x).map f = one c (f x) := by
  unfold one
  split <;> rfl
theorem one_fold {α : Type} (c : Bool) (x : α) (f : Int → α → Int) (w : Int) : (one c x).foldl f w = if c = true then f w x else w := by
  unfold one
  split <;> rfl
theorem flat_perm {I κ : MI} {p h n t : Nat} (k : PK I p h n κ) (ht : (t : Int) < I h 3) (P : Nat → Bool) (hP : ∀ s, s < nst κ → P s = true → ∃ j, j < n ∧ sgX I p h j = s) :
    (clP I p h n t (fun j => P (sgX I p h j))).Perm (mpQ κ t (I p 2) (z_and (I (p + 1) (t : Int)) (I p 2)) P (nst κ)) := by
  have h1 := st_perm (m := nst κ) (n := n) (σ := sgX I p h) P (fun s => mpR κ t (I p 2) (z_and (I (p + 1) (t : Int)) (I p 2)) s (mal κ (t : Int) s)) (fun j hj => (sgX_lt k hj).1) (fun i j hi hj e => sgX_inj k.1 hi hj e) hP
  refine List.Perm.trans (fm_perm _ (fun j hj => ?_)) h1.symm
  have hj2 := List.mem_range.mp hj
  simp only
  split
  · have h2 := (stp_perm k hj2 ht).map (fun y => (sgX I p h j, y))
    rw [List.map_flatMap, List.map_flatMap] at h2
    simp only [one_map] at h2
    exact h2
  · exact List.Perm.refl _
/-- a fold over the class's steps to a state, over the steps as the reference's -/
theorem cl_fold {I κ : MI} {p h n t : Nat} (k : PK I p h n κ) (act : Nat → Bool) {V F : Nat → Int} (hF : ∀ j, j < n → F (sgX I p h j) = V j) (op : Int → Int × Int × Int → Int → Int) {x : Nat} (hx : x < n) (hft : ftX I p (x : Int) ((t : Int) + 1) = true) (w : Int) :
    (clS I p h (t : Int) act n).foldl (fun w q => if q.2.1.toNat = x then op (V q.1) q.2.2 w else w) w = (clP I p h n t act).foldl (fun w y => if y.2.1 = sgX I p h x then op (F y.1) y.2.2 w else w) w := by
  unfold clS clP
  rw [List.foldl_flatMap, List.foldl_flatMap]
  refine foldl_congr _ _ (fun j hj w => ?_)
  have hj2 := List.mem_range.mp hj
  by_cases ha : act j = true
  · rw [if_pos ha, if_pos ha, List.foldl_map, List.foldl_flatMap]
    refine foldl_congr _ _ (fun s hs w => ?_)
    obtain ⟨⟨y, hy, ey⟩, -⟩ := stX_mem k.1 hj2 hs
    rw [one_fold]
    simp only
    rw [ey, Int.toNat_natCast, hF j hj2]
    by_cases e : y = x
    · rw [if_pos e, e, if_pos hft, if_pos rfl]
    · rw [if_neg e]
      split
      · rw [if_neg (fun z => e (sgX_inj k.1 hy hx z))]
      · rfl
  · rw [if_neg ha, if_neg ha]
    rfl
theorem mpQ_mem {κ : MI} {t : Nat} {hd wt : Int} {P : Nat → Bool} {m : Nat} {y : Nat × PT} (h : y ∈ mpQ κ t hd wt P m) : ∃ c, y.1 < m ∧ P y.1 = true ∧ c < mal κ (t : Int) y.1 ∧ z_and (pas κ (t : Int) y.1 c) hd = wt ∧ okb κ ((t : Int) + 1) (nxt κ (t : Int) y.1 c) = true ∧ y.2 = (nxt κ (t : Int) y.1 c, dv κ (t : Int) y.1 c 0, dv κ (t : Int) y.1 c 1, dv κ (t : Int) y.1 c 2) := by
  obtain ⟨s, hs, h⟩ := List.mem_flatMap.mp h
  split at h
  · rename_i hp
    obtain ⟨c, hc, h⟩ := List.mem_flatMap.mp h
    unfold one at h
    split at h
    · rename_i hq
      have e := List.mem_singleton.mp h
      rw [Bool.and_eq_true, decide_eq_true_eq] at hq
      rw [e]
      exact ⟨c, List.mem_range.mp hs, hp, List.mem_range.mp hc, hq.1, hq.2, rfl⟩
    · exact absurd h (List.not_mem_nil)
  · exact absurd h (List.not_mem_nil)
theorem mpQ_in {κ : MI} {t : Nat} {hd wt : Int} {P : Nat → Bool} {m s c : Nat} (hs : s < m) (hp : P s = true) (hc : c < mal κ (t : Int) s) (h1 : z_and (pas κ (t : Int) s c) hd = wt) (h2 : okb κ ((t : Int) + 1) (nxt κ (t : Int) s c) = true) : (s, (nxt κ (t : Int) s c, dv κ (t : Int) s c 0, dv κ (t : Int) s c 1, dv κ (t : Int) s c 2)) ∈ mpQ κ t hd wt P m := by
  refine List.mem_flatMap.mpr ⟨s, List.mem_range.mpr hs, ?_⟩
  rw [if_pos hp]
  refine List.mem_flatMap.mpr ⟨c, List.mem_range.mpr hc, ?_⟩
  unfold one
  rw [if_pos (by rw [Bool.and_eq_true, decide_eq_true_eq]; exact ⟨h1, h2⟩)]
  exact List.mem_singleton.mpr rfl
/-- forward: the class's fold is the reference's -/
theorem fwd {I κ : MI} {p h n t : Nat} (k : PK I p h n κ) (ht : (t : Int) < I h 3) (P : Nat → Bool) (hP : ∀ s, s < nst κ → P s = true → ∃ j, j < n ∧ sgX I p h j = s) {act : Nat → Bool} (hact : ∀ j, j < n → act j = P (sgX I p h j)) {V F : Nat → Int} (hF : ∀ j, j < n → F (sgX I p h j) = V j) (op : Int → Int × Int × Int → Int → Int)
    (comm : ∀ s1 D1 s2 D2 z, P s1 = true → P s2 = true → op (F s2) D2 (op (F s1) D1 z) = op (F s1) D1 (op (F s2) D2 z)) {x : Nat} (hx : x < n) (hft : ftX I p (x : Int) ((t : Int) + 1) = true) (w : Int) :
    (clS I p h (t : Int) act n).foldl (fun w q => if q.2.1.toNat = x then op (V q.1) q.2.2 w else w) w = (mpQ κ t (I p 2) (z_and (I (p + 1) (t : Int)) (I p 2)) P (nst κ)).foldl (fun w y => if y.2.1 = sgX I p h x then op (F y.1) y.2.2 w else w) w := by
  have e1 : clS I p h (t : Int) act n = clS I p h (t : Int) (fun j => P (sgX I p h j)) n := by
    unfold clS
    refine fm_congr _ (fun j hj => ?_)
    rw [hact j (List.mem_range.mp hj)]
  have pm := flat_perm k ht P hP
  rw [e1, cl_fold k _ hF op hx hft w]
  refine List.Perm.foldl_eq' pm (fun y1 h1 y2 h2 z => ?_) w
  obtain ⟨-, -, p1, -⟩ := mpQ_mem (pm.mem_iff.mp h1)
  obtain ⟨-, -, p2, -⟩ := mpQ_mem (pm.mem_iff.mp h2)
  by_cases q1 : y1.2.1 = sgX I p h x <;> by_cases q2 : y2.2.1 = sgX I p h x <;> simp only [q1, q2, if_pos, if_neg, not_false_eq_true]
  exact comm _ _ _ _ _ p1 p2
/-- nothing leads to a state that can't be -/
theorem mp_none {κ : MI} {t : Nat} {hd wt : Int} {P : Nat → Bool} {m x : Nat} (hx : ¬ okb κ ((t : Int) + 1) x = true) (op : Int → Int × Int × Int → Int → Int) (F : Nat → Int) (w : Int) : (mpQ κ t hd wt P m).foldl (fun w y => if y.2.1 = x then op (F y.1) y.2.2 w else w) w = w := by
  have h1 : ∀ (l : List (Nat × PT)), (∀ y ∈ l, y.2.1 ≠ x) → l.foldl (fun w y => if y.2.1 = x then op (F y.1) y.2.2 w else w) w = w := by
    intro l
    induction l with
    | nil => intro _; rfl
    | cons y l ih =>
      intro h
      rw [List.foldl_cons, if_neg (h y List.mem_cons_self)]
      exact ih (fun z hz => h z (List.mem_cons_of_mem _ hz))
  refine h1 _ (fun y hy e => ?_)
  obtain ⟨c, -, -, -, -, h2, h3⟩ := mpQ_mem hy
  rw [h3] at e
  exact hx (e ▸ h2)
/-! the count of ways forth -/
theorem mor_cap (a b : Int) : mor a b = capX (a + b) := by unfold mor capX; split <;> split <;> omega
theorem stp_fold (κ : MI) (t : Nat) (s : Nat) (F : Nat → Int) (A : Nat → Int) (x : Nat) : ∀ m, stp κ (t : Int) s (F s) A m x = (mpR κ t (byK κ (t : Int)) (κ 13 (t : Int)) s m).foldl (fun w y => if y.2.1 = x then capX (w + F y.1) else w) (A x)
  | 0 => rfl
  | c + 1 => by
    have e : mpR κ t (byK κ (t : Int)) (κ 13 (t : Int)) s (c + 1) = mpR κ t (byK κ (t : Int)) (κ 13 (t : Int)) s c ++ one (vld κ (t : Int) s c) (s, (nxt κ (t : Int) s c, dv κ (t : Int) s c 0, dv κ (t : Int) s c 1, dv κ (t : Int) s c 2)) := by
      unfold mpR
      rw [List.range_succ, List.flatMap_append, List.flatMap_singleton]
      rfl
    rw [e, List.foldl_append, ← stp_fold κ t s F A x c, one_fold]
    show (if vld κ (t : Int) s c then upn (stp κ (t : Int) s (F s) A c) (nxt κ (t : Int) s c) (mor (stp κ (t : Int) s (F s) A c (nxt κ (t : Int) s c)) (F s)) else stp κ (t : Int) s (F s) A c) x = _
    by_cases q : vld κ (t : Int) s c = true
    · rw [if_pos q, if_pos q]
      simp only
      unfold upn
      by_cases e : nxt κ (t : Int) s c = x
      · rw [if_pos e.symm, if_pos e, e, mor_cap]
      · rw [if_neg (fun z => e z.symm), if_neg e]
    · rw [if_neg q, if_neg q]
theorem rwl_fold (κ : MI) (t : Nat) (F : Nat → Int) (x : Nat) : ∀ m, rwl κ (t : Int) F m x = (mpQ κ t (byK κ (t : Int)) (κ 13 (t : Int)) (fun s => decide (0 < F s)) m).foldl (fun w y => if y.2.1 = x then capX (w + F y.1) else w) 0
  | 0 => rfl
  | s + 1 => by
    have e : mpQ κ t (byK κ (t : Int)) (κ 13 (t : Int)) (fun s => decide (0 < F s)) (s + 1) = mpQ κ t (byK κ (t : Int)) (κ 13 (t : Int)) (fun s => decide (0 < F s)) s ++ (if decide (0 < F s) = true then mpR κ t (byK κ (t : Int)) (κ 13 (t : Int)) s (mal κ (t : Int) s) else []) := by
      unfold mpQ
      rw [List.range_succ, List.flatMap_append, List.flatMap_singleton]
    rw [e, List.foldl_append, ← rwl_fold κ t F x s]
    by_cases q : 0 < F s
    · rw [rwl_t q, if_pos (decide_eq_true q), stp_fold κ t s F _ x]
    · rw [rwl_f q, if_neg (by rw [decide_eq_true_eq]; exact q)]
      rfl
theorem cap_comm {a b : Int} (ha : 0 ≤ a) (hb : 0 ≤ b) (z : Int) : capX (capX (z + a) + b) = capX (capX (z + b) + a) := by unfold capX; split <;> split <;> split <;> split <;> omega
/-- what of a step holds in both: what is heard -/
def hRd (I κ : MI) (p t : Nat) : Prop := I p 2 = byK κ (t : Int) ∧ z_and (I (p + 1) (t : Int)) (I p 2) = κ 13 (t : Int)
/-- states that count are states of the class -/
def SUP (I : MI) (p h n m : Nat) (F : Nat → Int) : Prop := ∀ s, s < m → 0 < F s → ∃ j, j < n ∧ sgX I p h j = s
theorem cnt_fwd {I κ : MI} {p h n t : Nat} (k : PK I p h n κ) (ht : (t : Int) < I h 3) (hr : hRd I κ p t) (sup : SUP I p h n (nst κ) (Fr κ t)) {V : Nat → Int} (hV : ∀ j, j < n → V j = Fr κ t (sgX I p h j)) {act : Nat → Bool} (hact : ∀ j, j < n → act j = decide (V j ≠ 0)) {x : Nat} (hx : x < n) :
    (if ftX I p (x : Int) ((t : Int) + 1) = true then (clS I p h (t : Int) act n).foldl (fun w q => if q.2.1.toNat = x then capX (w + V q.1) else w) 0 else 0) = Fr κ (t + 1) (sgX I p h x) := by
  have e2 : Fr κ (t + 1) (sgX I p h x) = rwl κ (t : Int) (Fr κ t) (nst κ) (sgX I p h x) := rfl
  have hft := ft_ok (t := t + 1) k hx (by omega)
  rw [show ((t + 1 : Nat) : Int) = (t : Int) + 1 by omega] at hft
  rw [e2, rwl_fold]
  split
  · rename_i hf
    have h1 := fwd k ht (fun s => decide (0 < Fr κ t s)) (fun s hs q => sup s hs (by rw [decide_eq_true_eq] at q; exact q)) (act := act) (fun j hj => by
      have hz := (Fr_r κ t (sgX I p h j)).1
      rw [hact j hj, hV j hj]
      exact decide_eq_decide.mpr (by omega)) (fun j hj => (hV j hj).symm) (fun v _ w => capX (w + v)) (fun s1 _ s2 _ z q1 q2 => cap_comm (Fr_r κ t s1).1 (Fr_r κ t s2).1 z) hx hf 0
    rw [hr.2, hr.1] at h1
    exact h1
  · rename_i hf
    rw [mp_none (fun z => hf (hft.mpr ⟨z, fun q => by omega⟩)) (fun v _ w => capX (w + v))]


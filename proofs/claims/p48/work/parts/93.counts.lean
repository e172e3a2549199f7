/-! THE REFERENCE: the counts are true ones. -/
def smi (f : Nat → Int) : Nat → Int
  | 0 => 0
  | n + 1 => smi f n + f n
def lsm {α : Type} (f : α → Int) : List α → Int
  | [] => 0
  | a :: l => f a + lsm f l
theorem lsm_app {α : Type} (f : α → Int) : ∀ l m : List α, lsm f (l ++ m) = lsm f l + lsm f m
  | [], m => (Int.zero_add _).symm
  | a :: l, m => by
    show f a + lsm f (l ++ m) = f a + lsm f l + lsm f m
    rw [lsm_app f l m, Int.add_assoc]
theorem lsm_nn {α : Type} {f : α → Int} : ∀ l : List α, (∀ q ∈ l, 0 ≤ f q) → 0 ≤ lsm f l
  | [], _ => Int.le_refl _
  | a :: l, h => by
    have h1 := h a List.mem_cons_self
    have h2 := lsm_nn l (fun q hq => h q (List.mem_cons_of_mem _ hq))
    show 0 ≤ f a + lsm f l
    omega
theorem lsm_cg {α : Type} {f g : α → Int} : ∀ l : List α, (∀ q ∈ l, f q = g q) → lsm f l = lsm g l
  | [], _ => rfl
  | a :: l, h => by
    show f a + lsm f l = g a + lsm g l
    rw [h a List.mem_cons_self, lsm_cg l (fun q hq => h q (List.mem_cons_of_mem _ hq))]
theorem lsm_0 {α : Type} {f : α → Int} : ∀ l : List α, (∀ q ∈ l, f q = 0) → lsm f l = 0
  | [], _ => rfl
  | a :: l, h => by
    show f a + lsm f l = 0
    rw [h a List.mem_cons_self, lsm_0 l (fun q hq => h q (List.mem_cons_of_mem _ hq))]
    rfl
theorem smi_cg {f g : Nat → Int} : ∀ n, (∀ i, i < n → f i = g i) → smi f n = smi g n
  | 0, _ => rfl
  | n + 1, h => by
    unfold smi
    rw [smi_cg n (fun i hi => h i (by omega)), h n (by omega)]
theorem smi_nn {f : Nat → Int} : ∀ n, (∀ i, i < n → 0 ≤ f i) → 0 ≤ smi f n
  | 0, _ => Int.le_refl _
  | n + 1, h => by
    have h1 := smi_nn n (fun i hi => h i (by omega))
    have h2 := h n (by omega)
    unfold smi
    omega
theorem smi_le {f g : Nat → Int} : ∀ n, (∀ i, i < n → f i ≤ g i) → smi f n ≤ smi g n
  | 0, _ => Int.le_refl _
  | n + 1, h => by
    have h1 := smi_le n (fun i hi => h i (by omega))
    have h2 := h n (by omega)
    unfold smi
    omega
theorem smi_at {f : Nat → Int} : ∀ n, (∀ i, i < n → 0 ≤ f i) → ∀ i, i < n → f i ≤ smi f n
  | 0, _, i, hi => by omega
  | n + 1, h, i, hi => by
    have h1 := smi_nn n (fun i hi => h i (by omega))
    have h2 := h n (by omega)
    unfold smi
    by_cases e : i = n
    · subst e; omega
    · have := smi_at n (fun i hi => h i (by omega)) i (by omega)
      omega
theorem smi_add (f g : Nat → Int) : ∀ n, smi (fun i => f i + g i) n = smi f n + smi g n
  | 0 => rfl
  | n + 1 => by
    unfold smi
    rw [smi_add f g n]
    omega
theorem smi_one (v : Int) (g : Nat → Int) (k : Nat) : ∀ n, smi (fun i => g i * (if k = i then v else 0)) n = if k < n then g k * v else 0
  | 0 => by
    show (0 : Int) = _
    rw [if_neg (by omega)]
  | n + 1 => by
    unfold smi
    rw [smi_one v g k n]
    by_cases e : k = n
    · subst e
      rw [if_neg (Nat.lt_irrefl k), if_pos rfl, if_pos (Nat.lt_succ_self k), Int.zero_add]
    · rw [if_neg e, Int.mul_zero, Int.add_zero]
      by_cases q : k < n
      · rw [if_pos q, if_pos (by omega)]
      · rw [if_neg q, if_neg (by omega)]
/-- sums by groups -/
theorem grp {α : Type} (k : α → Nat) (h : α → Int) (g : Nat → Int) (n : Nat) : ∀ l : List α, (∀ q ∈ l, k q < n) → smi (fun s => g s * lsm (fun q => if k q = s then h q else 0) l) n = lsm (fun q => g (k q) * h q) l
  | [], _ => by
    have e : ∀ m, smi (fun s => g s * lsm (fun q : α => if k q = s then h q else 0) []) m = 0 := by
      intro m
      induction m with
      | zero => rfl
      | succ m ih =>
        unfold smi
        rw [ih]
        show 0 + g m * 0 = 0
        rw [Int.mul_zero]
        rfl
    exact e n
  | a :: l, hl => by
    have ih := grp k h g n l (fun q hq => hl q (List.mem_cons_of_mem _ hq))
    have e : smi (fun s => g s * lsm (fun q => if k q = s then h q else 0) (a :: l)) n = smi (fun s => g s * (if k a = s then h a else 0) + g s * lsm (fun q => if k q = s then h q else 0) l) n := smi_cg n (fun i _ => Int.mul_add _ _ _)
    rw [e, smi_add, ih, smi_one (h a) g (k a) n, if_pos (hl a List.mem_cons_self)]
    rfl
theorem capX_m (x : Int) : capX x = min x 1000000000000001 := by unfold capX; split <;> omega
theorem cap_sum {α : Type} {g : α → Prop} [DecidablePred g] {f F : α → Int} : ∀ (l : List α) (w : Int), 0 ≤ w → (∀ q ∈ l, g q → 0 ≤ F q ∧ f q = capX (F q)) → capX (l.foldl (fun w q => if g q then capX (w + f q) else w) (capX w)) = capX (w + lsm (fun q => if g q then F q else 0) l) ∧ l.foldl (fun w q => if g q then capX (w + f q) else w) (capX w) = capX (w + lsm (fun q => if g q then F q else 0) l)
  | [], w, hw, _ => by
    have e : w + lsm (fun q : α => if g q then F q else 0) [] = w := Int.add_zero w
    rw [e]
    show capX (capX w) = capX w ∧ capX w = capX w
    exact ⟨by simp only [capX_m]; omega, rfl⟩
  | a :: l, w, hw, h => by
    rw [List.foldl_cons]
    have e : lsm (fun q => if g q then F q else 0) (a :: l) = (if g a then F a else 0) + lsm (fun q => if g q then F q else 0) l := rfl
    rw [e]
    by_cases q : g a
    · obtain ⟨h1, h2⟩ := h a List.mem_cons_self q
      rw [if_pos q, if_pos q, ← Int.add_assoc]
      have e2 : capX (capX w + f a) = capX (w + F a) := by
        rw [h2]
        simp only [capX_m]
        omega
      rw [e2]
      exact cap_sum l (w + F a) (by omega) (fun q hq => h q (List.mem_cons_of_mem _ hq))
    · rw [if_neg q, if_neg q, Int.zero_add]
      exact cap_sum l w hw (fun q hq => h q (List.mem_cons_of_mem _ hq))
theorem cap_sum0 {α : Type} {g : α → Prop} [DecidablePred g] {f F : α → Int} (l : List α) (h : ∀ q ∈ l, g q → 0 ≤ F q ∧ f q = capX (F q)) : l.foldl (fun w q => if g q then capX (w + f q) else w) 0 = capX (lsm (fun q => if g q then F q else 0) l) := by
  have := (cap_sum (g := g) (f := f) (F := F) l 0 (Int.le_refl _) h).2
  rw [Int.zero_add] at this
  exact this
/-- the steps of a minute; the ways to a state, and on from it -/
def stl (κ : MI) (t : Nat) : List (Nat × Nat) := (List.range (nst κ)).flatMap fun s => (List.range (mal κ (t : Int) s)).flatMap fun c => one (vld κ (t : Int) s c) (s, nxt κ (t : Int) s c)
def Fx (κ : MI) : Nat → Nat → Int
  | 0 => fun s => if begb κ s = true then 1 else 0
  | t + 1 => fun x => lsm (fun q : Nat × Nat => if q.2 = x then Fx κ t q.1 else 0) (stl κ t)
def Rx (κ : MI) : Nat → Nat → Int
  | 0 => fun _ => 1
  | u + 1 => fun s => lsm (fun q : Nat × Nat => if q.1 = s then Rx κ u q.2 else 0) (stl κ (lst κ - (u + 1)))
theorem stl_mem {κ : MI} {t : Nat} {q : Nat × Nat} (h : q ∈ stl κ t) : ∃ c, q.1 < nst κ ∧ c < mal κ (t : Int) q.1 ∧ vld κ (t : Int) q.1 c = true ∧ q.2 = nxt κ (t : Int) q.1 c := by
  obtain ⟨s, hs, h⟩ := List.mem_flatMap.mp h
  obtain ⟨c, hc, h⟩ := List.mem_flatMap.mp h
  unfold one at h
  split at h
  · rename_i hv
    have e := List.mem_singleton.mp h
    rw [e]
    exact ⟨c, List.mem_range.mp hs, List.mem_range.mp hc, hv, rfl⟩
  · exact absurd h (List.not_mem_nil)
theorem Fx_nn (κ : MI) : ∀ t s, 0 ≤ Fx κ t s
  | 0, s => by unfold Fx; split <;> omega
  | t + 1, s => by
    unfold Fx
    refine lsm_nn _ (fun q _ => ?_)
    split
    · exact Fx_nn κ t q.1
    · exact Int.le_refl _
theorem Rx_nn (κ : MI) : ∀ u s, 0 ≤ Rx κ u s
  | 0, s => by unfold Rx; omega
  | u + 1, s => by
    unfold Rx
    refine lsm_nn _ (fun q _ => ?_)
    split
    · exact Rx_nn κ u q.2
    · exact Int.le_refl _
def Wx (κ : MI) (t : Nat) : Int := smi (fun s => Fx κ t s * Rx κ (lst κ - t) s) (nst κ)
theorem Wx_s {κ : MI} (hH : iHs κ) (hS : iSc κ) {t : Nat} (ht : t < lst κ) : Wx κ t = Wx κ (t + 1) := by
  have hn := nst_le hH hS
  have e1 : ∀ s, Rx κ (lst κ - t) s = lsm (fun q : Nat × Nat => if q.1 = s then Rx κ (lst κ - (t + 1)) q.2 else 0) (stl κ t) := fun s => by
    obtain ⟨u, hu⟩ : ∃ u, lst κ - t = u + 1 := ⟨lst κ - t - 1, by omega⟩
    rw [hu]
    show lsm (fun q : Nat × Nat => if q.1 = s then Rx κ u q.2 else 0) (stl κ (lst κ - (u + 1))) = _
    rw [show lst κ - (u + 1) = t by omega, show lst κ - (t + 1) = u by omega]
  have e2 : Wx κ t = smi (fun s => Fx κ t s * lsm (fun q : Nat × Nat => if q.1 = s then Rx κ (lst κ - (t + 1)) q.2 else 0) (stl κ t)) (nst κ) := smi_cg _ (fun s _ => by rw [e1])
  have e3 : Wx κ (t + 1) = smi (fun s => Rx κ (lst κ - (t + 1)) s * lsm (fun q : Nat × Nat => if q.2 = s then Fx κ t q.1 else 0) (stl κ t)) (nst κ) := smi_cg _ (fun s _ => Int.mul_comm _ _)
  rw [e2, e3, grp (fun q : Nat × Nat => q.1) (fun q => Rx κ (lst κ - (t + 1)) q.2) (fun s => Fx κ t s) (nst κ) (stl κ t) (fun q hq => (stl_mem hq).choose_spec.1), grp (fun q : Nat × Nat => q.2) (fun q => Fx κ t q.1) (fun s => Rx κ (lst κ - (t + 1)) s) (nst κ) (stl κ t) (fun q hq => by
    obtain ⟨c, c1, -, -, c4⟩ := stl_mem hq
    rw [c4]
    exact nxt_lt hH (by omega) c)]
  exact lsm_cg _ (fun q _ => Int.mul_comm _ _)
theorem Wx_l {κ : MI} (hH : iHs κ) (hS : iSc κ) : ∀ u t, t + u = lst κ → Wx κ t = smi (fun s => Fx κ (lst κ) s) (nst κ)
  | 0, t, e => by
    have e2 : t = lst κ := by omega
    subst e2
    unfold Wx
    refine smi_cg _ (fun s _ => ?_)
    rw [Nat.sub_self]
    exact Int.mul_one _
  | u + 1, t, e => by
    rw [Wx_s hH hS (by omega)]
    exact Wx_l hH hS u (t + 1) (by omega)
/-- the fold over a minute's steps, for sums -/
theorem mpQ_lsm {κ : MI} {t : Nat} {P : Nat → Bool} {F : Nat → Int} {x : Nat} (hP : ∀ s, P s = false → F s = 0) : ∀ m, lsm (fun y : Nat × PT => if y.2.1 = x then F y.1 else 0) (mpQ κ t (byK κ (t : Int)) (κ 13 (t : Int)) P m) = lsm (fun q : Nat × Nat => if q.2 = x then F q.1 else 0) ((List.range m).flatMap fun s => (List.range (mal κ (t : Int) s)).flatMap fun c => one (vld κ (t : Int) s c) (s, nxt κ (t : Int) s c))
  | 0 => rfl
  | m + 1 => by
    unfold mpQ
    rw [List.range_succ, List.flatMap_append, List.flatMap_append, List.flatMap_singleton, List.flatMap_singleton, lsm_app, lsm_app]
    have ih := mpQ_lsm (κ := κ) (t := t) (P := P) (F := F) (x := x) hP m
    unfold mpQ at ih
    rw [ih]
    congr 1
    have inner : ∀ k, lsm (fun y : Nat × PT => if y.2.1 = x then F y.1 else 0) (mpR κ t (byK κ (t : Int)) (κ 13 (t : Int)) m k) = lsm (fun q : Nat × Nat => if q.2 = x then F q.1 else 0) ((List.range k).flatMap fun c => one (vld κ (t : Int) m c) (m, nxt κ (t : Int) m c)) := by
      intro k
      induction k with
      | zero => rfl
      | succ k ih =>
        have e : mpR κ t (byK κ (t : Int)) (κ 13 (t : Int)) m (k + 1) = mpR κ t (byK κ (t : Int)) (κ 13 (t : Int)) m k ++ one (vld κ (t : Int) m k) (m, (nxt κ (t : Int) m k, dv κ (t : Int) m k 0, dv κ (t : Int) m k 1, dv κ (t : Int) m k 2)) := by
          unfold mpR
          rw [List.range_succ, List.flatMap_append, List.flatMap_singleton]
          rfl
        rw [e, List.range_succ, List.flatMap_append, List.flatMap_singleton, lsm_app, lsm_app, ih]
        congr 1
        unfold one
        split <;> rfl
    by_cases q : P m = true
    · rw [if_pos q]
      exact inner _
    · rw [if_neg q]
      have hz := hP m (by simpa using q)
      symm
      refine lsm_0 _ (fun y hy => ?_)
      obtain ⟨c, hc, hy⟩ := List.mem_flatMap.mp hy
      unfold one at hy
      split at hy
      · rw [List.mem_singleton.mp hy]
        simp only
        rw [hz]
        split <;> rfl
      · exact absurd hy (List.not_mem_nil)
theorem Fr_cap (κ : MI) : ∀ t s, Fr κ t s = capX (Fx κ t s)
  | 0, s => by
    show (if begb κ s then (1 : Int) else 0) = capX (if begb κ s = true then 1 else 0)
    simp only [capX_m]
    split <;> omega
  | t + 1, x => by
    have e : Fr κ (t + 1) x = rwl κ (t : Int) (Fr κ t) (nst κ) x := rfl
    have ih := Fr_cap κ t
    rw [e, rwl_fold, cap_sum0 (g := fun y : Nat × PT => y.2.1 = x) (f := fun y : Nat × PT => Fr κ t y.1) (F := fun y : Nat × PT => Fx κ t y.1) _ (fun y _ _ => ⟨Fx_nn κ t y.1, ih y.1⟩)]
    rw [mpQ_lsm (F := fun s => Fx κ t s) (fun s hs => ?_)]
    · rfl
    · rw [decide_eq_false_iff_not, ih] at hs
      have := Fx_nn κ t s
      rw [capX_m] at hs
      omega
theorem Fx_pos {κ : MI} {t s : Nat} : 0 < Fx κ t s ↔ 0 < Fr κ t s := by
  have := Fx_nn κ t s
  rw [Fr_cap]
  simp only [capX_m]
  omega
theorem rst_cap {κ : MI} {t : Int} {s : Nat} {B Bx : Nat → Int} (h : ∀ c, vld κ t s c = true → 0 ≤ Bx (nxt κ t s c) ∧ B (nxt κ t s c) = capX (Bx (nxt κ t s c))) : ∀ m, 0 ≤ lsm (fun q : Nat × Nat => Bx q.2) ((List.range m).flatMap fun c => one (vld κ t s c) (s, nxt κ t s c)) ∧ rst κ t s B m = capX (lsm (fun q : Nat × Nat => Bx q.2) ((List.range m).flatMap fun c => one (vld κ t s c) (s, nxt κ t s c)))
  | 0 => ⟨Int.le_refl _, rfl⟩
  | m + 1 => by
    obtain ⟨i1, i2⟩ := rst_cap (B := B) (Bx := Bx) h m
    have e : rst κ t s B (m + 1) = if vld κ t s m then mor (rst κ t s B m) (B (nxt κ t s m)) else rst κ t s B m := rfl
    rw [e, List.range_succ, List.flatMap_append, List.flatMap_singleton, lsm_app]
    by_cases q : vld κ t s m = true
    · obtain ⟨h1, h2⟩ := h m q
      have e2 : lsm (fun q : Nat × Nat => Bx q.2) (one (vld κ t s m) (s, nxt κ t s m)) = Bx (nxt κ t s m) := by
        unfold one
        rw [if_pos q]
        exact Int.add_zero _
      rw [if_pos q, e2, i2, h2, mor_cap]
      refine ⟨by omega, ?_⟩
      simp only [capX_m]
      omega
    · have e2 : lsm (fun q : Nat × Nat => Bx q.2) (one (vld κ t s m) (s, nxt κ t s m)) = 0 := by
        unfold one
        rw [if_neg q]
        rfl
      rw [if_neg q, e2, i2, Int.add_zero]
      exact ⟨i1, rfl⟩
theorem stl_from {κ : MI} {t : Nat} {B : Nat → Int} {s : Nat} : ∀ m, lsm (fun q : Nat × Nat => if q.1 = s then B q.2 else 0) ((List.range m).flatMap fun s => (List.range (mal κ (t : Int) s)).flatMap fun c => one (vld κ (t : Int) s c) (s, nxt κ (t : Int) s c)) = if s < m then lsm (fun q : Nat × Nat => B q.2) ((List.range (mal κ (t : Int) s)).flatMap fun c => one (vld κ (t : Int) s c) (s, nxt κ (t : Int) s c)) else 0
  | 0 => by rw [if_neg (by omega)]; rfl
  | m + 1 => by
    rw [List.range_succ, List.flatMap_append, List.flatMap_singleton, lsm_app, stl_from m]
    have hm : ∀ q ∈ (List.range (mal κ (t : Int) m)).flatMap (fun c => one (vld κ (t : Int) m c) (m, nxt κ (t : Int) m c)), q.1 = m := fun q hq => by
      obtain ⟨c, -, hq⟩ := List.mem_flatMap.mp hq
      unfold one at hq
      split at hq
      · rw [List.mem_singleton.mp hq]
      · exact absurd hq (List.not_mem_nil)
    by_cases e : s = m
    · subst e
      rw [if_neg (Nat.lt_irrefl s), if_pos (Nat.lt_succ_self s), Int.zero_add]
      exact lsm_cg _ (fun q hq => by rw [if_pos (hm q hq)])
    · have hz : lsm (fun q : Nat × Nat => if q.1 = s then B q.2 else 0) ((List.range (mal κ (t : Int) m)).flatMap fun c => one (vld κ (t : Int) m c) (m, nxt κ (t : Int) m c)) = 0 := lsm_0 _ (fun q hq => by rw [if_neg (fun z => e (by rw [← z]; exact hm q hq))])
      rw [hz, Int.add_zero]
      by_cases q : s < m
      · rw [if_pos q, if_pos (by omega)]
      · rw [if_neg q, if_neg (by omega)]
theorem Re_cap {κ : MI} (hH : iHs κ) (hS : iSc κ) : ∀ u t, t + u = lst κ → ∀ s, s < nst κ → 0 < Fr κ t s → Re κ t s = capX (Rx κ u s)
  | 0, t, e, s, hs, hF => by
    have e2 : t = lst κ := by omega
    subst e2
    rw [Re_lst, if_pos hF]
    show (1 : Int) = capX 1
    rfl
  | u + 1, t, e, s, hs, hF => by
    have hn := nst_le hH hS
    have ih := Re_cap hH hS u (t + 1) (by omega)
    have e2 : Rx κ (u + 1) s = lsm (fun q : Nat × Nat => if q.1 = s then Rx κ u q.2 else 0) (stl κ t) := by
      show lsm (fun q : Nat × Nat => if q.1 = s then Rx κ u q.2 else 0) (stl κ (lst κ - (u + 1))) = _
      rw [show lst κ - (u + 1) = t by omega]
    unfold stl at e2
    rw [stl_from, if_pos hs] at e2
    rw [Re_s (by omega), if_pos hF, e2]
    have hc : ∀ c, mal κ (t : Int) s ≤ c ∨ c < mal κ (t : Int) s := fun c => by omega
    -- beyond the last choice nothing is asked: choices are taken as they are
    have key : ∀ m, m ≤ mal κ (t : Int) s → rst κ (t : Int) s (Re κ (t + 1)) m = capX (lsm (fun q : Nat × Nat => Rx κ u q.2) ((List.range m).flatMap fun c => one (vld κ (t : Int) s c) (s, nxt κ (t : Int) s c))) ∧ 0 ≤ lsm (fun q : Nat × Nat => Rx κ u q.2) ((List.range m).flatMap fun c => one (vld κ (t : Int) s c) (s, nxt κ (t : Int) s c)) := by
      intro m
      induction m with
      | zero => intro _; exact ⟨rfl, Int.le_refl _⟩
      | succ m ihm =>
        intro hm
        obtain ⟨i2, i1⟩ := ihm (by omega)
        have e : rst κ (t : Int) s (Re κ (t + 1)) (m + 1) = if vld κ (t : Int) s m then mor (rst κ (t : Int) s (Re κ (t + 1)) m) (Re κ (t + 1) (nxt κ (t : Int) s m)) else rst κ (t : Int) s (Re κ (t + 1)) m := rfl
        rw [e, List.range_succ, List.flatMap_append, List.flatMap_singleton, lsm_app]
        by_cases q : vld κ (t : Int) s m = true
        · have h1 := Rx_nn κ u (nxt κ (t : Int) s m)
          have h2 := ih (nxt κ (t : Int) s m) (nxt_lt hH (by omega) m) (Fr_pos.mpr ⟨s, m, hs, hF, by omega, q, rfl⟩)
          have e3 : lsm (fun q : Nat × Nat => Rx κ u q.2) (one (vld κ (t : Int) s m) (s, nxt κ (t : Int) s m)) = Rx κ u (nxt κ (t : Int) s m) := by
            unfold one
            rw [if_pos q]
            exact Int.add_zero _
          rw [if_pos q, e3, i2, h2, mor_cap]
          refine ⟨?_, by omega⟩
          simp only [capX_m]
          omega
        · have e3 : lsm (fun q : Nat × Nat => Rx κ u q.2) (one (vld κ (t : Int) s m) (s, nxt κ (t : Int) s m)) = 0 := by
            unfold one
            rw [if_neg q]
            rfl
          rw [if_neg q, e3, i2, Int.add_zero]
          exact ⟨rfl, i1⟩
    exact (key _ (Nat.le_refl _)).1
theorem awF_cap (κ : MI) : ∀ n, awF κ n = capX (smi (fun s => Fx κ (lst κ) s) n) ∧ 0 ≤ smi (fun s => Fx κ (lst κ) s) n
  | 0 => ⟨rfl, Int.le_refl _⟩
  | n + 1 => by
    obtain ⟨i1, i2⟩ := awF_cap κ n
    have h1 := Fx_nn κ (lst κ) n
    have e : awF κ (n + 1) = mor (awF κ n) (Fr κ (lst κ) n) := rfl
    have e3 : smi (fun s => Fx κ (lst κ) s) (n + 1) = smi (fun s => Fx κ (lst κ) s) n + Fx κ (lst κ) n := rfl
    rw [e, mor_cap, i1, Fr_cap, e3]
    refine ⟨?_, by omega⟩
    simp only [capX_m]
    omega
theorem aw_cap {κ : MI} (hH : iHs κ) (hS : iSc κ) {t : Nat} (ht : t ≤ lst κ) : aw κ = capX (Wx κ t) ∧ 0 ≤ Wx κ t := by
  have h := awF_cap κ (nst κ)
  rw [Wx_l hH hS (lst κ - t) t (by omega)]
  exact h
/-- few ways: the tables' products are the ways by a state -/
theorem wyB_x {κ : MI} (hH : iHs κ) (hS : iSc κ) {t : Nat} (ht : t ≤ lst κ) (ha : aw κ ≤ 1000000000000000) : Wx κ t = aw κ ∧ ∀ s, s < nst κ → wyB κ t s = Fx κ t s * Rx κ (lst κ - t) s ∧ 0 ≤ wyB κ t s ∧ (alv κ t s = true → Fr κ t s = Fx κ t s ∧ Re κ t s = Rx κ (lst κ - t) s) := by
  obtain ⟨a1, a2⟩ := aw_cap hH hS ht
  have hW : Wx κ t = aw κ := by
    rw [a1] at ha ⊢
    rw [capX_m] at ha ⊢
    omega
  refine ⟨hW, fun s hs => ?_⟩
  have n1 := Fx_nn κ t s
  have n2 := Rx_nn κ (lst κ - t) s
  have hle := smi_at (f := fun s => Fx κ t s * Rx κ (lst κ - t) s) (nst κ) (fun i _ => Int.mul_nonneg (Fx_nn κ t i) (Rx_nn κ _ i)) s hs
  have hle2 : Fx κ t s * Rx κ (lst κ - t) s ≤ Wx κ t := hle
  unfold wyB
  by_cases q : 0 < Fr κ t s
  · have hr := Re_cap hH hS (lst κ - t) t (by omega) s hs q
    have hx := Fx_pos.mpr q
    by_cases q2 : 0 < Re κ t s
    · have hy : 0 < Rx κ (lst κ - t) s := by
        rw [hr] at q2
        rw [capX_m] at q2
        omega
      have b1 : Fx κ t s * 1 ≤ Fx κ t s * Rx κ (lst κ - t) s := Int.mul_le_mul_of_nonneg_left (by omega) n1
      have b2 : 1 * Rx κ (lst κ - t) s ≤ Fx κ t s * Rx κ (lst κ - t) s := Int.mul_le_mul_of_nonneg_right (by omega) n2
      have e1 : Fr κ t s = Fx κ t s := by rw [Fr_cap, capX_m]; omega
      have e2 : Re κ t s = Rx κ (lst κ - t) s := by rw [hr, capX_m]; omega
      rw [if_pos (alv_iff.mpr ⟨q, q2⟩), e1, e2]
      exact ⟨rfl, Int.mul_nonneg n1 n2, fun _ => ⟨rfl, rfl⟩⟩
    · have hy : Rx κ (lst κ - t) s = 0 := by
        rw [hr] at q2
        rw [capX_m] at q2
        omega
      rw [if_neg (fun z => q2 (alv_iff.mp z).2), hy, Int.mul_zero]
      exact ⟨rfl, Int.le_refl _, fun z => absurd (alv_iff.mp z).2 q2⟩
  · have hx : Fx κ t s = 0 := by
      have h0 : ¬ 0 < Fx κ t s := fun z => q (Fx_pos.mp z)
      omega
    rw [if_neg (fun z => q (alv_iff.mp z).1), hx, Int.zero_mul]
    exact ⟨rfl, Int.le_refl _, fun z => absurd (alv_iff.mp z).1 q⟩
theorem chS_smi (κ : MI) (r : Int) (t : Nat) : ∀ n, chS κ r t n = smi (fun s => if 0 < mnI s r (us κ) then wyB κ t s else 0) n
  | 0 => rfl
  | n + 1 => by
    unfold chS smi
    rw [chS_smi κ r t n]
theorem lkS_smi (κ : MI) (w t r : Nat) : ∀ n, lkS κ w t r n = smi (fun s => if rm s w = r then wyB κ t s else 0) n
  | 0 => rfl
  | n + 1 => by
    unfold lkS smi
    rw [lkS_smi κ w t r n]
theorem cnt_ok {κ : MI} (hH : iHs κ) (hS : iSc κ) (h9 : fst0 κ = -9) : cntOK κ := by
  intro ha
  have hW0 := wyB_x hH hS (t := lst κ) (Nat.le_refl _) ha
  constructor
  · obtain ⟨s, h1, h2⟩ := alv_some h9 0 (lst κ) rfl
    have h3 := (hW0.2 s h1)
    obtain ⟨h4, h5⟩ := h3.2.2 h2
    obtain ⟨p1, p2⟩ := alv_iff.mp h2
    have h6 : wyB κ (lst κ) s = Fr κ (lst κ) s * Re κ (lst κ) s := by unfold wyB; rw [if_pos h2]
    have h7 : 0 < Fr κ (lst κ) s * Re κ (lst κ) s := Int.mul_pos p1 p2
    have h8 : Wx κ (lst κ) = smi (fun s => wyB κ (lst κ) s) (nst κ) := smi_cg _ (fun i hi => ((hW0.2 i hi).1).symm)
    have h9' := smi_at (f := fun s => wyB κ (lst κ) s) (nst κ) (fun i hi => (hW0.2 i hi).2.1) s h1
    have h9'' : wyB κ (lst κ) s ≤ smi (fun s => wyB κ (lst κ) s) (nst κ) := h9'
    rw [← hW0.1, h8]
    omega
  · intro t ht
    have hW := wyB_x hH hS ht ha
    have h8 : Wx κ t = smi (fun s => wyB κ t s) (nst κ) := smi_cg _ (fun i hi => ((hW.2 i hi).1).symm)
    have hs : smi (fun s => wyB κ t s) (nst κ) ≤ 1000000000000000 := by rw [← h8, hW.1]; exact ha
    constructor
    · intro r
      rw [chS_smi]
      refine ⟨smi_nn _ (fun i hi => ?_), Int.le_trans (smi_le _ (fun i hi => ?_)) hs⟩
      · have := (hW.2 i hi).2.1
        split <;> omega
      · have := (hW.2 i hi).2.1
        split <;> omega
    · intro w r
      rw [lkS_smi]
      refine ⟨smi_nn _ (fun i hi => ?_), Int.le_trans (smi_le _ (fun i hi => ?_)) hs⟩
      · have := (hW.2 i hi).2.1
        split <;> omega
      · have := (hW.2 i hi).2.1
        split <;> omega


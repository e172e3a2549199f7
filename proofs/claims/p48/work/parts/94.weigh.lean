/-! CLASS AND REFERENCE: ways weighed. -/
theorem lsm_perm {α : Type} {f : α → Int} {l m : List α} (h : l.Perm m) : lsm f l = lsm f m := by
  induction h with
  | nil => rfl
  | cons a _ ih => show f a + _ = f a + _; rw [ih]
  | swap a b l => show f b + (f a + lsm f l) = f a + (f b + lsm f l); omega
  | trans _ _ h1 h2 => rw [h1, h2]
theorem lsm_fm {α β : Type} {f : β → Int} {g : α → List β} : ∀ l : List α, lsm f (l.flatMap g) = lsm (fun a => lsm f (g a)) l
  | [] => rfl
  | a :: l => by
    rw [List.flatMap_cons, lsm_app, lsm_fm l]
    rfl
theorem lsm_map {α β : Type} {f : β → Int} {g : α → β} : ∀ l : List α, lsm f (l.map g) = lsm (fun a => f (g a)) l
  | [] => rfl
  | a :: l => by
    rw [List.map_cons]
    show f (g a) + lsm f (l.map g) = f (g a) + _
    rw [lsm_map l]
theorem smi_lsm (f : Nat → Int) : ∀ n, smi f n = lsm f (List.range n)
  | 0 => rfl
  | n + 1 => by
    rw [List.range_succ, lsm_app, ← smi_lsm f n]
    show smi f n + f n = smi f n + (f n + 0)
    omega
/-- a sum over the reference's states, over the class's -/
theorem smi_img {m n : Nat} {σ : Nat → Nat} {f : Nat → Int} (h1 : ∀ j, j < n → σ j < m) (h2 : ∀ i j, i < n → j < n → σ i = σ j → i = j) (h3 : ∀ s, s < m → f s ≠ 0 → ∃ j, j < n ∧ σ j = s) : smi f m = smi (fun j => f (σ j)) n := by
  have pm := st_perm (β := Nat) (m := m) (n := n) (σ := σ) (fun s => decide (f s ≠ 0)) (fun s => [s]) h1 h2 (fun s hs q => h3 s hs (by rw [decide_eq_true_eq] at q; exact q))
  have e1 : ∀ (g : Nat → Nat) (k : Nat), lsm f ((List.range k).flatMap fun s => if decide (f (g s) ≠ 0) = true then [g s] else []) = smi (fun s => f (g s)) k := fun g k => by
    rw [lsm_fm, smi_lsm]
    refine lsm_cg _ (fun s _ => ?_)
    by_cases q : f (g s) = 0
    · rw [if_neg (by rw [decide_eq_true_eq]; exact fun z => z q), q]
      rfl
    · rw [if_pos (decide_eq_true q)]
      exact Int.add_zero _
  have := lsm_perm (f := f) pm
  rw [e1 (fun s => s) m, e1 σ n] at this
  exact this
theorem clS_own {I : MI} {p h x : Nat} {t : Int} {act : Nat → Bool} {V : Nat → Int} : ∀ m, (clS I p h t act m).foldl (fun w q => if q.1 = x then capX (w + V q.2.1.toNat) else w) 0 = if x < m ∧ act x = true then (stX I p h t x).foldl (fun w s => capX (w + V s.1.toNat)) 0 else 0
  | 0 => by rw [if_neg (fun z => by omega)]; rfl
  | m + 1 => by
    rw [clS_s, List.foldl_append, clS_own m]
    by_cases e : x = m
    · subst e
      rw [if_neg (fun z => absurd z.1 (Nat.lt_irrefl x))]
      by_cases a : act x = true
      · rw [if_pos a, if_pos ⟨Nat.lt_succ_self x, a⟩, List.foldl_map]
        refine foldl_congr _ _ (fun s _ w => ?_)
        rw [if_pos rfl]
      · rw [if_neg a, if_neg (fun z => a z.2)]
        rfl
    · have e2 : ∀ w : Int, (if act m = true then (stX I p h t m).map (fun s => (m, s)) else []).foldl (fun w q => if q.1 = x then capX (w + V q.2.1.toNat) else w) w = w := by
        intro w
        split
        · rw [List.foldl_map]
          have : ∀ (l : List LT) (w : Int), l.foldl (fun w s => if ((m, s) : Nat × LT).1 = x then capX (w + V ((m, s) : Nat × LT).2.1.toNat) else w) w = w := by
            intro l
            induction l with
            | nil => intro w; rfl
            | cons s l ih =>
              intro w
              rw [List.foldl_cons, if_neg (fun z => e z.symm)]
              exact ih w
          exact this _ w
        · rfl
      rw [e2]
      by_cases q : x < m ∧ act x = true
      · rw [if_pos q, if_pos ⟨by omega, q.2⟩]
      · rw [if_neg q, if_neg (fun z => q ⟨by omega, z.2⟩)]
theorem cap_all {α : Type} {f : α → Int} (l : List α) (h : ∀ q ∈ l, 0 ≤ f q ∧ f q ≤ 1000000000000001) : l.foldl (fun w q => capX (w + f q)) 0 = capX (lsm f l) := by
  have e1 : l.foldl (fun w q => capX (w + f q)) 0 = l.foldl (fun w q => if True then capX (w + f q) else w) 0 := foldl_congr l 0 (fun q _ w => by rw [if_pos trivial])
  rw [e1, cap_sum0 (g := fun _ : α => True) (f := f) (F := f) l (fun q hq _ => ⟨(h q hq).1, by have := h q hq; rw [capX_m]; omega⟩)]
  rw [lsm_cg (g := f) l (fun q _ => if_pos trivial)]
def RA (κ : MI) (t s : Nat) : Int := if alv κ t s = true then Re κ t s else 0
def FA (κ : MI) (t s : Nat) : Int := if alv κ t s = true then Fr κ t s else 0
theorem RA_r (κ : MI) (t s : Nat) : 0 ≤ RA κ t s ∧ RA κ t s ≤ 1000000000000001 := by
  have := Re_r κ t s
  unfold RA
  split <;> omega
theorem FA_r (κ : MI) (t s : Nat) : 0 ≤ FA κ t s ∧ FA κ t s ≤ 1000000000000001 := by
  have := Fr_r κ t s
  unfold FA
  split <;> omega
theorem RA_nz {κ : MI} {t s : Nat} : RA κ t s ≠ 0 ↔ alv κ t s = true := by
  unfold RA
  split
  · rename_i q
    have := (alv_iff.mp q).2
    exact ⟨fun _ => q, fun _ => by omega⟩
  · rename_i q
    exact ⟨fun z => absurd rfl z, fun z => absurd z q⟩
theorem FA_nz {κ : MI} {t s : Nat} : FA κ t s ≠ 0 ↔ alv κ t s = true := by
  unfold FA
  split
  · rename_i q
    have := (alv_iff.mp q).1
    exact ⟨fun _ => q, fun _ => by omega⟩
  · rename_i q
    exact ⟨fun z => absurd rfl z, fun z => absurd z q⟩
/-- one minute back -/
theorem ra_step {J κ : MI} {p h n t : Nat} (k : PKR J p h n κ) (ht : (t : Int) < J h 3) {V : Nat → Int} (hV : ∀ j, j < n → V j = RA κ (t + 1) (sgX J p h j)) {x : Nat} (hx : x < n) (ha : alv κ t (sgX J p h x) = true) : (stX J p h (t : Int) x).foldl (fun w s => capX (w + V s.1.toNat)) 0 = Re κ t (sgX J p h x) := by
  have hl := PK_last k.1
  have hr := k.2 t ht
  have hF := (alv_iff.mp ha).1
  have hs := (sgX_lt k.1 hx).1
  rw [cap_all _ (fun s hs => by
    obtain ⟨⟨y, hy, ey⟩, -⟩ := stX_mem k.1.1 hx hs
    rw [ey, Int.toNat_natCast, hV y hy]
    exact RA_r κ _ _)]
  -- over the steps as the reference's
  have e1 : lsm (fun s : LT => V s.1.toNat) (stX J p h (t : Int) x) = lsm (fun y : PT => RA κ (t + 1) y.1) ((stX J p h (t : Int) x).flatMap fun s => one (ftX J p s.1 ((t : Int) + 1)) (sgX J p h s.1.toNat, s.2)) := by
    rw [lsm_fm]
    refine lsm_cg _ (fun s hs => ?_)
    obtain ⟨⟨y, hy, ey⟩, -⟩ := stX_mem k.1.1 hx hs
    rw [ey, Int.toNat_natCast, hV y hy]
    unfold one
    by_cases q : ftX J p (y : Int) ((t : Int) + 1) = true
    · rw [if_pos q]
      exact (Int.add_zero _).symm
    · rw [if_neg q]
      show RA κ (t + 1) (sgX J p h y) = 0
      apply Classical.byContradiction
      intro z
      exact q (Fr_ok k hy ht (alv_iff.mp (RA_nz.mp z)).1)
  have e2 := lsm_perm (f := fun y : PT => RA κ (t + 1) y.1) (stp_perm k.1 hx ht)
  rw [e1, e2, lsm_fm, Re_s (by omega), if_pos hF]
  have e3 := rst_cap (κ := κ) (t := (t : Int)) (s := sgX J p h x) (B := Re κ (t + 1)) (Bx := Re κ (t + 1)) (fun c _ => by
    have := Re_r κ (t + 1) (nxt κ (t : Int) (sgX J p h x) c)
    exact ⟨this.1, by rw [capX_m]; omega⟩) (mal κ (t : Int) (sgX J p h x))
  rw [e3.2, lsm_fm]
  congr 1
  refine lsm_cg _ (fun c hc => ?_)
  have hc2 := List.mem_range.mp hc
  by_cases q : vld κ (t : Int) (sgX J p h x) c = true
  · have q2 := (vl_iff hr).mpr q
    have e4 : (decide (z_and (pas κ (t : Int) (sgX J p h x) c) (J p 2) = z_and (J (p + 1) (t : Int)) (J p 2)) && okb κ ((t : Int) + 1) (nxt κ (t : Int) (sgX J p h x) c)) = true := by
      rw [Bool.and_eq_true, decide_eq_true_eq]
      exact q2
    unfold one
    rw [if_pos e4, if_pos q]
    show RA κ (t + 1) (nxt κ (t : Int) (sgX J p h x) c) + 0 = Re κ (t + 1) (nxt κ (t : Int) (sgX J p h x) c) + 0
    have hF2 : 0 < Fr κ (t + 1) (nxt κ (t : Int) (sgX J p h x) c) := Fr_pos.mpr ⟨_, c, hs, hF, hc2, q, rfl⟩
    have hR2 := (Re_r κ (t + 1) (nxt κ (t : Int) (sgX J p h x) c)).1
    unfold RA
    by_cases z : alv κ (t + 1) (nxt κ (t : Int) (sgX J p h x) c) = true
    · rw [if_pos z]
    · rw [if_neg z]
      have : ¬ 0 < Re κ (t + 1) (nxt κ (t : Int) (sgX J p h x) c) := fun y => z (alv_iff.mpr ⟨hF2, y⟩)
      omega
  · have e4 : ¬ (decide (z_and (pas κ (t : Int) (sgX J p h x) c) (J p 2) = z_and (J (p + 1) (t : Int)) (J p 2)) && okb κ ((t : Int) + 1) (nxt κ (t : Int) (sgX J p h x) c)) = true := by
      rw [Bool.and_eq_true, decide_eq_true_eq]
      exact fun z => q ((vl_iff hr).mp z)
    unfold one
    rw [if_neg e4, if_neg q]
    rfl
/-- one minute forth, among what is alive -/
theorem fa_step {J κ : MI} {p h n t : Nat} (k : PKR J p h n κ) (ht : (t : Int) < J h 3) {V : Nat → Int} (hV : ∀ j, j < n → V j = FA κ t (sgX J p h j)) {x : Nat} (hx : x < n) (ha : alv κ (t + 1) (sgX J p h x) = true) : (clS J p h (t : Int) (fun j => decide (V j ≠ 0)) n).foldl (fun w q => if q.2.1.toNat = x then capX (w + V q.1) else w) 0 = Fr κ (t + 1) (sgX J p h x) := by
  have hl := PK_last k.1
  have hft := Fr_ok k hx ht (alv_iff.mp ha).1
  have cf := cnt_fwd k.1 ht (k.2 t ht) (sup_t k t (by omega)) (V := fun j => Fr κ t (sgX J p h j)) (fun _ _ => rfl) (act := fun j => decide (Fr κ t (sgX J p h j) ≠ 0)) (fun _ _ => rfl) hx
  rw [if_pos hft] at cf
  rw [← cf]
  have a1 := cap_sum0 (g := fun q : Nat × LT => q.2.1.toNat = x) (f := fun q : Nat × LT => V q.1) (F := fun q : Nat × LT => V q.1) (clS J p h (t : Int) (fun j => decide (V j ≠ 0)) n) (fun q hq _ => by
    have hj := (clS_mem k.1.1 (Nat.le_refl n) hq).1
    rw [hV _ hj]
    have := FA_r κ t (sgX J p h q.1)
    exact ⟨this.1, by rw [capX_m]; omega⟩)
  have a2 := cap_sum0 (g := fun q : Nat × LT => q.2.1.toNat = x) (f := fun q : Nat × LT => Fr κ t (sgX J p h q.1)) (F := fun q : Nat × LT => Fr κ t (sgX J p h q.1)) (clS J p h (t : Int) (fun j => decide (Fr κ t (sgX J p h j) ≠ 0)) n) (fun q hq _ => by
    have := Fr_r κ t (sgX J p h q.1)
    exact ⟨this.1, by rw [capX_m]; omega⟩)
  rw [a1, a2]
  congr 1
  unfold clS
  rw [lsm_fm, lsm_fm]
  refine lsm_cg _ (fun j hj => ?_)
  have hj2 := List.mem_range.mp hj
  have hF0 := (Fr_r κ t (sgX J p h j)).1
  by_cases q : alv κ t (sgX J p h j) = true
  · have e : V j = Fr κ t (sgX J p h j) := by rw [hV j hj2]; unfold FA; rw [if_pos q]
    have hp := (alv_iff.mp q).1
    rw [if_pos (by rw [decide_eq_true_eq]; omega), if_pos (by rw [decide_eq_true_eq]; omega), lsm_map, lsm_map]
    refine lsm_cg _ (fun s _ => ?_)
    simp only
    rw [e]
  · have e : V j = 0 := by rw [hV j hj2]; unfold FA; rw [if_neg q]
    rw [if_neg (by rw [decide_eq_true_eq]; omega)]
    show 0 = _
    by_cases z : Fr κ t (sgX J p h j) = 0
    · rw [if_neg (by rw [decide_eq_true_eq]; omega)]
      rfl
    · rw [if_pos (by rw [decide_eq_true_eq]; exact z), lsm_map]
      symm
      refine lsm_0 _ (fun s hs => ?_)
      simp only
      rw [if_neg]
      intro y
      obtain ⟨⟨y2, hy2, ey⟩, -⟩ := stX_mem k.1.1 hj2 hs
      rw [ey, Int.toNat_natCast] at y
      subst y
      obtain ⟨c, c1, c2, c3⟩ := (stp_mem k hj2 ht (fun s' _ => s' = sgX J p h y2)).mp ⟨y2, s.2, hy2, by rw [← ey]; exact hs, hft, rfl⟩
      exact q (alv_b (by omega) (sgX_lt k.1 hj2).1 (by omega) c1 c2 (by rw [c3]; exact ha))
/-- products, capped -/
theorem thX_cap {a b : Int} (ha : 1 ≤ a) (hb : 1 ≤ b) : thX a b = capX (a * b) := by
  unfold thX
  rw [Int.tdiv_eq_ediv_of_nonneg (by decide)]
  have h1 := Int.mul_ediv_add_emod 1000000000000001 b
  have h2 := Int.emod_nonneg 1000000000000001 (show b ≠ 0 by omega)
  have h3 := Int.emod_lt_of_pos 1000000000000001 (show 0 < b by omega)
  by_cases q : (1000000000000001 : Int) / b < a
  · rw [if_pos (Or.inr q)]
    have h4 : b * ((1000000000000001 : Int) / b + 1) ≤ b * a := Int.mul_le_mul_of_nonneg_left (by omega) (by omega)
    rw [Int.mul_add, Int.mul_comm b a] at h4
    rw [capX_m]
    omega
  · rw [if_neg (fun z => z.elim (fun y => by omega) q)]
    have h4 : b * a ≤ b * ((1000000000000001 : Int) / b) := Int.mul_le_mul_of_nonneg_left (by omega) (by omega)
    rw [Int.mul_comm b a] at h4
    rw [capX_m]
    omega
/-- the sum over the states asked for -/
def wiF (I K : MI) (p na nk : Nat) (these : Int) : Nat → Int
  | 0 => 0
  | j + 1 => if ((these = 0 ∨ z_and (I (p + 7) (j : Int)) these ≠ 0) ∧ K na (j : Int) ≠ 0) ∧ K nk (j : Int) ≠ 0 then capX (wiF I K p na nk these j + thX (K na (j : Int)) (K nk (j : Int))) else wiF I K p na nk these j
theorem wiF_cap {J K κ : MI} {p h n t na nk : Nat} {these : Int} (hn : ∀ j : Nat, j < n → K na (j : Int) = FA κ t (sgX J p h j)) (hk : ∀ j : Nat, j < n → K nk (j : Int) = RA κ t (sgX J p h j)) : ∀ m, m ≤ n → wiF J K p na nk these m = capX (smi (fun j => if these = 0 ∨ z_and (J (p + 7) (j : Int)) these ≠ 0 then FA κ t (sgX J p h j) * RA κ t (sgX J p h j) else 0) m) ∧ 0 ≤ smi (fun j => if these = 0 ∨ z_and (J (p + 7) (j : Int)) these ≠ 0 then FA κ t (sgX J p h j) * RA κ t (sgX J p h j) else 0) m
  | 0, _ => ⟨rfl, Int.le_refl _⟩
  | m + 1, hm => by
    obtain ⟨i1, i2⟩ := wiF_cap (these := these) hn hk m (by omega)
    have f1 := FA_r κ t (sgX J p h m)
    have f2 := RA_r κ t (sgX J p h m)
    have f3 := Int.mul_nonneg f1.1 f2.1
    have e : smi (fun j => if these = 0 ∨ z_and (J (p + 7) (j : Int)) these ≠ 0 then FA κ t (sgX J p h j) * RA κ t (sgX J p h j) else 0) (m + 1) = smi (fun j => if these = 0 ∨ z_and (J (p + 7) (j : Int)) these ≠ 0 then FA κ t (sgX J p h j) * RA κ t (sgX J p h j) else 0) m + (if these = 0 ∨ z_and (J (p + 7) (m : Int)) these ≠ 0 then FA κ t (sgX J p h m) * RA κ t (sgX J p h m) else 0) := rfl
    have e2 : wiF J K p na nk these (m + 1) = if ((these = 0 ∨ z_and (J (p + 7) (m : Int)) these ≠ 0) ∧ K na (m : Int) ≠ 0) ∧ K nk (m : Int) ≠ 0 then capX (wiF J K p na nk these m + thX (K na (m : Int)) (K nk (m : Int))) else wiF J K p na nk these m := rfl
    rw [e, e2, hn m (by omega), hk m (by omega)]
    by_cases q : these = 0 ∨ z_and (J (p + 7) (m : Int)) these ≠ 0
    · rw [if_pos q]
      by_cases z : alv κ t (sgX J p h m) = true
      · have z1 := FA_nz.mpr z
        have z2 := RA_nz.mpr z
        rw [if_pos ⟨⟨q, z1⟩, z2⟩, thX_cap (by omega) (by omega), i1]
        refine ⟨?_, by omega⟩
        simp only [capX_m]
        omega
      · have z1 : FA κ t (sgX J p h m) = 0 := by
          apply Classical.byContradiction
          intro y
          exact z (FA_nz.mp y)
        rw [if_neg (fun y => y.1.2 z1), z1, Int.zero_mul, Int.add_zero]
        exact ⟨i1, i2⟩
    · rw [if_neg q, if_neg (fun y => q y.1.1), Int.add_zero]
      exact ⟨i1, i2⟩
/-- all ways weighed; those in a room; those of one in a room -/
theorem wi_sum {J K κ : MI} {p h n t na nk : Nat} (k : PKR J p h n κ) (ht : (t : Int) ≤ J h 3) (hn : ∀ j : Nat, j < n → K na (j : Int) = FA κ t (sgX J p h j)) (hk : ∀ j : Nat, j < n → K nk (j : Int) = RA κ t (sgX J p h j)) : wiF J K p na nk 0 n = aw κ ∧ (aw κ ≤ 1000000000000000 → (∀ r : Nat, r < 6 → wiF J K p na nk (z_shl 4161 (r : Int)) n = chS κ (r : Int) t (nst κ)) ∧ ∀ w r : Nat, w < us κ → r < 6 → wiF J K p na nk (z_shl 1 (6 * (w : Int) + (r : Int))) n = lkS κ w t r (nst κ)) := by
  have hl := PK_last k.1
  have hH := k.1.2.1
  have hS := k.1.2.2.1
  have u := PK_us k.1
  have fw : ∀ s, FA κ t s * RA κ t s = if alv κ t s = true then Fr κ t s * Re κ t s else 0 := fun s => by
    unfold FA RA
    by_cases q : alv κ t s = true
    · rw [if_pos q, if_pos q, if_pos q]
    · rw [if_neg q, if_neg q, if_neg q, Int.zero_mul]
  have img : ∀ f : Nat → Int, (∀ s, alv κ t s = false → f s = 0) → smi (fun j => f (sgX J p h j)) n = smi f (nst κ) := fun f hf => (smi_img (fun j hj => (sgX_lt k.1 hj).1) (fun i j hi hj e => sgX_inj k.1.1 hi hj e) (fun s hs q => alv_cl k ht hs (by
    cases z : alv κ t s
    · exact absurd (hf s z) q
    · rfl))).symm
  have w0 := wiF_cap (J := J) (K := K) (κ := κ) (p := p) (h := h) (na := na) (nk := nk) (t := t) (these := 0) hn hk n (Nat.le_refl n)
  have e0 : smi (fun j => if (0 : Int) = 0 ∨ z_and (J (p + 7) (j : Int)) 0 ≠ 0 then FA κ t (sgX J p h j) * RA κ t (sgX J p h j) else 0) n = smi (fun s => FA κ t s * RA κ t s) (nst κ) := by
    rw [← img (fun s => FA κ t s * RA κ t s) (fun s hs => by rw [fw, if_neg (by rw [hs]; decide)])]
    exact smi_cg n (fun j _ => if_pos (Or.inl rfl))
  obtain ⟨a1, a2⟩ := aw_cap hH hS (t := t) (by omega)
  refine ⟨?_, fun ha => ?_⟩
  · rw [w0.1, e0, a1]
    -- capped factors: the same under the cap
    have : ∀ m, m ≤ nst κ → capX (smi (fun s => FA κ t s * RA κ t s) m) = capX (smi (fun s => Fx κ t s * Rx κ (lst κ - t) s) m) ∧ 0 ≤ smi (fun s => FA κ t s * RA κ t s) m ∧ 0 ≤ smi (fun s => Fx κ t s * Rx κ (lst κ - t) s) m := by
      intro m
      induction m with
      | zero => intro _; exact ⟨rfl, Int.le_refl _, Int.le_refl _⟩
      | succ m ih =>
        intro hm
        obtain ⟨i1, i2, i3⟩ := ih (by omega)
        have n1 := Fx_nn κ t m
        have n2 := Rx_nn κ (lst κ - t) m
        have n3 := Int.mul_nonneg n1 n2
        have n4 := Int.mul_nonneg (FA_r κ t m).1 (RA_r κ t m).1
        have key : capX (FA κ t m * RA κ t m) = capX (Fx κ t m * Rx κ (lst κ - t) m) := by
          rw [fw]
          by_cases q : 0 < Fr κ t m
          · have hr := Re_cap hH hS (lst κ - t) t (by omega) m (by omega) q
            have hx := Fx_pos.mpr q
            by_cases q2 : 0 < Re κ t m
            · rw [if_pos (alv_iff.mpr ⟨q, q2⟩)]
              have hy : 0 < Rx κ (lst κ - t) m := by
                rw [hr, capX_m] at q2
                omega
              by_cases c1 : Fx κ t m ≤ 1000000000000001
              · have e1 : Fr κ t m = Fx κ t m := by rw [Fr_cap, capX_m]; omega
                by_cases c2 : Rx κ (lst κ - t) m ≤ 1000000000000001
                · have e2 : Re κ t m = Rx κ (lst κ - t) m := by rw [hr, capX_m]; omega
                  rw [e1, e2]
                · have e2 : Re κ t m = 1000000000000001 := by rw [hr, capX_m]; omega
                  have b1 : 1 * Re κ t m ≤ Fr κ t m * Re κ t m := Int.mul_le_mul_of_nonneg_right (by omega) (by omega)
                  have b2 : 1 * Rx κ (lst κ - t) m ≤ Fx κ t m * Rx κ (lst κ - t) m := Int.mul_le_mul_of_nonneg_right (by omega) n2
                  simp only [capX_m]
                  omega
              · have e1 : Fr κ t m = 1000000000000001 := by rw [Fr_cap, capX_m]; omega
                have b1 : Fr κ t m * 1 ≤ Fr κ t m * Re κ t m := Int.mul_le_mul_of_nonneg_left (by omega) (by omega)
                have b2 : Fx κ t m * 1 ≤ Fx κ t m * Rx κ (lst κ - t) m := Int.mul_le_mul_of_nonneg_left (by omega) n1
                simp only [capX_m]
                omega
            · rw [if_neg (fun z => q2 (alv_iff.mp z).2)]
              have hy : Rx κ (lst κ - t) m = 0 := by
                rw [hr, capX_m] at q2
                omega
              rw [hy, Int.mul_zero]
          · rw [if_neg (fun z => q (alv_iff.mp z).1)]
            have h0 : ¬ 0 < Fx κ t m := fun z => q (Fx_pos.mp z)
            have hx : Fx κ t m = 0 := by omega
            rw [hx, Int.zero_mul]
        have s1 : smi (fun s => FA κ t s * RA κ t s) (m + 1) = smi (fun s => FA κ t s * RA κ t s) m + FA κ t m * RA κ t m := rfl
        have s2 : smi (fun s => Fx κ t s * Rx κ (lst κ - t) s) (m + 1) = smi (fun s => Fx κ t s * Rx κ (lst κ - t) s) m + Fx κ t m * Rx κ (lst κ - t) m := rfl
        rw [s1, s2]
        refine ⟨?_, by omega, by omega⟩
        simp only [capX_m] at i1 key ⊢
        omega
    exact (this _ (Nat.le_refl _)).1
  · obtain ⟨hW, hw⟩ := wyB_x hH hS (t := t) (by omega) ha
    have fy : ∀ s, FA κ t s * RA κ t s = wyB κ t s := fun s => by rw [fw]; rfl
    have wz : ∀ s, alv κ t s = false → wyB κ t s = 0 := fun s hs => by unfold wyB; rw [if_neg (by rw [hs]; decide)]
    have gen : ∀ (these : Int) (c : Nat → Bool), (∀ j, j < n → ((these = 0 ∨ z_and (J (p + 7) (j : Int)) these ≠ 0) ↔ c (sgX J p h j) = true)) → wiF J K p na nk these n = smi (fun s => if c s = true then wyB κ t s else 0) (nst κ) := by
      intro these c hc
      have w1 := wiF_cap (J := J) (K := K) (κ := κ) (p := p) (h := h) (na := na) (nk := nk) (t := t) (these := these) hn hk n (Nat.le_refl n)
      have e1 : smi (fun j => if these = 0 ∨ z_and (J (p + 7) (j : Int)) these ≠ 0 then FA κ t (sgX J p h j) * RA κ t (sgX J p h j) else 0) n = smi (fun s => if c s = true then wyB κ t s else 0) (nst κ) := by
        rw [← img (fun s => if c s = true then wyB κ t s else 0) (fun s hs => by rw [wz s hs]; split <;> rfl)]
        refine smi_cg n (fun j hj => ?_)
        rw [fy]
        by_cases q : c (sgX J p h j) = true
        · rw [if_pos q, if_pos ((hc j hj).mpr q)]
        · rw [if_neg q, if_neg (fun z => q ((hc j hj).mp z))]
      rw [w1.1, e1]
      have h8 : Wx κ t = smi (fun s => wyB κ t s) (nst κ) := smi_cg _ (fun i hi => ((hw i hi).1).symm)
      have h9 : smi (fun s => if c s = true then wyB κ t s else 0) (nst κ) ≤ smi (fun s => wyB κ t s) (nst κ) := smi_le _ (fun i hi => by
        have := (hw i hi).2.1
        split <;> omega)
      rw [← h8, hW] at h9
      rw [capX_m]
      omega
    have h6 := k.1.1.2.1.1
    have nz : ∀ x y : Int, z_and x y ≠ 0 ↔ ∃ b, b < 32 ∧ tb x b = true ∧ tb y b = true := fun x y => by
      constructor
      · intro q
        apply Classical.byContradiction
        intro z
        refine q (z_and_no.mpr (fun b hb h1 => ?_))
        cases h2 : tb y b
        · rfl
        · exact absurd ⟨b, hb, h1, h2⟩ z
      · rintro ⟨b, hb, h1, h2⟩ q
        rw [z_and_no.mp q b hb h1] at h2
        exact Bool.noConfusion h2
    constructor
    · intro r hr
      rw [chS_smi]
      have ge := gen (z_shl 4161 (r : Int)) (fun s => decide (0 < mnI s (r : Int) (us κ))) (fun j hj => ?_)
      · rw [ge]
        refine smi_cg _ (fun s _ => ?_)
        by_cases q : 0 < mnI s (r : Int) (us κ)
        · rw [if_pos q, if_pos (decide_eq_true q)]
        · rw [if_neg q, if_neg (by rw [decide_eq_true_eq]; exact q)]
      · have t41 : ∀ b, b < 32 → (tb 4161 b = true ↔ b = 0 ∨ b = 6 ∨ b = 12) := by decide
        have tsh : ∀ b, b < 32 → (tb (z_shl 4161 (r : Int)) b = true ↔ b = r ∨ b = 6 + r ∨ b = 12 + r) := fun b hb => by
          rw [tb_shl (by omega) hb, Bool.and_eq_true, decide_eq_true_eq, Int.toNat_natCast, t41 (b - r) (by omega)]
          omega
        have mn : ∀ m, 0 < mnI (sgX J p h j) (r : Int) m ↔ ∃ w, w < m ∧ rm (sgX J p h j) w = r := fun m => by
          induction m with
          | zero =>
            show (0 : Int) < 0 ↔ _
            exact ⟨fun z => by omega, fun ⟨w, z, _⟩ => by omega⟩
          | succ m ih =>
            have hr0 := mnI_r (sgX J p h j) (r : Int) m
            unfold mnI
            constructor
            · intro z
              by_cases e : ((rm (sgX J p h j) m : Nat) : Int) = (r : Int)
              · exact ⟨m, by omega, by omega⟩
              · rw [if_neg e] at z
                obtain ⟨w, w1, w2⟩ := ih.mp (by omega)
                exact ⟨w, by omega, w2⟩
            · rintro ⟨w, w1, w2⟩
              by_cases e : w = m
              · subst e
                rw [if_pos (by omega)]
                omega
              · have := ih.mpr ⟨w, by omega, w2⟩
                split <;> omega
        have these0 : z_shl 4161 (r : Int) ≠ 0 := fun z => by
          have h1 := (tsh r (by omega)).mpr (Or.inl rfl)
          rw [z, tb_0] at h1
          exact Bool.noConfusion h1
        rw [decide_eq_true_eq, mn, nz]
        constructor
        · rintro (z | ⟨b, hb, h1, h2⟩)
          · exact absurd z these0
          · obtain ⟨v, hv, e⟩ := (tb_sp k.1 hj hb).mp h1
            have hrv := rm_sg k.1 hj hv
            have h3 := (tsh b hb).mp h2
            exact ⟨v, hv, by omega⟩
        · rintro ⟨w, hw2, e⟩
          refine Or.inr ⟨6 * w + r, by omega, ?_, (tsh _ (by omega)).mpr (by omega)⟩
          rw [sp_room k.1 hj hw2 hr, decide_eq_true_eq]
          exact e.symm
    · intro w r hw2 hr
      rw [lkS_smi]
      have ge := gen (z_shl 1 (6 * (w : Int) + (r : Int))) (fun s => decide (rm s w = r)) (fun j hj => ?_)
      · rw [ge]
        refine smi_cg _ (fun s _ => ?_)
        by_cases q : rm s w = r
        · rw [if_pos q, if_pos (decide_eq_true q)]
        · rw [if_neg q, if_neg (by rw [decide_eq_true_eq]; exact q)]
      · have tsh : ∀ b, b < 32 → (tb (z_shl 1 (6 * (w : Int) + (r : Int))) b = true ↔ b = 6 * w + r) := fun b hb => by
          rw [tb_sh1 (by omega) hb, decide_eq_true_eq]
          omega
        have these0 : z_shl 1 (6 * (w : Int) + (r : Int)) ≠ 0 := fun z => by
          have h1 := (tsh (6 * w + r) (by omega)).mpr rfl
          rw [z, tb_0] at h1
          exact Bool.noConfusion h1
        rw [decide_eq_true_eq, nz]
        constructor
        · rintro (z | ⟨b, hb, h1, h2⟩)
          · exact absurd z these0
          · rw [(tsh b hb).mp h2, sp_room k.1 hj hw2 hr, decide_eq_true_eq] at h1
            exact h1.symm
        · intro e
          refine Or.inr ⟨6 * w + r, by omega, ?_, (tsh _ (by omega)).mpr rfl⟩
          rw [sp_room k.1 hj hw2 hr, decide_eq_true_eq]
          exact e.symm


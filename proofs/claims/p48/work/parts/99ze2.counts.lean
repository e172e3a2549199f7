/-! WAYS counted: all chains, one by one. -/
def CH (κ : MI) : Nat → List (List (Nat × Nat) × Nat)
  | 0 => (List.range (nst κ)).flatMap fun s => one (begb κ s) ([], s)
  | t + 1 => (CH κ t).flatMap fun x => (List.range (mal κ (t : Int) x.2)).flatMap fun c => one (vld κ (t : Int) x.2 c) (x.1 ++ [(x.2, c)], nxt κ (t : Int) x.2 c)
def Sx (x : List (Nat × Nat) × Nat) (i : Nat) : Nat := match x.1[i]? with
  | some q => q.1
  | none => x.2
def Cx (x : List (Nat × Nat) × Nat) (i : Nat) : Nat := match x.1[i]? with
  | some q => q.2
  | none => 0
theorem one_mem {β : Type} {c : Bool} {x y : β} : y ∈ one c x ↔ c = true ∧ y = x := by
  unfold one
  split <;> simp [*]
theorem CH_s {κ : MI} {t : Nat} {y : List (Nat × Nat) × Nat} : y ∈ CH κ (t + 1) ↔ ∃ x, x ∈ CH κ t ∧ ∃ c, c < mal κ (t : Int) x.2 ∧ vld κ (t : Int) x.2 c = true ∧ y = (x.1 ++ [(x.2, c)], nxt κ (t : Int) x.2 c) := by
  show y ∈ (CH κ t).flatMap _ ↔ _
  simp only [List.mem_flatMap, one_mem, List.mem_range]
theorem CH_len {κ : MI} : ∀ t y, y ∈ CH κ t → y.1.length = t
  | 0, y, h => by
    obtain ⟨s, -, h⟩ := List.mem_flatMap.mp h
    rw [(one_mem.mp h).2]; rfl
  | t + 1, y, h => by
    obtain ⟨x, h1, c, -, -, rfl⟩ := CH_s.mp h
    simp [CH_len t x h1]
theorem Sx_ad {x : List (Nat × Nat) × Nat} {t c n : Nat} (h : x.1.length = t) : (∀ i, i ≤ t → Sx (x.1 ++ [(x.2, c)], n) i = Sx x i) ∧ (∀ i, i < t → Cx (x.1 ++ [(x.2, c)], n) i = Cx x i) ∧ Cx (x.1 ++ [(x.2, c)], n) t = c ∧ Sx (x.1 ++ [(x.2, c)], n) (t + 1) = n ∧ Sx x t = x.2 := by
  refine ⟨fun i hi => ?_, fun i hi => ?_, ?_, ?_, ?_⟩
  · unfold Sx
    by_cases q : i < t
    · simp only [List.getElem?_append_left (show i < x.1.length by omega), List.getElem?_eq_getElem (show i < x.1.length by omega)]
    · have : i = x.1.length := by omega
      subst this
      simp
  · unfold Cx
    simp only [List.getElem?_append_left (show i < x.1.length by omega)]
  · subst h; unfold Cx; simp
  · subst h; unfold Sx
    rw [List.getElem?_eq_none (by simp)]
  · subst h; unfold Sx; simp
theorem CH_ch {κ : MI} : ∀ t y, y ∈ CH κ t → isCh κ (tgv κ) t (Sx y) (Cx y)
  | 0, y, h => by
    obtain ⟨s, h1, h⟩ := List.mem_flatMap.mp h
    obtain ⟨h2, rfl⟩ := one_mem.mp h
    exact ⟨⟨List.mem_range.mp h1, h2⟩, fun i hi => absurd hi (Nat.not_lt_zero i)⟩
  | t + 1, y, h => by
    obtain ⟨x, h1, c, h2, h3, rfl⟩ := CH_s.mp h
    obtain ⟨a, b, d, e, f⟩ := Sx_ad (c := c) (n := nxt κ (t : Int) x.2 c) (CH_len t x h1)
    have ih := CH_ch t x h1
    refine ⟨by rw [a 0 (Nat.zero_le _)]; exact ih.1, fun i hi => ?_⟩
    by_cases q : i < t
    · rw [a i (by omega), a (i + 1) (by omega), b i q]
      exact ih.2 i q
    · have : i = t := by omega
      subst this
      rw [a i (Nat.le_refl _), d, e, f]
      exact ⟨h2, h3, rfl⟩
theorem ch_CH {κ : MI} {S C : Nat → Nat} : ∀ t, isCh κ (tgv κ) t S C → ((List.range t).map (fun i => (S i, C i)), S t) ∈ CH κ t
  | 0, h => List.mem_flatMap.mpr ⟨S 0, List.mem_range.mpr h.1.1, one_mem.mpr ⟨h.1.2, rfl⟩⟩
  | t + 1, h => by
    obtain ⟨a, b, e⟩ := h.2 t (by omega)
    refine CH_s.mpr ⟨_, ch_CH t (h.pre (by omega)), C t, a, b, ?_⟩
    rw [List.range_succ, List.map_append, e]
    rfl
theorem Sx_mk {S C : Nat → Nat} {t : Nat} : (∀ i, i ≤ t → Sx ((List.range t).map (fun i => (S i, C i)), S t) i = S i) ∧ ∀ i, i < t → Cx ((List.range t).map (fun i => (S i, C i)), S t) i = C i := by
  refine ⟨fun i hi => ?_, fun i hi => ?_⟩
  · unfold Sx
    by_cases q : i < t
    · simp [List.getElem?_range, q]
    · have : i = t := by omega
      subst this
      simp
  · unfold Cx
    simp [List.getElem?_range, hi]
theorem nd_fm {α β : Type} {f : α → List β} : ∀ l : List α, l.Nodup → (∀ a ∈ l, (f a).Nodup) → (∀ a ∈ l, ∀ a' ∈ l, ∀ b, b ∈ f a → b ∈ f a' → a = a') → (l.flatMap f).Nodup
  | [], _, _, _ => by simp
  | a :: l, h1, h2, h3 => by
    rw [List.flatMap_cons, List.nodup_append]
    obtain ⟨n1, n2⟩ := List.nodup_cons.mp h1
    refine ⟨h2 a List.mem_cons_self, nd_fm l n2 (fun q hq => h2 q (List.mem_cons_of_mem _ hq)) (fun p hp q hq => h3 p (List.mem_cons_of_mem _ hp) q (List.mem_cons_of_mem _ hq)), ?_⟩
    rintro b hb b' hb' rfl
    obtain ⟨a', ha', hb'⟩ := List.mem_flatMap.mp hb'
    have := h3 a List.mem_cons_self a' (List.mem_cons_of_mem _ ha') b hb hb'
    subst this
    exact n1 ha'
theorem nd_one {β : Type} {c : Bool} {x : β} : (one c x).Nodup := by
  unfold one
  split <;> simp
theorem CH_nd (κ : MI) : ∀ t, (CH κ t).Nodup
  | 0 => by
    refine nd_fm _ List.nodup_range (fun _ _ => nd_one) (fun s _ s' _ b h h' => ?_)
    have e := (one_mem.mp h).2
    rw [(one_mem.mp h').2] at e
    exact (Prod.mk.inj e).2.symm
  | t + 1 => by
    refine nd_fm _ (CH_nd κ t) (fun x _ => nd_fm _ List.nodup_range (fun _ _ => nd_one) (fun c _ c' _ b h h' => ?_)) (fun x hx x' hx' b h h' => ?_)
    · have e := (one_mem.mp h).2
      rw [(one_mem.mp h').2] at e
      have e2 := List.append_inj_right' (Prod.mk.inj e).1 rfl
      simp at e2
      exact e2.symm
    · obtain ⟨c, -, h⟩ := List.mem_flatMap.mp h
      obtain ⟨c', -, h'⟩ := List.mem_flatMap.mp h'
      have e := (one_mem.mp h).2
      rw [(one_mem.mp h').2] at e
      have e1 := List.append_inj_left' (Prod.mk.inj e).1 rfl
      have e2 := List.append_inj_right' (Prod.mk.inj e).1 rfl
      simp at e2
      exact Prod.ext e1.symm e2.1.symm
theorem lsm_one {α : Type} {f : α → Int} {c : Bool} {x : α} : lsm f (one c x) = if c = true then f x else 0 := by
  unfold one
  split
  · show f x + 0 = f x
    omega
  · rfl
theorem lsm_mul {α : Type} {f : α → Int} (k : Int) : ∀ l : List α, lsm (fun a => k * f a) l = k * lsm f l
  | [] => (Int.mul_zero k).symm
  | a :: l => by
    show k * f a + lsm (fun a => k * f a) l = k * (f a + lsm f l)
    rw [lsm_mul k l, Int.mul_add]
/-- all that a state's moves come to -/
def sG (κ : MI) (t : Nat) (B : Nat → Int) (s : Nat) : Int := lsm (fun c => if vld κ (t : Int) s c = true then B (nxt κ (t : Int) s c) else 0) (List.range (mal κ (t : Int) s))
theorem sG_fm {κ : MI} {t s : Nat} {B : Nat → Int} : lsm (fun q : Nat × Nat => B q.2) ((List.range (mal κ (t : Int) s)).flatMap fun c => one (vld κ (t : Int) s c) (s, nxt κ (t : Int) s c)) = sG κ t B s := by
  rw [lsm_fm]
  exact lsm_cg _ (fun c _ => lsm_one)
theorem Fx_CH {κ : MI} (hH : iHs κ) (hS : iSc κ) : ∀ t (g : Nat → Int), smi (fun s => g s * Fx κ t s) (nst κ) = lsm (fun x => g x.2) (CH κ t)
  | 0, g => by
    show _ = lsm _ ((List.range (nst κ)).flatMap _)
    rw [lsm_fm, smi_lsm]
    refine lsm_cg _ (fun s _ => ?_)
    rw [lsm_one]
    show g s * (if begb κ s = true then 1 else 0) = _
    split
    · exact Int.mul_one _
    · exact Int.mul_zero _
  | t + 1, g => by
    show smi (fun s => g s * lsm (fun q : Nat × Nat => if q.2 = s then Fx κ t q.1 else 0) (stl κ t)) (nst κ) = lsm _ ((CH κ t).flatMap _)
    rw [grp (fun q : Nat × Nat => q.2) (fun q => Fx κ t q.1) g (nst κ) (stl κ t) (fun q hq => by
      obtain ⟨c, h1, h2, -, h4⟩ := stl_mem hq
      show q.2 < nst κ
      rw [h4]
      exact nxt_lt hH (nst_1728 hH hS h1) c)]
    rw [lsm_fm]
    have h1 : lsm (fun q : Nat × Nat => g q.2 * Fx κ t q.1) (stl κ t) = smi (fun s => sG κ t g s * Fx κ t s) (nst κ) := by
      unfold stl
      rw [lsm_fm, smi_lsm]
      refine lsm_cg _ (fun s _ => ?_)
      rw [← sG_fm, Int.mul_comm, ← lsm_mul]
      refine lsm_cg _ (fun q hq => ?_)
      obtain ⟨c, -, hq⟩ := List.mem_flatMap.mp hq
      rw [(one_mem.mp hq).2]
      exact Int.mul_comm _ _
    rw [h1, Fx_CH hH hS t (sG κ t g)]
    refine lsm_cg _ (fun x _ => ?_)
    rw [lsm_fm]
    refine (lsm_cg _ (fun c _ => ?_))
    exact (lsm_one (f := fun x : List (Nat × Nat) × Nat => g x.2) (c := vld κ (t : Int) x.2 c) (x := (x.1 ++ [(x.2, c)], nxt κ (t : Int) x.2 c))).symm
theorem Rx_s {κ : MI} {t s : Nat} (ht : t < lst κ) (hs : s < nst κ) : Rx κ (lst κ - t) s = sG κ t (Rx κ (lst κ - (t + 1))) s := by
  have e : lst κ - t = (lst κ - (t + 1)) + 1 := by omega
  rw [e]
  show lsm (fun q : Nat × Nat => if q.1 = s then Rx κ (lst κ - (t + 1)) q.2 else 0) (stl κ (lst κ - (lst κ - (t + 1) + 1))) = _
  rw [show lst κ - (lst κ - (t + 1) + 1) = t by omega]
  unfold stl
  rw [stl_from, if_pos hs, sG_fm]
/-- through the states of a minute -/
theorem FR_CH {κ : MI} (hH : iHs κ) (hS : iSc κ) {t0 : Nat} (f : Nat → Int) : ∀ d, t0 + d ≤ lst κ → lsm (fun x => f (Sx x t0) * Rx κ (lst κ - (t0 + d)) x.2) (CH κ (t0 + d)) = smi (fun s => f s * (Fx κ t0 s * Rx κ (lst κ - t0) s)) (nst κ)
  | 0, _ => by
    have h := Fx_CH hH hS t0 (fun s => f s * Rx κ (lst κ - t0) s)
    have h2 : smi (fun s => f s * (Fx κ t0 s * Rx κ (lst κ - t0) s)) (nst κ) = smi (fun s => (f s * Rx κ (lst κ - t0) s) * Fx κ t0 s) (nst κ) := smi_cg _ (fun s _ => by rw [Int.mul_comm (Fx κ t0 s), Int.mul_assoc])
    rw [h2, h]
    refine lsm_cg _ (fun x hx => ?_)
    show f (Sx x t0) * Rx κ (lst κ - (t0 + 0)) x.2 = f x.2 * Rx κ (lst κ - t0) x.2
    rw [(Sx_ad (c := 0) (n := 0) (CH_len t0 x hx)).2.2.2.2]
    rfl
  | d + 1, hd => by
    rw [← FR_CH hH hS f d (by omega)]
    show lsm (fun x => f (Sx x t0) * Rx κ (lst κ - (t0 + d + 1)) x.2) ((CH κ (t0 + d)).flatMap fun x => (List.range (mal κ ((t0 + d : Nat) : Int) x.2)).flatMap fun c => one (vld κ ((t0 + d : Nat) : Int) x.2 c) (x.1 ++ [(x.2, c)], nxt κ ((t0 + d : Nat) : Int) x.2 c)) = _
    rw [lsm_fm]
    refine lsm_cg _ (fun x hx => ?_)
    have hl := CH_len (t0 + d) x hx
    have hch := CH_ch (t0 + d) x hx
    have hs := hch.lt hH hS (t0 + d) (Nat.le_refl _)
    rw [(Sx_ad (c := 0) (n := 0) hl).2.2.2.2] at hs
    rw [Rx_s (by omega) hs, lsm_fm]
    unfold sG
    rw [← lsm_mul]
    refine lsm_cg _ (fun c _ => ?_)
    rw [lsm_one]
    have e := (Sx_ad (c := c) (n := nxt κ ((t0 + d : Nat) : Int) x.2 c) hl).1 t0 (by omega)
    by_cases q : vld κ ((t0 + d : Nat) : Int) x.2 c = true
    · rw [if_pos q, if_pos q, e]
    · rw [if_neg q, if_neg q, Int.mul_zero]
theorem thr_CH {κ : MI} (hH : iHs κ) (hS : iSc κ) {t : Nat} (ht : t ≤ lst κ) (f : Nat → Int) : smi (fun s => f s * (Fx κ t s * Rx κ (lst κ - t) s)) (nst κ) = lsm (fun x => f (Sx x t)) (CH κ (lst κ)) := by
  have h := FR_CH hH hS (t0 := t) f (lst κ - t) (by omega)
  rw [show t + (lst κ - t) = lst κ by omega] at h
  rw [← h]
  refine lsm_cg _ (fun x _ => ?_)
  rw [Nat.sub_self]
  show f (Sx x t) * 1 = f (Sx x t)
  exact Int.mul_one _
/-- as many of one list as of another -/
theorem inj_len {α β : Type} (r : α → β → Prop) : ∀ (A : List α) (B : List β), A.Nodup → (∀ a, a ∈ A → ∃ b, b ∈ B ∧ r a b) → (∀ a a' b, a ∈ A → a' ∈ A → r a b → r a' b → a = a') → A.length ≤ B.length
  | [], B, _, _, _ => Nat.zero_le _
  | a :: A, B, h1, h2, h3 => by
    obtain ⟨n1, n2⟩ := List.nodup_cons.mp h1
    obtain ⟨b, hb, hr⟩ := h2 a List.mem_cons_self
    obtain ⟨B1, B2, rfl⟩ := List.append_of_mem hb
    have ih := inj_len r A (B1 ++ B2) n2 (fun a' ha' => by
      obtain ⟨b', hb', hr'⟩ := h2 a' (List.mem_cons_of_mem _ ha')
      refine ⟨b', ?_, hr'⟩
      rcases List.mem_append.mp hb' with q | q
      · exact List.mem_append.mpr (Or.inl q)
      · rcases List.mem_cons.mp q with q | q
        · subst q
          have e := h3 a a' b' List.mem_cons_self (List.mem_cons_of_mem _ ha') hr hr'
          subst e
          exact absurd ha' n1
        · exact List.mem_append.mpr (Or.inr q)) (fun p q b hp hq => h3 p q b (List.mem_cons_of_mem _ hp) (List.mem_cons_of_mem _ hq))
    simp only [List.length_append, List.length_cons] at ih ⊢
    omega
theorem lsm_len {α : Type} (p : α → Bool) : ∀ l : List α, lsm (fun x => if p x = true then 1 else 0) l = ((l.filter p).length : Int)
  | [] => rfl
  | a :: l => by
    show (if p a = true then (1 : Int) else 0) + lsm (fun x => if p x = true then 1 else 0) l = _
    rw [lsm_len p l]
    by_cases q : p a = true
    · rw [if_pos q, List.filter_cons_of_pos q, List.length_cons]; omega
    · rw [if_neg q, List.filter_cons_of_neg q]; omega

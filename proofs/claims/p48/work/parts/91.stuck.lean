/-! CLASS AND REFERENCE: a board that stuck. -/
/-- two memories of one scene, but for the stuck board -/
def Sk (κ κ' : MI) : Prop := (∀ c j, c ≠ 0 → κ' c j = κ c j) ∧ ∀ j, j ≠ 36 → j ≠ 37 → κ' 0 j = κ 0 j
section
variable {κ κ' : MI}
theorem sk7 (h : Sk κ κ') (j : Int) : κ' 7 j = κ 7 j := h.1 7 j (by omega)
theorem sk8 (h : Sk κ κ') (j : Int) : κ' 8 j = κ 8 j := h.1 8 j (by omega)
theorem sk13 (h : Sk κ κ') (j : Int) : κ' 13 j = κ 13 j := h.1 13 j (by omega)
theorem sk14 (h : Sk κ κ') (j : Int) : κ' 14 j = κ 14 j := h.1 14 j (by omega)
theorem sk15 (h : Sk κ κ') (j : Int) : κ' 15 j = κ 15 j := h.1 15 j (by omega)
theorem sk16 (h : Sk κ κ') (j : Int) : κ' 16 j = κ 16 j := h.1 16 j (by omega)
theorem sk17 (h : Sk κ κ') (j : Int) : κ' 17 j = κ 17 j := h.1 17 j (by omega)
theorem us_sk (h : Sk κ κ') : us κ' = us κ := by unfold us; rw [h.2 34 (by omega) (by omega)]
theorem lst_sk (h : Sk κ κ') : lst κ' = lst κ := by unfold lst; rw [h.2 14 (by omega) (by omega)]
theorem nst_sk (h : Sk κ κ') : nst κ' = nst κ := by unfold nst; rw [us_sk h]
theorem rsK_sk (h : Sk κ κ') : rsK κ' = rsK κ := by funext s; unfold rsK; rw [us_sk h]
theorem okb_sk (h : Sk κ κ') : okb κ' = okb κ := by
  funext t s
  unfold okb
  simp only [us_sk h, rsK_sk h, sk15 h, sk16 h, sk17 h, h.2 11 (by omega) (by omega)]
theorem begb_sk (h : Sk κ κ') : begb κ' = begb κ := by
  funext s
  unfold begb
  simp only [us_sk h, okb_sk h, sk8 h]
theorem mcd_sk (h : Sk κ κ') : mcd κ' = mcd κ := by
  funext t s w d
  unfold mcd
  simp only [sk7 h, sk14 h]
theorem mto_sk (h : Sk κ κ') : mto κ' = mto κ := by
  funext s w d
  unfold mto
  simp only [sk7 h, sk8 h]
theorem mlp_sk (h : Sk κ κ') : mlp κ' = mlp κ := by
  funext t s w d
  induction d with
  | zero => rfl
  | succ d ih => unfold mlp; rw [ih, mcd_sk h, mto_sk h]
theorem mvl_sk (h : Sk κ κ') : mvl κ' = mvl κ := by
  funext t s w
  unfold mvl
  rw [mlp_sk h, h.2 12 (by omega) (by omega)]
theorem mal_sk (h : Sk κ κ') : mal κ' = mal κ := by funext t s; unfold mal; rw [mvl_sk h, us_sk h]
theorem mvd_sk (h : Sk κ κ') : mvd κ' = mvd κ := by funext t s c w; unfold mvd mix; rw [mvl_sk h]
theorem mvt_sk (h : Sk κ κ') : mvt κ' = mvt κ := by funext t s c w; unfold mvt mix; rw [mvl_sk h]
theorem pas_sk (h : Sk κ κ') : pas κ' = pas κ := by funext t s c; unfold pas; rw [mvd_sk h, us_sk h]
theorem nxt_sk (h : Sk κ κ') : nxt κ' = nxt κ := by funext t s c; unfold nxt; rw [mvt_sk h, us_sk h]
end
def skM (κ : MI) (d s : Int) : MI := m_up (m_up κ 0 36 d) 0 37 s
theorem skM_k (κ : MI) (d s : Int) : Sk κ (skM κ d s) := ⟨fun c j h => by unfold skM; rw [m_up_ne h, m_up_ne h], fun j h1 h2 => by unfold skM; rw [m_up_nj h2, m_up_nj h1]⟩
theorem skM_by {κ : MI} {d s : Int} (hd : 0 ≤ d) (t : Int) : byK (skM κ d s) t = if s ≤ t then z_and (κ 0 35) (z_xor (z_shl 1 d) (-1)) else κ 0 35 := by
  unfold byK skM
  rw [m_up_nj (show (36 : Int) ≠ 37 by decide), m_up_eq, m_up_eq, m_up_nj (show (35 : Int) ≠ 37 by decide), m_up_nj (show (35 : Int) ≠ 36 by decide)]
  by_cases q : s ≤ t
  · rw [if_pos ⟨hd, q⟩, if_pos q]
  · rw [if_neg (fun z => q z.2), if_neg q]
/-- ahead of the minute it stuck nothing is otherwise -/
theorem sk_low {κ : MI} {d : Int} {s : Nat} (hd : 0 ≤ d) (h36 : κ 0 36 = -9) : ∀ t, t ≤ s → ∀ x, 0 < Fr (skM κ d (s : Int)) t x ↔ 0 < Fr κ t x
  | 0, _, x => by
    show 0 < (if begb (skM κ d (s : Int)) x then (1 : Int) else 0) ↔ 0 < (if begb κ x then (1 : Int) else 0)
    rw [begb_sk (skM_k κ d s)]
  | t + 1, ht, x => by
    have e := skM_k κ d (s : Int)
    have hv : ∀ s0 c, vld (skM κ d (s : Int)) (t : Int) s0 c = vld κ (t : Int) s0 c := fun s0 c => by
      have e2 : byK κ (t : Int) = κ 0 35 := by unfold byK; rw [if_neg (by omega)]
      unfold vld
      rw [pas_sk e, sk13 e, okb_sk e, nxt_sk e, skM_by hd, if_neg (by omega), e2]
    have ihl : ∀ x, 0 < Fr (skM κ d (s : Int)) t x ↔ 0 < Fr κ t x := sk_low hd h36 t (by omega)
    rw [Fr_pos, Fr_pos]
    simp only [hv, nst_sk e, mal_sk e, nxt_sk e, ihl]
/-- who can be at t with a board that stuck from s on -/
def Psk (κ : MI) (d : Int) (f e b t x s : Nat) : Prop := f ≤ s ∧ s < b ∧ s < e ∧ 0 < Fr (skM κ d (s : Int)) t x
def MSR (κ J : MI) (p h n : Nat) (d : Int) (f e b t : Nat) (K : Nat → Int) : Prop := ∀ x, x < n → (K x = 0 ∧ ∀ s, ¬ Psk κ d f e b t (sgX J p h x) s) ∨ ∃ s : Nat, Psk κ d f e b t (sgX J p h x) s ∧ K x = (s : Int) + 1 ∧ ∀ s', Psk κ d f e b t (sgX J p h x) s' → s' ≤ s
theorem max_fold {α : Type} (g : α → Prop) [DecidablePred g] (f : α → Int) : ∀ (l : List α) (w : Int), 0 ≤ w → (∀ q, q ∈ l → g q → 1 ≤ f q) → ∀ r, r = l.foldl (fun w q => if g q then max w (f q) else w) w → (r = w ∨ ∃ q, q ∈ l ∧ g q ∧ r = f q) ∧ w ≤ r ∧ ∀ q, q ∈ l → g q → f q ≤ r
  | [], w, hw, _, r, hr => by
    have e : r = w := hr
    exact ⟨Or.inl e, by omega, fun q h => absurd h (List.not_mem_nil)⟩
  | a :: l, w, hw, hf, r, hr => by
    rw [List.foldl_cons] at hr
    by_cases z : g a
    · have ha := hf a List.mem_cons_self z
      rw [if_pos z] at hr
      obtain ⟨h1, h2, h3⟩ := max_fold g f l _ (by omega) (fun q hq => hf q (List.mem_cons_of_mem _ hq)) r hr
      refine ⟨?_, by omega, fun q hq gq => ?_⟩
      · rcases h1 with h1 | ⟨q, q1, q2⟩
        · by_cases y : w ≤ f a
          · exact Or.inr ⟨a, List.mem_cons_self, z, by omega⟩
          · exact Or.inl (by omega)
        · exact Or.inr ⟨q, List.mem_cons_of_mem _ q1, q2⟩
      · rcases List.mem_cons.mp hq with rfl | hq
        · omega
        · exact h3 q hq gq
    · rw [if_neg z] at hr
      obtain ⟨h1, h2, h3⟩ := max_fold g f l w hw (fun q hq => hf q (List.mem_cons_of_mem _ hq)) r hr
      refine ⟨?_, h2, fun q hq gq => ?_⟩
      · rcases h1 with h1 | ⟨q, q1, q2⟩
        · exact Or.inl h1
        · exact Or.inr ⟨q, List.mem_cons_of_mem _ q1, q2⟩
      · rcases List.mem_cons.mp hq with rfl | hq
        · exact absurd gq z
        · exact h3 q hq gq
/-- what the trial plan hears is what the scene hears with the board stuck -/
def hSk (J κ : MI) (p t : Nat) (d : Int) : Prop := J p 2 = z_and (κ 0 35) (z_xor (z_shl 1 d) (-1)) ∧ z_and (J (p + 1) (t : Int)) (J p 2) = κ 13 (t : Int)
theorem sk_vld {J κ : MI} {p t s0 c : Nat} {d : Int} {s : Nat} (hd : 0 ≤ d) (hs : s ≤ t) (hk : hSk J κ p t d) : (z_and (pas κ (t : Int) s0 c) (J p 2) = z_and (J (p + 1) (t : Int)) (J p 2) ∧ okb κ ((t : Int) + 1) (nxt κ (t : Int) s0 c) = true) ↔ vld (skM κ d (s : Int)) (t : Int) s0 c = true := by
  have e := skM_k κ d (s : Int)
  unfold vld
  rw [pas_sk e, sk13 e, okb_sk e, nxt_sk e, skM_by hd, if_pos (by omega), Bool.and_eq_true, beq_iff_eq, hk.2, hk.1]
theorem sk_sup {J κ : MI} {p h n : Nat} {d : Int} {s : Nat} (k : PK J p h n κ) (hd : 0 ≤ d) (h36 : κ 0 36 = -9) (hsup : SUP J p h n (nst κ) (Fr κ s)) (hk : ∀ t : Nat, s ≤ t → (t : Int) < J h 3 → hSk J κ p t d) : ∀ u t : Nat, t = s + u → (t : Int) ≤ J h 3 → SUP J p h n (nst κ) (Fr (skM κ d (s : Int)) t)
  | 0, t, e, ht => by
    have e2 : t = s := by omega
    subst e2
    intro x hx hF
    exact hsup x hx ((sk_low hd h36 t (Nat.le_refl _) x).mp hF)
  | u + 1, t, e, ht => by
    obtain ⟨v, rfl⟩ : ∃ v, t = v + 1 := ⟨t - 1, by omega⟩
    have es := skM_k κ d (s : Int)
    intro x hx hF
    obtain ⟨s0, c, c1, c2, c3, c4, c5⟩ := Fr_pos.mp hF
    rw [nst_sk es] at c1
    rw [mal_sk es] at c3
    rw [nxt_sk es] at c5
    obtain ⟨j, hj, rfl⟩ := sk_sup k hd h36 hsup hk u v (by omega) (by omega) s0 c1 c2
    obtain ⟨y, D, hy, hm, hf, e3⟩ := (stp_memG k hj (by omega) (fun s2 _ => s2 = x)).mpr ⟨c, c3, (sk_vld hd (by omega) (hk v (by omega) (by omega))).mpr c4, c5⟩
    exact ⟨y, hy, e3⟩
theorem most_step {J κ : MI} {p h n t f e : Nat} {d : Int} (k : PK J p h n κ) (ht : (t : Int) < J h 3) (hd : 0 ≤ d) (h36 : κ 0 36 = -9) (hft : f ≤ t) (hsup : ∀ s : Nat, (s : Int) ≤ J h 3 → SUP J p h n (nst κ) (Fr κ s)) (hk : ∀ t : Nat, f ≤ t → (t : Int) < J h 3 → hSk J κ p t d) {K : Nat → Int} (r : MSR κ J p h n d f e (t + 1) t K) :
    MSR κ J p h n d f e (t + 1) (t + 1) (fun x => if ftX J p (x : Int) ((t : Int) + 1) = true then (clS J p h (t : Int) (fun j => decide (K j ≠ 0)) n).foldl (fun w q => if q.2.1.toNat = x then max w (K q.1) else w) 0 else 0) := by
  have hl := PK_last k
  intro x hx
  simp only
  -- what is behind a P of x at t + 1
  have back : ∀ s, Psk κ d f e (t + 1) (t + 1) (sgX J p h x) s → ftX J p (x : Int) ((t : Int) + 1) = true ∧ ∃ q0, q0 ∈ clS J p h (t : Int) (fun j => decide (K j ≠ 0)) n ∧ q0.2.1.toNat = x ∧ (s : Int) + 1 ≤ K q0.1 := by
    rintro s ⟨p1, p2, p3, p4⟩
    have es := skM_k κ d (s : Int)
    obtain ⟨s0, c, c1, c2, c3, c4, c5⟩ := Fr_pos.mp p4
    rw [nst_sk es] at c1
    rw [mal_sk es] at c3
    rw [nxt_sk es] at c5
    obtain ⟨j, hj, rfl⟩ := sk_sup k hd h36 (hsup s (by omega)) (fun t' h1 h2 => hk t' (by omega) h2) (t - s) t (by omega) (by omega) s0 c1 c2
    obtain ⟨y, D, hy, hm, hf, e3⟩ := (stp_memG k hj ht (fun s2 _ => s2 = sgX J p h x)).mpr ⟨c, c3, (sk_vld hd (by omega) (hk t hft ht)).mpr c4, c5⟩
    have e2 := sgX_inj k.1 hy hx e3
    subst e2
    refine ⟨hf, (j, ((y : Int), D)), ?_, Int.toNat_natCast y, ?_⟩
    · refine List.mem_flatMap.mpr ⟨j, List.mem_range.mpr hj, ?_⟩
      rcases r j hj with ⟨z1, z2⟩ | ⟨s1, z1, z2, z3⟩
      · exact absurd ⟨p1, p2, p3, c2⟩ (z2 s)
      · rw [if_pos (by rw [decide_eq_true_eq]; omega)]
        exact List.mem_map.mpr ⟨_, hm, rfl⟩
    · show (s : Int) + 1 ≤ K j
      rcases r j hj with ⟨z1, z2⟩ | ⟨s1, z1, z2, z3⟩
      · exact absurd ⟨p1, p2, p3, c2⟩ (z2 s)
      · have := z3 s ⟨p1, p2, p3, c2⟩
        omega
  by_cases q : ftX J p (x : Int) ((t : Int) + 1) = true
  · rw [if_pos q]
    obtain ⟨rr, hrr⟩ : ∃ rr, rr = (clS J p h (t : Int) (fun j => decide (K j ≠ 0)) n).foldl (fun w q => if q.2.1.toNat = x then max w (K q.1) else w) 0 := ⟨_, rfl⟩
    rw [← hrr]
    have forth : ∀ q0, q0 ∈ clS J p h (t : Int) (fun j => decide (K j ≠ 0)) n → q0.2.1.toNat = x → ∃ s : Nat, Psk κ d f e (t + 1) (t + 1) (sgX J p h x) s ∧ K q0.1 = (s : Int) + 1 := by
      rintro ⟨j, sp⟩ z1 z2
      obtain ⟨y1, y2, y3⟩ := clS_mem k.1 (Nat.le_refl n) z1
      have y1' : j < n := y1
      have y2' : K j ≠ 0 := by
        have : decide (K j ≠ 0) = true := y2
        rw [decide_eq_true_eq] at this
        exact this
      have y3' : sp ∈ stX J p h (t : Int) j := y3
      have z2' : sp.1.toNat = x := z2
      obtain ⟨⟨y, hy, ey⟩, -⟩ := stX_mem k.1 y1' y3'
      rw [ey, Int.toNat_natCast] at z2'
      subst z2'
      obtain ⟨c, c1, c2, c3⟩ := (stp_memG k y1' ht (fun s2 _ => s2 = sgX J p h y)).mp ⟨y, sp.2, hy, by rw [← ey]; exact y3', q, rfl⟩
      rcases r j y1' with ⟨w1, -⟩ | ⟨s, ⟨p1, p2, p3, p4⟩, w2, -⟩
      · exact absurd w1 y2'
      · have es := skM_k κ d (s : Int)
        refine ⟨s, ⟨p1, p2, p3, Fr_pos.mpr ⟨sgX J p h j, c, ?_, p4, ?_, (sk_vld hd (by omega) (hk t hft ht)).mp c2, ?_⟩⟩, w2⟩
        · rw [nst_sk es]; exact (sgX_lt k y1').1
        · rw [mal_sk es]; exact c1
        · rw [nxt_sk es]; exact c3
    obtain ⟨m1, m2, m3⟩ := max_fold (fun q : Nat × LT => q.2.1.toNat = x) (fun q : Nat × LT => K q.1) _ 0 (Int.le_refl _) (fun q0 z1 z2 => by
      obtain ⟨s, -, e⟩ := forth q0 z1 z2
      show 1 ≤ K q0.1
      omega) rr hrr
    rcases m1 with m1 | ⟨q0, z1, z2, m1⟩
    · refine Or.inl ⟨m1, fun s hs => ?_⟩
      obtain ⟨-, q0, z1, z2, z3⟩ := back s hs
      have := m3 q0 z1 z2
      omega
    · obtain ⟨s, hs, e⟩ := forth q0 z1 z2
      refine Or.inr ⟨s, hs, m1.trans e, fun s' hs' => ?_⟩
      obtain ⟨-, q1, y1, y2, y3⟩ := back s' hs'
      have := m3 q1 y1 y2
      have m1' : rr = K q0.1 := m1
      omega
  · rw [if_neg q]
    exact Or.inl ⟨rfl, fun s hs => q (back s hs).1⟩


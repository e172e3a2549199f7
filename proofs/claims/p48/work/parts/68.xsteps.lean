/-! THE CLASS: what the moves are; what a step keeps. -/
theorem mvA_c {I J : MI} {p h : Nat} {t : Int} {w : Nat} (hp : 24 ≤ p) (hh : 24 ≤ h) (e : ∀ c i, 24 ≤ c → J c i = I c i) (s : Nat) : mvA J p h t w s = mvA I p h t w s := by
  unfold mvA
  rw [e p 1 hp, mvL_c hp hh e]
theorem mvS_c {I J : MI} {p h : Nat} {t : Int} {w : Nat} (hp : 24 ≤ p) (hh : 24 ≤ h) (e : ∀ c i, 24 ≤ c → J c i = I c i) : ∀ s : Nat, mvS J p h t w s = mvS I p h t w s
  | 0 => rfl
  | s + 1 => by
    unfold mvS
    rw [mvS_c hp hh e s, mvA_c hp hh e]
theorem dmL_in {I : MI} {p h n : Nat} (k : PQ I p h n) {t : Int} {w : Nat} {r : Int} (hw : (w : Int) < I p 1) : ∀ d : Nat, (d : Int) ≤ I h 1 → ∀ a ∈ dmL I p h t w r d, ∃ q : Nat, q < nW I p h w ∧ a.1 = (q : Int) * I (p + 6) (w : Int) ∧ 0 ≤ a.2 ∧ a.2 < 256
  | 0, _, a, ha => by exact absurd ha (List.not_mem_nil)
  | d + 1, hd, a, ha => by
    have hs : dmL I p h t w r (d + 1) = dmL I p h t w r d ++ if gdX I p h t w r (d : Int) then [((bhX I h (d : Int) r + tdX I h w) * I (p + 6) (w : Int), z_shl 1 (d : Int))] else [] := rfl
    rw [hs, List.mem_append] at ha
    rcases ha with ha | ha
    · exact dmL_in k hw d (by omega) a ha
    · by_cases g : gdX I p h t w r (d : Int) = true
      · rw [if_pos g, List.mem_singleton] at ha
        obtain ⟨k1, k2, k3, k4, -⟩ := k
        have kd := k3.2 d (by omega)
        have kp := k2.2.2 w (by omega)
        have kr := k2.1
        have kdd := k3.1
        unfold gdX at g
        rw [Bool.and_eq_true, decide_eq_true_eq] at g
        have hb : bhX I h (d : Int) r < I h 0 := by unfold bhX; split; omega; split <;> omega
        have hn : nW I p h w = (I h 0 * I (h + 3) (w : Int)).toNat := by unfold nW stW; rw [if_pos hw]
        have hq : 0 ≤ bhX I h (d : Int) r + tdX I h w ∧ bhX I h (d : Int) r + tdX I h w < I h 0 * I (h + 3) (w : Int) := by
          have e1 : I (h + 3) (w : Int) = 1 ∨ I (h + 3) (w : Int) = 2 := by omega
          unfold tdX
          rcases e1 with e1 | e1
          · rw [e1, if_neg (by omega)]; omega
          · rw [e1, if_pos rfl]; omega
        refine ⟨(bhX I h (d : Int) r + tdX I h w).toNat, by omega, ?_, ?_⟩
        · rw [ha, Int.toNat_of_nonneg hq.1]
        · rw [ha]
          exact sm8_r (sm8_1 (by omega))
      · rw [if_neg g] at ha
        exact absurd ha (List.not_mem_nil)
theorem mvA_in {I : MI} {p h n : Nat} (k : PQ I p h n) {t : Int} {w s : Nat} (hs : s < nW I p h w) {a : Int × Int} (ha : a ∈ mvA I p h t w s) : ∃ q : Nat, q < nW I p h w ∧ a.1 = (q : Int) * I (p + 6) (w : Int) ∧ 0 ≤ a.2 ∧ a.2 < 256 := by
  have hr := nW_r k w
  unfold mvA at ha
  by_cases hw : (w : Int) < I p 1
  · rw [if_pos hw] at ha
    unfold mvL at ha
    rw [List.mem_append] at ha
    rcases ha with ha | ha
    · unfold stL at ha
      split at ha
      · rw [List.mem_singleton] at ha
        have k2 := k.2.1
        have k4 := k.2.2.2.1
        have kp := k2.2.2 w (by omega)
        have hn : nW I p h w = (I h 0 * I (h + 3) (w : Int)).toNat := by unfold nW stW; rw [if_pos hw]
        have e1 : I (h + 3) (w : Int) = 1 ∨ I (h + 3) (w : Int) = 2 := by omega
        have hq : 0 ≤ rmX I h (s : Int) ∧ rmX I h (s : Int) < I h 0 * I (h + 3) (w : Int) := by
          unfold rmX
          rcases e1 with e1 | e1 <;> rw [e1] at hn ⊢ <;> split <;> omega
        exact ⟨(rmX I h (s : Int)).toNat, by omega, by rw [ha, Int.toNat_of_nonneg hq.1], by rw [ha]; show (0 : Int) ≤ 0 ∧ (0 : Int) < 256; decide⟩
      · exact absurd ha (List.not_mem_nil)
    · split at ha
      · exact absurd ha (List.not_mem_nil)
      · have := k.2.2.1.1
        exact dmL_in k hw _ (by omega) a ha
  · rw [if_neg hw, List.mem_singleton] at ha
    exact ⟨0, by omega, by rw [ha]; simp, by rw [ha]; show (0 : Int) ≤ 0 ∧ (0 : Int) < 256; decide⟩
theorem stp_k {I : MI} {p h n : Nat} (k : PQ I p h n) {t : Int} {s0 s1 s2 : Nat} (h0 : s0 < nW I p h 0) (h1 : s1 < nW I p h 1) (h2 : s2 < nW I p h 2) {a b c : Int × Int} (ha : a ∈ mvA I p h t 0 s0) (hb : b ∈ mvA I p h t 1 s1) (hc : c ∈ mvA I p h t 2 s2) :
    ∃ q0 q1 q2 : Nat, q0 < nW I p h 0 ∧ q1 < nW I p h 1 ∧ q2 < nW I p h 2 ∧ a.1 + b.1 + c.1 = ((ix3 (nW I p h 0) (nW I p h 1) q0 q1 q2 : Nat) : Int) ∧ ix3 (nW I p h 0) (nW I p h 1) q0 q1 q2 < n := by
  obtain ⟨q0, l0, e0, -⟩ := mvA_in k h0 ha
  obtain ⟨q1, l1, e1, -⟩ := mvA_in k h1 hb
  obtain ⟨q2, l2, e2, -⟩ := mvA_in k h2 hc
  refine ⟨q0, q1, q2, l0, l1, l2, ?_, ?_⟩
  · rw [e0, e1, e2]
    exact PQ_ix k q0 q1 q2
  · rw [(PQ_n k).1]
    exact ix3_lt l0 l1 l2
/-- a step taken, on a memory -/
def lkT (p h na nb j : Nat) (s : LT) (M : MI × MI) : MI × MI := (lkI M.1 M.2 na s.1.toNat s.2.1 s.2.2.1 s.2.2.2, lkL M.1 M.2 p h na nb j s.1.toNat s.2.1 s.2.2.1 s.2.2.2)
/-- what steps keep -/
def lkV (J L : MI) (nb n : Nat) (M : MI × MI) : Prop := (∀ c i, c < 25 ∨ 28 < c → M.1 c i = J c i) ∧ (∀ c i, c ≠ nb → M.2 c i = L c i) ∧ ∀ x : Nat, x < n → (J 19 10 ≠ 1 → 0 ≤ M.2 nb (x : Int) ∧ M.2 nb (x : Int) ≤ 2305843009213693952) ∧ rL (M.2 nb (x : Int))
theorem capX_r {x : Int} (h : 0 ≤ x) : 0 ≤ capX x ∧ capX x ≤ 1000000000000001 := by unfold capX; split <;> omega
theorem lsr_r {a b m : Int} (ha : 0 ≤ a ∧ a ≤ m) (hb : 0 ≤ b ∧ b ≤ m) : 0 ≤ lsr a b ∧ lsr a b ≤ m := by unfold lsr; split <;> omega
theorem nt3_fr (I : MI) (d0 d1 d2 : Int) {c : Nat} (h : c < 25 ∨ 28 < c) (i : Int) : nt3 I d0 d1 d2 c i = I c i := by
  unfold nt3 ntX
  rw [m_up_ne (by omega), m_up_ne (by omega), m_up_ne (by omega), m_up_ne (by omega), m_up_ne (by omega), m_up_ne (by omega), m_up_ne (by omega), m_up_ne (by omega)]
theorem lkV_st {J L : MI} {p h na nb n j : Nat} (hne : na ≠ nb) (hmd : J 19 10 = 0 ∨ J 19 10 = 1 ∨ J 19 10 = 2 ∨ J 19 10 = 3 ∨ J 19 10 = 4 ∨ J 19 10 = 5) (hm : J 19 10 = 2 → (0 ≤ J 19 13 ∧ J 19 13 ≤ 99) ∧ 0 ≤ J 19 14 ∧ J 19 14 ≤ 99)
    (hV : ∀ x : Nat, x < n → (J 19 10 ≠ 1 → 0 ≤ L na (x : Int) ∧ L na (x : Int) ≤ 1152921504606846976) ∧ rL (L na (x : Int))) {s : LT} (hj : j < n) (hk : 0 ≤ s.1 ∧ s.1 < n) {M : MI × MI} (g : lkV J L nb n M) : lkV J L nb n (lkT p h na nb j s M) := by
  obtain ⟨g1, g2, g3⟩ := g
  obtain ⟨k, d0, d1, d2⟩ := s
  obtain ⟨N, K⟩ := M
  have g1' : ∀ c i, c < 25 ∨ 28 < c → N c i = J c i := g1
  have g2' : ∀ c i, c ≠ nb → K c i = L c i := g2
  have g3' : ∀ x : Nat, x < n → (J 19 10 ≠ 1 → 0 ≤ K nb (x : Int) ∧ K nb (x : Int) ≤ 2305843009213693952) ∧ rL (K nb (x : Int)) := g3
  have hk' : 0 ≤ k ∧ k < n := hk
  have e10 : N 19 10 = J 19 10 := g1' _ _ (by omega)
  have e13 : N 19 13 = J 19 13 := g1' _ _ (by omega)
  have e14 : N 19 14 = J 19 14 := g1' _ _ (by omega)
  have up : ∀ (y : Nat) (v : Int), y < n → ((J 19 10 ≠ 1 → 0 ≤ v ∧ v ≤ 2305843009213693952) ∧ rL v) → (∀ c i, c ≠ nb → m_up K nb (y : Int) v c i = L c i) ∧ ∀ x : Nat, x < n → (J 19 10 ≠ 1 → 0 ≤ m_up K nb (y : Int) v nb (x : Int) ∧ m_up K nb (y : Int) v nb (x : Int) ≤ 2305843009213693952) ∧ rL (m_up K nb (y : Int) v nb (x : Int)) := by
    intro y v hy hv
    refine ⟨fun c i q => by rw [m_up_ne q]; exact g2' c i q, fun x hx => ?_⟩
    by_cases e : x = y
    · rw [e, m_up_eq]; exact hv
    · rw [m_up_nj (by omega)]; exact g3' x hx
  have vj := hV j hj
  have vk := hV k.toNat (by omega)
  have wj := g3' j hj
  have wk := g3' k.toNat (by omega)
  have ej : K na (j : Int) = L na (j : Int) := g2' _ _ hne
  have ek : K na (k.toNat : Int) = L na (k.toNat : Int) := g2' _ _ hne
  refine ⟨fun c i q => ?_, ?_⟩
  · show lkI N K na k.toNat d0 d1 d2 c i = J c i
    unfold lkI
    split
    · rw [nt3_fr N d0 d1 d2 q i]; exact g1' c i q
    · exact g1' c i q
  · show (∀ c i, c ≠ nb → lkL N K p h na nb j k.toNat d0 d1 d2 c i = L c i) ∧ ∀ x : Nat, x < n → (J 19 10 ≠ 1 → 0 ≤ lkL N K p h na nb j k.toNat d0 d1 d2 nb (x : Int) ∧ lkL N K p h na nb j k.toNat d0 d1 d2 nb (x : Int) ≤ 2305843009213693952) ∧ rL (lkL N K p h na nb j k.toNat d0 d1 d2 nb (x : Int))
    unfold lkL
    rw [e10, ej, ek]
    rcases hmd with m | m | m | m | m | m
    · rw [if_pos m]
      have := capX_r (x := K nb (k.toNat : Int) + L na (j : Int)) (by omega)
      exact up _ _ (by omega) ⟨fun _ => by omega, by omega⟩
    · rw [if_neg (by omega), if_pos m]
      exact up _ _ (by omega) ⟨fun q => absurd m q, z_lorl_r _ _⟩
    · rw [if_neg (by omega), if_neg (by omega), if_pos m]
      have pr := prX_r (I := N) (p := p) (h := h) (d := z_or (z_or d0 d1) d2) (by rw [e13]; exact (hm m).1) (by rw [e14]; exact (hm m).2)
      have := lsr_r (a := K nb (k.toNat : Int)) (b := L na (j : Int) + prX N p h (z_or (z_or d0 d1) d2)) (m := 2305843009213693952) (by omega) (by omega)
      exact up _ _ (by omega) ⟨fun _ => by omega, by omega⟩
    · rw [if_neg (by omega), if_neg (by omega), if_neg (by omega), if_pos m]
      exact up _ _ (by omega) ⟨fun _ => by omega, by omega⟩
    · rw [if_neg (by omega), if_neg (by omega), if_neg (by omega), if_neg (by omega), if_pos m]
      have := capX_r (x := K nb (j : Int) + L na (k.toNat : Int)) (by omega)
      exact up _ _ (by omega) ⟨fun _ => by omega, by omega⟩
    · rw [if_neg (by omega), if_neg (by omega), if_neg (by omega), if_neg (by omega), if_neg (by omega)]
      split
      · exact ⟨g2', g3'⟩
      · exact up _ _ (by omega) ⟨fun _ => by omega, by omega⟩
/-- the steps out of a joint state -/
def stX (J : MI) (p h : Nat) (t : Int) (j : Nat) : List LT := fnL (J p 2) (z_and (J (p + 1) t) (J p 2)) (mvA J p h t 0 (j % nW J p h 0)) (mvA J p h t 1 (j / nW J p h 0 % nW J p h 1)) (mvA J p h t 2 (j / nW J p h 0 / nW J p h 1))
/-- the sweep, state by state -/
def swX (J L : MI) (p h na nb t : Nat) (bk : Int) (M : MI × MI) : Nat → MI × MI
  | 0 => M
  | j + 1 => if (bk = 0 ∧ L na (j : Int) ≠ 0) ∨ (bk ≠ 0 ∧ inX L j t = true) then fo (lkT p h na nb j) (swX J L p h na nb t bk M j) (stX J p h (t : Int) j) else swX J L p h na nb t bk M j
def ftV (J L : MI) (p t : Nat) (x : Nat) (v : Int) : Int := if v ≠ 0 ∧ ¬ syX J L p x t = true then 0 else v
theorem syX_i {J J' L : MI} {p : Nat} (hp : 28 < p) (e : ∀ c i, c < 25 ∨ 28 < c → J' c i = J c i) (j t : Nat) : syX J' L p j t = syX J L p j t := by
  unfold syX ftX
  rw [e 19 _ (by omega), e (p + 7) _ (by omega), e (p + 4) _ (by omega), e (p + 3) _ (by omega)]


/-! THE CLASS: the Walks: what lives, and who passes which door. -/
def dW (s : LT) (w : Nat) : Int := if w = 0 then s.2.1 else if w = 1 then s.2.2.1 else s.2.2.2
theorem ntX_at {I : MI} {w d t : Int} (ht : I 19 11 = t) (i : Int) : ntX I w d 25 i = (if i = w * 31 + t then z_or (I 25 i) d else I 25 i) ∧ ntX I w d 26 i = (if i = w * 31 + t then z_and (I 26 i) d else I 26 i) ∧ ∀ c, c ≠ 25 → c ≠ 26 → ntX I w d c i = I c i := by
  unfold ntX
  rw [ht]
  refine ⟨?_, ?_, fun c h1 h2 => by rw [m_up_ne h2, m_up_ne h1]⟩
  · rw [m_up_ne (by decide)]
    by_cases e : i = w * 31 + t
    · rw [if_pos e, e, m_up_eq]
    · rw [if_neg e, m_up_nj e]
  · by_cases e : i = w * 31 + t
    · rw [if_pos e, e, m_up_eq]
    · rw [if_neg e, m_up_nj e, m_up_ne (by decide)]
theorem nt3_at {I : MI} {d0 d1 d2 t : Int} (ht : I 19 11 = t) (h0 : 0 ≤ t ∧ t < 31) : (∀ w : Nat, w < 3 → nt3 I d0 d1 d2 25 (31 * (w : Int) + t) = z_or (I 25 (31 * (w : Int) + t)) (dW (0, d0, d1, d2) w) ∧ nt3 I d0 d1 d2 26 (31 * (w : Int) + t) = z_and (I 26 (31 * (w : Int) + t)) (dW (0, d0, d1, d2) w)) ∧
    nt3 I d0 d1 d2 27 t = z_or (I 27 t) (z_or (z_or d0 d1) d2) ∧ nt3 I d0 d1 d2 28 t = z_and (I 28 t) (z_or (z_or d0 d1) d2) ∧
    (∀ i, ¬ (i = t ∨ i = 31 + t ∨ i = 62 + t) → nt3 I d0 d1 d2 25 i = I 25 i ∧ nt3 I d0 d1 d2 26 i = I 26 i) ∧ ∀ i, i ≠ t → nt3 I d0 d1 d2 27 i = I 27 i ∧ nt3 I d0 d1 d2 28 i = I 28 i := by
  have t0 : ntX I 0 d0 19 11 = t := ((ntX_at (w := 0) (d := d0) ht 11).2.2 19 (by decide) (by decide)).trans ht
  have t1 : ntX (ntX I 0 d0) 1 d1 19 11 = t := ((ntX_at (w := 1) (d := d1) t0 11).2.2 19 (by decide) (by decide)).trans t0
  have a25 : ∀ i, nt3 I d0 d1 d2 25 i = ntX (ntX (ntX I 0 d0) 1 d1) 2 d2 25 i := fun i => by unfold nt3; rw [m_up_ne (by decide), m_up_ne (by decide)]
  have a26 : ∀ i, nt3 I d0 d1 d2 26 i = ntX (ntX (ntX I 0 d0) 1 d1) 2 d2 26 i := fun i => by unfold nt3; rw [m_up_ne (by decide), m_up_ne (by decide)]
  have ot : ∀ c i, c ≠ 25 → c ≠ 26 → ntX (ntX (ntX I 0 d0) 1 d1) 2 d2 c i = I c i := fun c i h1 h2 => by rw [(ntX_at t1 i).2.2 c h1 h2, (ntX_at t0 i).2.2 c h1 h2, (ntX_at ht i).2.2 c h1 h2]
  refine ⟨ptri ?_ ?_ ?_, ?_, ?_, fun i hi => ?_, fun i hi => ?_⟩
  · rw [a25, a26, (ntX_at t1 _).1, (ntX_at t0 _).1, (ntX_at ht _).1, (ntX_at t1 _).2.1, (ntX_at t0 _).2.1, (ntX_at ht _).2.1]
    rw [if_neg (show ¬ 31 * ((0 : Nat) : Int) + t = 2 * 31 + t by omega), if_neg (show ¬ 31 * ((0 : Nat) : Int) + t = 1 * 31 + t by omega), if_pos (show 31 * ((0 : Nat) : Int) + t = 0 * 31 + t by omega)]
    rw [if_neg (show ¬ 31 * ((0 : Nat) : Int) + t = 2 * 31 + t by omega), if_neg (show ¬ 31 * ((0 : Nat) : Int) + t = 1 * 31 + t by omega), if_pos (show 31 * ((0 : Nat) : Int) + t = 0 * 31 + t by omega)]
    exact ⟨rfl, rfl⟩
  · rw [a25, a26, (ntX_at t1 _).1, (ntX_at t0 _).1, (ntX_at ht _).1, (ntX_at t1 _).2.1, (ntX_at t0 _).2.1, (ntX_at ht _).2.1]
    rw [if_neg (show ¬ 31 * ((1 : Nat) : Int) + t = 2 * 31 + t by omega), if_pos (show 31 * ((1 : Nat) : Int) + t = 1 * 31 + t by omega), if_neg (show ¬ 31 * ((1 : Nat) : Int) + t = 0 * 31 + t by omega)]
    rw [if_neg (show ¬ 31 * ((1 : Nat) : Int) + t = 2 * 31 + t by omega), if_pos (show 31 * ((1 : Nat) : Int) + t = 1 * 31 + t by omega), if_neg (show ¬ 31 * ((1 : Nat) : Int) + t = 0 * 31 + t by omega)]
    exact ⟨rfl, rfl⟩
  · rw [a25, a26, (ntX_at t1 _).1, (ntX_at t0 _).1, (ntX_at ht _).1, (ntX_at t1 _).2.1, (ntX_at t0 _).2.1, (ntX_at ht _).2.1]
    rw [if_pos (show 31 * ((2 : Nat) : Int) + t = 2 * 31 + t by omega), if_neg (show ¬ 31 * ((2 : Nat) : Int) + t = 1 * 31 + t by omega), if_neg (show ¬ 31 * ((2 : Nat) : Int) + t = 0 * 31 + t by omega)]
    rw [if_pos (show 31 * ((2 : Nat) : Int) + t = 2 * 31 + t by omega), if_neg (show ¬ 31 * ((2 : Nat) : Int) + t = 1 * 31 + t by omega), if_neg (show ¬ 31 * ((2 : Nat) : Int) + t = 0 * 31 + t by omega)]
    exact ⟨rfl, rfl⟩
  · unfold nt3
    rw [ht, m_up_ne (by decide), m_up_eq, ot 27 _ (by decide) (by decide)]
  · unfold nt3
    rw [ht, m_up_eq, ot 28 _ (by decide) (by decide)]
  · rw [a25, a26, (ntX_at t1 _).1, (ntX_at t0 _).1, (ntX_at ht _).1, (ntX_at t1 _).2.1, (ntX_at t0 _).2.1, (ntX_at ht _).2.1]
    rw [if_neg (show ¬ i = 2 * 31 + t by omega), if_neg (show ¬ i = 1 * 31 + t by omega), if_neg (show ¬ i = 0 * 31 + t by omega)]
    rw [if_neg (show ¬ i = 2 * 31 + t by omega), if_neg (show ¬ i = 1 * 31 + t by omega), if_neg (show ¬ i = 0 * 31 + t by omega)]
    exact ⟨rfl, rfl⟩
  · unfold nt3
    rw [ht, m_up_ne (by decide), m_up_nj hi, m_up_nj hi, m_up_ne (by decide), ot 27 _ (by decide) (by decide), ot 28 _ (by decide) (by decide)]
    exact ⟨rfl, rfl⟩
/-- the notes of a minute behind a list of steps -/
def NTf (V : Nat → Int) (t : Int) (l : List (Nat × LT)) (A B : MI) : Prop :=
  (∀ w : Nat, w < 3 → ∀ b, (tb (B 25 (31 * (w : Int) + t)) b = true ↔ tb (A 25 (31 * (w : Int) + t)) b = true ∨ ∃ q, q ∈ l ∧ V q.2.1.toNat ≠ 0 ∧ tb (dW q.2 w) b = true) ∧ (tb (B 26 (31 * (w : Int) + t)) b = true ↔ tb (A 26 (31 * (w : Int) + t)) b = true ∧ ∀ q, q ∈ l → V q.2.1.toNat ≠ 0 → tb (dW q.2 w) b = true)) ∧
  (∀ b, (tb (B 27 t) b = true ↔ tb (A 27 t) b = true ∨ ∃ q, q ∈ l ∧ V q.2.1.toNat ≠ 0 ∧ tb (z_or (z_or q.2.2.1 q.2.2.2.1) q.2.2.2.2) b = true) ∧ (tb (B 28 t) b = true ↔ tb (A 28 t) b = true ∧ ∀ q, q ∈ l → V q.2.1.toNat ≠ 0 → tb (z_or (z_or q.2.2.1 q.2.2.2.1) q.2.2.2.2) b = true)) ∧
  (∀ i, ¬ (i = t ∨ i = 31 + t ∨ i = 62 + t) → B 25 i = A 25 i ∧ B 26 i = A 26 i) ∧ ∀ i, i ≠ t → B 27 i = A 27 i ∧ B 28 i = A 28 i
theorem ex_cons {α : Type} {a : α} {l : List α} {P : α → Prop} {c : Prop} (h : c ↔ P a) : (c ∨ ∃ q, q ∈ l ∧ P q) ↔ ∃ q, q ∈ a :: l ∧ P q := by
  rw [h]
  constructor
  · rintro (q | ⟨q, h1, h2⟩)
    · exact ⟨a, List.mem_cons_self, q⟩
    · exact ⟨q, List.mem_cons_of_mem _ h1, h2⟩
  · rintro ⟨q, h1, h2⟩
    rcases List.mem_cons.mp h1 with rfl | h1
    · exact Or.inl h2
    · exact Or.inr ⟨q, h1, h2⟩
theorem nt_fold {L : MI} {p h na nb : Nat} {t : Int} (hne : na ≠ nb) (h0 : 0 ≤ t ∧ t < 31) : ∀ (l : List (Nat × LT)) (M : MI × MI), M.1 19 10 = 5 → M.1 19 11 = t → (∀ i, M.2 na i = L na i) → NTf (fun x => L na (x : Int)) t l M.1 (l.foldl (fun N q => lkT p h na nb q.1 q.2 N) M).1
  | [], M, _, _, _ => by
    refine ⟨fun w hw b => ⟨?_, ?_⟩, fun b => ⟨?_, ?_⟩, fun i hi => ⟨rfl, rfl⟩, fun i hi => ⟨rfl, rfl⟩⟩
    · exact ⟨Or.inl, fun z => z.elim id (fun ⟨q, z, _⟩ => absurd z (List.not_mem_nil))⟩
    · exact ⟨fun z => ⟨z, fun q z => absurd z (List.not_mem_nil)⟩, fun z => z.1⟩
    · exact ⟨Or.inl, fun z => z.elim id (fun ⟨q, z, _⟩ => absurd z (List.not_mem_nil))⟩
    · exact ⟨fun z => ⟨z, fun q z => absurd z (List.not_mem_nil)⟩, fun z => z.1⟩
  | q :: l, M, h10, h11, hL => by
    obtain ⟨j, k, d0, d1, d2⟩ := q
    have e1 : (lkT p h na nb j (k, d0, d1, d2) M).1 = if L na (k.toNat : Int) ≠ 0 then nt3 M.1 d0 d1 d2 else M.1 := by
      show lkI M.1 M.2 na k.toNat d0 d1 d2 = _
      unfold lkI
      rw [hL]
      by_cases z : L na (k.toNat : Int) ≠ 0
      · rw [if_pos ⟨h10, z⟩, if_pos z]
      · rw [if_neg (fun y => z y.2), if_neg z]
    have e2 : ∀ i, (lkT p h na nb j (k, d0, d1, d2) M).2 na i = L na i := fun i => by
      show lkL M.1 M.2 p h na nb j k.toNat d0 d1 d2 na i = _
      unfold lkL
      (repeat' split) <;> first | (rw [m_up_ne hne]; exact hL i) | exact hL i
    have f : ∀ c i, c < 25 → (lkT p h na nb j (k, d0, d1, d2) M).1 c i = M.1 c i := fun c i hc => by
      rw [e1]
      split
      · exact nt3_fr _ _ _ _ (Or.inl hc) i
      · rfl
    have ih := nt_fold (L := L) (p := p) (h := h) hne h0 l (lkT p h na nb j (k, d0, d1, d2) M) ((f 19 10 (by decide)).trans h10) ((f 19 11 (by decide)).trans h11) e2
    obtain ⟨i1, i2, i3, i4⟩ := ih
    rw [List.foldl_cons]
    obtain ⟨n1, n2, n3, n4, n5⟩ := nt3_at (d0 := d0) (d1 := d1) (d2 := d2) h11 h0
    refine ⟨fun w hw b => ⟨?_, ?_⟩, fun b => ⟨?_, ?_⟩, fun i hi => ?_, fun i hi => ?_⟩
    · rw [(i1 w hw b).1, ← ex_cons (P := fun q : Nat × LT => L na (q.2.1.toNat : Int) ≠ 0 ∧ tb (dW q.2 w) b = true) Iff.rfl, ← or_assoc]
      refine or_congr ?_ Iff.rfl
      rw [e1]
      by_cases z : L na (k.toNat : Int) ≠ 0
      · rw [if_pos z, (n1 w hw).1, tb_or, Bool.or_eq_true]
        exact or_congr Iff.rfl ⟨fun y => ⟨z, y⟩, fun y => y.2⟩
      · rw [if_neg z]
        exact ⟨Or.inl, fun y => y.elim id (fun y => absurd y.1 z)⟩
    · rw [(i1 w hw b).2, List.forall_mem_cons (p := fun q : Nat × LT => L na (q.2.1.toNat : Int) ≠ 0 → tb (dW q.2 w) b = true), ← and_assoc]
      refine and_congr ?_ Iff.rfl
      rw [e1]
      by_cases z : L na (k.toNat : Int) ≠ 0
      · rw [if_pos z, (n1 w hw).2, tb_and, Bool.and_eq_true]
        exact and_congr Iff.rfl ⟨fun y _ => y, fun y => y z⟩
      · rw [if_neg z]
        exact ⟨fun y => ⟨y, fun y2 => absurd y2 z⟩, fun y => y.1⟩
    · rw [(i2 b).1, ← ex_cons (P := fun q : Nat × LT => L na (q.2.1.toNat : Int) ≠ 0 ∧ tb (z_or (z_or q.2.2.1 q.2.2.2.1) q.2.2.2.2) b = true) Iff.rfl, ← or_assoc]
      refine or_congr ?_ Iff.rfl
      rw [e1]
      by_cases z : L na (k.toNat : Int) ≠ 0
      · rw [if_pos z, n2, tb_or (M.1 27 t), Bool.or_eq_true]
        exact or_congr Iff.rfl ⟨fun y => ⟨z, y⟩, fun y => y.2⟩
      · rw [if_neg z]
        exact ⟨Or.inl, fun y => y.elim id (fun y => absurd y.1 z)⟩
    · rw [(i2 b).2, List.forall_mem_cons (p := fun q : Nat × LT => L na (q.2.1.toNat : Int) ≠ 0 → tb (z_or (z_or q.2.2.1 q.2.2.2.1) q.2.2.2.2) b = true), ← and_assoc]
      refine and_congr ?_ Iff.rfl
      rw [e1]
      by_cases z : L na (k.toNat : Int) ≠ 0
      · rw [if_pos z, n3, tb_and, Bool.and_eq_true]
        exact and_congr Iff.rfl ⟨fun y _ => y, fun y => y z⟩
      · rw [if_neg z]
        exact ⟨fun y => ⟨y, fun y2 => absurd y2 z⟩, fun y => y.1⟩
    · rw [(i3 i hi).1, (i3 i hi).2, e1]
      split
      · exact n4 i hi
      · exact ⟨rfl, rfl⟩
    · rw [(i4 i hi).1, (i4 i hi).2, e1]
      split
      · exact n5 i hi
      · exact ⟨rfl, rfl⟩



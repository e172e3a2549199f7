/-! CLASS AND REFERENCE: a walker's moves; all steps out of a joint state. -/
def Bq (κ : MI) (t : Int) (s w : Nat) : List (Int × Int) := if w < us κ then mvl κ t s w else [(-1, 0)]
def clX (I : MI) (p h w : Nat) (q : Int) : Nat := if (w : Int) < I p 1 then (if q % 2 = 0 then (q / 2).toNat else (I h 0 + q / 2).toNat) else 0
def gdq (I : MI) (p : Nat) (t : Int) (w : Nat) (q : Int × Int) : Bool := if (w : Int) < I p 1 then mgX I p (w : Int) (q.2 / 2) (t + 1) && (decide (q.1 < 0) || opX I p q.1 t) else true
def phq (I : MI) (p h w : Nat) (q : Int × Int) : Int × Int := ((clX I p h w q.2 : Int) * I (p + 6) (w : Int), if q.1 < 0 then 0 else z_shl 1 q.1)
def one {β : Type} (c : Bool) (x : β) : List β := if c = true then [x] else []
theorem mlp_q {I κ : MI} {p h n j : Nat} (k : PK I p h n κ) (hj : j < n) {t : Int} {w : Nat} (hw : w < us κ) : ∀ d : Nat, (d : Int) ≤ I h 1 → ∀ q ∈ mlp κ t (sgX I p h j) w d, (-1 ≤ q.1 ∧ q.1 < (d : Int)) ∧ (0 ≤ q.2 ∧ q.2 ≤ 11) ∧ q.2 / 2 < I h 0 ∧ (q.2 % 2 ≠ 0 → I (h + 3) (w : Int) = 2) ∧ (0 ≤ q.1 → tb (κ 14 t) q.1.toNat = false)
  | 0, _, q, hq => by
    have hr := rm_sg k hj hw
    have h6 := k.1.2.1.1
    have e : q = (-1, 2 * ((rm (sgX I p h j) w : Nat) : Int)) := List.mem_singleton.mp hq
    rw [e]
    simp only
    omega
  | d + 1, hd, q, hq => by
    unfold mlp at hq
    rcases List.mem_append.mp hq with hq | hq
    · have h1 := mlp_q k hj hw d (by omega) q hq
      refine ⟨by omega, h1.2⟩
    · split at hq
      · rename_i hm
        have e : q = ((d : Int), mto κ (sgX I p h j) w d) := List.mem_singleton.mp hq
        have hr := rm_sg k hj hw
        have h6 := k.1.2.1.1
        have h8 := k.1.2.2.1.1
        obtain ⟨k1, k2, k3, k4, ⟨k5, k6, k7⟩, k8, k9, k10⟩ := id k
        have hdd := k2.2.2.2.2.1 (d : Int) (by omega) (by omega)
        have kw := k9 w (by have := PK_us k; omega)
        unfold mcd at hm
        rw [Bool.and_eq_true, Bool.or_eq_true, beq_iff_eq, beq_iff_eq, Bool.not_eq_true'] at hm
        rw [e]
        simp only
        unfold mto
        rw [← kw]
        refine ⟨by omega, ?_, ?_, ?_, fun _ => by rw [Int.toNat_natCast]; exact hm.2⟩
        · rcases hm.1 with q1 | q1 <;> split <;> omega
        · rcases hm.1 with q1 | q1 <;> split <;> omega
        · split
          · intro _; assumption
          · intro q2; omega
      · exact absurd hq (List.not_mem_nil)
theorem Bq_r {I κ : MI} {p h n j : Nat} (k : PK I p h n κ) (hj : j < n) {t : Int} {w : Nat} (hw : w < us κ) {q : Int × Int} (hq : q ∈ Bq κ t (sgX I p h j) w) : (-1 ≤ q.1 ∧ q.1 < 8) ∧ (0 ≤ q.2 ∧ q.2 ≤ 11) ∧ q.2 / 2 < I h 0 ∧ (q.2 % 2 ≠ 0 → I (h + 3) (w : Int) = 2) ∧ (0 ≤ q.1 → tb (κ 14 t) q.1.toNat = false) := by
  have h8 := k.1.2.2.1.1
  have k6 := k.2.2.2.2.1.2.1
  unfold Bq at hq
  rw [if_pos hw] at hq
  unfold mvl at hq
  split at hq
  · have h1 := mlp_q k hj hw (κ 0 12).toNat (by omega) q hq
    exact ⟨by omega, h1.2⟩
  · have h1 := mlp_q k hj hw 0 (by omega) q hq
    exact ⟨by omega, h1.2⟩
theorem mv_one {I κ : MI} {p h n j t w : Nat} (k : PK I p h n κ) (hj : j < n) (ht : (t : Int) < I h 3) (hw : w < us κ) : ∀ d : Nat, (d : Int) ≤ I h 1 → (mlp κ (t : Int) (sgX I p h j) w d).flatMap (fun q => one (gdq I p (t : Int) w q) (phq I p h w q)) = stL I p (t : Int) w (rmX I h (stJ I p h j w : Int)) ++ dmL I p h (t : Int) w (rmX I h (stJ I p h j w : Int)) d
  | 0, _ => by
    have u := PK_us k
    have hr := rm_sg k hj hw
    have h1 : mlp κ (t : Int) (sgX I p h j) w 0 = [(-1, 2 * ((rm (sgX I p h j) w : Nat) : Int))] := rfl
    have h2 : dmL I p h (t : Int) w (rmX I h (stJ I p h j w : Int)) 0 = [] := rfl
    rw [h1, h2, List.append_nil, List.flatMap_singleton, ← hr.1]
    generalize rm (sgX I p h j) w = r
    have e1 : gdq I p (t : Int) w (-1, 2 * (r : Int)) = mgX I p (w : Int) (r : Int) ((t : Int) + 1) := by
      unfold gdq
      rw [if_pos (by omega), show (2 * (r : Int)) / 2 = (r : Int) by omega]
      simp
    have e2 : phq I p h w (-1, 2 * (r : Int)) = ((r : Int) * I (p + 6) (w : Int), 0) := by
      unfold phq clX
      simp only
      rw [if_pos (by omega), if_pos (by omega), if_pos (by omega), show ((2 * (r : Int)) / 2).toNat = r by omega]
    rw [e1, e2]
    rfl
  | d + 1, hd => by
    have u := PK_us k
    have hr := rm_sg k hj hw
    have h2 : dmL I p h (t : Int) w (rmX I h (stJ I p h j w : Int)) (d + 1) = dmL I p h (t : Int) w (rmX I h (stJ I p h j w : Int)) d ++ if gdX I p h (t : Int) w (rmX I h (stJ I p h j w : Int)) (d : Int) then [((bhX I h (d : Int) (rmX I h (stJ I p h j w : Int)) + tdX I h w) * I (p + 6) (w : Int), z_shl 1 (d : Int))] else [] := rfl
    have h3 : mlp κ (t : Int) (sgX I p h j) w (d + 1) = mlp κ (t : Int) (sgX I p h j) w d ++ (if mcd κ (t : Int) (sgX I p h j) w d then [((d : Int), mto κ (sgX I p h j) w d)] else []) := rfl
    rw [h2, h3, List.flatMap_append, mv_one k hj ht hw d (by omega), List.append_assoc]
    congr 1
    congr 1
    rw [← hr.1]
    obtain ⟨k1, k2, k3, k4, ⟨k5, k6, k7⟩, k8, k9, k10⟩ := id k
    have hdd := k2.2.2.2.2.1 (d : Int) (by omega) (by omega)
    have kw := k9 w (by omega)
    obtain ⟨kd1, kd2⟩ := k8 d (by omega)
    have ksh := (k10 t (by omega)).2.1
    have h6 := k.1.2.1.1
    have h8 := k.1.2.2.1.1
    have kp := k.1.2.1.2.2 w (by have := k.1.2.2.2.1; omega)
    unfold mcd mto
    generalize rm (sgX I p h j) w = r at *
    by_cases hm : ((κ 7 (3 * (d : Int)) == (r : Int) || κ 7 (3 * (d : Int) + 1) == (r : Int)) && !tb (κ 14 (t : Int)) d) = true
    · rw [if_pos hm, List.flatMap_singleton]
      rw [Bool.and_eq_true, Bool.or_eq_true, beq_iff_eq, beq_iff_eq] at hm
      have hb : bhX I h (d : Int) (r : Int) = κ 7 (3 * (d : Int)) + κ 7 (3 * (d : Int) + 1) - (r : Int) := by
        unfold bhX
        rw [kd1, kd2]
        rcases hm.1 with q1 | q1
        · rw [if_pos q1]; omega
        · rw [if_neg (by omega), if_pos q1]; omega
      have hb0 : 0 ≤ κ 7 (3 * (d : Int)) + κ 7 (3 * (d : Int) + 1) - (r : Int) := by rcases hm.1 with q1 | q1 <;> omega
      unfold one gdq phq gdX tdX clX
      simp only
      rw [hb, kw]
      generalize κ 7 (3 * (d : Int)) + κ 7 (3 * (d : Int) + 1) - (r : Int) = b at *
      rw [if_pos (show (w : Int) < I p 1 by omega), decide_eq_true hb0, Bool.true_and, decide_eq_false (by omega), Bool.false_or, if_neg (show ¬ (d : Int) < 0 by omega), if_pos (show (w : Int) < I p 1 by omega)]
      by_cases q2 : κ 8 (2 * (w : Int)) = 2
      · rw [if_pos q2, if_pos q2, if_neg (show ¬ (2 * b + 1) % 2 = 0 by omega), show (2 * b + 1) / 2 = b by omega, Bool.and_comm, show ((I h 0 + b).toNat : Int) = b + I h 0 by omega]
      · rw [if_neg q2, if_neg q2, if_pos (show (2 * b + 0) % 2 = 0 by omega), show (2 * b + 0) / 2 = b by omega, Bool.and_comm, show (b.toNat : Int) = b + 0 by omega]
    · rw [if_neg hm, if_neg]
      · rfl
      · unfold gdX
        rw [Bool.and_eq_true, Bool.and_eq_true, decide_eq_true_eq]
        rintro ⟨g1, g2, -⟩
        apply hm
        rw [Bool.and_eq_true, Bool.or_eq_true, beq_iff_eq, beq_iff_eq]
        constructor
        · unfold bhX at g1
          rw [kd1, kd2] at g1
          by_cases q1 : κ 7 (3 * (d : Int)) = (r : Int)
          · exact Or.inl q1
          · by_cases q2 : κ 7 (3 * (d : Int) + 1) = (r : Int)
            · exact Or.inr q2
            · rw [if_neg q1, if_neg q2] at g1; omega
        · unfold opX at g2
          rw [Int.toNat_natCast, tb_or, ksh] at g2
          cases q : tb (κ 14 (t : Int)) d
          · rfl
          · rw [q] at g2; simp at g2
theorem mvA_B {I κ : MI} {p h n j t w : Nat} (k : PK I p h n κ) (hj : j < n) (ht : (t : Int) < I h 3) (hw3 : w < 3) : mvA I p h (t : Int) w (stJ I p h j w) = (Bq κ (t : Int) (sgX I p h j) w).flatMap (fun q => one (gdq I p (t : Int) w q) (phq I p h w q)) := by
  have u := PK_us k
  have k6 := k.2.2.2.2.1.2.1
  have h8 := k.1.2.2.1.1
  by_cases hw : w < us κ
  · have hr := plX_rm (w := w) k.1 (by omega) (stJ_lt k.1 hj w hw3)
    unfold mvA Bq mvl mvL
    rw [if_pos (by omega), if_pos hw, pl_sg k.1 hj hw3]
    by_cases q : (stJ I p h j w : Int) < I h 0
    · rw [if_pos (hr.2.1.mpr q), if_neg (by omega), mv_one k hj ht hw _ (by omega)]
      congr 2
      omega
    · rw [if_neg (fun z => q (hr.2.1.mp z)), if_pos (by omega), mv_one k hj ht hw 0 (by omega)]
      rfl
  · have e1 : gdq I p (t : Int) w (-1, 0) = true := by unfold gdq; rw [if_neg (by omega)]
    have e2 : phq I p h w (-1, 0) = (0, 0) := by
      unfold phq clX
      simp only
      rw [if_neg (by omega), if_pos (by omega)]
      simp
    unfold mvA Bq
    rw [if_neg (by omega), if_neg hw, List.flatMap_singleton, e1, e2]
    rfl
theorem clX_r {I κ : MI} {p h n j : Nat} (k : PK I p h n κ) (hj : j < n) {t : Int} {w : Nat} {q : Int × Int} (hq : q ∈ Bq κ t (sgX I p h j) w) : clX I p h w q.2 < nW I p h w ∧ plX I p h w (clX I p h w q.2) = q.2.toNat ∧ 0 ≤ q.2 := by
  have u := PK_us k
  have h6 := k.1.2.1.1
  have e := nW_e k.1 w
  by_cases hw : w < us κ
  · have h1 := Bq_r k hj hw hq
    have e1 := e.1 (by omega)
    have hwI : (w : Int) < I p 1 := by omega
    unfold clX plX
    rw [if_pos hwI, if_pos hwI]
    by_cases q2 : q.2 % 2 = 0
    · rw [if_pos q2, if_pos (show (((q.2 / 2).toNat : Nat) : Int) < I h 0 by omega)]; omega
    · rw [if_neg q2, if_neg (show ¬ (((I h 0 + q.2 / 2).toNat : Nat) : Int) < I h 0 by omega)]
      have := h1.2.2.2.1 q2
      omega
  · unfold Bq at hq
    rw [if_neg hw, List.mem_singleton] at hq
    have e2 := e.2 (by omega)
    have hwI : ¬ (w : Int) < I p 1 := by omega
    unfold clX plX
    rw [if_neg hwI, if_neg hwI, hq]
    exact ⟨by omega, rfl, Int.le_refl _⟩


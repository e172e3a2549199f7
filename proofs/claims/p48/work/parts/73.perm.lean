/-! CLASS AND REFERENCE: the steps out of a joint state are the same, in another order. -/
theorem one_fm {α β : Type} (c : Bool) (x : α) (f : α → List β) : (one c x).flatMap f = if c = true then f x else [] := by
  unfold one
  split
  · exact List.flatMap_singleton f x
  · rfl
/-- what three moves come to -/
def tgt (q0 q1 q2 : Int × Int) : Nat := q0.2.toNat + 12 * q1.2.toNat + 144 * q2.2.toNat
def dB (q : Int × Int) : Int := if q.1 < 0 then 0 else z_shl 1 q.1
def cnd (κ : MI) (hd wt t : Int) (q0 q1 q2 : Int × Int) : Bool := decide (z_and (z_or (z_or (dB q0) (dB q1)) (dB q2)) hd = wt) && okb κ (t + 1) (tgt q0 q1 q2)
abbrev PT : Type := Nat × Int × Int × Int
def pay (q0 q1 q2 : Int × Int) : PT := (tgt q0 q1 q2, dB q0, dB q1, dB q2)
theorem stJ_at {I : MI} {p h n c0 c1 c2 : Nat} (_ : PQ I p h n) (h0 : c0 < nW I p h 0) (h1 : c1 < nW I p h 1) : stJ I p h (ix3 (nW I p h 0) (nW I p h 1) c0 c1 c2) 0 = c0 ∧ stJ I p h (ix3 (nW I p h 0) (nW I p h 1) c0 c1 c2) 1 = c1 ∧ stJ I p h (ix3 (nW I p h 0) (nW I p h 1) c0 c1 c2) 2 = c2 := ix3_at h0 h1
theorem ptri {P : Nat → Prop} (h0 : P 0) (h1 : P 1) (h2 : P 2) : ∀ w, w < 3 → P w := by
  intro w hw
  have : w = 0 ∨ w = 1 ∨ w = 2 := by omega
  rcases this with rfl | rfl | rfl
  · exact h0
  · exact h1
  · exact h2
/-- three moves of the class: where they lead, and that none was left out -/
theorem stp_one {I κ : MI} {p h n j t : Nat} (k : PK I p h n κ) (hj : j < n) (ht : (t : Int) < I h 3) {q0 q1 q2 : Int × Int} (m0 : q0 ∈ Bq κ (t : Int) (sgX I p h j) 0) (m1 : q1 ∈ Bq κ (t : Int) (sgX I p h j) 1) (m2 : q2 ∈ Bq κ (t : Int) (sgX I p h j) 2) :
    ∃ x : Nat, x < n ∧ (phq I p h 0 q0).1 + (phq I p h 1 q1).1 + (phq I p h 2 q2).1 = (x : Int) ∧ sgX I p h x = tgt q0 q1 q2 ∧ (ftX I p (x : Int) ((t : Int) + 1) = okb κ ((t : Int) + 1) (tgt q0 q1 q2)) ∧
      (cnd κ (I p 2) (z_and (I (p + 1) (t : Int)) (I p 2)) (t : Int) q0 q1 q2 = true → gdq I p (t : Int) 0 q0 = true ∧ gdq I p (t : Int) 1 q1 = true ∧ gdq I p (t : Int) 2 q2 = true) := by
  have u := PK_us k
  obtain ⟨l0, e0, n0⟩ := clX_r k hj m0
  obtain ⟨l1, e1, n1⟩ := clX_r k hj m1
  obtain ⟨l2, e2, n2⟩ := clX_r k hj m2
  obtain ⟨x, hx⟩ : ∃ x, x = ix3 (nW I p h 0) (nW I p h 1) (clX I p h 0 q0.2) (clX I p h 1 q1.2) (clX I p h 2 q2.2) := ⟨_, rfl⟩
  have hxn : x < n := by rw [hx, (PQ_n k.1).1]; exact ix3_lt l0 l1 l2
  obtain ⟨a0, a1, a2⟩ := stJ_at (c2 := clX I p h 2 q2.2) k.1 l0 l1
  rw [← hx] at a0 a1 a2
  have hs : sgX I p h x = tgt q0 q1 q2 := by
    rw [sgX_e, a0, a1, a2, e0, e1, e2]
    rfl
  have hft : ftX I p (x : Int) ((t : Int) + 1) = true ↔ okb κ ((t : Int) + 1) (tgt q0 q1 q2) = true := by
    have h1 := ft_ok (t := t + 1) k hxn (by omega)
    rw [hs] at h1
    rw [show ((t + 1 : Nat) : Int) = (t : Int) + 1 by omega] at h1
    exact ⟨fun q => (h1.mp q).1, fun q => h1.mpr ⟨q, fun z => by omega⟩⟩
  refine ⟨x, hxn, ?_, hs, ?_, fun hc => ?_⟩
  · rw [hx]; exact PQ_ix k.1 _ _ _
  · cases q : ftX I p (x : Int) ((t : Int) + 1)
    · cases q2 : okb κ ((t : Int) + 1) (tgt q0 q1 q2)
      · rfl
      · rw [hft.mpr q2] at q; exact Bool.noConfusion q
    · exact (hft.mp q).symm
  · unfold cnd at hc
    rw [Bool.and_eq_true, decide_eq_true_eq] at hc
    obtain ⟨c1, c2⟩ := hc
    obtain ⟨-, -, m3, m4, m5, m6⟩ := k.2.2.2.2.2.2.2 (t + 1) (by omega)
    obtain ⟨s1, s2, -⟩ := k.2.2.2.2.2.2.2 t (by omega)
    have hok := (okb_iff (by rw [← hs]; exact (sgX_lt k hxn).2)).mp c2
    have bits : ∀ b, b < 32 → tb (I p 2) b = true → (tb (dB q0) b = true ∨ tb (dB q1) b = true ∨ tb (dB q2) b = true) → tb (I (p + 1) (t : Int)) b = true := fun b hb z1 z2 => by
      have z3 : tb (z_and (z_or (z_or (dB q0) (dB q1)) (dB q2)) (I p 2)) b = tb (z_and (I (p + 1) (t : Int)) (I p 2)) b := by rw [c1]
      rw [tb_and, tb_and, tb_or, tb_or, z1, Bool.and_true, Bool.and_true] at z3
      rw [← z3, Bool.or_eq_true, Bool.or_eq_true]
      rcases z2 with z2 | z2 | z2
      · exact Or.inl (Or.inl z2)
      · exact Or.inl (Or.inr z2)
      · exact Or.inr z2
    have one' : ∀ (w : Nat) (q : Int × Int), w < 3 → q ∈ Bq κ (t : Int) (sgX I p h j) w → pl (tgt q0 q1 q2) w = q.2.toNat → (∀ b, tb (dB q) b = true → tb (dB q0) b = true ∨ tb (dB q1) b = true ∨ tb (dB q2) b = true) → gdq I p (t : Int) w q = true := by
      intro w q hw hq hpl hd
      unfold gdq
      by_cases hwu : w < us κ
      · have hB := Bq_r k hj hwu hq
        rw [if_pos (by omega), Bool.and_eq_true, Bool.or_eq_true, decide_eq_true_eq]
        constructor
        · have h1 := hok.2 w hwu
          have er : rm (tgt q0 q1 q2) w = (q.2 / 2).toNat := by unfold rm; rw [hpl]; omega
          rw [er] at h1
          have h2 := (m6 w (q.2 / 2).toNat (by omega) (by omega)).mpr ⟨h1.1, h1.2.2, fun z => by omega⟩
          unfold mgX
          rw [show (6 * (w : Int) + q.2 / 2).toNat = 6 * w + (q.2 / 2).toNat by omega]
          exact h2
        · by_cases hd0 : q.1 < 0
          · exact Or.inl hd0
          · refine Or.inr ?_
            have hsh := hB.2.2.2.2 (by omega)
            unfold opX
            rw [tb_or, tb_and, tb_xor, tb_m1 (by omega), s2, hsh, Bool.false_or, Bool.not_eq_true']
            cases z1 : tb (I p 2) q.1.toNat
            · rfl
            · have h3 := bits q.1.toNat (by omega) z1 (hd _ (by unfold dB; rw [if_neg hd0, tb_sh1 (by omega) (by omega), decide_eq_true_eq]))
              rw [h3]
              rfl
      · rw [if_neg (by omega)]
    have g0 := e0 ▸ plX_lt k.1 l0
    have g1 := e1 ▸ plX_lt k.1 l1
    have g2 := e2 ▸ plX_lt k.1 l2
    refine ⟨one' 0 q0 (by omega) m0 ?_ (fun b z => Or.inl z), one' 1 q1 (by omega) m1 ?_ (fun b z => Or.inr (Or.inl z)), one' 2 q2 (by omega) m2 ?_ (fun b z => Or.inr (Or.inr z))⟩
    · unfold pl tgt; rw [if_pos rfl]; omega
    · unfold pl tgt; rw [if_neg (by decide), if_pos rfl]; omega
    · unfold pl tgt; rw [if_neg (by decide), if_neg (by decide)]; omega
/-- the class's steps that stay, as the reference's -/
theorem stX_eq {I κ : MI} {p h n j t : Nat} (k : PK I p h n κ) (hj : j < n) (ht : (t : Int) < I h 3) :
    ((stX I p h (t : Int) j).flatMap fun s => one (ftX I p s.1 ((t : Int) + 1)) (sgX I p h s.1.toNat, s.2)) =
    (Bq κ (t : Int) (sgX I p h j) 0).flatMap fun q0 => (Bq κ (t : Int) (sgX I p h j) 1).flatMap fun q1 => (Bq κ (t : Int) (sgX I p h j) 2).flatMap fun q2 => one (cnd κ (I p 2) (z_and (I (p + 1) (t : Int)) (I p 2)) (t : Int) q0 q1 q2) (pay q0 q1 q2) := by
  have est : stX I p h (t : Int) j = fnL (I p 2) (z_and (I (p + 1) (t : Int)) (I p 2)) (mvA I p h (t : Int) 0 (stJ I p h j 0)) (mvA I p h (t : Int) 1 (stJ I p h j 1)) (mvA I p h (t : Int) 2 (stJ I p h j 2)) := rfl
  rw [est, mvA_B k hj ht (w := 0) (by omega), mvA_B k hj ht (w := 1) (by omega), mvA_B k hj ht (w := 2) (by omega)]
  obtain ⟨hd, hhd⟩ : ∃ hd, hd = I p 2 := ⟨_, rfl⟩
  obtain ⟨wt, hwt⟩ : ∃ wt, wt = z_and (I (p + 1) (t : Int)) (I p 2) := ⟨_, rfl⟩
  have key := fun (q0 q1 q2 : Int × Int) (m0 : q0 ∈ Bq κ (t : Int) (sgX I p h j) 0) (m1 : q1 ∈ Bq κ (t : Int) (sgX I p h j) 1) (m2 : q2 ∈ Bq κ (t : Int) (sgX I p h j) 2) => stp_one k hj ht m0 m1 m2
  rw [← hwt, ← hhd] at key ⊢
  generalize Bq κ (t : Int) (sgX I p h j) 0 = B0 at *
  generalize Bq κ (t : Int) (sgX I p h j) 1 = B1 at *
  generalize Bq κ (t : Int) (sgX I p h j) 2 = B2 at *
  unfold fnL fnA fnB
  simp only [List.flatMap_assoc, one_fm]
  refine fm_congr _ (fun q0 m0 => ?_)
  by_cases c0 : gdq I p (t : Int) 0 q0 = true
  · rw [if_pos c0, List.flatMap_assoc]
    refine fm_congr _ (fun q1 m1 => ?_)
    by_cases c1 : gdq I p (t : Int) 1 q1 = true
    · rw [if_pos c1, List.flatMap_assoc]
      refine fm_congr _ (fun q2 m2 => ?_)
      obtain ⟨x, x1, x2, x3, x4, x5⟩ := key q0 q1 q2 m0 m1 m2
      by_cases c2 : gdq I p (t : Int) 2 q2 = true
      · rw [if_pos c2]
        have ed : ∀ w q, (phq I p h w q).2 = dB q := fun _ _ => rfl
        unfold fnC
        rw [ed, ed, ed, x2]
        unfold cnd
        by_cases c3 : z_and (z_or (z_or (dB q0) (dB q1)) (dB q2)) hd = wt
        · rw [if_pos c3, List.flatMap_singleton, decide_eq_true c3, Bool.true_and]
          simp only
          rw [x4, Int.toNat_natCast, x3]
          rfl
        · rw [if_neg c3, decide_eq_false c3, Bool.false_and]
          rfl
      · rw [if_neg c2]
        unfold one
        rw [if_neg (fun z => c2 (x5 z).2.2)]
        rfl
    · rw [if_neg c1, List.flatMap_nil, ← fm_nil B2]
      refine fm_congr _ (fun q2 m2 => ?_)
      obtain ⟨x, x1, x2, x3, x4, x5⟩ := key q0 q1 q2 m0 m1 m2
      unfold one
      rw [if_neg (fun z => c1 (x5 z).2.1)]
  · rw [if_neg c0, List.flatMap_nil, ← fm_nil B1]
    refine fm_congr _ (fun q1 m1 => ?_)
    rw [← fm_nil B2]
    refine fm_congr _ (fun q2 m2 => ?_)
    obtain ⟨x, x1, x2, x3, x4, x5⟩ := key q0 q1 q2 m0 m1 m2
    unfold one
    rw [if_neg (fun z => c0 (x5 z).1)]
/-! the reference's choices -/
def dv (κ : MI) (t : Int) (s c w : Nat) : Int := if w < us κ ∧ 0 ≤ mvd κ t s c w then z_shl 1 (mvd κ t s c w) else 0
theorem prf_3 (f : Nat → Nat) {n : Nat} (hn : n ≤ 3) : prf f n = (if 0 < n then f 0 else 1) * ((if 1 < n then f 1 else 1) * (if 2 < n then f 2 else 1)) := by
  have : n = 0 ∨ n = 1 ∨ n = 2 ∨ n = 3 := by omega
  rcases this with rfl | rfl | rfl | rfl
  · rfl
  · show 1 * f 0 = f 0 * (1 * 1); omega
  · show 1 * f 0 * f 1 = f 0 * (f 1 * 1); rw [Nat.one_mul, Nat.mul_one]
  · show 1 * f 0 * f 1 * f 2 = f 0 * (f 1 * f 2); rw [Nat.one_mul, Nat.mul_assoc]
theorem smf_3 (f : Nat → Nat) {n : Nat} (hn : n ≤ 3) : smf f n = (if 0 < n then f 0 else 0) + (if 1 < n then f 1 else 0) + (if 2 < n then f 2 else 0) := by
  have : n = 0 ∨ n = 1 ∨ n = 2 ∨ n = 3 := by omega
  rcases this with rfl | rfl | rfl | rfl
  · rfl
  · show 0 + f 0 = f 0 + 0 + 0; omega
  · show 0 + f 0 + f 1 = f 0 + f 1 + 0; omega
  · show 0 + f 0 + f 1 + f 2 = f 0 + f 1 + f 2; omega
theorem orf_3 (f : Nat → Int) {n : Nat} (hn : n ≤ 3) (hf : ∀ w, rI (f w)) : orf f n = z_or (z_or (if 0 < n then f 0 else 0) (if 1 < n then f 1 else 0)) (if 2 < n then f 2 else 0) := by
  have : n = 0 ∨ n = 1 ∨ n = 2 ∨ n = 3 := by omega
  rcases this with rfl | rfl | rfl | rfl
  · show 0 = z_or (z_or 0 0) 0
    rw [z_or_0 (z_or_r _ _), z_or_0 (by omega)]
  · show z_or 0 (f 0) = z_or (z_or (f 0) 0) 0
    rw [z_or_0 (z_or_r _ _), z_or_0 (hf 0), z_0_or (hf 0)]
  · show z_or (z_or 0 (f 0)) (f 1) = z_or (z_or (f 0) (f 1)) 0
    rw [z_or_0 (z_or_r _ _), z_0_or (hf 0)]
  · show z_or (z_or (z_or 0 (f 0)) (f 1)) (f 2) = z_or (z_or (f 0) (f 1)) (f 2)
    rw [z_0_or (hf 0)]
theorem Bq_len {κ : MI} (hH : iHs κ) (t : Int) (s w : Nat) : 0 < (Bq κ t s w).length ∧ (Bq κ t s w).length = if w < us κ then (mvl κ t s w).length else 1 := by
  have := (mvl_len hH.2.1 t s w).1
  unfold Bq
  split
  · exact ⟨by omega, rfl⟩
  · exact ⟨by decide, rfl⟩
/-- a choice as three moves -/
theorem ch_3 {κ : MI} (hH : iHs κ) (hS : iSc κ) (t : Int) (s c : Nat) (hc : c < mal κ t s) : ∀ q0 q1 q2 : Int × Int, q0 = (Bq κ t s 0)[c % (Bq κ t s 0).length]?.getD (-1, 0) → q1 = (Bq κ t s 1)[c / (Bq κ t s 0).length % (Bq κ t s 1).length]?.getD (-1, 0) → q2 = (Bq κ t s 2)[c / (Bq κ t s 0).length / (Bq κ t s 1).length]?.getD (-1, 0) →
    nxt κ t s c = tgt q0 q1 q2 ∧ pas κ t s c = z_or (z_or (dB q0) (dB q1)) (dB q2) ∧ dv κ t s c 0 = dB q0 ∧ dv κ t s c 1 = dB q1 ∧ dv κ t s c 2 = dB q2 := by
  intro q0 q1 q2 h0 h1 h2
  have u := (us_le hH hS).1
  obtain ⟨p0, l0⟩ := Bq_len hH t s 0
  obtain ⟨p1, l1⟩ := Bq_len hH t s 1
  obtain ⟨p2, l2⟩ := Bq_len hH t s 2
  have hm : mal κ t s = (Bq κ t s 0).length * ((Bq κ t s 1).length * (Bq κ t s 2).length) := by
    unfold mal
    rw [prf_3 _ u, l0, l1, l2]
  have w0 : 0 < us κ → (mvd κ t s c 0 = q0.1 ∧ mvt κ t s c 0 = q0.2) := fun hu => by
    have e : Bq κ t s 0 = mvl κ t s 0 := by unfold Bq; rw [if_pos hu]
    rw [e] at h0
    unfold mvd mvt mix
    rw [show prf (fun w => (mvl κ t s w).length) 0 = 1 from rfl, Nat.div_one, ← h0]
    exact ⟨rfl, rfl⟩
  have w1 : 1 < us κ → (mvd κ t s c 1 = q1.1 ∧ mvt κ t s c 1 = q1.2) := fun hu => by
    have e : Bq κ t s 1 = mvl κ t s 1 := by unfold Bq; rw [if_pos hu]
    have e0 : Bq κ t s 0 = mvl κ t s 0 := by unfold Bq; rw [if_pos (by omega)]
    rw [e, e0] at h1
    unfold mvd mvt mix
    rw [show prf (fun w => (mvl κ t s w).length) 1 = 1 * (mvl κ t s 0).length from rfl, Nat.one_mul, ← h1]
    exact ⟨rfl, rfl⟩
  have w2 : 2 < us κ → (mvd κ t s c 2 = q2.1 ∧ mvt κ t s c 2 = q2.2) := fun hu => by
    have e : Bq κ t s 2 = mvl κ t s 2 := by unfold Bq; rw [if_pos hu]
    have e1 : Bq κ t s 1 = mvl κ t s 1 := by unfold Bq; rw [if_pos (by omega)]
    have e0 : Bq κ t s 0 = mvl κ t s 0 := by unfold Bq; rw [if_pos (by omega)]
    rw [e, e1, e0] at h2
    rw [e, e1, e0] at hm
    have hlt : c / (mvl κ t s 0).length / (mvl κ t s 1).length < (mvl κ t s 2).length := by
      rw [Nat.div_div_eq_div_mul]
      exact Nat.div_lt_of_lt_mul (by rw [Nat.mul_assoc, ← hm]; exact hc)
    unfold mvd mvt mix
    rw [show prf (fun w => (mvl κ t s w).length) 2 = 1 * (mvl κ t s 0).length * (mvl κ t s 1).length from rfl, Nat.one_mul, ← Nat.div_div_eq_div_mul, Nat.mod_eq_of_lt hlt, ← h2]
    exact ⟨rfl, rfl⟩
  have a : ∀ (w i : Nat), ¬ w < us κ → (Bq κ t s w)[i]?.getD (-1, 0) = (-1, 0) := fun w i hw => by
    unfold Bq
    rw [if_neg hw]
    cases i <;> rfl
  have d1 : dB (-1, 0) = 0 := rfl
  have f0 : (if 0 < us κ then (if mvd κ t s c 0 < 0 then 0 else z_shl 1 (mvd κ t s c 0)) else 0) = dB q0 ∧ (if 0 < us κ then 12 ^ 0 * (mvt κ t s c 0).toNat else 0) = q0.2.toNat ∧ dv κ t s c 0 = dB q0 := by
    unfold dv
    by_cases hu : 0 < us κ
    · rw [if_pos hu, if_pos hu, (w0 hu).1, (w0 hu).2]
      refine ⟨rfl, by omega, ?_⟩
      unfold dB
      by_cases z : q0.1 < 0
      · rw [if_neg (by omega), if_pos z]
      · rw [if_pos ⟨hu, by omega⟩, if_neg z]
    · rw [if_neg hu, if_neg hu, if_neg (fun z => hu z.1), h0, a 0 _ hu]
      exact ⟨rfl, rfl, rfl⟩
  have f1 : (if 1 < us κ then (if mvd κ t s c 1 < 0 then 0 else z_shl 1 (mvd κ t s c 1)) else 0) = dB q1 ∧ (if 1 < us κ then 12 ^ 1 * (mvt κ t s c 1).toNat else 0) = 12 * q1.2.toNat ∧ dv κ t s c 1 = dB q1 := by
    unfold dv
    by_cases hu : 1 < us κ
    · rw [if_pos hu, if_pos hu, (w1 hu).1, (w1 hu).2]
      refine ⟨rfl, by omega, ?_⟩
      unfold dB
      by_cases z : q1.1 < 0
      · rw [if_neg (by omega), if_pos z]
      · rw [if_pos ⟨hu, by omega⟩, if_neg z]
    · rw [if_neg hu, if_neg hu, if_neg (fun z => hu z.1), h1, a 1 _ hu]
      exact ⟨rfl, rfl, rfl⟩
  have f2 : (if 2 < us κ then (if mvd κ t s c 2 < 0 then 0 else z_shl 1 (mvd κ t s c 2)) else 0) = dB q2 ∧ (if 2 < us κ then 12 ^ 2 * (mvt κ t s c 2).toNat else 0) = 144 * q2.2.toNat ∧ dv κ t s c 2 = dB q2 := by
    unfold dv
    by_cases hu : 2 < us κ
    · rw [if_pos hu, if_pos hu, (w2 hu).1, (w2 hu).2]
      refine ⟨rfl, by omega, ?_⟩
      unfold dB
      by_cases z : q2.1 < 0
      · rw [if_neg (by omega), if_pos z]
      · rw [if_pos ⟨hu, by omega⟩, if_neg z]
    · rw [if_neg hu, if_neg hu, if_neg (fun z => hu z.1), h2, a 2 _ hu]
      exact ⟨rfl, rfl, rfl⟩
  refine ⟨?_, ?_, f0.2.2, f1.2.2, f2.2.2⟩
  · unfold nxt
    rw [smf_3 _ u]
    rw [f0.2.1, f1.2.1, f2.2.1]
    rfl
  · unfold pas
    rw [orf_3 _ u (fun w => by split; omega; exact z_shl_r _ _)]
    rw [f0.1, f1.1, f2.1]
/-- the steps out of a joint state, class and reference -/
theorem stp_perm {I κ : MI} {p h n j t : Nat} (k : PK I p h n κ) (hj : j < n) (ht : (t : Int) < I h 3) :
    ((stX I p h (t : Int) j).flatMap fun s => one (ftX I p s.1 ((t : Int) + 1)) (sgX I p h s.1.toNat, s.2)).Perm
    ((List.range (mal κ (t : Int) (sgX I p h j))).flatMap fun c => one (decide (z_and (pas κ (t : Int) (sgX I p h j) c) (I p 2) = z_and (I (p + 1) (t : Int)) (I p 2)) && okb κ ((t : Int) + 1) (nxt κ (t : Int) (sgX I p h j) c)) (nxt κ (t : Int) (sgX I p h j) c, dv κ (t : Int) (sgX I p h j) c 0, dv κ (t : Int) (sgX I p h j) c 1, dv κ (t : Int) (sgX I p h j) c 2)) := by
  rw [stX_eq k hj ht]
  refine (fm_3 _ _ _ _).trans (List.Perm.of_eq ?_)
  have hH := k.2.1
  have hS := k.2.2.1
  generalize sgX I p h j = s
  have u := (us_le hH hS).1
  obtain ⟨p0, l0⟩ := Bq_len hH (t : Int) s 0
  obtain ⟨p1, l1⟩ := Bq_len hH (t : Int) s 1
  obtain ⟨p2, l2⟩ := Bq_len hH (t : Int) s 2
  have hm : mal κ (t : Int) s = (Bq κ (t : Int) s 0).length * ((Bq κ (t : Int) s 1).length * (Bq κ (t : Int) s 2).length) := by
    unfold mal
    rw [prf_3 _ u, l0, l1, l2]
  rw [← rg_3 (-1, 0) _ _ _ p0 p1, ← hm]
  refine fm_congr _ (fun c hc => ?_)
  obtain ⟨e1, e2, e3, e4, e5⟩ := ch_3 hH hS (t : Int) s c (List.mem_range.mp hc) _ _ _ rfl rfl rfl
  rw [e1, e2, e3, e4, e5]
  rfl


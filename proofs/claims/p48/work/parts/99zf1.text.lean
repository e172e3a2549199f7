/-! THE LAW: a house told by a text. -/
/-- text 3 holds these bytes, blanks behind -/
def TX (M : MI) (l : List Int) : Prop := M 5 3 = 80 ∧ l.length ≤ 80 ∧ ∀ i : Nat, i < 80 → M 6 (240 + (i : Int)) = (l[i]?).getD 32
/-- nothing but text 3 has changed -/
def OT (M M' : MI) : Prop := ∀ c j, c ≠ 6 → ¬ (c = 5 ∧ j = 3) → M' c j = M c j
theorem OT.tr {M K J : MI} (h : OT M K) (k : OT K J) : OT M J := fun c j p q => (k c j p q).trans (h c j p q)
theorem z_b_s {v : Int} (h : 0 ≤ v ∧ v ≤ 127) : z_b v = v := by
  obtain ⟨n, rfl⟩ : ∃ n : Nat, v = (n : Int) := ⟨v.toNat, by omega⟩
  have h : ∀ n : Nat, n < 128 → z_b (n : Int) = (n : Int) := by decide +kernel
  exact h n (by omega)
theorem TX_0 (M : MI) : (s_text 3 80 M).1 = 80 ∧ TX (s_text 3 80 M).2 [] ∧ OT M (s_text 3 80 M).2 := by
  have e : s_text 3 80 M = (80, m_fil (m_up M 5 3 80) 6 240 320 32) := rfl
  rw [e]
  refine ⟨rfl, ⟨?_, Nat.zero_le _, fun i hi => ?_⟩, fun c j h1 h2 => ?_⟩
  · show m_fil (m_up M 5 3 80) 6 240 320 32 5 3 = 80
    unfold m_fil
    rw [if_neg (by omega), m_up_eq]
  · show m_fil (m_up M 5 3 80) 6 240 320 32 6 (240 + (i : Int)) = _
    unfold m_fil
    rw [if_pos (by omega)]
    rfl
  · show m_fil (m_up M 5 3 80) 6 240 320 32 c j = M c j
    unfold m_fil
    rw [if_neg (by omega)]
    unfold m_up
    rw [if_neg h2]
theorem TX_p {M : MI} {l : List Int} {v : Int} (h : TX M l) (hl : l.length < 80) (hv : 0 ≤ v ∧ v ≤ 127) : (s_put 3 (l.length : Int) v M).1 = 1032 ∧ TX (s_put 3 (l.length : Int) v M).2 (l ++ [v]) ∧ OT M (s_put 3 (l.length : Int) v M).2 := by
  obtain ⟨h1, h2, h3⟩ := h
  have e : s_put 3 (l.length : Int) v M = (1000 + M 6 (240 + (l.length : Int)), m_up M 6 (240 + (l.length : Int)) (z_b v)) := by
    unfold s_put
    rw [if_neg (by omega), if_neg (by omega), if_neg (by omega)]
    rfl
  have h4 : M 6 (240 + (l.length : Int)) = 32 := by rw [h3 l.length hl]; simp
  rw [e]
  refine ⟨by show 1000 + M 6 (240 + (l.length : Int)) = 1032; omega, ⟨?_, by simp; omega, fun i hi => ?_⟩, fun c j q1 q2 => ?_⟩
  · show m_up M 6 (240 + (l.length : Int)) (z_b v) 5 3 = 80
    rw [m_up_ne (by decide)]; exact h1
  · show m_up M 6 (240 + (l.length : Int)) (z_b v) 6 (240 + (i : Int)) = _
    rw [z_b_s hv]
    by_cases q : i = l.length
    · subst q
      rw [m_up_eq]; simp
    · rw [m_up_nj (by omega), h3 i hi]
      by_cases q2 : i < l.length
      · rw [List.getElem?_append_left q2]
      · rw [List.getElem?_eq_none (by omega), List.getElem?_eq_none (by simp; omega)]
  · show m_up M 6 (240 + (l.length : Int)) (z_b v) c j = M c j
    rw [m_up_ne q1]
/-- the bytes as they are read -/
theorem TX_B {M : MI} {l : List Int} (h : TX M l) : (∀ i : Nat, i < 80 → BY M 3 i = (l[i]?).getD 32) ∧ BY M 3 80 = 0 := by
  obtain ⟨h1, h2, h3⟩ := h
  refine ⟨fun i hi => ?_, ?_⟩
  · show a_by M 3 (i : Int) = _
    unfold a_by
    rw [if_pos (by omega)]
    exact h3 i hi
  · show a_by M 3 ((80 : Nat) : Int) = 0
    unfold a_by
    rw [if_neg (by omega)]
/-- the text of a house, item by item -/
def dtx (d : Int × Int × Int) : List Int := [if d.2.2 = 1 then 68 else 100, 48 + d.1, 45, 48 + d.2.1]
def wtx (p : Int) : List Int := [119, 48 + p, 58, 42]
def htx (R T : Int) (ds : List (Int × Int × Int)) (ps : List Int) : List Int := ([114, 48 + R] ++ ds.flatMap dtx) ++ ([109, 48 + T] ++ ps.flatMap wtx)
def dOK (R : Int) (d : Int × Int × Int) : Prop := 0 ≤ d.1 ∧ d.1 < d.2.1 ∧ d.2.1 < R ∧ (d.2.2 = 0 ∨ d.2.2 = 1)
theorem skF_n {B : Nat → Int} {p : Nat} (h : B p ≠ 32) : ∀ n, skF B n p = p
  | 0 => rfl
  | n + 1 => by unfold skF; rw [if_neg h]
theorem skF_b {B : Nat → Int} {e : Nat} (he : B e ≠ 32) : ∀ n p, p ≤ e → e < p + n → (∀ i, p ≤ i → i < e → B i = 32) → skF B n p = e
  | 0, p, h1, h2, _ => by omega
  | n + 1, p, h1, h2, h => by
    by_cases q : p = e
    · subst q; exact skF_n he _
    · unfold skF
      rw [if_pos (h p (Nat.le_refl _) (by omega))]
      exact skF_b he n (p + 1) (by omega) (by omega) (fun i h3 h4 => h i (by omega) h4)
theorem fg_y {B : Nat → Int} {lo hi v : Int} {p : Nat} (e : B p = 48 + v) (h0 : 0 ≤ v ∧ v ≤ 9) (h : lo ≤ v ∧ v ≤ hi) : fgQ B lo hi p = true := by
  unfold fgQ
  rw [decide_eq_true_eq, e]
  omega
section
variable {B : Nat → Int} {R : Int}
theorem it_door {p : Nat} {D : List (Int × Int × Int)} {P : List (Int × Int)} {T : Int} {d : Int × Int × Int} (hR : R ≤ 6) (hd : dOK R d) (hD : D.length < 8) (e0 : B p = if d.2.2 = 1 then 68 else 100) (e1 : B (p + 1) = 48 + d.1) (e2 : B (p + 2) = 45) (e3 : B (p + 3) = 48 + d.2.1) : itmP B R (p, D, P, T) = (true, p + 4, D ++ [d], P, T) := by
  obtain ⟨h1, h2, h3, h4⟩ := hd
  have ed : dorP B R D.length p = (true, p + 4, d.1, d.2.1) := by
    unfold dorP
    rw [if_neg (by omega), if_neg (by rw [fg_y e1 (by omega) (by omega)]; simp), if_neg (by omega), if_neg (by rw [fg_y e3 (by omega) (by omega)]; simp; omega), if_pos (by omega), if_pos (by omega)]
    rw [e1, e3]
    refine Prod.ext rfl (Prod.ext rfl (Prod.ext ?_ ?_))
    · show 48 + d.1 - 48 = d.1; omega
    · show 48 + d.2.1 - 48 = d.2.1; omega
  have c : B p = 100 ∨ B p = 68 := by rw [e0]; split <;> omega
  have eb : (if B p = 68 then (1 : Int) else 0) = d.2.2 := by
    rw [e0]
    rcases h4 with q | q
    · rw [if_neg (show ¬ d.2.2 = 1 by omega), if_neg (by omega), q]
    · rw [if_pos q, if_pos rfl, q]
  unfold itmP
  show (if B p = 100 ∨ B p = 68 then ((dorP B R D.length p).1, (dorP B R D.length p).2.1, (if (dorP B R D.length p).1 then D ++ [((dorP B R D.length p).2.2.1, (dorP B R D.length p).2.2.2, if B p = 68 then 1 else 0)] else D), (P, T)) else _) = _
  rw [if_pos c, ed, eb]
  rfl
theorem it_min {p : Nat} {D : List (Int × Int × Int)} {P : List (Int × Int)} {T0 T : Int} (hT : 1 ≤ T ∧ T ≤ 9) (e0 : B p = 109) (e1 : B (p + 1) = 48 + T) (e2 : ¬ (48 ≤ B (p + 2) ∧ B (p + 2) ≤ 57)) : itmP B R (p, D, P, T0) = (true, p + 2, D, P, T) := by
  have d1 : dgt B (p + 1) = true := by unfold dgt; rw [decide_eq_true_eq]; omega
  have d2 : dgt B (p + 1 + 1) = false := by unfold dgt; exact decide_eq_false e2
  have v : mnV B (p + 1) = T := by unfold mnV; rw [if_pos d1, d2, e1]; show 48 + T - 48 = T; omega
  have q : mnP B (p + 1) = p + 2 := by unfold mnP; rw [if_pos d1, d2]; rfl
  have r : mnQ B 1 30 (p + 1) = true := by unfold mnQ; rw [d1, v]; simp; omega
  unfold itmP
  show (if B p = 100 ∨ B p = 68 then _ else if B p = 109 then (mnQ B 1 30 (p + 1), mnP B (p + 1), D, P, mnV B (p + 1)) else _) = _
  rw [if_neg (by omega), if_pos e0, v, q, r]
theorem it_walk {p : Nat} {D : List (Int × Int × Int)} {P : List (Int × Int)} {T v : Int} (hv : v = 1 ∨ v = 2) (hP : P.length < 3) (e0 : B p = 119) (e1 : B (p + 1) = 48 + v) (e2 : B (p + 2) = 58) (e3 : B (p + 3) = 42) : itmP B R (p, D, P, T) = (true, p + 4, D, P ++ [(v, z_shl 1 R - 1)], T) := by
  have ed : wlkP B R P.length p = (true, p + 4, v, z_shl 1 R - 1) := by
    unfold wlkP
    rw [if_neg (by omega), if_neg (by rw [fg_y e1 (by omega) (by omega)]; simp), if_neg (by omega), if_pos e3, e1]
    refine Prod.ext rfl (Prod.ext rfl (Prod.ext ?_ rfl))
    show 48 + v - 48 = v; omega
  unfold itmP
  show (if B p = 100 ∨ B p = 68 then _ else if B p = 109 then _ else if B p = 119 then ((wlkP B R P.length p).1, (wlkP B R P.length p).2.1, D, (if (wlkP B R P.length p).1 then P ++ [((wlkP B R P.length p).2.2.1, (wlkP B R P.length p).2.2.2)] else P), T) else _) = _
  rw [if_neg (by omega), if_neg (by omega), if_pos e0, ed]
  rfl
theorem hl_s {n k : Nat} {σ τ : HS} (hn : σ.1 < n) (h : itmP B R σ = (true, τ)) (hs : B τ.1 ≠ 32) : houL B R n (k + 1) σ = houL B R n k τ := by
  show (if n ≤ σ.1 then _ else if (itmP B R σ).1 then houL B R n k (skp B (itmP B R σ).2.1, (itmP B R σ).2.2) else _) = _
  rw [if_neg (by omega), h]
  show houL B R n k (skp B τ.1, τ.2) = _
  unfold skp
  rw [skF_n hs]
/-- all doors -/
theorem hl_doors {l : List Int} (hB : ∀ i, i < 80 → B i = (l[i]?).getD 32) (hl : l.length ≤ 80) (hR : R ≤ 6) {T : Int} {P : List (Int × Int)} : ∀ (ds D : List (Int × Int × Int)) (pre : List Int) (x : Int) (tail : List Int) (k : Nat), l = pre ++ (ds.flatMap dtx ++ x :: tail) → x ≠ 32 → (∀ d ∈ ds, dOK R d) → D.length + ds.length ≤ 8 → houL B R 80 (ds.length + k) (pre.length, D, P, T) = houL B R 80 k ((pre ++ ds.flatMap dtx).length, D ++ ds, P, T)
  | [], D, pre, x, tail, k, _, _, _, _ => by simp
  | d :: ds, D, pre, x, tail, k, e, hx, hd, hn => by
    have el : l = pre ++ (dtx d ++ (ds.flatMap dtx ++ x :: tail)) := by rw [e, List.flatMap_cons, List.append_assoc]
    have hlen : pre.length + 4 < 80 := by
      have := congrArg List.length el
      simp [dtx] at this
      omega
    have g : ∀ j (hj : j < 4), B (pre.length + j) = (dtx d)[j]'(by simp [dtx]; omega) := fun j hj => by
      rw [hB _ (by omega), el, List.getElem?_append_right (by omega), List.getElem?_append_left (by simp [dtx]; omega), Nat.add_sub_cancel_left, List.getElem?_eq_getElem]
      rfl
    have hx2 : B (pre.length + 4) ≠ 32 := by
      rw [hB _ hlen, el, List.getElem?_append_right (by omega), List.getElem?_append_right (by simp [dtx]), Nat.add_sub_cancel_left]
      cases ds with
      | nil => simpa [dtx] using hx
      | cons d2 ds2 =>
        simp [dtx]
        split <;> omega
    have hi := it_door (B := B) (R := R) (p := pre.length) (D := D) (P := P) (T := T) (d := d) hR (hd d List.mem_cons_self) (by simp at hn; omega) (g 0 (by omega)) (g 1 (by omega)) (g 2 (by omega)) (g 3 (by omega))
    have ih := hl_doors hB hl hR (T := T) (P := P) ds (D ++ [d]) (pre ++ dtx d) x tail k (by rw [el, List.append_assoc]) hx (fun q hq => hd q (List.mem_cons_of_mem _ hq)) (by simp at hn ⊢; omega)
    rw [List.length_cons, show ds.length + 1 + k = (ds.length + k) + 1 by omega, hl_s (by show pre.length < 80; omega) hi hx2]
    have e4 : (pre ++ dtx d).length = pre.length + 4 := by simp [dtx]
    rw [e4] at ih
    rw [ih, List.flatMap_cons]
    simp
theorem hl_walk {l : List Int} (hB : ∀ i, i < 80 → B i = (l[i]?).getD 32) (hl : l.length < 80) {T : Int} {D : List (Int × Int × Int)} : ∀ (ps : List Int) (P : List (Int × Int)) (pre : List Int) (k : Nat), l = pre ++ ps.flatMap wtx → (∀ v ∈ ps, v = 1 ∨ v = 2) → P.length + ps.length ≤ 3 → ps ≠ [] → B 80 ≠ 32 → houL B R 80 (ps.length + (k + 1)) (pre.length, D, P, T) = (-9, (80, D, P ++ ps.map (fun v => (v, z_shl 1 R - 1)), T))
  | [], _, _, _, _, _, _, h, _ => absurd rfl h
  | v :: ps, P, pre, k, e, hv, hn, _, h80 => by
    have el : l = pre ++ (wtx v ++ ps.flatMap wtx) := by rw [e, List.flatMap_cons]
    have hlen : pre.length + 4 + (ps.flatMap wtx).length < 80 := by
      have h1 := congrArg List.length el
      rw [List.length_append, List.length_append] at h1
      have h2 : (wtx v).length = 4 := rfl
      omega
    have g : ∀ j (hj : j < 4), B (pre.length + j) = (wtx v)[j]'(by simp [wtx]; omega) := fun j hj => by
      rw [hB _ (by omega), el, List.getElem?_append_right (by omega), List.getElem?_append_left (by simp [wtx]; omega), Nat.add_sub_cancel_left, List.getElem?_eq_getElem]
      rfl
    have hi := it_walk (B := B) (R := R) (p := pre.length) (D := D) (P := P) (T := T) (v := v) (hv v List.mem_cons_self) (by simp at hn; omega) (g 0 (by omega)) (g 1 (by omega)) (g 2 (by omega)) (g 3 (by omega))
    rw [List.length_cons, show ps.length + 1 + (k + 1) = (ps.length + (k + 1)) + 1 by omega]
    by_cases q : ps = []
    · subst q
      have hs : skp B (pre.length + 4) = 80 := by
        unfold skp
        refine skF_b h80 100 _ (by omega) (by omega) (fun i h1 h2 => ?_)
        rw [hB i h2, el, List.getElem?_eq_none (by simp [wtx]; omega)]
        rfl
      show (if 80 ≤ pre.length then _ else if (itmP B R (pre.length, D, P, T)).1 then houL B R 80 (0 + (k + 1)) (skp B (itmP B R (pre.length, D, P, T)).2.1, (itmP B R (pre.length, D, P, T)).2.2) else _) = _
      rw [if_neg (by omega), hi]
      show houL B R 80 (0 + (k + 1)) (skp B (pre.length + 4), D, P ++ [(v, z_shl 1 R - 1)], T) = _
      rw [hs, show 0 + (k + 1) = k + 1 by omega]
      rfl
    · have hx2 : B (pre.length + 4) ≠ 32 := by
        obtain ⟨v2, ps2, rfl⟩ := List.exists_cons_of_ne_nil q
        rw [hB _ (by omega), el, List.getElem?_append_right (by omega), List.getElem?_append_right (by simp [wtx]), Nat.add_sub_cancel_left]
        simp [wtx]
      have ih := hl_walk hB hl (T := T) (D := D) ps (P ++ [(v, z_shl 1 R - 1)]) (pre ++ wtx v) k (by rw [el, List.append_assoc]) (fun q hq => hv q (List.mem_cons_of_mem _ hq)) (by simp at hn ⊢; omega) q h80
      rw [hl_s (by show pre.length < 80; omega) hi hx2]
      have e4 : (pre ++ wtx v).length = pre.length + 4 := by simp [wtx]
      rw [e4] at ih
      rw [ih]
      simp
end
/-- what is read of a house's text -/
theorem hou_txt {B : Nat → Int} {R T : Int} {ds : List (Int × Int × Int)} {ps : List Int} (hR : 2 ≤ R ∧ R ≤ 6) (hT : 1 ≤ T ∧ T ≤ 9) (hd : ∀ d ∈ ds, dOK R d) (hn : ds.length ≤ 8) (hv : ∀ v ∈ ps, v = 1 ∨ v = 2) (hp : 1 ≤ ps.length ∧ ps.length ≤ 3) (hB : ∀ i, i < 80 → B i = ((htx R T ds ps)[i]?).getD 32) (h80 : B 80 ≠ 32) : houF B 80 = (-9, R, (80, ds, ps.map (fun v => (v, z_shl 1 R - 1)), T)) := by
  have ld : ∀ ds : List (Int × Int × Int), (ds.flatMap dtx).length = 4 * ds.length := fun ds => by
    induction ds with
    | nil => rfl
    | cons d ds ih => rw [List.flatMap_cons, List.length_append, ih, List.length_cons]; simp [dtx]; omega
  have lw : ∀ ps : List Int, (ps.flatMap wtx).length = 4 * ps.length := fun ps => by
    induction ps with
    | nil => rfl
    | cons d ds ih => rw [List.flatMap_cons, List.length_append, ih, List.length_cons]; simp [wtx]; omega
  have hl : (htx R T ds ps).length = 2 + 4 * ds.length + (2 + 4 * ps.length) := by
    unfold htx
    rw [List.length_append, List.length_append, List.length_append, ld, lw]
    rfl
  have b0 : B 0 = 114 := by rw [hB 0 (by omega)]; rfl
  have b1 : B 1 = 48 + R := by rw [hB 1 (by omega)]; rfl
  have s0 : skp B 0 = 0 := by unfold skp; exact skF_n (by omega) _
  have el : htx R T ds ps = [114, 48 + R] ++ (ds.flatMap dtx ++ 109 :: ((48 + T) :: ps.flatMap wtx)) := by unfold htx; simp
  have b2 : B 2 ≠ 32 := by
    rw [hB 2 (by omega), el]
    cases ds with
    | nil => simp
    | cons d ds =>
      simp [dtx]
      split <;> omega
  have s2 : skp B 2 = 2 := by unfold skp; exact skF_n b2 _
  have D1 := hl_doors (B := B) (R := R) hB (by omega) hR.2 (T := 12) (P := []) ds [] [114, 48 + R] 109 ((48 + T) :: ps.flatMap wtx) (81 - ds.length) el (by decide) hd (by simpa using hn)
  rw [show ds.length + (81 - ds.length) = 81 by omega] at D1
  have ep : ([114, 48 + R] ++ ds.flatMap dtx).length = 2 + 4 * ds.length := by rw [List.length_append, ld]; rfl
  rw [ep] at D1
  have g : ∀ j, 2 + 4 * ds.length + j < 80 → B (2 + 4 * ds.length + j) = ((109 :: ((48 + T) :: ps.flatMap wtx))[j]?).getD 32 := fun j hj => by
    have el2 : htx R T ds ps = ([114, 48 + R] ++ ds.flatMap dtx) ++ (109 :: ((48 + T) :: ps.flatMap wtx)) := by unfold htx; simp
    rw [hB _ hj, el2, List.getElem?_append_right (by rw [ep]; omega), ep, Nat.add_sub_cancel_left]
  have g0 := g 0 (by omega)
  have g1 := g 1 (by omega)
  have g2 := g 2 (by omega)
  have c2 : B (2 + 4 * ds.length + 2) = 119 := by
    rw [g2]
    cases ps with
    | nil => simp at hp
    | cons v ps => rfl
  have hi := it_min (B := B) (R := R) (p := 2 + 4 * ds.length) (D := ds) (P := []) (T0 := 12) (T := T) hT g0 g1 (by rw [c2]; omega)
  have D2 := hl_s (B := B) (R := R) (n := 80) (k := 80 - ds.length) (by show 2 + 4 * ds.length < 80; omega) hi (by show B (2 + 4 * ds.length + 2) ≠ 32; rw [c2]; decide)
  have el3 : htx R T ds ps = (([114, 48 + R] ++ ds.flatMap dtx) ++ [109, 48 + T]) ++ ps.flatMap wtx := by unfold htx; simp
  have D3 := hl_walk (B := B) (R := R) hB (by omega) (T := T) (D := ds) ps [] (([114, 48 + R] ++ ds.flatMap dtx) ++ [109, 48 + T]) (79 - ds.length - ps.length) el3 hv (by simpa using hp.2) (by intro z; subst z; simp at hp) h80
  rw [show ps.length + (79 - ds.length - ps.length + 1) = 80 - ds.length by omega] at D3
  have ep3 : (([114, 48 + R] ++ ds.flatMap dtx) ++ [109, 48 + T]).length = 2 + 4 * ds.length + 2 := by rw [List.length_append, ep]; rfl
  rw [ep3] at D3
  have e81 : 81 - ds.length = (80 - ds.length) + 1 := by omega
  rw [e81] at D1
  have D4 : houL B R 80 81 (2, [], [], 12) = (-9, (80, ds, ps.map (fun v => (v, z_shl 1 R - 1)), T)) := by
    have z : ([114, 48 + R] : List Int).length = 2 := rfl
    rw [z] at D1
    rw [D1]
    show houL B R 80 (80 - ds.length + 1) (2 + 4 * ds.length, ds, [], 12) = _
    rw [D2, D3]
    rfl
  unfold houF
  rw [s0, if_neg (by omega), if_neg (by rw [fg_y (v := R) b1 (by omega) (by omega)]; simp), show B (0 + 1) = 48 + R from b1, show (0 + 2) = 2 from rfl, s2, show 48 + R - 48 = R by omega, D4]
/-- a memory with this house -/
def hsM (M : MI) (R : Int) (ds : List (Int × Int × Int)) (ps : List (Int × Int)) (T : Int) : MI := fun c j =>
  if c = 0 then (if j = 11 then R else if j = 12 then (ds.length : Int) else if j = 13 then (ps.length : Int) else if j = 14 then T else if j = 25 then 0 else M 0 j)
  else if c = 7 then (match ds[(j / 3).toNat]? with
    | some d => if j % 3 = 0 then d.1 else if j % 3 = 1 then d.2.1 else d.2.2
    | none => 0)
  else if c = 8 then (match ps[(j / 2).toNat]? with
    | some q => if j % 2 = 0 then q.1 else q.2
    | none => 0)
  else M c j
theorem hsM_i {M : MI} {R : Int} {σ : HS} (h1 : σ.2.1.length ≤ 8) (h2 : σ.2.2.1.length ≤ 3) : hsI M R σ (hsM M R σ.2.1 σ.2.2.1 σ.2.2.2) := by
  refine ⟨rfl, rfl, rfl, rfl, fun i q hq => ?_, fun i q hq => ?_, rfl, fun c j _ c7 c8 c0 => ?_, h1, h2⟩
  · have e : ∀ k : Int, 0 ≤ k → k < 3 → hsM M R σ.2.1 σ.2.2.1 σ.2.2.2 7 (3 * (i : Int) + k) = if k = 0 then q.1 else if k = 1 then q.2.1 else q.2.2 := fun k k0 k3 => by
      show (match σ.2.1[((3 * (i : Int) + k) / 3).toNat]? with
        | some d => if (3 * (i : Int) + k) % 3 = 0 then d.1 else if (3 * (i : Int) + k) % 3 = 1 then d.2.1 else d.2.2
        | none => 0) = _
      rw [show ((3 * (i : Int) + k) / 3).toNat = i by omega, hq]
      simp only
      rw [show (3 * (i : Int) + k) % 3 = k by omega]
    have a0 := e 0 (by omega) (by omega)
    have a1 := e 1 (by omega) (by omega)
    have a2 := e 2 (by omega) (by omega)
    rw [Int.add_zero] at a0
    exact ⟨a0, a1, a2⟩
  · have e : ∀ k : Int, 0 ≤ k → k < 2 → hsM M R σ.2.1 σ.2.2.1 σ.2.2.2 8 (2 * (i : Int) + k) = if k = 0 then q.1 else q.2 := fun k k0 k3 => by
      show (match σ.2.2.1[((2 * (i : Int) + k) / 2).toNat]? with
        | some q => if (2 * (i : Int) + k) % 2 = 0 then q.1 else q.2
        | none => 0) = _
      rw [show ((2 * (i : Int) + k) / 2).toNat = i by omega, hq]
      simp only
      rw [show (2 * (i : Int) + k) % 2 = k by omega]
    have a0 := e 0 (by omega) (by omega)
    have a1 := e 1 (by omega) (by omega)
    rw [Int.add_zero] at a0
    exact ⟨a0, a1⟩
  · unfold hsM
    by_cases q : c = 0
    · subst q
      rw [if_pos rfl, if_neg (by omega), if_neg (by omega), if_neg (by omega), if_neg (by omega), if_neg (by omega)]
    · rw [if_neg q, if_neg c7, if_neg c8]

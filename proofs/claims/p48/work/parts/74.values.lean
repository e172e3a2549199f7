/-! THE CLASS: a sweep, value by value. -/
/-- a weaker end -/
theorem Sp.mono {G : GT} {μ : MT} {as : List MV} {sh : MS} {I L : MI} {R : MR} {Q Q' : Option MV → MI → MI → MR → Prop} (h : Sp G μ as sh I L R Q) (hq : ∀ v I L R, Q v I L R → Q' v I L R) : Sp G μ as sh I L R Q' := by
  intro b sz p e ha hc hk s m args below hf happ hp hk'
  obtain ⟨n, o, h1, h2, h3, ⟨v, sh', M, e1, e2, e3⟩, h4⟩ := h b sz p e ha hc hk s m args below hf happ hp hk'
  exact ⟨n, o, h1, h2, h3, ⟨v, sh', M, e1, ⟨e2.1, hq _ _ _ _ e2.2⟩, e3⟩, h4⟩
/-- all steps from a minute on, of the states that count -/
def clS (I : MI) (p h : Nat) (t : Int) (act : Nat → Bool) (n : Nat) : List (Nat × LT) := (List.range n).flatMap fun j => if act j = true then (stX I p h t j).map (fun s => (j, s)) else []
theorem clS_s (I : MI) (p h : Nat) (t : Int) (act : Nat → Bool) (n : Nat) : clS I p h t act (n + 1) = clS I p h t act n ++ (if act n = true then (stX I p h t n).map (fun s => (n, s)) else []) := by
  unfold clS
  rw [List.range_succ, List.flatMap_append, List.flatMap_singleton]
def acX (L : MI) (na t : Nat) (bk : Int) (j : Nat) : Bool := decide ((bk = 0 ∧ L na (j : Int) ≠ 0) ∨ (bk ≠ 0 ∧ inX L j t = true))
theorem swX_f (J L : MI) (p h na nb t : Nat) (bk : Int) (M : MI × MI) : ∀ n, swX J L p h na nb t bk M n = (clS J p h (t : Int) (acX L na t bk) n).foldl (fun N q => lkT p h na nb q.1 q.2 N) M
  | 0 => rfl
  | n + 1 => by
    rw [clS_s, List.foldl_append, ← swX_f J L p h na nb t bk M n]
    unfold acX
    by_cases q : (bk = 0 ∧ L na (n : Int) ≠ 0) ∨ (bk ≠ 0 ∧ inX L n t = true)
    · rw [if_pos (decide_eq_true q), List.foldl_map]
      exact if_pos q
    · rw [if_neg (by rw [decide_eq_true_eq]; exact q)]
      exact if_neg q
/-- where a step's value goes; what it makes of it -/
def tgm (md : Int) (q : Nat × LT) : Nat := if md = 4 ∨ md = 5 then q.1 else q.2.1.toNat
def opm (J L : MI) (p h : Nat) (V : Nat → Int) (q : Nat × LT) (w : Int) : Int :=
  if J 19 10 = 0 then capX (w + V q.1)
  else if J 19 10 = 1 then z_lorl w (soX (V q.1) (L 19 16) (flX J q.2.2.1 q.2.2.2.1 q.2.2.2.2))
  else if J 19 10 = 2 then lsr w (V q.1 + prX J p h (z_or (z_or q.2.2.1 q.2.2.2.1) q.2.2.2.2))
  else if J 19 10 = 3 then max w (V q.1)
  else if J 19 10 = 4 then capX (w + V q.2.1.toNat)
  else if V q.2.1.toNat = 0 then w else 1
theorem lkT_at {J L : MI} {p h na nb n : Nat} (hne : na ≠ nb) (hnb : nb ≠ 19) (hp : 28 < p) (hh : 28 < h) (hmd : J 19 10 = 0 ∨ J 19 10 = 1 ∨ J 19 10 = 2 ∨ J 19 10 = 3 ∨ J 19 10 = 4 ∨ J 19 10 = 5) {M : MI × MI} (g : lkV J L nb n M) (q : Nat × LT) (x : Nat) :
    (lkT p h na nb q.1 q.2 M).2 nb (x : Int) = if tgm (J 19 10) q = x then opm J L p h (fun y => L na (y : Int)) q (M.2 nb (x : Int)) else M.2 nb (x : Int) := by
  obtain ⟨j, k, d0, d1, d2⟩ := q
  obtain ⟨N, K⟩ := M
  obtain ⟨g1, g2, -⟩ := g
  have g1' : ∀ c i, c < 25 ∨ 28 < c → N c i = J c i := g1
  have g2' : ∀ c i, c ≠ nb → K c i = L c i := g2
  have e10 : N 19 10 = J 19 10 := g1' _ _ (by omega)
  have e11 : N 19 11 = J 19 11 := g1' _ _ (by omega)
  have e12 : N 19 12 = J 19 12 := g1' _ _ (by omega)
  have e13 : N 19 13 = J 19 13 := g1' _ _ (by omega)
  have e14 : N 19 14 = J 19 14 := g1' _ _ (by omega)
  have es : K 19 16 = L 19 16 := g2' _ _ (by omega)
  have ef : ∀ a b c, flX N a b c = flX J a b c := fun a b c => by unfold flX; rw [e12]
  have ep : ∀ d, prX N p h d = prX J p h d := fun d => by unfold prX msX slX; rw [e11, e13, e14, g1' h _ (by omega), g1' (p + 1) _ (by omega)]
  have ena : ∀ y : Int, K na y = L na y := fun y => g2' na y hne
  show lkL N K p h na nb j k.toNat d0 d1 d2 nb (x : Int) = if tgm (J 19 10) (j, k, d0, d1, d2) = x then opm J L p h (fun y => L na (y : Int)) (j, k, d0, d1, d2) (K nb (x : Int)) else K nb (x : Int)
  have up : ∀ (y : Nat) (v w : Int), (y = x → v = w) → m_up K nb (y : Int) v nb (x : Int) = if y = x then w else K nb (x : Int) := fun y v w e => by
    by_cases z : y = x
    · rw [if_pos z, z, m_up_eq, e z]
    · rw [if_neg z, m_up_nj (by omega)]
  unfold lkL tgm opm
  simp only [e10, ef, ep, ena, es]
  by_cases m0 : J 19 10 = 0
  · rw [if_pos m0, if_neg (show ¬ (J 19 10 = 4 ∨ J 19 10 = 5) by omega), if_pos m0]
    exact up _ _ _ (fun z => by rw [z])
  · rw [if_neg m0, if_neg m0]
    by_cases m1 : J 19 10 = 1
    · rw [if_pos m1, if_neg (show ¬ (J 19 10 = 4 ∨ J 19 10 = 5) by omega), if_pos m1]
      exact up _ _ _ (fun z => by rw [z])
    · rw [if_neg m1, if_neg m1]
      by_cases m2 : J 19 10 = 2
      · rw [if_pos m2, if_neg (show ¬ (J 19 10 = 4 ∨ J 19 10 = 5) by omega), if_pos m2]
        exact up _ _ _ (fun z => by rw [z])
      · rw [if_neg m2, if_neg m2]
        by_cases m3 : J 19 10 = 3
        · rw [if_pos m3, if_neg (show ¬ (J 19 10 = 4 ∨ J 19 10 = 5) by omega), if_pos m3]
          exact up _ _ _ (fun z => by rw [z])
        · rw [if_neg m3, if_neg m3]
          by_cases m4 : J 19 10 = 4
          · rw [if_pos m4, if_pos (Or.inl m4), if_pos m4]
            exact up _ _ _ (fun z => by rw [z])
          · have m6 : J 19 10 = 5 := by omega
            rw [if_neg m4, if_neg m4, if_pos (Or.inr m6)]
            by_cases m5 : L na (k.toNat : Int) = 0
            · rw [if_pos m5, if_pos m5]
              split <;> rfl
            · rw [if_neg m5, if_neg m5]
              exact up _ _ _ (fun z => rfl)
theorem stX_mem {I : MI} {p h n j : Nat} {t : Int} (k : PQ I p h n) (hj : j < n) {s : LT} (hs : s ∈ stX I p h t j) : (∃ x : Nat, x < n ∧ s.1 = (x : Int)) ∧ (0 ≤ s.2.1 ∧ s.2.1 < 256) ∧ (0 ≤ s.2.2.1 ∧ s.2.2.1 < 256) ∧ 0 ≤ s.2.2.2 ∧ s.2.2.2 < 256 := by
  have hst := stJ_lt k hj
  have est : stX I p h t j = fnL (I p 2) (z_and (I (p + 1) t) (I p 2)) (mvA I p h t 0 (stJ I p h j 0)) (mvA I p h t 1 (stJ I p h j 1)) (mvA I p h t 2 (stJ I p h j 2)) := rfl
  rw [est] at hs
  obtain ⟨a, ha, hs⟩ := List.mem_flatMap.mp hs
  obtain ⟨b, hb, hs⟩ := List.mem_flatMap.mp hs
  obtain ⟨c, hc, hs⟩ := List.mem_flatMap.mp hs
  unfold fnC at hs
  split at hs
  · obtain ⟨q0, q1, q2, l0, l1, l2, ek, hk⟩ := stp_k k (hst 0 (by omega)) (hst 1 (by omega)) (hst 2 (by omega)) ha hb hc
    have e := List.mem_singleton.mp hs
    rw [e]
    exact ⟨⟨_, hk, ek⟩, (mvA_in k (hst 0 (by omega)) ha).choose_spec.2.2, (mvA_in k (hst 1 (by omega)) hb).choose_spec.2.2, (mvA_in k (hst 2 (by omega)) hc).choose_spec.2.2⟩
  · exact absurd hs (List.not_mem_nil)
theorem clS_mem {I : MI} {p h n : Nat} {t : Int} (k : PQ I p h n) {act : Nat → Bool} {m : Nat} (hm : m ≤ n) {q : Nat × LT} (hq : q ∈ clS I p h t act m) : q.1 < n ∧ act q.1 = true ∧ q.2 ∈ stX I p h t q.1 := by
  obtain ⟨j, hj, hq⟩ := List.mem_flatMap.mp hq
  have hj2 := List.mem_range.mp hj
  split at hq
  · rename_i ha
    obtain ⟨s, hs, rfl⟩ := List.mem_map.mp hq
    exact ⟨by omega, ha, hs⟩
  · exact absurd hq (List.not_mem_nil)
/-- a sweep's values, as a fold for each state -/
theorem fo_at {J L : MI} {p h na nb n : Nat} (hne : na ≠ nb) (hnb : nb ≠ 19) (hp : 28 < p) (hh : 28 < h) (hmd : J 19 10 = 0 ∨ J 19 10 = 1 ∨ J 19 10 = 2 ∨ J 19 10 = 3 ∨ J 19 10 = 4 ∨ J 19 10 = 5) (hm : J 19 10 = 2 → (0 ≤ J 19 13 ∧ J 19 13 ≤ 99) ∧ 0 ≤ J 19 14 ∧ J 19 14 ≤ 99)
    (hV : ∀ x : Nat, x < n → (J 19 10 ≠ 1 → 0 ≤ L na (x : Int) ∧ L na (x : Int) ≤ 1152921504606846976) ∧ rL (L na (x : Int))) (x : Nat) : ∀ (l : List (Nat × LT)) (M : MI × MI), (∀ q ∈ l, q.1 < n ∧ 0 ≤ q.2.1 ∧ q.2.1 < n) → lkV J L nb n M →
    lkV J L nb n (l.foldl (fun N q => lkT p h na nb q.1 q.2 N) M) ∧ (l.foldl (fun N q => lkT p h na nb q.1 q.2 N) M).2 nb (x : Int) = l.foldl (fun w q => if tgm (J 19 10) q = x then opm J L p h (fun y => L na (y : Int)) q w else w) (M.2 nb (x : Int))
  | [], M, _, g => ⟨g, rfl⟩
  | q :: l, M, hl, g => by
    have h1 := hl q List.mem_cons_self
    have g2 := lkV_st (p := p) (h := h) hne hmd hm hV h1.1 h1.2 g
    have ih := fo_at hne hnb hp hh hmd hm hV x l (lkT p h na nb q.1 q.2 M) (fun q hq => hl q (List.mem_cons_of_mem _ hq)) g2
    rw [lkT_at hne hnb hp hh hmd g q x] at ih
    exact ih
theorem stX_c {I J : MI} {p h : Nat} {t : Int} (hp : 24 ≤ p) (hh : 24 ≤ h) (e : ∀ c i, 24 ≤ c → J c i = I c i) (j : Nat) : stX J p h t j = stX I p h t j := by
  have eW : ∀ w, nW J p h w = nW I p h w := fun w => by unfold nW; rw [stW_c (e _ _ (by omega)) (e _ _ (by omega)) (fun i => e _ _ (by omega))]
  unfold stX
  rw [eW, eW, mvA_c hp hh e, mvA_c hp hh e, mvA_c hp hh e, e p 2 hp, e (p + 1) _ (by omega)]
theorem clS_c {I J : MI} {p h : Nat} {t : Int} {act : Nat → Bool} (hp : 24 ≤ p) (hh : 24 ≤ h) (e : ∀ c i, 24 ≤ c → J c i = I c i) (n : Nat) : clS J p h t act n = clS I p h t act n := by
  unfold clS
  refine fm_congr _ (fun j _ => ?_)
  rw [stX_c hp hh e]
theorem opm_c {I J L : MI} {p h : Nat} {V : Nat → Int} (hp : 24 ≤ p) (hh : 24 ≤ h) (e : ∀ c i, 24 ≤ c → J c i = I c i) (e2 : ∀ i, J 19 i = I 19 i) (q : Nat × LT) (w : Int) : opm J L p h V q w = opm I L p h V q w := by
  have ef : ∀ a b c, flX J a b c = flX I a b c := fun a b c => by unfold flX; rw [e2]
  have ep : ∀ d, prX J p h d = prX I p h d := fun d => by unfold prX msX slX; rw [e2, e2, e2, e h _ (by omega), e (p + 1) _ (by omega)]
  unfold opm
  simp only [e2, ef, ep]
theorem foldl_congr {α : Type} {f g : Int → α → Int} : ∀ (l : List α) (w : Int), (∀ q ∈ l, ∀ w, f w q = g w q) → l.foldl f w = l.foldl g w
  | [], _, _ => rfl
  | a :: l, w, h => by
    rw [List.foldl_cons, List.foldl_cons, h a List.mem_cons_self]
    exact foldl_congr l _ (fun q hq => h q (List.mem_cons_of_mem _ hq))
/-- a sweep's value of a state -/
def swV (I L : MI) (p h na n t : Nat) (bk : Int) (x : Nat) : Int := (clS I p h (t : Int) (acX L na t bk) n).foldl (fun w q => if tgm (I 19 10) q = x then opm I L p h (fun y => L na (y : Int)) q w else w) 0
section
variable {G : GT} {I L : MI} {R : MR} {p h na nb nk : Nat}
set_option maxHeartbeats 1000000 in
theorem s_X6_sweepV {n t : Nat} (hW : isW R p na nb nk) (hph : R p 0 = some h) (hh : isH R h) (hQ0 : PQ I p h n) (ht : (t : Int) < I h 3) (hmd : I 19 10 = 0 ∨ I 19 10 = 1 ∨ I 19 10 = 2 ∨ I 19 10 = 3 ∨ I 19 10 = 4 ∨ I 19 10 = 5) (hfo : rI (I 19 12)) (hsb : rI (I 19 15)) (hm : I 19 10 = 2 → (0 ≤ I 19 13 ∧ I 19 13 ≤ 99) ∧ 0 ≤ I 19 14 ∧ I 19 14 ≤ 99) (hV : ∀ x : Nat, x < n → (I 19 10 ≠ 1 → 0 ≤ L na (x : Int) ∧ L na (x : Int) ≤ 1152921504606846976) ∧ rL (L na (x : Int))) :
  Sp G mtX6_sweep [mr 19, mi (t : Int)] shX I L R (qv (fun I' L' R' =>
    (∀ c i, ¬ (c = 21 ∨ c = 22 ∨ c = 23) → ¬ (c = 19 ∧ i = 11) → c < 25 ∨ 28 < c → I' c i = I c i) ∧ I' 19 11 = (t : Int) ∧
    (∃ J, MVs (m_up I 19 11 (t : Int)) p h (t : Int) 3 0 J ∧ I' = ((clS I p h (t : Int) (acX L na t (if I 19 10 = 4 ∨ I 19 10 = 5 then (1 : Int) else 0)) n).foldl (fun N q => lkT p h na nb q.1 q.2 N) (J, mapL L nb n (fun _ _ => 0))).1) ∧
    (∀ c i, c ≠ nb → L' c i = L c i) ∧
    (∀ x : Nat, x < n → L' nb (x : Int) = if ¬ (I 19 10 = 4 ∨ I 19 10 = 5) ∧ ¬ syX I L p x (t + 1) = true then 0 else swV (m_up I 19 11 (t : Int)) L p h na n t (if I 19 10 = 4 ∨ I 19 10 = 5 then (1 : Int) else 0) x) ∧ R' = m_up (m_up R 19 6 (some nb)) 19 7 (some na))) := by
  have hp1 := hW.2.1.1
  have hh1 := hh.1
  have hnb := hW.2.2.2.2.2.2.2.1
  have hne : na ≠ nb := hW.2.2.2.2.2.2.2.2.2.1
  refine (s_X6_sweep (G := G) hW hph hh hQ0 ht hmd hfo hsb hm hV).mono (fun v I' L' R' hv => ?_)
  obtain ⟨rfl, J, hMV, eI, eL, eR⟩ := hv
  obtain ⟨bk, hbk⟩ : ∃ bk : Int, bk = (if I 19 10 = 4 ∨ I 19 10 = 5 then (1 : Int) else 0) := ⟨_, rfl⟩
  obtain ⟨I2, hI2⟩ : ∃ I2, I2 = m_up I 19 11 (t : Int) := ⟨_, rfl⟩
  rw [← hbk] at eI eL ⊢
  rw [← hI2] at hMV ⊢
  have ie : ∀ c i, c ≠ 19 → I2 c i = I c i := fun c i q => by rw [hI2, m_up_ne q]
  have i19 : ∀ i, i ≠ 11 → I2 19 i = I 19 i := fun i q => by rw [hI2, m_up_nj q]
  have i11 : I2 19 11 = (t : Int) := by rw [hI2, m_up_eq]
  have j2 : ∀ c i, 24 ≤ c → J c i = I2 c i := hMV.1
  have j19 : ∀ i, J 19 i = I2 19 i := fun i => hMV.2.1 19 i (by omega)
  have je : ∀ c i, 24 ≤ c → J c i = I c i := fun c i q => (j2 c i q).trans (ie c i (by omega))
  have g0 : lkV J L nb n (J, mapL L nb n (fun _ _ => 0)) := ⟨fun _ _ _ => rfl, fun c i q => (mapL_ne (L := L) (a := nb) (n := n) (f := fun _ _ => 0) q i : mapL L nb n (fun _ _ => 0) c i = L c i), fun x hx => by
    show (J 19 10 ≠ 1 → 0 ≤ mapL L nb n (fun _ _ => 0) nb (x : Int) ∧ mapL L nb n (fun _ _ => 0) nb (x : Int) ≤ 2305843009213693952) ∧ rL (mapL L nb n (fun _ _ => 0) nb (x : Int))
    rw [mapL_in hx]
    omega⟩
  have e10 : J 19 10 = I 19 10 := (j19 10).trans (i19 10 (by decide))
  have e13 : J 19 13 = I 19 13 := (j19 13).trans (i19 13 (by decide))
  have e14 : J 19 14 = I 19 14 := (j19 14).trans (i19 14 (by decide))
  have s := PQ_c (J := J) (by omega) (by omega) je hQ0
  have fold := fun (x : Nat) => fo_at (J := J) (L := L) (p := p) (h := h) (na := na) (nb := nb) (n := n) hne (by omega) (by omega) (by omega) (by rw [e10]; exact hmd) (by rw [e10, e13, e14]; exact hm) (by rw [e10]; exact hV) x (clS J p h (t : Int) (acX L na t bk) n) (J, mapL L nb n (fun _ _ => 0)) (fun q hq => by
    obtain ⟨m1, m2, m3⟩ := clS_mem s (Nat.le_refl n) hq
    obtain ⟨⟨y, hy, ey⟩, -⟩ := stX_mem s m1 m3
    exact ⟨m1, by omega, by omega⟩) g0
  rw [swX_f] at eI eL
  have g := (fold 0).1
  obtain ⟨F, hF⟩ : ∃ F, F = (clS J p h (t : Int) (acX L na t bk) n).foldl (fun N q => lkT p h na nb q.1 q.2 N) (J, mapL L nb n (fun _ _ => 0)) := ⟨_, rfl⟩
  rw [← hF] at eI eL g fold
  have eSy : ∀ x, syX J L p x (t + 1) = syX I L p x (t + 1) := fun x => by
    unfold syX ftX
    rw [j19, i19 15 (by decide), je (p + 7) _ (by omega), je (p + 4) _ (by omega), je (p + 3) _ (by omega)]
  have eV : ∀ x : Nat, x < n → F.2 nb (x : Int) = swV I2 L p h na n t bk x := fun x hx => by
    rw [(fold x).2]
    unfold swV
    rw [clS_c (I := I2) (by omega) (by omega) j2, j19 10]
    show (clS I2 p h (t : Int) (acX L na t bk) n).foldl (fun w q => if tgm (I2 19 10) q = x then opm J L p h (fun y => L na (y : Int)) q w else w) (mapL L nb n (fun _ _ => 0) nb (x : Int)) = _
    rw [mapL_in hx]
    refine foldl_congr _ _ (fun q _ w => ?_)
    rw [opm_c (I := I2) (by omega) (by omega) j2 j19]
  refine ⟨rfl, fun c i q1 q2 q3 => ?_, ?_, ⟨J, hMV, ?_⟩, fun c i q => ?_, fun x hx => ?_, eR⟩
  · rw [eI, g.1 c i q3]
    by_cases hc : 24 ≤ c
    · exact je c i hc
    · rw [hMV.2.1 c i (by omega)]
      by_cases h19 : c = 19
      · subst h19; exact i19 i (fun z => q2 ⟨rfl, z⟩)
      · exact ie c i h19
  · rw [eI, g.1 19 11 (by omega), j19, i11]
  · rw [eI, hF, clS_c (I := I) (by omega) (by omega) je]
  · rw [eL]
    split
    · rw [mapL_ne q]; exact g.2.1 c i q
    · exact g.2.1 c i q
  · rw [eL]
    have hmm : bk = 0 ↔ ¬ (I 19 10 = 4 ∨ I 19 10 = 5) := by rw [hbk]; split <;> rename_i z <;> simp [z]
    by_cases hb : bk = 0
    · rw [if_pos hb, mapL_in hx]
      unfold ftV
      rw [eSy, eV x hx]
      by_cases hs : syX I L p x (t + 1) = true
      · rw [if_neg (fun z => z.2 hs), if_neg (fun z => z.2 hs)]
      · rw [if_pos (show ¬ (I 19 10 = 4 ∨ I 19 10 = 5) ∧ ¬ syX I L p x (t + 1) = true from ⟨hmm.mp hb, hs⟩)]
        split
        · rfl
        · rename_i z
          apply Classical.byContradiction
          intro z2
          exact z ⟨z2, hs⟩
    · rw [if_neg hb, eV x hx, if_neg (fun z => hb (hmm.mpr z.1))]
end

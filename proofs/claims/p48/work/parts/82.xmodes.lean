/-! THE CLASS: the Walks: a sweep in each of its modes. -/
theorem fold_I {p h na nb : Nat} : ∀ (l : List (Nat × LT)) (M : MI × MI), M.1 19 10 ≠ 5 → (l.foldl (fun N q => lkT p h na nb q.1 q.2 N) M).1 = M.1
  | [], _, _ => rfl
  | q :: l, M, h5 => by
    have e : (lkT p h na nb q.1 q.2 M).1 = M.1 := by
      show lkI M.1 M.2 na q.2.1.toNat q.2.2.1 q.2.2.2.1 q.2.2.2.2 = M.1
      unfold lkI
      rw [if_neg (fun z => h5 z.1)]
    rw [List.foldl_cons, fold_I l _ (by rw [e]; exact h5), e]
theorem clS_a {I : MI} {p h : Nat} {t : Int} {a b : Nat → Bool} (n : Nat) (e : ∀ j, j < n → a j = b j) : clS I p h t a n = clS I p h t b n := by
  unfold clS
  refine fm_congr _ (fun j hj => ?_)
  rw [e j (List.mem_range.mp hj)]
section
variable {J K : MI} {p h na n t : Nat}
theorem swV_cl (hp : 32 ≤ p) (hh : 32 ≤ h) (a : Nat → Bool) : clS (m_up J 19 11 (t : Int)) p h (t : Int) a n = clS J p h (t : Int) a n := clS_c (by omega) (by omega) (fun c i q => m_up_ne (by omega) i) n
theorem swV_0 (hp : 32 ≤ p) (hh : 32 ≤ h) (m : J 19 10 = 0) (x : Nat) : swV (m_up J 19 11 (t : Int)) K p h na n t 0 x = (clS J p h (t : Int) (fun j => decide (K na (j : Int) ≠ 0)) n).foldl (fun w q => if q.2.1.toNat = x then capX (w + K na (q.1 : Int)) else w) 0 := by
  have z10 : (m_up J 19 11 (t : Int)) 19 10 = 0 := (m_up_nj (by decide)).trans m
  unfold swV
  rw [swV_cl hp hh, clS_a n (a := acX K na t 0) (b := fun j => decide (K na (j : Int) ≠ 0)) (fun j _ => by unfold acX; exact decide_eq_decide.mpr (by simp))]
  refine foldl_congr _ _ (fun q _ w => ?_)
  have et : tgm 0 q = q.2.1.toNat := by unfold tgm; rw [if_neg (by decide)]
  have eo : opm (m_up J 19 11 (t : Int)) K p h (fun y => K na (y : Int)) q w = capX (w + K na (q.1 : Int)) := by unfold opm; rw [if_pos z10]
  rw [z10, et, eo]
theorem swV_1 (hp : 32 ≤ p) (hh : 32 ≤ h) (m : J 19 10 = 1) (x : Nat) : swV (m_up J 19 11 (t : Int)) K p h na n t 0 x = (clS J p h (t : Int) (fun j => decide (K na (j : Int) ≠ 0)) n).foldl (fun w q => if q.2.1.toNat = x then z_lorl w (soX (K na (q.1 : Int)) (K 19 16) (flX J q.2.2.1 q.2.2.2.1 q.2.2.2.2)) else w) 0 := by
  have z10 : (m_up J 19 11 (t : Int)) 19 10 = 1 := (m_up_nj (by decide)).trans m
  have z12 : (m_up J 19 11 (t : Int)) 19 12 = J 19 12 := m_up_nj (by decide)
  unfold swV
  rw [swV_cl hp hh, clS_a n (a := acX K na t 0) (b := fun j => decide (K na (j : Int) ≠ 0)) (fun j _ => by unfold acX; exact decide_eq_decide.mpr (by simp))]
  refine foldl_congr _ _ (fun q _ w => ?_)
  have et : tgm 1 q = q.2.1.toNat := by unfold tgm; rw [if_neg (by decide)]
  have eo : opm (m_up J 19 11 (t : Int)) K p h (fun y => K na (y : Int)) q w = z_lorl w (soX (K na (q.1 : Int)) (K 19 16) (flX J q.2.2.1 q.2.2.2.1 q.2.2.2.2)) := by
    unfold opm
    rw [if_neg (by omega), if_pos z10]
    unfold flX
    rw [z12]
  rw [z10, et, eo]
theorem swV_2 (hp : 32 ≤ p) (hh : 32 ≤ h) (m : J 19 10 = 2) (x : Nat) : swV (m_up J 19 11 (t : Int)) K p h na n t 0 x = (clS J p h (t : Int) (fun j => decide (K na (j : Int) ≠ 0)) n).foldl (fun w q => if q.2.1.toNat = x then lsr w (K na (q.1 : Int) + prX (m_up J 19 11 (t : Int)) p h (dA q.2.2)) else w) 0 := by
  have z10 : (m_up J 19 11 (t : Int)) 19 10 = 2 := (m_up_nj (by decide)).trans m
  unfold swV
  rw [swV_cl hp hh, clS_a n (a := acX K na t 0) (b := fun j => decide (K na (j : Int) ≠ 0)) (fun j _ => by unfold acX; exact decide_eq_decide.mpr (by simp))]
  refine foldl_congr _ _ (fun q _ w => ?_)
  have et : tgm 2 q = q.2.1.toNat := by unfold tgm; rw [if_neg (by decide)]
  have eo : opm (m_up J 19 11 (t : Int)) K p h (fun y => K na (y : Int)) q w = lsr w (K na (q.1 : Int) + prX (m_up J 19 11 (t : Int)) p h (dA q.2.2)) := by
    unfold opm
    rw [if_neg (by omega), if_neg (by omega), if_pos z10]
    rfl
  rw [z10, et, eo]
theorem swV_3 (hp : 32 ≤ p) (hh : 32 ≤ h) (m : J 19 10 = 3) (x : Nat) : swV (m_up J 19 11 (t : Int)) K p h na n t 0 x = (clS J p h (t : Int) (fun j => decide (K na (j : Int) ≠ 0)) n).foldl (fun w q => if q.2.1.toNat = x then max w (K na (q.1 : Int)) else w) 0 := by
  have z10 : (m_up J 19 11 (t : Int)) 19 10 = 3 := (m_up_nj (by decide)).trans m
  unfold swV
  rw [swV_cl hp hh, clS_a n (a := acX K na t 0) (b := fun j => decide (K na (j : Int) ≠ 0)) (fun j _ => by unfold acX; exact decide_eq_decide.mpr (by simp))]
  refine foldl_congr _ _ (fun q _ w => ?_)
  have et : tgm 3 q = q.2.1.toNat := by unfold tgm; rw [if_neg (by decide)]
  have eo : opm (m_up J 19 11 (t : Int)) K p h (fun y => K na (y : Int)) q w = max w (K na (q.1 : Int)) := by
    unfold opm
    rw [if_neg (by omega), if_neg (by omega), if_neg (by omega), if_pos z10]
  rw [z10, et, eo]
theorem swV_4 (hp : 32 ≤ p) (hh : 32 ≤ h) (m : J 19 10 = 4) (x : Nat) : swV (m_up J 19 11 (t : Int)) K p h na n t 1 x = (clS J p h (t : Int) (fun j => inX K j t) n).foldl (fun w q => if q.1 = x then capX (w + K na (q.2.1.toNat : Int)) else w) 0 := by
  have z10 : (m_up J 19 11 (t : Int)) 19 10 = 4 := (m_up_nj (by decide)).trans m
  unfold swV
  rw [swV_cl hp hh, clS_a n (a := acX K na t 1) (b := fun j => inX K j t) (fun j _ => by unfold acX; simp)]
  refine foldl_congr _ _ (fun q _ w => ?_)
  have et : tgm 4 q = q.1 := by unfold tgm; rw [if_pos (by decide)]
  have eo : opm (m_up J 19 11 (t : Int)) K p h (fun y => K na (y : Int)) q w = capX (w + K na (q.2.1.toNat : Int)) := by
    unfold opm
    rw [if_neg (by omega), if_neg (by omega), if_neg (by omega), if_neg (by omega), if_pos z10]
  rw [z10, et, eo]
end
section
variable {G : GT} {J K : MI} {S : MR} {p h na nb nk : Nat}
/-- a sweep that leaves the notes -/
theorem s_sweepG {n t : Nat} (hW : isW S p na nb nk) (hph : S p 0 = some h) (hh : isH S h) (hQ0 : PQ J p h n) (ht : (t : Int) < J h 3) (hmd : J 19 10 = 0 ∨ J 19 10 = 1 ∨ J 19 10 = 2 ∨ J 19 10 = 3 ∨ J 19 10 = 4) (hfo : rI (J 19 12)) (hsb : rI (J 19 15)) (hm : J 19 10 = 2 → (0 ≤ J 19 13 ∧ J 19 13 ≤ 99) ∧ 0 ≤ J 19 14 ∧ J 19 14 ≤ 99) (hV : ∀ x : Nat, x < n → (J 19 10 ≠ 1 → 0 ≤ K na (x : Int) ∧ K na (x : Int) ≤ 1152921504606846976) ∧ rL (K na (x : Int))) :
  Sp G mtX6_sweep [mr 19, mi (t : Int)] shX J K S (qv (fun I' L' R' => (∀ c i, c < 19 ∨ 24 ≤ c → I' c i = J c i) ∧ (∀ i, i ≠ 11 → I' 19 i = J 19 i) ∧ (∀ c i, c ≠ nb → L' c i = K c i) ∧
    (∀ x : Nat, x < n → L' nb (x : Int) = if J 19 10 ≠ 4 ∧ ¬ syX J K p x (t + 1) = true then 0 else swV (m_up J 19 11 (t : Int)) K p h na n t (if J 19 10 = 4 then 1 else 0) x) ∧ R' = m_up (m_up S 19 6 (some nb)) 19 7 (some na))) := by
  have hp1 := hW.2.1.1
  have hh1 := hh.1
  refine (s_X6_sweepV (G := G) hW hph hh hQ0 ht (by omega) hfo hsb hm hV).mono (fun v I' L' R' hq => ?_)
  obtain ⟨rfl, e1, e2, ⟨N, hMV, e3⟩, e4, e5, rfl⟩ := hq
  have ie : ∀ c i, c ≠ 19 → (m_up J 19 11 (t : Int)) c i = J c i := fun c i q => m_up_ne q i
  have i10 : ∀ i, i ≠ 11 → (m_up J 19 11 (t : Int)) 19 i = J 19 i := fun i q => m_up_nj q
  have e10 : N 19 10 = J 19 10 := (hMV.2.1 19 10 (by omega)).trans (i10 10 (by decide))
  rw [fold_I _ _ (by show N 19 10 ≠ 5; omega)] at e3
  have e3' : I' = N := e3
  have hc : (J 19 10 = 4 ∨ J 19 10 = 5) ↔ J 19 10 = 4 := ⟨fun z => by omega, Or.inl⟩
  refine ⟨rfl, fun c i q => ?_, fun i q => ?_, e4, fun x hx => ?_, rfl⟩
  · by_cases h24 : 24 ≤ c
    · rw [e3', hMV.1 c i h24, ie c i (by omega)]
    · rw [e3', hMV.2.1 c i (by omega), ie c i (by omega)]
  · rw [e3', hMV.2.1 19 i (by omega), i10 i q]
  · rw [e5 x hx]
    simp only [hc]
end

/-! THE CLASS: the Walks: a forward sweep over a scene; the first empty minute. -/
/-- what the Walks' work leaves of the ints, of the references -/
def FIw (I I' : MI) : Prop := ∀ c i, c < 19 ∨ 24 ≤ c → I' c i = I c i
def RFw (R R' : MR) : Prop := ∀ c i, ¬ (c = 19 ∧ (i = 6 ∨ i = 7 ∨ i = 8 ∨ i = 9)) → R' c i = R c i
theorem RFw.rf (R : MR) : RFw R R := fun _ _ _ => rfl
theorem RFw.tr {R S T : MR} (h : RFw R S) (k : RFw S T) : RFw R T := fun c i q => (k c i q).trans (h c i q)
theorem RFw.up {R S : MR} (h : RFw R S) {i : Int} (hi : i = 6 ∨ i = 7 ∨ i = 8 ∨ i = 9) (v : Option Nat) : RFw R (m_up S 19 i v) := fun c j q => by
  unfold m_up
  rw [if_neg (by omega)]
  exact h c j q
theorem FIw.rf (I : MI) : FIw I I := fun _ _ _ => rfl
theorem FIw.tr {I J K : MI} (h : FIw I J) (k : FIw J K) : FIw I K := fun c i q => (k c i q).trans (h c i q)
theorem FIw.up {I J : MI} (h : FIw I J) {c : Nat} (hc : 19 ≤ c ∧ c < 24) (i v : Int) : FIw I (m_up J c i v) := fun a j q => by
  rw [m_up_ne (by omega)]
  exact h a j q
theorem RFw.ok {R S : MR} (h : RFw R S) (k : okR R) : okR S := fun a j v hv => by
  by_cases q : a = 19 ∧ (j = 6 ∨ j = 7 ∨ j = 8 ∨ j = 9)
  · obtain ⟨rfl, q⟩ := q
    rcases q with rfl | rfl | rfl | rfl <;> (have z : (none : Option Nat) = some v := hv; cases z)
  · rw [h a j q]; exact k a j v hv
theorem RFw.iH {R S : MR} (h : RFw R S) {x : Nat} (k : isH R x) : isH S x := by
  have h1 := k.1
  unfold isH at k ⊢
  rw [h x _ (by omega), h x _ (by omega), h x _ (by omega), h x _ (by omega)]
  exact k
theorem RFw.iP {R S : MR} (h : RFw R S) {x : Nat} (k : isP R x) : isP S x := by
  have h1 := k.1
  unfold isP at k ⊢
  rw [h x _ (by omega), h x _ (by omega), h x _ (by omega), h x _ (by omega), h x _ (by omega), h x _ (by omega), h x _ (by omega)]
  exact k
/-- now, next, kept -/
def tW (R : MR) (na nb nk : Nat) : Prop := R 19 6 = some na ∧ R 19 7 = some nb ∧ R 19 8 = some nk ∧ (na = 29 ∨ na = 30 ∨ na = 31) ∧ (nb = 29 ∨ nb = 30 ∨ nb = 31) ∧ (nk = 29 ∨ nk = 30 ∨ nk = 31) ∧ na ≠ nb ∧ na ≠ nk ∧ nb ≠ nk
theorem isW.t {R : MR} {p na nb nk : Nat} (h : isW R p na nb nk) : tW R na nb nk := ⟨h.2.2.2.1, h.2.2.2.2.1, h.2.2.2.2.2.1, h.2.2.2.2.2.2⟩
theorem isW.sw {R : MR} {p na nb nk : Nat} (h : isW R p na nb nk) : isW (m_up (m_up R 19 6 (some nb)) 19 7 (some na)) p nb na nk := by
  obtain ⟨h1, h2, h3, h4, h5, h6, h7, h8, h9, h10, h11, h12⟩ := h
  have r : RFw R (m_up (m_up R 19 6 (some nb)) 19 7 (some na)) := ((RFw.rf R).up (by omega) _).up (by omega) _
  refine ⟨r.ok h1, r.iP h2, ?_, ?_, ?_, ?_, h8, h7, h9, fun q => h10 q.symm, h12, h11⟩
  · rw [m_up_nj (by omega), m_up_nj (by omega)]; exact h3
  · rw [m_up_nj (by omega), m_up_eq]
  · rw [m_up_eq]
  · rw [m_up_nj (by omega), m_up_nj (by omega)]; exact h6
theorem tW.w {R : MR} {p na nb nk : Nat} (h : tW R na nb nk) (hR : okR R) (hp : p = 42 ∨ p = 50) : isW (m_up R 19 9 (some p)) p na nb nk := by
  obtain ⟨h4, h5, h6, h7⟩ := h
  have r : RFw R (m_up R 19 9 (some p)) := (RFw.rf R).up (by omega) _
  refine ⟨r.ok hR, r.iP (hR.p hp), m_up_eq, ?_, ?_, ?_, h7⟩
  · rw [m_up_nj (by omega)]; exact h4
  · rw [m_up_nj (by omega)]; exact h5
  · rw [m_up_nj (by omega)]; exact h6
/-- what lies in the Walks while it goes forth over a scene, all ways counted -/
def fwI (I L : MI) (R : MR) (p h n nk : Nat) (κ : MI) (na nb t : Nat) (J K : MI) (S : MR) : Prop :=
  isW S p na nb nk ∧ S p 0 = some h ∧ isH S h ∧ RFw R S ∧ FIw I J ∧ (J 19 10 = 0 ∧ J 19 15 = 0 ∧ rI (J 19 12)) ∧ (∀ c i, c ≠ 24 → ¬ (c = 29 ∨ c = 30 ∨ c = 31) → K c i = L c i) ∧ PKR J p h n κ ∧ ∀ j : Nat, j < n → K na (j : Int) = Fr κ t (sgX J p h j)
section
variable {G : GT} {I L : MI} {R : MR} {p h na nb nk : Nat}
theorem s_sweepC {κ J K : MI} {S : MR} {n t : Nat} (g : fwI I L R p h n nk κ na nb t J K S) (ht : (t : Int) < J h 3) : Sp G mtX6_sweep [mr 19, mi (t : Int)] shX J K S (qv (fun I' L' R' => fwI I L R p h n nk κ nb na (t + 1) I' L' R' ∧ ∀ i, L' 24 i = K 24 i)) := by
  obtain ⟨hW, hph, hh, r, f, ⟨m0, m15, m12⟩, fl, k, hv⟩ := g
  have hp1 := hW.2.1.1
  have hh1 := hh.1
  have hn1 := hW.2.2.2.2.2.2.1
  have hn2 := hW.2.2.2.2.2.2.2.1
  have hr := k.2 t ht
  have hlt := PK_last k.1
  refine (s_X6_sweepV (G := G) hW hph hh k.1.1 ht (Or.inl m0) m12 (by omega) (fun q => by omega) (fun x hx => ?_)).mono (fun v I' L' R' hq => ?_)
  · rw [hv x hx]
    have := Fr_r κ t (sgX J p h x)
    exact ⟨fun _ => by omega, by omega⟩
  · obtain ⟨rfl, e1, e2, ⟨N, hMV, e3⟩, e4, e5, rfl⟩ := hq
    have ie : ∀ c i, c ≠ 19 → (m_up J 19 11 (t : Int)) c i = J c i := fun c i q => m_up_ne q i
    have i10 : ∀ i, i ≠ 11 → (m_up J 19 11 (t : Int)) 19 i = J 19 i := fun i q => m_up_nj q
    -- the notes are not touched
    have nt : ∀ c i, 25 ≤ c → c ≤ 28 → I' c i = J c i := by
      intro c i h1 h2
      rw [e3]
      have key : ∀ (l : List (Nat × LT)) (M : MI × MI), M.1 19 10 = 0 → (l.foldl (fun N q => lkT p h na nb q.1 q.2 N) M).1 c i = M.1 c i := by
        intro l
        induction l with
        | nil => intro M _; rfl
        | cons q l ih =>
          intro M hM
          have e : (lkT p h na nb q.1 q.2 M).1 = M.1 := by
            show lkI M.1 M.2 na q.2.1.toNat q.2.2.1 q.2.2.2.1 q.2.2.2.2 = M.1
            unfold lkI
            rw [if_neg (by omega)]
          rw [List.foldl_cons, ih _ (by rw [e]; exact hM), e]
      rw [key _ _ (by show N 19 10 = 0; rw [hMV.2.1 19 10 (by omega), i10 10 (by decide)]; exact m0)]
      show N c i = J c i
      rw [hMV.1 c i (by omega), ie c i (by omega)]
    have e32 : ∀ c i, 32 ≤ c → I' c i = J c i := fun c i q => e1 c i (by omega) (by omega) (by omega)
    refine ⟨rfl, ⟨hW.sw, ?_, ?_, (r.up (by omega) _).up (by omega) _, ?_, ⟨?_, ?_, ?_⟩, ?_, PKR_d e32 (by omega) (by omega) k, ?_⟩, fun i => e4 24 i (by omega)⟩
    · rw [m_up_ne (by omega), m_up_ne (by omega)]; exact hph
    · exact (((RFw.rf S).up (by omega) _).up (by omega) _).iH hh
    · intro c i q
      by_cases hc : 25 ≤ c ∧ c ≤ 28
      · rw [nt c i hc.1 hc.2]; exact f c i q
      · rw [e1 c i (by omega) (by omega) (by omega)]; exact f c i q
    · rw [e1 19 10 (by omega) (by omega) (by omega)]; exact m0
    · rw [e1 19 15 (by omega) (by omega) (by omega)]; exact m15
    · rw [e1 19 12 (by omega) (by omega) (by omega)]; exact m12
    · intro c i q1 q2
      rw [e4 c i (by omega)]; exact fl c i q1 q2
    · intro x hx
      rw [sgX_d e32 (by omega) (by omega), e5 x hx, ← cnt_fwd k.1 ht hr (sup_t k t (by omega)) hv (fun j _ => rfl) hx]
      have esy : syX J K p x (t + 1) = ftX J p (x : Int) ((t : Int) + 1) := by
        unfold syX
        rw [if_pos m15]
        rfl
      rw [esy, m0]
      by_cases q : ftX J p (x : Int) ((t : Int) + 1) = true
      · rw [if_neg (fun z => z.2 q), if_pos q]
        unfold swV
        have ec : clS (m_up J 19 11 (t : Int)) p h (t : Int) (acX K na t (if (0 : Int) = 4 ∨ (0 : Int) = 5 then (1 : Int) else 0)) n = clS J p h (t : Int) (fun j => decide (K na (j : Int) ≠ 0)) n := by
          rw [clS_c (I := J) (by omega) (by omega) (fun c i q => ie c i (by omega))]
          unfold clS
          refine fm_congr _ (fun j _ => ?_)
          have : acX K na t (if (0 : Int) = 4 ∨ (0 : Int) = 5 then (1 : Int) else 0) j = decide (K na (j : Int) ≠ 0) := by
            unfold acX
            exact decide_eq_decide.mpr (by simp)
          rw [this]
        rw [ec]
        refine foldl_congr _ _ (fun q _ w => ?_)
        have z10 : (m_up J 19 11 (t : Int)) 19 10 = 0 := (i10 10 (by decide)).trans m0
        have et : tgm 0 q = q.2.1.toNat := by unfold tgm; rw [if_neg (by decide)]
        have eo : ∀ w, opm (m_up J 19 11 (t : Int)) K p h (fun y => K na (y : Int)) q w = capX (w + K na (q.1 : Int)) := fun w => by unfold opm; rw [if_pos z10]
        rw [z10, et, eo]
      · rw [if_neg q, if_pos ⟨by decide, q⟩]
/-- all may begin -/
theorem s_beginC {κ : MI} {n : Nat} (hR : okR R) (tw : tW R na nb nk) (hp : p = 42 ∨ p = 50) (hph : R p 0 = some h) (hh : isH R h) (k : PKR I p h n κ) (m12 : rI (I 19 12)) : Sp G mtX6_begin [mr 19, mr p, mi 0, mi 0] shX I L R (qv (fun I' L' R' => fwI I L R p h n nk κ na nb 0 I' L' R' ∧ ∀ i, L' 24 i = L 24 i)) := by
  have hW := tw.w (p := p) hR hp
  have hh1 := hh.1
  have hn1 := hW.2.2.2.2.2.2.1
  refine (s_X6_begin (G := G) (I := I) (L := L) (sb := 0) (md := 0) hW hph hh k.1.1 (Or.inl rfl)).mono (fun v I' L' R' hq => ?_)
  obtain ⟨rfl, rfl, hbg, rfl⟩ := hq
  have ie : ∀ c i, c ≠ 19 → (m_up (m_up I 19 10 0) 19 15 0) c i = I c i := fun c i q => by rw [m_up_ne q, m_up_ne q]
  have e32 : ∀ c i, 32 ≤ c → (m_up (m_up I 19 10 0) 19 15 0) c i = I c i := fun c i q => ie c i (by omega)
  refine ⟨rfl, ⟨hW, ?_, ?_, (RFw.rf R).up (by omega) _, ?_, ⟨?_, ?_, ?_⟩, ?_, PKR_d e32 (by omega) (by omega) k, ?_⟩, fun i => hbg.1 24 i (by omega)⟩
  · rw [m_up_ne (by omega)]; exact hph
  · exact ((RFw.rf R).up (by omega) _).iH hh
  · exact ((FIw.rf I).up (by omega) _ _).up (by omega) _ _
  · rw [m_up_nj (by decide), m_up_eq]
  · rw [m_up_eq]
  · rw [m_up_nj (by decide), m_up_nj (by decide)]; exact m12
  · intro c i q1 q2
    exact hbg.1 c i (by omega)
  · intro x hx
    rw [sgX_d e32 (by omega) (by omega)]
    have s := k.1.1
    have h1 := hbg.2 _ _ _ (stJ_lt s hx 0 (by omega)) (stJ_lt s hx 1 (by omega)) (stJ_lt s hx 2 (by omega))
    simp only [stJ_ix s hx] at h1
    have esy : syX (m_up (m_up I 19 10 0) 19 15 0) L p x 0 = ftX I p (x : Int) 0 := by
      unfold syX
      rw [if_pos m_up_eq]
      unfold ftX
      rw [ie (p + 7) _ (by omega), ie (p + 4) _ (by omega), ie (p + 3) _ (by omega)]
      rfl
    rw [esy] at h1
    have e0 : Fr κ 0 (sgX I p h x) = if begb κ (sgX I p h x) then 1 else 0 := rfl
    have hb := beg_ok k.1 hx
    rw [e0]
    rcases h1 with ⟨a, b⟩ | ⟨a, b⟩
    · rw [a, if_pos (hb.mpr b)]
    · rw [a, if_neg (fun q => b (hb.mp q))]

set_option maxHeartbeats 1000000 in
theorem s_X6_firstEmpty {κ : MI} {n : Nat} {kp : Int} (hR : okR R) (tw : tW R na nb nk) (hp : isP R p) (hph : R p 0 = some h) (hh : isH R h) (k : PKR I p h n κ) (m12 : rI (I 19 12)) (hkp : kp = 0 ∨ kp = 1) (hfit : I p 4 = 0 ∨ I p 4 = 1) : Sp G mtX6_firstEmpty [mr 19, mr p, mi kp] shX I L R (qi (fun z I' L' R' => z = (if I p 4 = 0 then 0 else fst0 κ) ∧ FIw I I' ∧ (rI (I' 19 12) ∧ (rI (I 19 15) → rI (I' 19 15))) ∧ (∀ c i, c ≠ 24 → ¬ (c = 29 ∨ c = 30 ∨ c = 31) → L' c i = L c i) ∧ (kp = 0 → ∀ i, L' 24 i = L 24 i) ∧ (kp = 1 → I p 4 ≠ 0 → ∀ t : Nat, (t : Int) ≤ I h 3 → (z = -9 ∨ (t : Int) ≤ z) → ∀ j : Nat, j < 1728 → (inX L' j t = true ↔ j < n ∧ 0 < Fr κ t (sgX I p h j))) ∧ RFw R R' ∧ ∃ na' nb', tW R' na' nb' nk)) := by
  refine Sp.of pnX6_firstEmpty rfl ?_
  show Rn G mtX6_firstEmpty _ 0 [(0, mr 19), (1, mr p), (2, mi kp)] [] shX I L R
  generalize hQ : (qi (fun z I' L' R' => z = (if I p 4 = 0 then 0 else fst0 κ) ∧ FIw I I' ∧ (rI (I' 19 12) ∧ (rI (I 19 15) → rI (I' 19 15))) ∧ (∀ c i, c ≠ 24 → ¬ (c = 29 ∨ c = 30 ∨ c = 31) → L' c i = L c i) ∧ (kp = 0 → ∀ i, L' 24 i = L 24 i) ∧ (kp = 1 → I p 4 ≠ 0 → ∀ t : Nat, (t : Int) ≤ I h 3 → (z = -9 ∨ (t : Int) ≤ z) → ∀ j : Nat, j < 1728 → (inX L' j t = true ↔ j < n ∧ 0 < Fr κ t (sgX I p h j))) ∧ RFw R R' ∧ ∃ na' nb', tW R' na' nb' nk)) = Q
  have hp1 := hp.1
  have hh1 := hh.1
  have hlt := PK_last k.1
  have hn2 := (PQ_n k.1.1).2
  have main : I p 4 ≠ 0 → ∀ J K S, fwI I L R p h n nk κ na nb 0 J K S → (∀ i, K 24 i = L 24 i) → Rn G mtX6_firstEmpty Q 16 [(0, mr 19), (1, mr p), (2, mi kp)] [] shX J K S := by
    intro hf J K S g e24
    have hW := g.1
    have hph2 := g.2.1
    have hh2 := g.2.2.1
    have fst : fsF κ 0 (lst κ + 1) = fst0 κ := rfl
    have lp : ∀ t : Nat, t ≤ lst κ + 1 → ∀ na nb J K S, fwI I L R p h n nk κ na nb (t - 1) J K S → (kp = 0 → ∀ i, K 24 i = L 24 i) → (kp = 1 → ∀ t' : Nat, t' < t → ∀ j : Nat, j < 1728 → (inX K j t' = true ↔ j < n ∧ 0 < Fr κ t' (sgX I p h j))) → fsF κ t (lst κ + 1 - t) = fst0 κ → Rn G mtX6_firstEmpty Q 30 [(0, mr 19), (1, mr p), (2, mi kp), (3, mi (I h 3)), (4, mi (t : Int))] [] shX J K S := by
      refine lpn (lst κ + 1) (fun t ht ih => ?_) ?_
      · intro na nb J K S g e24 st fs
        have at59 : ∀ na nb J K S, fwI I L R p h n nk κ na nb t J K S → (kp = 0 → ∀ i, K 24 i = L 24 i) → (kp = 1 → ∀ t' : Nat, t' < t + 1 → ∀ j : Nat, j < 1728 → (inX K j t' = true ↔ j < n ∧ 0 < Fr κ t' (sgX I p h j))) → Rn G mtX6_firstEmpty Q 59 [(0, mr 19), (1, mr p), (2, mi kp), (3, mi (I h 3)), (4, mi (t : Int))] [] shX J K S := by
          intro na nb J K S g e24 st
          obtain ⟨hW, hph2, hh2, r, f, ⟨m0, m15, m12⟩, fl, k2, hv⟩ := g
          have hn3 : J p 3 = (n : Int) := k2.1.1.2.2.2.2.1
          have hvr : ∀ j : Nat, j < n → rL (K na (j : Int)) := fun j hj => by
            rw [hv j hj]
            have := Fr_r κ t (sgX J p h j)
            omega
          have jh3 : J h 3 = I h 3 := f h 3 (by omega)
          have hso := som_cl k2 (t := t) (by omega)
          have hno := noX_iff (L := K) (a := na) n
          have hss : noX K na n = true ↔ ¬ som κ (Fr κ t) (nst κ) = true := by
            rw [hno, hso]
            constructor
            · rintro q ⟨j, hj, e⟩
              exact e ((hv j hj).symm.trans (q j hj))
            · intro q j hj
              apply Classical.byContradiction
              intro e
              exact q ⟨j, hj, fun z => e ((hv j hj).trans z)⟩
          have fs2 : fsF κ t (lst κ + 1 - t) = if som κ (Fr κ t) (nst κ) then fsF κ (t + 1) (lst κ + 1 - (t + 1)) else (t : Int) := by
            rw [show lst κ + 1 - t = (lst κ + 1 - (t + 1)) + 1 by omega]
            rfl
          refine x_aload_n dX6_firstEmpty_59 0 rfl rfl ?_
          refine x_callVi (as := []) dX6_firstEmpty_60 lvX6_75 rfl rfl rfl rfl rfl rfl rfl ⟨rfl, rfl⟩ (s_X6_isNone hW hn3 hn2 hvr) (fun z60 I60 L60 R60 hq60 => ?_)
          obtain ⟨rfl, rfl, rfl, rfl⟩ := hq60
          refine y_ifb_eq (tgt := 69) dX6_firstEmpty_63 (by decide) (fun h63 => ?_) (fun h63 => ?_)
          · refine x_iinc (lv' := [(0, _), (1, _), (2, _), (3, _), (4, _)]) dX6_firstEmpty_69 4 rfl rfl rfl ?_
            refine x_goto (tgt := 30) dX6_firstEmpty_72 (by decide) ?_
            have hn : ¬ noX K na n = true := by assumption
            have hy : som κ (Fr κ t) (nst κ) = true := by
              apply Classical.byContradiction
              intro q
              exact hn (hss.mpr q)
            rw [if_pos hy] at fs2
            exact ih na nb J K S ⟨hW, hph2, hh2, r, f, ⟨m0, m15, m12⟩, fl, k2, hv⟩ e24 st (fs2.symm.trans fs)
          · refine x_iload dX6_firstEmpty_66 4 rfl ?_
            refine x_iret dX6_firstEmpty_68 rfl ?_
            have hy : noX K na n = true := by assumption
            rw [if_neg (hss.mp hy)] at fs2
            rw [← hQ]
            refine ⟨(t : Int), rfl, ?_, f, ⟨m12, fun _ => by omega⟩, fl, e24, fun q1 q2 t' q3 q4 j hj => st q1 t' (by omega) j hj, r, na, nb, hW.t⟩
            rw [if_neg hf, ← fs, fs2]
        have at49 : ∀ na nb J K S, fwI I L R p h n nk κ na nb t J K S → (kp = 0 → ∀ i, K 24 i = L 24 i) → (kp = 1 → ∀ t' : Nat, t' < t → ∀ j : Nat, j < 1728 → (inX K j t' = true ↔ j < n ∧ 0 < Fr κ t' (sgX I p h j))) → Rn G mtX6_firstEmpty Q 49 [(0, mr 19), (1, mr p), (2, mi kp), (3, mi (I h 3)), (4, mi (t : Int))] [] shX J K S := by
          intro na nb J K S g e24 st
          have hW := g.1
          have hn3 : J p 3 = (n : Int) := g.2.2.2.2.2.2.2.1.1.1.2.2.2.2.1
          have hvv := g.2.2.2.2.2.2.2.2
          have f := g.2.2.2.2.1
          have hna := hW.2.2.2.2.2.2.1
          have hvr : ∀ j : Nat, j < n → rL (K na (j : Int)) := fun j hj => by
            rw [hvv j hj]
            have := Fr_r κ t (sgX J p h j)
            omega
          refine x_iload_n dX6_firstEmpty_49 2 rfl rfl ?_
          refine x_if_eq (tgt := 59) dX6_firstEmpty_50 (by decide) (by omega) (fun h50 => ?_) (fun h50 => ?_)
          · first
            | (have ks := ks56
               refine at59 na nb J L56 S ?_ (fun q => by omega) (fun q t' h1 j hj => ?_)
               · obtain ⟨x1, x2, x3, x4, x5, x6, x7, x8, x9⟩ := g
                 exact ⟨x1, x2, x3, x4, x5, x6, fun c i q1 q2 => (ks.1 c i q1).trans (x7 c i q1 q2), x8, fun j hj => (ks.1 na _ (by omega)).trans (x9 j hj)⟩
               · by_cases e : t' = t
                 · subst e
                   rw [ks.2.2 j hj]
                   constructor
                   · rintro ⟨z1, z2⟩
                     have := Fr_r κ t' (sgX I p h j)
                     rw [hvv j z1, sgX_d (I := I) (fun c i q => f c i (by omega)) (by omega) (by omega)] at z2
                     exact ⟨z1, by omega⟩
                   · rintro ⟨z1, z2⟩
                     rw [hvv j z1, sgX_d (I := I) (fun c i q => f c i (by omega)) (by omega) (by omega)]
                     exact ⟨z1, by omega⟩
                 · have e2 : inX L56 j t' = inX K j t' := by
                     unfold inX
                     rw [ks.2.1 _ (by omega)]
                   rw [e2]
                   exact st q t' (by omega) j hj)
            | exact at59 na nb J K S g e24 (fun q => by omega)
          · refine x_aload_n dX6_firstEmpty_53 0 rfl rfl ?_
            refine x_iload dX6_firstEmpty_54 4 rfl ?_
            refine x_callVv (as := [_]) dX6_firstEmpty_56 lvX6_72 rfl rfl rfl rfl rfl rfl rfl ⟨rfl, rfl⟩ (s_X6_keepSet hW hn3 hn2 (by omega) hvr) (fun I56 L56 R56 hq56 => ?_)
            obtain ⟨rfl, ks56, rfl⟩ := hq56
            first
            | (have ks := ks56
               refine at59 na nb J L56 S ?_ (fun q => by omega) (fun q t' h1 j hj => ?_)
               · obtain ⟨x1, x2, x3, x4, x5, x6, x7, x8, x9⟩ := g
                 exact ⟨x1, x2, x3, x4, x5, x6, fun c i q1 q2 => (ks.1 c i q1).trans (x7 c i q1 q2), x8, fun j hj => (ks.1 na _ (by omega)).trans (x9 j hj)⟩
               · by_cases e : t' = t
                 · subst e
                   rw [ks.2.2 j hj]
                   constructor
                   · rintro ⟨z1, z2⟩
                     have := Fr_r κ t' (sgX I p h j)
                     rw [hvv j z1, sgX_d (I := I) (fun c i q => f c i (by omega)) (by omega) (by omega)] at z2
                     exact ⟨z1, by omega⟩
                   · rintro ⟨z1, z2⟩
                     rw [hvv j z1, sgX_d (I := I) (fun c i q => f c i (by omega)) (by omega) (by omega)]
                     exact ⟨z1, by omega⟩
                 · have e2 : inX L56 j t' = inX K j t' := by
                     unfold inX
                     rw [ks.2.1 _ (by omega)]
                   rw [e2]
                   exact st q t' (by omega) j hj)
            | exact at59 na nb J K S g e24 (fun q => by omega)
        have hW := g.1
        have hsw : 0 < t → Sp G mtX6_sweep [mr 19, mi ((t : Int) - 1)] shX J K S (qv (fun I' L' R' => fwI I L R p h n nk κ nb na t I' L' R' ∧ ∀ i, L' 24 i = K 24 i)) := fun q => by
          have jh3 : J h 3 = I h 3 := g.2.2.2.2.1 h 3 (by omega)
          have z := s_sweepC (G := G) g (by omega)
          rw [show ((t - 1 : Nat) : Int) = (t : Int) - 1 by omega, show t - 1 + 1 = t by omega] at z
          exact z
        refine x_iload dX6_firstEmpty_30 4 rfl ?_
        refine x_iload_n dX6_firstEmpty_32 3 rfl rfl ?_
        refine x_ic_gt (tgt := 75) dX6_firstEmpty_33 (by decide) (by omega) (fun h33 => ?_) (fun h33 => ?_)
        · exfalso; omega
        · refine x_iload dX6_firstEmpty_36 4 rfl ?_
          refine x_if_le (tgt := 49) dX6_firstEmpty_38 (by decide) (by omega) (fun h38 => ?_) (fun h38 => ?_)
          · first
            | (have z := g46
               exact at49 _ _ _ _ _ z (fun q i => (e46 i).trans (e24 q i)) (fun q t' h1 j hj => by rw [inX_c e46]; exact st q t' h1 j hj))
            | (have e0 : t = 0 := by omega
               exact at49 _ _ _ _ _ (by rw [e0] at g ⊢; exact g) e24 st)
          · refine x_aload_n dX6_firstEmpty_41 0 rfl rfl ?_
            refine x_iload dX6_firstEmpty_42 4 rfl ?_
            refine x_iconst dX6_firstEmpty_44 ?_
            refine x_isub dX6_firstEmpty_45 ?_
            refine x_callVv (as := [_]) dX6_firstEmpty_46 lvX6_68 rfl rfl rfl rfl rfl rfl rfl ⟨rfl, rfl⟩ (hsw (by omega)) (fun I46 L46 R46 hq46 => ?_)
            obtain ⟨g46, e46⟩ := hq46
            first
            | (have z := g46
               exact at49 _ _ _ _ _ z (fun q i => (e46 i).trans (e24 q i)) (fun q t' h1 j hj => by rw [inX_c e46]; exact st q t' h1 j hj))
            | (have e0 : t = 0 := by omega
               exact at49 _ _ _ _ _ (by rw [e0] at g ⊢; exact g) e24 st)
      · intro na nb J K S g e24 st fs
        obtain ⟨hW, hph2, hh2, r, f, ⟨m0, m15, m12⟩, fl, k2, hv⟩ := g
        refine x_iload dX6_firstEmpty_30 4 rfl ?_
        refine x_iload_n dX6_firstEmpty_32 3 rfl rfl ?_
        refine x_ic_gt (tgt := 75) dX6_firstEmpty_33 (by decide) (by omega) (fun h33 => ?_) (fun h33 => ?_)
        · refine x_bipush dX6_firstEmpty_75 (by decide) ?_
          refine x_iret dX6_firstEmpty_77 rfl ?_
          rw [← hQ]
          refine ⟨-9, rfl, ?_, f, ⟨m12, fun _ => by omega⟩, fl, e24, fun q1 q2 t' q3 q4 j hj => st q1 t' (by omega) j hj, r, na, nb, hW.t⟩
          rw [if_neg hf, ← fs, show lst κ + 1 - (lst κ + 1) = 0 by omega]
          rfl
        · exfalso; omega
    have jh3 : J h 3 = I h 3 := g.2.2.2.2.1 h 3 (by omega)
    refine x_aload_n dX6_firstEmpty_16 0 rfl rfl ?_
    refine x_getR dX6_firstEmpty_17 flX6_54 rfl rfl hW.2.2.1 ?_
    refine x_getR dX6_firstEmpty_20 flX6_58 (shP0 hp) rfl hph2 ?_
    refine x_getI dX6_firstEmpty_23 flX6_62 (shH0 hh2) rfl ?_
    rw [jh3]
    refine x_istore_n (lv' := [(0, _), (1, _), (2, _), (3, _)]) dX6_firstEmpty_26 rfl rfl rfl ?_
    refine x_iconst dX6_firstEmpty_27 ?_
    refine x_istore (lv' := [(0, _), (1, _), (2, _), (3, _), (4, _)]) dX6_firstEmpty_28 rfl rfl ?_
    exact lp 0 (by omega) na nb J K S g (fun _ => e24) (fun _ t' q => by omega) fst
  refine x_aload_n dX6_firstEmpty_0 1 rfl rfl ?_
  refine x_getI dX6_firstEmpty_1 flX6_44 (shP0 hp) rfl ?_
  refine x_if_ne (tgt := 9) dX6_firstEmpty_4 (by decide) (by omega) (fun h4 => ?_) (fun h4 => ?_)
  · refine x_aload_n dX6_firstEmpty_9 0 rfl rfl ?_
    refine x_aload_n dX6_firstEmpty_10 1 rfl rfl ?_
    refine x_iconst dX6_firstEmpty_11 ?_
    refine x_iconst dX6_firstEmpty_12 ?_
    refine x_callVv (as := [_, _, _]) dX6_firstEmpty_13 lvX6_50 rfl rfl rfl rfl rfl rfl rfl ⟨rfl, rfl⟩ (s_beginC hR tw hp1 hph hh k m12) (fun I13 L13 R13 hq13 => ?_)
    obtain ⟨g13, e13⟩ := hq13
    exact main h4 _ _ _ g13 e13
  · refine x_iconst dX6_firstEmpty_7 ?_
    refine x_iret dX6_firstEmpty_8 rfl ?_
    first
    | (exfalso; omega)
    | (rw [← hQ]
       refine ⟨0, rfl, ?_, FIw.rf I, ⟨m12, id⟩, fun _ _ _ _ => rfl, fun _ _ => rfl, fun _ q => absurd h4 q, RFw.rf R, na, nb, tw⟩
       rw [if_pos h4])
end

/-! THE CLASS: the Walks: weigh, waysIn. -/
theorem isW.kp {R : MR} {p na nb nk : Nat} (h : isW R p na nb nk) : isW (m_up (m_up R 19 6 (some nk)) 19 8 (some na)) p nk nb na := by
  obtain ⟨h1, h2, h3, h4, h5, h6, h7, h8, h9, h10, h11, h12⟩ := h
  have r : RFw R (m_up (m_up R 19 6 (some nk)) 19 8 (some na)) := ((RFw.rf R).up (by omega) _).up (by omega) _
  refine ⟨r.ok h1, r.iP h2, ?_, ?_, ?_, ?_, h9, h8, h7, fun q => h12 q.symm, fun q => h11 q.symm, fun q => h10 q.symm⟩
  · rw [m_up_nj (by omega), m_up_nj (by omega)]; exact h3
  · rw [m_up_nj (by omega), m_up_eq]
  · rw [m_up_nj (by omega), m_up_nj (by omega)]; exact h5
  · rw [m_up_eq]
def wbI (I L : MI) (R : MR) (p h n nk : Nat) (κ : MI) (na nb t : Nat) (J K : MI) (S : MR) : Prop :=
  isW S p na nb nk ∧ S p 0 = some h ∧ isH S h ∧ RFw R S ∧ FIw I J ∧ (J 19 10 = 4 ∧ rI (J 19 15) ∧ rI (J 19 12)) ∧ (∀ c i, ¬ (c = 29 ∨ c = 30 ∨ c = 31) → K c i = L c i) ∧ PKR J p h n κ ∧ SETS κ J K p h n ∧ ∀ x : Nat, x < n → K na (x : Int) = RA κ t (sgX J p h x)
def wfI (I L : MI) (R : MR) (p h n nk : Nat) (κ : MI) (t na nb u : Nat) (J K : MI) (S : MR) : Prop :=
  isW S p na nb nk ∧ S p 0 = some h ∧ isH S h ∧ RFw R S ∧ FIw I J ∧ (J 19 10 = 0 ∧ J 19 15 = 1 ∧ rI (J 19 12)) ∧ (∀ c i, ¬ (c = 29 ∨ c = 30 ∨ c = 31) → K c i = L c i) ∧ PKR J p h n κ ∧ SETS κ J K p h n ∧ (∀ x : Nat, x < n → K na (x : Int) = FA κ u (sgX J p h x)) ∧ ∀ x : Nat, x < n → K nk (x : Int) = RA κ t (sgX J p h x)
section
variable {G : GT} {I L : MI} {R : MR} {p h na nb nk : Nat}
theorem s_sweepB {κ J K : MI} {S : MR} {n t : Nat} (g : wbI I L R p h n nk κ na nb (t + 1) J K S) (ht : (t : Int) < J h 3) :
    Sp G mtX6_sweep [mr 19, mi (t : Int)] shX J K S (qv (fun I' L' R' => wbI I L R p h n nk κ nb na t I' L' R')) := by
  obtain ⟨hW, hph, hh, r, fw, ⟨m0, m15, m12⟩, fl, k, st, hv⟩ := g
  have hp1 := hW.2.1.1
  have hh1 := hh.1
  have hn1 := hW.2.2.2.2.2.2.1
  have hn2 := hW.2.2.2.2.2.2.2.1
  have hlt := PK_last k.1
  have hn := (PQ_n k.1.1).2
  have hp32 : 32 ≤ p := by omega
  have hh32 : 32 ≤ h := by omega
  refine (s_sweepG (G := G) hW hph hh k.1.1 ht (by omega) m12 m15 (fun q => by omega) (fun x hx => ?_)).mono (fun v I' L' R' hq => ?_)
  · rw [hv x hx]
    have := RA_r κ (t + 1) (sgX J p h x)
    exact ⟨fun _ => by omega, by omega⟩
  · obtain ⟨rfl, e1, e2, e4, e5, rfl⟩ := hq
    have e32 : ∀ c i, 32 ≤ c → I' c i = J c i := fun c i q => e1 c i (by omega)
    refine ⟨rfl, hW.sw, ?_, ?_, (r.up (by omega) _).up (by omega) _, fun c i q => (e1 c i q).trans (fw c i q), ⟨(e2 10 (by decide)).trans m0, by rw [e2 15 (by decide)]; exact m15, by rw [e2 12 (by decide)]; exact m12⟩, fun c i q => (e4 c i (by omega)).trans (fl c i q), PKR_d e32 hp32 hh32 k, SETS_d e32 hp32 hh32 (fun i => e4 24 i (by omega)) st, fun x hx => ?_⟩
    · rw [m_up_ne (by omega), m_up_ne (by omega)]; exact hph
    · exact (((RFw.rf S).up (by omega) _).up (by omega) _).iH hh
    · rw [sgX_d e32 hp32 hh32, e5 x hx, m0, if_pos (show (4 : Int) = 4 from rfl), if_neg (fun z => z.1 rfl), swV_4 hp32 hh32 m0, clS_own (V := fun x => K na (x : Int))]
      have hin : inX K x t = true ↔ alv κ t (sgX J p h x) = true := by
        rw [st t (by omega) x (by omega)]
        exact ⟨fun z => z.2, fun z => ⟨hx, z⟩⟩
      unfold RA
      by_cases q : alv κ t (sgX J p h x) = true
      · rw [if_pos ⟨hx, hin.mpr q⟩, if_pos q]
        exact ra_step k ht hv hx q
      · rw [if_neg (fun z => q (hin.mp z.2)), if_neg q]
theorem s_sweepF {κ J K : MI} {S : MR} {n t u : Nat} (g : wfI I L R p h n nk κ t na nb u J K S) (ht : (u : Int) < J h 3) :
    Sp G mtX6_sweep [mr 19, mi (u : Int)] shX J K S (qv (fun I' L' R' => wfI I L R p h n nk κ t nb na (u + 1) I' L' R')) := by
  obtain ⟨hW, hph, hh, r, fw, ⟨m0, m15, m12⟩, fl, k, st, hv, hw⟩ := g
  have hp1 := hW.2.1.1
  have hh1 := hh.1
  have hn1 := hW.2.2.2.2.2.2.1
  have hn2 := hW.2.2.2.2.2.2.2.1
  have hbk : nb ≠ nk := hW.2.2.2.2.2.2.2.2.2.2.2
  have hlt := PK_last k.1
  have hn := (PQ_n k.1.1).2
  have hp32 : 32 ≤ p := by omega
  have hh32 : 32 ≤ h := by omega
  refine (s_sweepG (G := G) hW hph hh k.1.1 ht (by omega) m12 (by omega) (fun q => by omega) (fun x hx => ?_)).mono (fun v I' L' R' hq => ?_)
  · rw [hv x hx]
    have := FA_r κ u (sgX J p h x)
    exact ⟨fun _ => by omega, by omega⟩
  · obtain ⟨rfl, e1, e2, e4, e5, rfl⟩ := hq
    have e32 : ∀ c i, 32 ≤ c → I' c i = J c i := fun c i q => e1 c i (by omega)
    refine ⟨rfl, hW.sw, ?_, ?_, (r.up (by omega) _).up (by omega) _, fun c i q => (e1 c i q).trans (fw c i q), ⟨(e2 10 (by decide)).trans m0, (e2 15 (by decide)).trans m15, by rw [e2 12 (by decide)]; exact m12⟩, fun c i q => (e4 c i (by omega)).trans (fl c i q), PKR_d e32 hp32 hh32 k, SETS_d e32 hp32 hh32 (fun i => e4 24 i (by omega)) st, fun x hx => ?_, fun x hx => ?_⟩
    · rw [m_up_ne (by omega), m_up_ne (by omega)]; exact hph
    · exact (((RFw.rf S).up (by omega) _).up (by omega) _).iH hh
    · rw [sgX_d e32 hp32 hh32, e5 x hx, m0, if_neg (show ¬ (0 : Int) = 4 by decide), swV_0 hp32 hh32 m0]
      have esy : syX J K p x (u + 1) = true ↔ alv κ (u + 1) (sgX J p h x) = true := by
        unfold syX
        rw [if_neg (by omega), st (u + 1) (by omega) x (by omega)]
        exact ⟨fun z => z.2, fun z => ⟨hx, z⟩⟩
      unfold FA
      by_cases q : alv κ (u + 1) (sgX J p h x) = true
      · rw [if_neg (fun z => z.2 (esy.mpr q)), if_pos q]
        exact fa_step k ht (V := fun j => K na (j : Int)) hv hx q
      · rw [if_pos ⟨by decide, fun z => q (esy.mp z)⟩, if_neg q]
    · rw [sgX_d e32 hp32 hh32, e4 nk _ (fun z => hbk z.symm)]
      exact hw x hx
theorem s_beginW {κ : MI} {n : Nat} (hR : okR R) (tw : tW R na nb nk) (hp : p = 42 ∨ p = 50) (hph : R p 0 = some h) (hh : isH R h) (k : PKR I p h n κ) (st : SETS κ I L p h n) : Sp G mtX6_begin [mr 19, mr p, mi 0, mi 1] shX I L R (qv (fun I' L' R' => (isW R' p na nb nk ∧ R' p 0 = some h ∧ isH R' h ∧ RFw R R' ∧ FIw I I' ∧ (I' 19 10 = 0 ∧ I' 19 15 = 1 ∧ I' 19 12 = I 19 12) ∧ PKR I' p h n κ) ∧ (∀ c i, 32 ≤ c → I' c i = I c i) ∧ (∀ c i, c ≠ na → L' c i = L c i) ∧ ∀ x : Nat, x < n → L' na (x : Int) = FA κ 0 (sgX I p h x))) := by
  have hW := tw.w (p := p) hR hp
  have hh1 := hh.1
  have hn1 := hW.2.2.2.2.2.2.1
  have hlt := PK_last k.1
  have hnn := (PQ_n k.1.1).2
  refine (s_X6_begin (G := G) (I := I) (L := L) (sb := 1) (md := 0) hW hph hh k.1.1 (Or.inr rfl)).mono (fun v I' L' R' hq => ?_)
  obtain ⟨rfl, rfl, hbg, rfl⟩ := hq
  have ie : ∀ c i, c ≠ 19 → (m_up (m_up I 19 10 0) 19 15 1) c i = I c i := fun c i q => by rw [m_up_ne q, m_up_ne q]
  have e32 : ∀ c i, 32 ≤ c → (m_up (m_up I 19 10 0) 19 15 1) c i = I c i := fun c i q => ie c i (by omega)
  refine ⟨rfl, ⟨hW, ?_, ?_, (RFw.rf R).up (by omega) _, ?_, ⟨?_, ?_, ?_⟩, PKR_d e32 (by omega) (by omega) k⟩, e32, hbg.1, fun x hx => ?_⟩
  · rw [m_up_ne (by omega)]; exact hph
  · exact ((RFw.rf R).up (by omega) _).iH hh
  · exact ((FIw.rf I).up (by omega) _ _).up (by omega) _ _
  · rw [m_up_nj (by decide), m_up_eq]
  · rw [m_up_eq]
  · rw [m_up_nj (by decide), m_up_nj (by decide)]
  · have s := k.1.1
    have h1 := hbg.2 _ _ _ (stJ_lt s hx 0 (by omega)) (stJ_lt s hx 1 (by omega)) (stJ_lt s hx 2 (by omega))
    simp only [stJ_ix s hx] at h1
    have esy : syX (m_up (m_up I 19 10 0) 19 15 1) L p x 0 = true ↔ alv κ 0 (sgX I p h x) = true := by
      unfold syX
      rw [if_neg (by rw [m_up_eq]; decide), st 0 (by omega) x (by omega)]
      exact ⟨fun z => z.2, fun z => ⟨hx, z⟩⟩
    have hb := beg_ok k.1 hx
    have e0 : Fr κ 0 (sgX I p h x) = if begb κ (sgX I p h x) then 1 else 0 := rfl
    unfold FA
    rcases h1 with ⟨a, b⟩ | ⟨a, b⟩
    · have ha := esy.mp b.2
      have hF := (alv_iff.mp ha).1
      rw [e0] at hF
      rw [a, if_pos ha, e0]
      split at hF
      · rename_i hbb
        rw [if_pos hbb]
      · omega
    · rw [a, if_neg (fun q => b ⟨?_, esy.mpr q⟩)]
      have h0 := (alv_iff.mp q).1
      rw [e0] at h0
      split at h0
      · rename_i hbb
        exact (hb.mp hbb).1
      · omega

set_option maxHeartbeats 1000000 in
theorem s_X6_weigh {κ : MI} {n t : Nat} (hR : okR R) (tw : tW R na nb nk) (hp : isP R p) (hph : R p 0 = some h) (hh : isH R h) (k : PKR I p h n κ) (m12 : rI (I 19 12)) (st : SETS κ I L p h n) (m15 : rI (I 19 15)) (ht : t ≤ lst κ) : Sp G mtX6_weigh [mr 19, mr p, mi ↑t] shX I L R (qv (fun I' L' R' => (RFw R R' ∧ FIw I I' ∧ (rI (I' 19 12) ∧ rI (I' 19 15)) ∧ (∀ c i, ¬ (c = 29 ∨ c = 30 ∨ c = 31) → L' c i = L c i)) ∧ ∃ na nb nk, isW R' p na nb nk ∧ R' p 0 = some h ∧ isH R' h ∧ PKR I' p h n κ ∧ (∀ x : Nat, x < n → L' na (x : Int) = FA κ t (sgX I' p h x)) ∧ ∀ x : Nat, x < n → L' nk (x : Int) = RA κ t (sgX I' p h x))) := by
  refine Sp.of pnX6_weigh rfl ?_
  show Rn G mtX6_weigh _ 0 [(0, mr 19), (1, mr p), (2, mi ↑t)] [] shX I L R
  generalize hQ : (qv (fun I' L' R' => (RFw R R' ∧ FIw I I' ∧ (rI (I' 19 12) ∧ rI (I' 19 15)) ∧ (∀ c i, ¬ (c = 29 ∨ c = 30 ∨ c = 31) → L' c i = L c i)) ∧ ∃ na nb nk, isW R' p na nb nk ∧ R' p 0 = some h ∧ isH R' h ∧ PKR I' p h n κ ∧ (∀ x : Nat, x < n → L' na (x : Int) = FA κ t (sgX I' p h x)) ∧ ∀ x : Nat, x < n → L' nk (x : Int) = RA κ t (sgX I' p h x))) = Q
  have hp1 := hp.1
  have hh1 := hh.1
  have hlt := PK_last k.1
  have hn2 := (PQ_n k.1.1).2
  obtain ⟨R0, hR0⟩ : ∃ R0, R0 = m_up R 19 9 (some p) := ⟨_, rfl⟩
  obtain ⟨J0, hJ0⟩ : ∃ J0, J0 = m_up I 19 10 4 := ⟨_, rfl⟩
  have hW0 : isW R0 p na nb nk := by rw [hR0]; exact tw.w hR hp1
  have r0 : RFw R R0 := by rw [hR0]; exact (RFw.rf R).up (by omega) _
  have hph0 : R0 p 0 = some h := by rw [hR0, m_up_ne (by omega)]; exact hph
  have hh0 : isH R0 h := r0.iH hh
  have hna0 := hW0.2.2.2.2.2.2.1
  have j0e : ∀ c i, c ≠ 19 → J0 c i = I c i := fun c i q => by rw [hJ0, m_up_ne q]
  have k0 : PKR J0 p h n κ := PKR_d (fun c i q => j0e c i (by omega)) (by omega) (by omega) k
  have g0 : wbI I L R p h n nk κ na nb (lst κ) J0 (ldF L na (lst κ) n) R0 := by
    refine ⟨hW0, hph0, hh0, r0, fun c i q => j0e c i (by omega), ⟨by rw [hJ0, m_up_eq], by rw [hJ0, m_up_nj (by decide)]; exact m15, by rw [hJ0, m_up_nj (by decide)]; exact m12⟩, fun c i q => ldF_ne _ _ _ _ _ _ (by omega), k0, SETS_d (fun c i q => j0e c i (by omega)) (by omega) (by omega) (fun i => ldF_ne _ _ _ _ _ _ (by omega)) st, fun x hx => ?_⟩
    rw [sgX_d (I := I) (fun c i q => j0e c i (by omega)) (by omega) (by omega), ldF_in L na (lst κ) (by omega) n x hx]
    have hin : inX L x (lst κ) = true ↔ alv κ (lst κ) (sgX I p h x) = true := by
      rw [st (lst κ) (Nat.le_refl _) x (by omega)]
      exact ⟨fun z => z.2, fun z => ⟨hx, z⟩⟩
    unfold RA
    by_cases q : alv κ (lst κ) (sgX I p h x) = true
    · rw [if_pos (hin.mpr q), if_pos q, Re_lst, if_pos (alv_last.mp q)]
    · rw [if_neg (fun z => q (hin.mp z)), if_neg q]
  have fw2 : ∀ u : Nat, u ≤ t → ∀ na nb nk J K S, wfI I L R p h n nk κ t na nb u J K S → ∀ x : Nat, Rn G mtX6_weigh Q 79 [(0, mr 19), (1, mr p), (2, mi (t : Int)), (3, mi (I h 3)), (4, mr x), (5, mi (u : Int))] [] shX J K S := by
    refine lpn t (fun u hu ih => ?_) ?_
    · intro na nb nk J K S g x
      have hW := g.1
      have hph2 := g.2.1
      have hh2 := g.2.2.1
      have hp2 := hW.2.1
      have fw := g.2.2.2.2.1
      have jh3 : J h 3 = I h 3 := fw h 3 (by omega)
      have hsw := s_sweepF (G := G) g (by omega)
      refine x_iload dX6_weigh_79 5 rfl ?_
      refine x_iload_n dX6_weigh_81 2 rfl rfl ?_
      refine x_ic_ge (tgt := 97) dX6_weigh_82 (by decide) (by omega) (fun h82 => ?_) (fun h82 => ?_)
      · exfalso; omega
      · refine x_aload_n dX6_weigh_85 0 rfl rfl ?_
        refine x_iload dX6_weigh_86 5 rfl ?_
        refine x_callVv (as := [_]) dX6_weigh_88 lvX6_68 rfl rfl rfl rfl rfl rfl rfl ⟨rfl, rfl⟩ (hsw) (fun I88 L88 R88 hq88 => ?_)
        skip
        refine x_iinc (lv' := [(0, _), (1, _), (2, _), (3, _), (4, _), (5, _)]) dX6_weigh_91 5 rfl rfl rfl ?_
        refine x_goto (tgt := 79) dX6_weigh_94 (by decide) ?_
        exact ih _ _ _ _ _ _ hq88 x
    · intro na nb nk J K S g x
      have hW := g.1
      have hph2 := g.2.1
      have hh2 := g.2.2.1
      have hp2 := hW.2.1
      have fw := g.2.2.2.2.1
      have jh3 : J h 3 = I h 3 := fw h 3 (by omega)
      refine x_iload dX6_weigh_79 5 rfl ?_
      refine x_iload_n dX6_weigh_81 2 rfl rfl ?_
      refine x_ic_ge (tgt := 97) dX6_weigh_82 (by decide) (by omega) (fun h82 => ?_) (fun h82 => ?_)
      · refine x_vret dX6_weigh_97 rfl ?_
        obtain ⟨w1, w2, w3, w4, w5, ⟨v1, v2, v3⟩, w7, w8, w9, w10, w11⟩ := g
        rw [← hQ]
        exact ⟨rfl, ⟨w4, w5, ⟨v3, by omega⟩, w7⟩, na, nb, nk, w1, w2, w3, w8, w10, w11⟩
      · exfalso; omega
  have lp : ∀ v : Nat, v ≤ lst κ - t → ∀ na nb nk J K S, wbI I L R p h n nk κ na nb (t + v) J K S → Rn G mtX6_weigh Q 31 [(0, mr 19), (1, mr p), (2, mi (t : Int)), (3, mi (I h 3)), (4, mi (((t + v : Nat) : Int) + (-1)))] [] shX J K S := by
    intro v
    induction v with
    | zero =>
      intro _ na nb nk J K S g
      have hW := g.1
      have hph2 := g.2.1
      have hh2 := g.2.2.1
      have hp2 := hW.2.1
      have fw := g.2.2.2.2.1
      have jh3 : J h 3 = I h 3 := fw h 3 (by omega)
      have hW1 := hW.kp
      obtain ⟨S1, hS1⟩ : ∃ S1, S1 = m_up (m_up S 19 6 (some nk)) 19 8 (some na) := ⟨_, rfl⟩
      rw [← hS1] at hW1
      have rS : RFw S S1 := by rw [hS1]; exact ((RFw.rf S).up (by omega) _).up (by omega) _
      have k2 := g.2.2.2.2.2.2.2.1
      have st2 := g.2.2.2.2.2.2.2.2.1
      have hp1b := hp2.1
      have bg := s_beginW (G := G) hW1.1 hW1.t hp1b (by rw [hS1, m_up_ne (by omega), m_up_ne (by omega)]; exact hph2) (rS.iH hh2) k2 st2
      have at76 : ∀ J' K' S', ((isW S' p nk nb na ∧ S' p 0 = some h ∧ isH S' h ∧ RFw S1 S' ∧ FIw J J' ∧ (J' 19 10 = 0 ∧ J' 19 15 = 1 ∧ J' 19 12 = J 19 12) ∧ PKR J' p h n κ) ∧ (∀ c i, 32 ≤ c → J' c i = J c i) ∧ (∀ c i, c ≠ nk → K' c i = K c i) ∧ ∀ x : Nat, x < n → K' nk (x : Int) = FA κ 0 (sgX J p h x)) → Rn G mtX6_weigh Q 76 [(0, mr 19), (1, mr p), (2, mi (t : Int)), (3, mi (I h 3)), (4, mr na)] [] shX J' K' S' := by
        rintro J' K' S' ⟨⟨x1, x2, x3, x4, x5, ⟨y1, y2, y3⟩, x6⟩, e32, fl2, hv2⟩
        obtain ⟨w1, w2, w3, w4, w5, ⟨v1, v2, v3⟩, w7, w8, w9, w10⟩ := id g
        have hnk := hW.2.2.2.2.2.2.2.2.1
        have hnak : na ≠ nk := hW.2.2.2.2.2.2.2.2.2.2.1
        have gf : wfI I L R p h n na κ t nk nb 0 J' K' S' := by
          refine ⟨x1, x2, x3, (w4.tr rS).tr x4, w5.tr x5, ⟨y1, y2, by rw [y3]; exact v3⟩, fun c i q => (fl2 c i (by omega)).trans (w7 c i q), x6, SETS_d e32 (by omega) (by omega) (fun i => fl2 24 i (by omega)) w9, fun x hx => ?_, fun x hx => ?_⟩
          · rw [sgX_d e32 (by omega) (by omega)]; exact hv2 x hx
          · rw [sgX_d e32 (by omega) (by omega), fl2 na _ hnak]
            have := w10 x hx
            rw [Nat.add_zero] at this
            exact this
        have z := fw2 0 (Nat.zero_le _) _ _ _ _ _ _ gf na
        refine x_iconst dX6_weigh_76 ?_
        refine x_istore (lv' := [(0, _), (1, _), (2, _), (3, _), (4, _), (5, _)]) dX6_weigh_77 rfl rfl ?_
        exact z
      refine x_iload dX6_weigh_31 4 rfl ?_
      refine x_iload_n dX6_weigh_33 2 rfl rfl ?_
      refine x_ic_lt (tgt := 49) dX6_weigh_34 (by decide) (by omega) (fun h34 => ?_) (fun h34 => ?_)
      · refine x_aload_n dX6_weigh_49 0 rfl rfl ?_
        refine x_getR dX6_weigh_50 flX6_35 rfl rfl hW.2.2.2.1 ?_
        refine x_astore (lv' := [(0, _), (1, _), (2, _), (3, _), (4, _)]) dX6_weigh_53 rfl rfl ?_
        refine x_aload_n dX6_weigh_55 0 rfl rfl ?_
        refine x_aload_n dX6_weigh_56 0 rfl rfl ?_
        refine x_getR dX6_weigh_57 flX6_41 rfl rfl hW.2.2.2.2.2.1 ?_
        refine x_putR dX6_weigh_60 flX6_35 rfl rfl rfl ?_
        refine x_aload_n dX6_weigh_63 0 rfl rfl ?_
        refine x_aload dX6_weigh_64 4 rfl ?_
        refine x_putR dX6_weigh_66 flX6_41 rfl rfl rfl ?_
        rw [← hS1]
        refine x_aload_n dX6_weigh_69 0 rfl rfl ?_
        refine x_aload_n dX6_weigh_70 1 rfl rfl ?_
        refine x_iconst dX6_weigh_71 ?_
        refine x_iconst dX6_weigh_72 ?_
        refine x_callVv (as := [_, _, _]) dX6_weigh_73 lvX6_50 rfl rfl rfl rfl rfl rfl rfl ⟨rfl, rfl⟩ (bg) (fun I73 L73 R73 hq73 => ?_)
        skip
        exact at76 _ _ _ hq73
      · exfalso; omega
    | succ v ih =>
      intro hv na nb nk J K S g
      have hW := g.1
      have hph2 := g.2.1
      have hh2 := g.2.2.1
      have hp2 := hW.2.1
      have fw := g.2.2.2.2.1
      have jh3 : J h 3 = I h 3 := fw h 3 (by omega)
      rw [show ((t + (v + 1) : Nat) : Int) + (-1) = ((t + v : Nat) : Int) by omega]
      have g' : wbI I L R p h n nk κ na nb ((t + v) + 1) J K S := g
      have hsw := s_sweepB (G := G) g' (by omega)
      refine x_iload dX6_weigh_31 4 rfl ?_
      refine x_iload_n dX6_weigh_33 2 rfl rfl ?_
      refine x_ic_lt (tgt := 49) dX6_weigh_34 (by decide) (by omega) (fun h34 => ?_) (fun h34 => ?_)
      · exfalso; omega
      · refine x_aload_n dX6_weigh_37 0 rfl rfl ?_
        refine x_iload dX6_weigh_38 4 rfl ?_
        refine x_callVv (as := [_]) dX6_weigh_40 lvX6_68 rfl rfl rfl rfl rfl rfl rfl ⟨rfl, rfl⟩ (hsw) (fun I40 L40 R40 hq40 => ?_)
        skip
        refine x_iinc (lv' := [(0, _), (1, _), (2, _), (3, _), (4, _)]) dX6_weigh_43 4 rfl rfl rfl ?_
        refine x_goto (tgt := 31) dX6_weigh_46 (by decide) ?_
        exact ih (by omega) _ _ _ _ _ _ hq40
  have main5 : Rn G mtX6_weigh Q 5 [(0, mr 19), (1, mr p), (2, mi (t : Int))] [] shX I L R0 := by
    refine x_aload_n dX6_weigh_5 0 rfl rfl ?_
    refine x_iconst dX6_weigh_6 ?_
    refine x_putI dX6_weigh_7 flX6_79 rfl rfl rfl ?_
    rw [← hJ0]
    have hp2 := hW0.2.1
    have hph2 := hph0
    have hh2 := hh0
    have hW := hW0
    have jh3 : J0 h 3 = I h 3 := j0e h 3 (by omega)
    have hn3 : J0 p 3 = (n : Int) := k0.1.1.2.2.2.2.1
    refine x_aload_n dX6_weigh_10 0 rfl rfl ?_
    refine x_getR dX6_weigh_11 flX6_54 rfl rfl hW.2.2.1 ?_
    refine x_getR dX6_weigh_14 flX6_58 (shP0 hp2) rfl hph2 ?_
    refine x_getI dX6_weigh_17 flX6_62 (shH0 hh2) rfl ?_
    rw [jh3]
    refine x_istore_n (lv' := [(0, _), (1, _), (2, _), (3, _)]) dX6_weigh_20 rfl rfl rfl ?_
    rw [show (I h 3) = ((lst κ : Nat) : Int) by omega]
    refine x_aload_n dX6_weigh_21 0 rfl rfl ?_
    refine x_iload_n dX6_weigh_22 3 rfl rfl ?_
    refine x_callVv (as := [_]) dX6_weigh_23 lvX6_82 rfl rfl rfl rfl rfl rfl rfl ⟨rfl, rfl⟩ (s_X6_loadSet hW0 hn3 hn2 (by omega)) (fun I23 L23 R23 hq23 => ?_)
    obtain ⟨rfl, rfl, rfl⟩ := hq23
    refine x_iload_n dX6_weigh_26 3 rfl rfl ?_
    refine x_iconst dX6_weigh_27 ?_
    refine x_isub dX6_weigh_28 ?_
    refine x_istore (lv' := [(0, _), (1, _), (2, _), (3, _), (4, _)]) dX6_weigh_29 rfl rfl ?_
    have z := lp (lst κ - t) (Nat.le_refl _) na nb nk J0 (ldF L na (lst κ) n) R0 (by rw [show t + (lst κ - t) = lst κ by omega]; exact g0)
    rw [show t + (lst κ - t) = lst κ by omega, show I h 3 = ((lst κ : Nat) : Int) by omega] at z
    exact z
  refine x_aload_n dX6_weigh_0 0 rfl rfl ?_
  refine x_aload_n dX6_weigh_1 1 rfl rfl ?_
  refine x_putR dX6_weigh_2 flX6_54 rfl rfl rfl ?_
  rw [← hR0]
  exact main5
theorem s_X6_waysIn {q n : Nat} {these : Int} (hW : isW R q na nb nk) (hp : isP R p) (hn : I p 3 = (n : Int)) (hn2 : n ≤ 1728) (hth : rI these) (hv : ∀ x : Nat, x < n → 0 ≤ L na (x : Int) ∧ L na (x : Int) ≤ 1000000000000001) (hv2 : ∀ x : Nat, x < n → 0 ≤ L nk (x : Int) ∧ L nk (x : Int) ≤ 1000000000000001) : Sp G mtX6_waysIn [mr 19, mr p, mi these] shX I L R (ql (pu (wiF I L p na nk these n) I L R)) := by
  refine Sp.of pnX6_waysIn rfl ?_
  show Rn G mtX6_waysIn _ 0 [(0, mr 19), (1, mr p), (2, mi these)] [] shX I L R
  generalize hQ : (ql (pu (wiF I L p na nk these n) I L R)) = Q
  have wr : ∀ m : Nat, m ≤ n → 0 ≤ wiF I L p na nk these m ∧ wiF I L p na nk these m ≤ 1000000000000001 := fun m => by
    induction m with
    | zero => intro _; show (0 : Int) ≤ 0 ∧ (0 : Int) ≤ 1000000000000001; decide
    | succ m ih =>
      intro hm
      have i1 := ih (by omega)
      have h1 := hv m (by omega)
      have h2 := hv2 m (by omega)
      unfold wiF
      split
      · rename_i z
        have := capX_r (x := L na (m : Int) * L nk (m : Int)) (Int.mul_nonneg h1.1 h2.1)
        rw [thX_cap (by omega) (by omega)]
        exact capX_r (by omega)
      · exact i1
  have loop : ∀ j : Nat, j ≤ n → Rn G mtX6_waysIn Q 5 [(0, mr 19), (1, mr p), (2, mi these), (3, ml (wiF I L p na nk these j)), (5, mi (j : Int))] [] shX I L R := by
    refine lpn n (fun j hj ih => ?_) ?_
    · have w1 := wr j (by omega)
      have h1 := hv j hj
      have h2 := hv2 j hj
      have es : wiF I L p na nk these (j + 1) = if ((these = 0 ∨ z_and (I (p + 7) (j : Int)) these ≠ 0) ∧ L na (j : Int) ≠ 0) ∧ L nk (j : Int) ≠ 0 then capX (wiF I L p na nk these j + thX (L na (j : Int)) (L nk (j : Int))) else wiF I L p na nk these j := rfl
      have ht : L na (j : Int) ≠ 0 → L nk (j : Int) ≠ 0 → 0 ≤ thX (L na (j : Int)) (L nk (j : Int)) ∧ thX (L na (j : Int)) (L nk (j : Int)) ≤ 1000000000000001 := fun a b => by
        rw [thX_cap (by omega) (by omega)]
        exact capX_r (Int.mul_nonneg h1.1 h2.1)
      refine x_iload dX6_waysIn_5 4 rfl ?_
      refine x_aload_n dX6_waysIn_7 1 rfl rfl ?_
      refine x_getI dX6_waysIn_8 flX6_85 (shP0 hp) rfl ?_
      rw [hn]
      refine x_ic_ge (tgt := 95) dX6_waysIn_11 (by decide) (by first | omega | exact z_and_r _ _) (fun h11 => ?_) (fun h11 => ?_)
      · exfalso; omega
      · refine x_iload_n dX6_waysIn_14 2 rfl rfl ?_
        refine x_if_eq (tgt := 30) dX6_waysIn_15 (by decide) (by first | omega | exact z_and_r _ _) (fun h15 => ?_) (fun h15 => ?_)
        · refine x_iconst dX6_waysIn_30 ?_
          refine x_goto (tgt := 35) dX6_waysIn_31 (by decide) ?_
          refine x_istore (lv' := [(0, _), (1, _), (2, _), (3, _), (5, _), (6, _)]) dX6_waysIn_35 rfl rfl ?_
          refine x_iload dX6_waysIn_37 5 rfl ?_
          refine x_if_eq (tgt := 89) dX6_waysIn_39 (by decide) (by first | omega | exact z_and_r _ _) (fun h39 => ?_) (fun h39 => ?_)
          · exfalso; omega
          · refine x_aload_n dX6_waysIn_42 0 rfl rfl ?_
            refine x_getR dX6_waysIn_43 flX6_35 rfl rfl hW.2.2.2.1 ?_
            refine x_iload dX6_waysIn_46 4 rfl ?_
            refine x_lald dX6_waysIn_48 (shW hW.2.2.2.2.2.2.1) (by omega) ?_
            refine x_lconst 0 dX6_waysIn_49 rfl ?_
            refine x_lc_eq (tgt := 89) dX6_waysIn_50 dX6_waysIn_51 (by decide) (by first | omega | exact z_and_r _ _) (fun h50 => ?_) (fun h50 => ?_)
            · refine x_iinc (lv' := [(0, _), (1, _), (2, _), (3, _), (5, _), (6, _)]) dX6_waysIn_89 4 rfl rfl rfl ?_
              refine x_goto (tgt := 5) dX6_waysIn_92 (by decide) ?_
              refine x_top (lv' := [(0, _), (1, _), (2, _), (3, _), (5, _)]) 6 rfl ?_
              have es' := es
              first
              | (rw [if_pos ⟨⟨Or.inl (by assumption), by assumption⟩, by assumption⟩] at es'
                 rw [es'] at ih
                 exact ih)
              | (rw [if_pos ⟨⟨Or.inr (by assumption), by assumption⟩, by assumption⟩] at es'
                 rw [es'] at ih
                 exact ih)
              | (rw [if_neg (fun q => q.2 (by assumption))] at es'
                 rw [es'] at ih
                 exact ih)
              | (rw [if_neg (fun q => q.1.2 (by assumption))] at es'
                 rw [es'] at ih
                 exact ih)
              | (rw [if_neg (fun q => q.1.1.elim (by assumption) (fun y => y (by assumption)))] at es'
                 rw [es'] at ih
                 exact ih)
            · refine x_aload_n dX6_waysIn_54 0 rfl rfl ?_
              refine x_getR dX6_waysIn_55 flX6_41 rfl rfl hW.2.2.2.2.2.1 ?_
              refine x_iload dX6_waysIn_58 4 rfl ?_
              refine x_lald dX6_waysIn_60 (shW hW.2.2.2.2.2.2.2.2.1) (by omega) ?_
              refine x_lconst 0 dX6_waysIn_61 rfl ?_
              refine x_lc_eq (tgt := 89) dX6_waysIn_62 dX6_waysIn_63 (by decide) (by first | omega | exact z_and_r _ _) (fun h62 => ?_) (fun h62 => ?_)
              · refine x_iinc (lv' := [(0, _), (1, _), (2, _), (3, _), (5, _), (6, _)]) dX6_waysIn_89 4 rfl rfl rfl ?_
                refine x_goto (tgt := 5) dX6_waysIn_92 (by decide) ?_
                refine x_top (lv' := [(0, _), (1, _), (2, _), (3, _), (5, _)]) 6 rfl ?_
                have es' := es
                first
                | (rw [if_pos ⟨⟨Or.inl (by assumption), by assumption⟩, by assumption⟩] at es'
                   rw [es'] at ih
                   exact ih)
                | (rw [if_pos ⟨⟨Or.inr (by assumption), by assumption⟩, by assumption⟩] at es'
                   rw [es'] at ih
                   exact ih)
                | (rw [if_neg (fun q => q.2 (by assumption))] at es'
                   rw [es'] at ih
                   exact ih)
                | (rw [if_neg (fun q => q.1.2 (by assumption))] at es'
                   rw [es'] at ih
                   exact ih)
                | (rw [if_neg (fun q => q.1.1.elim (by assumption) (fun y => y (by assumption)))] at es'
                   rw [es'] at ih
                   exact ih)
              · refine x_lload_n dX6_waysIn_66 3 rfl rfl ?_
                refine x_aload_n dX6_waysIn_67 0 rfl rfl ?_
                refine x_getR dX6_waysIn_68 flX6_35 rfl rfl hW.2.2.2.1 ?_
                refine x_iload dX6_waysIn_71 4 rfl ?_
                refine x_lald dX6_waysIn_73 (shW hW.2.2.2.2.2.2.1) (by omega) ?_
                refine x_aload_n dX6_waysIn_74 0 rfl rfl ?_
                refine x_getR dX6_waysIn_75 flX6_41 rfl rfl hW.2.2.2.2.2.1 ?_
                refine x_iload dX6_waysIn_78 4 rfl ?_
                refine x_lald dX6_waysIn_80 (shW hW.2.2.2.2.2.2.2.2.1) (by omega) ?_
                refine x_callSl (as := [_, _]) dX6_waysIn_81 lvX6_91 rfl rfl rfl rfl ⟨rfl, rfl⟩ (s_X6_through (by omega) (by omega)) (fun z81 I81 L81 R81 hq81 => ?_)
                obtain ⟨rfl, rfl, rfl, rfl⟩ := hq81
                refine x_ladd dX6_waysIn_84 ?_
                refine x_callNl (as := [_]) dX6_waysIn_85 lvX6_95 rfl rfl rfl rfl ⟨rfl, rfl⟩ (s_capX (by have := ht (by assumption) (by assumption); omega)) (fun z85 I85 L85 R85 hq85 => ?_)
                obtain ⟨rfl, rfl, rfl, rfl⟩ := hq85
                refine x_lstore_n (lv' := [(0, _), (1, _), (2, _), (3, _), (5, _), (6, _)]) dX6_waysIn_88 rfl rfl rfl ?_
                refine x_iinc (lv' := [(0, _), (1, _), (2, _), (3, _), (5, _), (6, _)]) dX6_waysIn_89 4 rfl rfl rfl ?_
                refine x_goto (tgt := 5) dX6_waysIn_92 (by decide) ?_
                refine x_top (lv' := [(0, _), (1, _), (2, _), (3, _), (5, _)]) 6 rfl ?_
                have es' := es
                first
                | (rw [if_pos ⟨⟨Or.inl (by assumption), by assumption⟩, by assumption⟩] at es'
                   rw [es'] at ih
                   exact ih)
                | (rw [if_pos ⟨⟨Or.inr (by assumption), by assumption⟩, by assumption⟩] at es'
                   rw [es'] at ih
                   exact ih)
                | (rw [if_neg (fun q => q.2 (by assumption))] at es'
                   rw [es'] at ih
                   exact ih)
                | (rw [if_neg (fun q => q.1.2 (by assumption))] at es'
                   rw [es'] at ih
                   exact ih)
                | (rw [if_neg (fun q => q.1.1.elim (by assumption) (fun y => y (by assumption)))] at es'
                   rw [es'] at ih
                   exact ih)
        · refine x_aload_n dX6_waysIn_18 1 rfl rfl ?_
          refine x_getR dX6_waysIn_19 flX6_88 (shP0 hp) rfl hp.2.2.2.2.2.2.2 ?_
          refine x_iload dX6_waysIn_22 4 rfl ?_
          refine x_iald dX6_waysIn_24 (shP7 hp) (by omega) ?_
          refine x_iload_n dX6_waysIn_25 2 rfl rfl ?_
          refine x_iand dX6_waysIn_26 ?_
          refine x_if_eq (tgt := 34) dX6_waysIn_27 (by decide) (by first | omega | exact z_and_r _ _) (fun h27 => ?_) (fun h27 => ?_)
          · refine x_iconst dX6_waysIn_34 ?_
            refine x_istore (lv' := [(0, _), (1, _), (2, _), (3, _), (5, _), (6, _)]) dX6_waysIn_35 rfl rfl ?_
            refine x_iload dX6_waysIn_37 5 rfl ?_
            refine x_if_eq (tgt := 89) dX6_waysIn_39 (by decide) (by first | omega | exact z_and_r _ _) (fun h39 => ?_) (fun h39 => ?_)
            · refine x_iinc (lv' := [(0, _), (1, _), (2, _), (3, _), (5, _), (6, _)]) dX6_waysIn_89 4 rfl rfl rfl ?_
              refine x_goto (tgt := 5) dX6_waysIn_92 (by decide) ?_
              refine x_top (lv' := [(0, _), (1, _), (2, _), (3, _), (5, _)]) 6 rfl ?_
              have es' := es
              first
              | (rw [if_pos ⟨⟨Or.inl (by assumption), by assumption⟩, by assumption⟩] at es'
                 rw [es'] at ih
                 exact ih)
              | (rw [if_pos ⟨⟨Or.inr (by assumption), by assumption⟩, by assumption⟩] at es'
                 rw [es'] at ih
                 exact ih)
              | (rw [if_neg (fun q => q.2 (by assumption))] at es'
                 rw [es'] at ih
                 exact ih)
              | (rw [if_neg (fun q => q.1.2 (by assumption))] at es'
                 rw [es'] at ih
                 exact ih)
              | (rw [if_neg (fun q => q.1.1.elim (by assumption) (fun y => y (by assumption)))] at es'
                 rw [es'] at ih
                 exact ih)
            · exfalso; omega
          · refine x_iconst dX6_waysIn_30 ?_
            refine x_goto (tgt := 35) dX6_waysIn_31 (by decide) ?_
            refine x_istore (lv' := [(0, _), (1, _), (2, _), (3, _), (5, _), (6, _)]) dX6_waysIn_35 rfl rfl ?_
            refine x_iload dX6_waysIn_37 5 rfl ?_
            refine x_if_eq (tgt := 89) dX6_waysIn_39 (by decide) (by first | omega | exact z_and_r _ _) (fun h39 => ?_) (fun h39 => ?_)
            · exfalso; omega
            · refine x_aload_n dX6_waysIn_42 0 rfl rfl ?_
              refine x_getR dX6_waysIn_43 flX6_35 rfl rfl hW.2.2.2.1 ?_
              refine x_iload dX6_waysIn_46 4 rfl ?_
              refine x_lald dX6_waysIn_48 (shW hW.2.2.2.2.2.2.1) (by omega) ?_
              refine x_lconst 0 dX6_waysIn_49 rfl ?_
              refine x_lc_eq (tgt := 89) dX6_waysIn_50 dX6_waysIn_51 (by decide) (by first | omega | exact z_and_r _ _) (fun h50 => ?_) (fun h50 => ?_)
              · refine x_iinc (lv' := [(0, _), (1, _), (2, _), (3, _), (5, _), (6, _)]) dX6_waysIn_89 4 rfl rfl rfl ?_
                refine x_goto (tgt := 5) dX6_waysIn_92 (by decide) ?_
                refine x_top (lv' := [(0, _), (1, _), (2, _), (3, _), (5, _)]) 6 rfl ?_
                have es' := es
                first
                | (rw [if_pos ⟨⟨Or.inl (by assumption), by assumption⟩, by assumption⟩] at es'
                   rw [es'] at ih
                   exact ih)
                | (rw [if_pos ⟨⟨Or.inr (by assumption), by assumption⟩, by assumption⟩] at es'
                   rw [es'] at ih
                   exact ih)
                | (rw [if_neg (fun q => q.2 (by assumption))] at es'
                   rw [es'] at ih
                   exact ih)
                | (rw [if_neg (fun q => q.1.2 (by assumption))] at es'
                   rw [es'] at ih
                   exact ih)
                | (rw [if_neg (fun q => q.1.1.elim (by assumption) (fun y => y (by assumption)))] at es'
                   rw [es'] at ih
                   exact ih)
              · refine x_aload_n dX6_waysIn_54 0 rfl rfl ?_
                refine x_getR dX6_waysIn_55 flX6_41 rfl rfl hW.2.2.2.2.2.1 ?_
                refine x_iload dX6_waysIn_58 4 rfl ?_
                refine x_lald dX6_waysIn_60 (shW hW.2.2.2.2.2.2.2.2.1) (by omega) ?_
                refine x_lconst 0 dX6_waysIn_61 rfl ?_
                refine x_lc_eq (tgt := 89) dX6_waysIn_62 dX6_waysIn_63 (by decide) (by first | omega | exact z_and_r _ _) (fun h62 => ?_) (fun h62 => ?_)
                · refine x_iinc (lv' := [(0, _), (1, _), (2, _), (3, _), (5, _), (6, _)]) dX6_waysIn_89 4 rfl rfl rfl ?_
                  refine x_goto (tgt := 5) dX6_waysIn_92 (by decide) ?_
                  refine x_top (lv' := [(0, _), (1, _), (2, _), (3, _), (5, _)]) 6 rfl ?_
                  have es' := es
                  first
                  | (rw [if_pos ⟨⟨Or.inl (by assumption), by assumption⟩, by assumption⟩] at es'
                     rw [es'] at ih
                     exact ih)
                  | (rw [if_pos ⟨⟨Or.inr (by assumption), by assumption⟩, by assumption⟩] at es'
                     rw [es'] at ih
                     exact ih)
                  | (rw [if_neg (fun q => q.2 (by assumption))] at es'
                     rw [es'] at ih
                     exact ih)
                  | (rw [if_neg (fun q => q.1.2 (by assumption))] at es'
                     rw [es'] at ih
                     exact ih)
                  | (rw [if_neg (fun q => q.1.1.elim (by assumption) (fun y => y (by assumption)))] at es'
                     rw [es'] at ih
                     exact ih)
                · refine x_lload_n dX6_waysIn_66 3 rfl rfl ?_
                  refine x_aload_n dX6_waysIn_67 0 rfl rfl ?_
                  refine x_getR dX6_waysIn_68 flX6_35 rfl rfl hW.2.2.2.1 ?_
                  refine x_iload dX6_waysIn_71 4 rfl ?_
                  refine x_lald dX6_waysIn_73 (shW hW.2.2.2.2.2.2.1) (by omega) ?_
                  refine x_aload_n dX6_waysIn_74 0 rfl rfl ?_
                  refine x_getR dX6_waysIn_75 flX6_41 rfl rfl hW.2.2.2.2.2.1 ?_
                  refine x_iload dX6_waysIn_78 4 rfl ?_
                  refine x_lald dX6_waysIn_80 (shW hW.2.2.2.2.2.2.2.2.1) (by omega) ?_
                  refine x_callSl (as := [_, _]) dX6_waysIn_81 lvX6_91 rfl rfl rfl rfl ⟨rfl, rfl⟩ (s_X6_through (by omega) (by omega)) (fun z81 I81 L81 R81 hq81 => ?_)
                  obtain ⟨rfl, rfl, rfl, rfl⟩ := hq81
                  refine x_ladd dX6_waysIn_84 ?_
                  refine x_callNl (as := [_]) dX6_waysIn_85 lvX6_95 rfl rfl rfl rfl ⟨rfl, rfl⟩ (s_capX (by have := ht (by assumption) (by assumption); omega)) (fun z85 I85 L85 R85 hq85 => ?_)
                  obtain ⟨rfl, rfl, rfl, rfl⟩ := hq85
                  refine x_lstore_n (lv' := [(0, _), (1, _), (2, _), (3, _), (5, _), (6, _)]) dX6_waysIn_88 rfl rfl rfl ?_
                  refine x_iinc (lv' := [(0, _), (1, _), (2, _), (3, _), (5, _), (6, _)]) dX6_waysIn_89 4 rfl rfl rfl ?_
                  refine x_goto (tgt := 5) dX6_waysIn_92 (by decide) ?_
                  refine x_top (lv' := [(0, _), (1, _), (2, _), (3, _), (5, _)]) 6 rfl ?_
                  have es' := es
                  first
                  | (rw [if_pos ⟨⟨Or.inl (by assumption), by assumption⟩, by assumption⟩] at es'
                     rw [es'] at ih
                     exact ih)
                  | (rw [if_pos ⟨⟨Or.inr (by assumption), by assumption⟩, by assumption⟩] at es'
                     rw [es'] at ih
                     exact ih)
                  | (rw [if_neg (fun q => q.2 (by assumption))] at es'
                     rw [es'] at ih
                     exact ih)
                  | (rw [if_neg (fun q => q.1.2 (by assumption))] at es'
                     rw [es'] at ih
                     exact ih)
                  | (rw [if_neg (fun q => q.1.1.elim (by assumption) (fun y => y (by assumption)))] at es'
                     rw [es'] at ih
                     exact ih)
    · refine x_iload dX6_waysIn_5 4 rfl ?_
      refine x_aload_n dX6_waysIn_7 1 rfl rfl ?_
      refine x_getI dX6_waysIn_8 flX6_85 (shP0 hp) rfl ?_
      rw [hn]
      refine x_ic_ge (tgt := 95) dX6_waysIn_11 (by decide) (by first | omega | exact z_and_r _ _) (fun h11 => ?_) (fun h11 => ?_)
      · refine x_lload_n dX6_waysIn_95 3 rfl rfl ?_
        refine x_lret dX6_waysIn_96 rfl ?_
        rw [← hQ]
        exact ⟨_, rfl, rfl, rfl, rfl, rfl⟩
      · exfalso; omega
  refine x_lconst 0 dX6_waysIn_0 rfl ?_
  refine x_lstore_n (lv' := [(0, _), (1, _), (2, _), (3, _)]) dX6_waysIn_1 rfl rfl rfl ?_
  refine x_iconst dX6_waysIn_2 ?_
  refine x_istore (lv' := [(0, _), (1, _), (2, _), (3, _), (5, _)]) dX6_waysIn_3 rfl rfl ?_
  exact loop 0 (by omega)
end

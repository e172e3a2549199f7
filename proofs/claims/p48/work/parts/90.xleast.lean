section
variable {G : GT} {I L : MI} {R : MR} {p h na nb nk : Nat}
/-- all may begin, in any mode -/
theorem s_beginF {κ : MI} {n : Nat} {md : Int} (hR : okR R) (tw : tW R na nb nk) (hp : p = 42 ∨ p = 50) (hph : R p 0 = some h) (hh : isH R h) (k : PK I p h n κ) : Sp G mtX6_begin [mr 19, mr p, mi md, mi 0] shX I L R (qv (fun I' L' R' => (isW R' p na nb nk ∧ R' p 0 = some h ∧ isH R' h ∧ RFw R R' ∧ FIw I I' ∧ (I' 19 10 = md ∧ I' 19 15 = 0 ∧ ∀ i, i ≠ 10 → i ≠ 15 → I' 19 i = I 19 i) ∧ (∀ c i, ¬ (c = 29 ∨ c = 30 ∨ c = 31) → L' c i = L c i) ∧ PK I' p h n κ) ∧ (∀ c i, 32 ≤ c → I' c i = I c i) ∧ ∀ x : Nat, x < n → L' na (x : Int) = if begb κ (sgX I p h x) = true then 1 else 0)) := by
  have hW := tw.w (p := p) hR hp
  have hh1 := hh.1
  have hn1 := hW.2.2.2.2.2.2.1
  refine (s_X6_begin (G := G) (I := I) (L := L) (sb := 0) (md := md) hW hph hh k.1 (Or.inl rfl)).mono (fun v I' L' R' hq => ?_)
  obtain ⟨rfl, rfl, hbg, rfl⟩ := hq
  have ie : ∀ c i, c ≠ 19 → (m_up (m_up I 19 10 md) 19 15 0) c i = I c i := fun c i q => by rw [m_up_ne q, m_up_ne q]
  have e32 : ∀ c i, 32 ≤ c → (m_up (m_up I 19 10 md) 19 15 0) c i = I c i := fun c i q => ie c i (by omega)
  refine ⟨rfl, ⟨hW, ?_, ?_, (RFw.rf R).up (by omega) _, ?_, ⟨?_, ?_, fun i q1 q2 => ?_⟩, fun c i q => hbg.1 c i (by omega), PK_d e32 (by omega) (by omega) k⟩, e32, fun x hx => ?_⟩
  · rw [m_up_ne (by omega)]; exact hph
  · exact ((RFw.rf R).up (by omega) _).iH hh
  · exact ((FIw.rf I).up (by omega) _ _).up (by omega) _ _
  · rw [m_up_nj (by decide), m_up_eq]
  · rw [m_up_eq]
  · rw [m_up_nj q2, m_up_nj q1]
  · have s := k.1
    have h1 := hbg.2 _ _ _ (stJ_lt s hx 0 (by omega)) (stJ_lt s hx 1 (by omega)) (stJ_lt s hx 2 (by omega))
    simp only [stJ_ix s hx] at h1
    have esy : syX (m_up (m_up I 19 10 md) 19 15 0) L p x 0 = ftX I p (x : Int) 0 := by
      unfold syX
      rw [if_pos m_up_eq]
      unfold ftX
      rw [ie (p + 7) _ (by omega), ie (p + 4) _ (by omega), ie (p + 3) _ (by omega)]
      rfl
    rw [esy] at h1
    have hb := beg_ok k hx
    rcases h1 with ⟨a, b⟩ | ⟨a, b⟩
    · rw [a, if_pos (hb.mpr b)]
    · rw [a, if_neg (fun q => b (hb.mp q))]
end
def lsF (K : MI) (na : Nat) : Nat → Int
  | 0 => 0
  | x + 1 => lsr (lsF K na x) (K na (x : Int))
theorem lsF_s {K : MI} {na : Nat} : ∀ n, (∀ x : Nat, x < n → 0 ≤ K na (x : Int)) → (lsF K na n = 0 ∧ ∀ x : Nat, x < n → K na (x : Int) = 0) ∨ (1 ≤ lsF K na n ∧ (∃ x : Nat, x < n ∧ lsF K na n = K na (x : Int)) ∧ ∀ x : Nat, x < n → K na (x : Int) ≠ 0 → lsF K na n ≤ K na (x : Int))
  | 0, _ => Or.inl ⟨rfl, fun x h => by omega⟩
  | n + 1, hk => by
    have h0 := hk n (by omega)
    have e : lsF K na (n + 1) = lsr (lsF K na n) (K na (n : Int)) := rfl
    have e2 : (lsF K na n = 0 → lsr (lsF K na n) (K na (n : Int)) = K na (n : Int)) ∧ (K na (n : Int) = 0 → lsr (lsF K na n) (K na (n : Int)) = lsF K na n) ∧ (1 ≤ lsF K na n → 1 ≤ K na (n : Int) → lsr (lsF K na n) (K na (n : Int)) = min (lsF K na n) (K na (n : Int))) := by unfold lsr; refine ⟨fun z => ?_, fun z => ?_, fun z1 z2 => ?_⟩ <;> split <;> omega
    rw [e]
    rcases lsF_s (K := K) (na := na) n (fun x hx => hk x (by omega)) with ⟨h1, h2⟩ | ⟨h1, ⟨x, hx, h2⟩, h3⟩
    · rw [e2.1 h1]
      by_cases z : K na (n : Int) = 0
      · exact Or.inl ⟨z, fun x hx => by
          by_cases q : x = n
          · rw [q]; exact z
          · exact h2 x (by omega)⟩
      · refine Or.inr ⟨by omega, ⟨n, by omega, rfl⟩, fun x hx y => ?_⟩
        by_cases q : x = n
        · rw [q]; exact Int.le_refl _
        · exact absurd (h2 x (by omega)) y
    · by_cases z : K na (n : Int) = 0
      · rw [e2.2.1 z]
        refine Or.inr ⟨h1, ⟨x, by omega, h2⟩, fun y hy q => ?_⟩
        by_cases q2 : y = n
        · rw [q2] at q; exact absurd z q
        · exact h3 y (by omega) q
      · have e3 := e2.2.2 h1 (by omega)
        rw [e3]
        refine Or.inr ⟨by omega, ?_, fun y hy q => ?_⟩
        · by_cases q : lsF K na n ≤ K na (n : Int)
          · exact ⟨x, by omega, by omega⟩
          · exact ⟨n, by omega, by omega⟩
        · by_cases q2 : y = n
          · rw [q2]; omega
          · have := h3 y (by omega) q; omega
theorem cbB_s {W : Nat → Int} : ∀ n, (cbB W n = -9 ∧ ∀ s, s < n → W s < 0) ∨ (0 ≤ cbB W n ∧ (∃ s, s < n ∧ cbB W n = W s) ∧ ∀ s, s < n → 0 ≤ W s → cbB W n ≤ W s)
  | 0 => Or.inl ⟨rfl, fun s h => by omega⟩
  | n + 1 => by
    have e : cbB W (n + 1) = if 0 ≤ W n ∧ (cbB W n = -9 ∨ W n < cbB W n) then W n else cbB W n := rfl
    rw [e]
    rcases cbB_s (W := W) n with ⟨h1, h2⟩ | ⟨h1, ⟨s, hs, h2⟩, h3⟩
    · by_cases z : 0 ≤ W n
      · rw [if_pos ⟨z, Or.inl h1⟩]
        refine Or.inr ⟨z, ⟨n, by omega, rfl⟩, fun s hs y => ?_⟩
        by_cases q : s = n
        · rw [q]; exact Int.le_refl _
        · have := h2 s (by omega); omega
      · rw [if_neg (fun y => z y.1)]
        refine Or.inl ⟨h1, fun s hs => ?_⟩
        by_cases q : s = n
        · rw [q]; omega
        · exact h2 s (by omega)
    · by_cases z : 0 ≤ W n ∧ (cbB W n = -9 ∨ W n < cbB W n)
      · rw [if_pos z]
        refine Or.inr ⟨z.1, ⟨n, by omega, rfl⟩, fun s hs y => ?_⟩
        by_cases q : s = n
        · rw [q]; exact Int.le_refl _
        · have := h3 s (by omega) y; omega
      · rw [if_neg z]
        refine Or.inr ⟨h1, ⟨s, by omega, h2⟩, fun y hy q => ?_⟩
        by_cases q2 : y = n
        · subst q2; omega
        · exact h3 y (by omega) q
def cvL (b : Int) : Int := if b = -9 then -1 else 1024 * (b / 1000) + b % 1000
theorem least_end {J κ K : MI} {p h n t na : Nat} {W : Nat → Int} (k : PK J p h n κ) (ht : t ≤ 31) (r : LSR J p h n (nst κ) t (fun x => K na (x : Int)) W) : lsF K na n - 1 = cvL (cbB W (nst κ)) := by
  have h0 : ∀ x : Nat, x < n → 0 ≤ K na (x : Int) := fun x hx => by
    rcases r.1 x hx with ⟨e, -⟩ | ⟨P, M, a1, a2, a3, a4, a5, -⟩
    · have e' : K na (x : Int) = 0 := e
      omega
    · have a5' : K na (x : Int) = 1024 * P + M + 1 := a5
      omega
  rcases lsF_s (K := K) (na := na) n h0 with ⟨h1, h2⟩ | ⟨h1, ⟨x, hx, h2⟩, h3⟩
  · rcases cbB_s (W := W) (nst κ) with ⟨b1, -⟩ | ⟨b1, ⟨s, hs, b2⟩, -⟩
    · rw [h1, b1]; rfl
    · obtain ⟨j, hj, rfl⟩ := r.2 s hs (by omega)
      rcases r.1 j hj with ⟨-, e⟩ | ⟨P, M, a1, a2, a3, a4, a5, -⟩
      · omega
      · have a5' : K na (j : Int) = 1024 * P + M + 1 := a5
        have := h2 j hj
        omega
  · rcases r.1 x hx with ⟨e, -⟩ | ⟨P, M, a1, a2, a3, a4, a5, a6⟩
    · have e' : K na (x : Int) = 0 := e
      omega
    · have a5' : K na (x : Int) = 1024 * P + M + 1 := a5
      have hlt := (sgX_lt k hx).1
      rcases cbB_s (W := W) (nst κ) with ⟨-, b2⟩ | ⟨b1, ⟨s, hs, b2⟩, b3⟩
      · have := b2 _ hlt; omega
      · have l1 := b3 _ hlt (by omega)
        obtain ⟨j, hj, rfl⟩ := r.2 s hs (by omega)
        rcases r.1 j hj with ⟨-, e⟩ | ⟨P2, M2, d1, d2, d3, d4, d5, d6⟩
        · omega
        · have d5' : K na (j : Int) = 1024 * P2 + M2 + 1 := d5
          have l2 := h3 j hj (by omega)
          unfold cvL
          rw [if_neg (by omega)]
          omega
def leI (I L : MI) (R : MR) (p h n nk : Nat) (κ : MI) (m f : Int) (na nb t : Nat) (J K : MI) (S : MR) : Prop :=
  isW S p na nb nk ∧ S p 0 = some h ∧ isH S h ∧ RFw R S ∧ FIw I J ∧ (J 19 10 = 2 ∧ J 19 15 = 0 ∧ J 19 13 = m ∧ J 19 14 = f ∧ rI (J 19 12)) ∧ (∀ c i, ¬ (c = 29 ∨ c = 30 ∨ c = 31) → K c i = L c i) ∧ PK J p h n κ ∧ LSR J p h n (nst κ) t (fun x => K na (x : Int)) (cbV κ m f t)
theorem leI.wp {I L : MI} {R : MR} {p h n nk : Nat} {κ : MI} {m f : Int} {na nb t : Nat} {J K : MI} {S : MR} (g : leI I L R p h n nk κ m f na nb t J K S) : WP I L R J K S := by
  obtain ⟨x1, x2, x3, x4, x5, ⟨y1, y2, y3, y4, y5⟩, x7, x8, x9⟩ := g
  exact ⟨x5, ⟨y5, by omega⟩, fun c i q => x7 c i (fun z => q (by omega)), x4, na, nb, nk, x1.t⟩
theorem LSR_d {I J : MI} {p h n m t : Nat} {K W : Nat → Int} (e : ∀ c i, 32 ≤ c → J c i = I c i) (hp : 32 ≤ p) (hh : 32 ≤ h) (r : LSR I p h n m t K W) : LSR J p h n m t K W := by
  refine ⟨fun x hx => by rw [sgX_d e hp hh]; exact r.1 x hx, fun s hs hw => ?_⟩
  obtain ⟨j, hj, q⟩ := r.2 s hs hw
  exact ⟨j, hj, by rw [sgX_d e hp hh]; exact q⟩
section
variable {G : GT} {I L : MI} {R : MR} {p h na nb nk : Nat}
theorem s_sweepP {κ J K : MI} {S : MR} {n t : Nat} {m f : Int} (g : leI I L R p h n nk κ m f na nb t J K S) (ht : (t : Int) < J h 3) (hM : iMs κ) (h2 : J p 2 = 0) (h4 : J h 4 = κ 0 35) (hm : 0 ≤ m ∧ m ≤ 99) (hf : 0 ≤ f ∧ f ≤ 99) :
    Sp G mtX6_sweep [mr 19, mi (t : Int)] shX J K S (qv (fun I' L' R' => leI I L R p h n nk κ m f nb na (t + 1) I' L' R')) := by
  obtain ⟨hW, hph, hh, r, fw, ⟨m0, m15, m13, m14, m12⟩, fl, k, ls⟩ := g
  have hp1 := hW.2.1.1
  have hh1 := hh.1
  have hn1 := hW.2.2.2.2.2.2.1
  have hn2 := hW.2.2.2.2.2.2.2.1
  have hlt := PK_last k
  refine (s_sweepG (G := G) hW hph hh k.1 ht (by omega) m12 (by omega) (fun q => by omega) (fun x hx => ?_)).mono (fun v I' L' R' hq => ?_)
  · rcases ls.1 x hx with ⟨e, -⟩ | ⟨P, M, a1, a2, a3, a4, a5, -⟩
    · have e' : K na (x : Int) = 0 := e
      exact ⟨fun _ => by omega, by omega⟩
    · have a5' : K na (x : Int) = 1024 * P + M + 1 := a5
      exact ⟨fun _ => by omega, by omega⟩
  · obtain ⟨rfl, e1, e2, e4, e5, rfl⟩ := hq
    have e32 : ∀ c i, 32 ≤ c → I' c i = J c i := fun c i q => e1 c i (by omega)
    have st := least_step k ht hM h2 h4 m13 m14 hm hf (by omega) (by omega) ls
    refine ⟨rfl, hW.sw, ?_, ?_, (r.up (by omega) _).up (by omega) _, fun c i q => (e1 c i q).trans (fw c i q), ⟨(e2 10 (by decide)).trans m0, (e2 15 (by decide)).trans m15, (e2 13 (by decide)).trans m13, (e2 14 (by decide)).trans m14, by rw [e2 12 (by decide)]; exact m12⟩, fun c i q => (e4 c i (by omega)).trans (fl c i q), PK_d e32 (by omega) (by omega) k, LSR_d e32 (by omega) (by omega) ⟨fun x hx => ?_, st.2⟩⟩
    · rw [m_up_ne (by omega), m_up_ne (by omega)]; exact hph
    · exact (((RFw.rf S).up (by omega) _).up (by omega) _).iH hh
    · have sx := st.1 x hx
      have ev := e5 x hx
      rw [m0, if_neg (show ¬ (2 : Int) = 4 by decide), swV_2 (by omega) (by omega) m0] at ev
      have esy : syX J K p x (t + 1) = ftX J p (x : Int) ((t : Int) + 1) := by
        unfold syX
        rw [if_pos m15]
        rfl
      rw [esy] at ev
      show LRL (t + 1) (L' nb (x : Int)) (cbV κ m f (t + 1) (sgX J p h x))
      have e6 : L' nb (x : Int) = if ftX J p (x : Int) ((t : Int) + 1) = true then (clS J p h (t : Int) (fun j => decide (K na (j : Int) ≠ 0)) n).foldl (fun w q => if q.2.1.toNat = x then lsr w (K na (q.1 : Int) + prX (m_up J 19 11 (t : Int)) p h (dA q.2.2)) else w) 0 else 0 := by
        rw [ev]
        by_cases q : ftX J p (x : Int) ((t : Int) + 1) = true
        · rw [if_neg (fun z => z.2 q), if_pos q]
        · rw [if_pos ⟨by decide, q⟩, if_neg q]
      rw [e6]
      exact sx

set_option maxHeartbeats 1000000 in
theorem s_X6_least {κ : MI} {n : Nat} {m f : Int} (hR : okR R) (tw : tW R na nb nk) (hp : isP R p) (hph : R p 0 = some h) (hh : isH R h) (k : PK I p h n κ) (m12 : rI (I 19 12)) (m15 : rI (I 19 15)) (hM : iMs κ) (h2 : I p 2 = 0) (hh4 : I h 4 = κ 0 35) (hm : 0 ≤ m ∧ m ≤ 99) (hf : 0 ≤ f ∧ f ≤ 99) (hfit : I p 4 = 0 ∨ I p 4 = 1) : Sp G mtX6_least [mr 19, mr p, mi m, mi f] shX I L R (ql (fun z I' L' R' => z = (if I p 4 = 0 then -1 else cvL (cbB (cbV κ m f (lst κ)) (nst κ))) ∧ WP I L R I' L' R')) := by
  refine Sp.of pnX6_least rfl ?_
  show Rn G mtX6_least _ 0 [(0, mr 19), (1, mr p), (2, mi m), (3, mi f)] [] shX I L R
  generalize hQ : (ql (fun z I' L' R' => z = (if I p 4 = 0 then -1 else cvL (cbB (cbV κ m f (lst κ)) (nst κ))) ∧ WP I L R I' L' R')) = Q
  have hp1 := hp.1
  have hh1 := hh.1
  have hlt := PK_last k
  have u := PK_us k
  have hn2 := (PQ_n k.1).2
  obtain ⟨I1, hI1⟩ : ∃ I1, I1 = m_up (m_up I 19 13 m) 19 14 f := ⟨_, rfl⟩
  have ie : ∀ c i, c ≠ 19 → I1 c i = I c i := fun c i q => by rw [hI1, m_up_ne q, m_up_ne q]
  have k1 : PK I1 p h n κ := PK_d (fun c i q => ie c i (by omega)) (by omega) (by omega) k
  have i13 : I1 19 13 = m := by rw [hI1, m_up_nj (by decide), m_up_eq]
  have i14 : I1 19 14 = f := by rw [hI1, m_up_eq]
  have i12 : I1 19 12 = I 19 12 := by rw [hI1, m_up_nj (by decide), m_up_nj (by decide)]
  have bg := s_beginF (G := G) (L := L) (md := 2) hR tw hp1 hph hh k1
  have fw0 : FIw I I1 := fun c i q => ie c i (by omega)
  have lp : I p 4 ≠ 0 → ∀ t : Nat, t ≤ lst κ → ∀ na nb J K S, leI I L R p h n nk κ m f na nb t J K S → Rn G mtX6_least Q 31 [(0, mr 19), (1, mr p), (2, mi m), (3, mi f), (4, mi (t : Int))] [] shX J K S := by
    intro hnf
    refine lpn (lst κ) (fun t ht ih => ?_) ?_
    · intro na nb J K S g
      have hW := g.1
      have hph2 := g.2.1
      have hh2 := g.2.2.1
      have hp2 := hW.2.1
      have fw := g.2.2.2.2.1
      have jh3 : J h 3 = I h 3 := fw h 3 (by omega)
      have k2 := g.2.2.2.2.2.2.2.1
      have hn3 : J p 3 = (n : Int) := k2.1.2.2.2.2.1
      have hna := hW.2.2.2.2.2.2.1
      have hsw := s_sweepP (G := G) g (by omega) hM ((fw p 2 (by omega)).trans h2) ((fw h 4 (by omega)).trans hh4) hm hf
      refine x_iload dX6_least_31 4 rfl ?_
      refine x_aload_n dX6_least_33 0 rfl rfl ?_
      refine x_getR dX6_least_34 flX6_54 rfl rfl hW.2.2.1 ?_
      refine x_getR dX6_least_37 flX6_58 (shP0 hp) rfl hph2 ?_
      refine x_getI dX6_least_40 flX6_62 (shH0 hh2) rfl ?_
      rw [jh3]
      refine x_ic_ge (tgt := 58) dX6_least_43 (by decide) (by omega) (fun h43 => ?_) (fun h43 => ?_)
      · exfalso; omega
      · refine x_aload_n dX6_least_46 0 rfl rfl ?_
        refine x_iload dX6_least_47 4 rfl ?_
        refine x_callVv (as := [_]) dX6_least_49 lvX6_68 rfl rfl rfl rfl rfl rfl rfl ⟨rfl, rfl⟩ (hsw) (fun I49 L49 R49 hq49 => ?_)
        skip
        refine x_iinc (lv' := [(0, _), (1, _), (2, _), (3, _), (4, _)]) dX6_least_52 4 rfl rfl rfl ?_
        refine x_goto (tgt := 31) dX6_least_55 (by decide) ?_
        exact ih _ _ _ _ _ hq49
    · intro na nb J K S g
      have hW := g.1
      have hph2 := g.2.1
      have hh2 := g.2.2.1
      have hp2 := hW.2.1
      have fw := g.2.2.2.2.1
      have jh3 : J h 3 = I h 3 := fw h 3 (by omega)
      have k2 := g.2.2.2.2.2.2.2.1
      have hn3 : J p 3 = (n : Int) := k2.1.2.2.2.2.1
      have hna := hW.2.2.2.2.2.2.1
      have ls := g.2.2.2.2.2.2.2.2
      have hv : ∀ x : Nat, x < n → 0 ≤ K na (x : Int) ∧ K na (x : Int) ≤ 1152921504606846976 := fun x hx => by
        rcases ls.1 x hx with ⟨e, -⟩ | ⟨P, M, a1, a2, a3, a4, a5, -⟩
        · have e' : K na (x : Int) = 0 := e
          omega
        · have a5' : K na (x : Int) = 1024 * P + M + 1 := a5
          omega
      have hvl : ∀ x : Nat, x ≤ n → 0 ≤ lsF K na x ∧ lsF K na x ≤ 1152921504606846976 := fun x => by
        induction x with
        | zero => intro _; show (0 : Int) ≤ 0 ∧ (0 : Int) ≤ 1152921504606846976; decide
        | succ x ih =>
          intro hx
          have := hv x (by omega)
          have := ih (by omega)
          exact lsr_r this (hv x (by omega))
      have l0 : ∀ x : Nat, x ≤ n → Rn G mtX6_least Q 64 [(0, mr 19), (1, mr p), (2, mi m), (3, mi f), (4, ml (lsF K na x)), (6, mi (x : Int))] [] shX J K S := by
        refine lpn n (fun x hx ih0 => ?_) ?_
        · have hvx := hv x hx
          have hvlx := hvl x (by omega)
          refine x_iload dX6_least_64 5 rfl ?_
          refine x_aload_n dX6_least_66 0 rfl rfl ?_
          refine x_getR dX6_least_67 flX6_54 rfl rfl hW.2.2.1 ?_
          refine x_getI dX6_least_70 flX6_85 (shP0 hp) rfl ?_
          rw [hn3]
          refine x_ic_ge (tgt := 96) dX6_least_73 (by decide) (by omega) (fun h73 => ?_) (fun h73 => ?_)
          · exfalso; omega
          · refine x_lload dX6_least_76 4 rfl ?_
            refine x_aload_n dX6_least_78 0 rfl rfl ?_
            refine x_getR dX6_least_79 flX6_35 rfl rfl hW.2.2.2.1 ?_
            refine x_iload dX6_least_82 5 rfl ?_
            refine x_lald dX6_least_84 (shW hW.2.2.2.2.2.2.1) (by omega) ?_
            refine x_callSl (as := [_, _]) dX6_least_85 lvX6_132 rfl rfl rfl rfl ⟨rfl, rfl⟩ (s_X6_lesser (by omega) (by omega)) (fun z85 I85 L85 R85 hq85 => ?_)
            obtain ⟨rfl, rfl, rfl, rfl⟩ := hq85
            refine x_lstore (lv' := [(0, _), (1, _), (2, _), (3, _), (4, _), (6, _)]) dX6_least_88 rfl rfl ?_
            refine x_iinc (lv' := [(0, _), (1, _), (2, _), (3, _), (4, _), (6, _)]) dX6_least_90 5 rfl rfl rfl ?_
            refine x_goto (tgt := 64) dX6_least_93 (by decide) ?_
            exact ih0
        · refine x_iload dX6_least_64 5 rfl ?_
          refine x_aload_n dX6_least_66 0 rfl rfl ?_
          refine x_getR dX6_least_67 flX6_54 rfl rfl hW.2.2.1 ?_
          refine x_getI dX6_least_70 flX6_85 (shP0 hp) rfl ?_
          rw [hn3]
          refine x_ic_ge (tgt := 96) dX6_least_73 (by decide) (by omega) (fun h73 => ?_) (fun h73 => ?_)
          · refine x_lload dX6_least_96 4 rfl ?_
            refine x_lconst 1 dX6_least_98 rfl ?_
            refine x_lsub dX6_least_99 ?_
            refine x_lret dX6_least_100 rfl ?_
            rw [← hQ]
            refine ⟨_, rfl, ?_, g.wp⟩
            have hf4 : ¬ I p 4 = 0 := by
              intro q
              exact hnf q
            rw [if_neg hf4]
            exact least_end k2 (by omega) ls
          · exfalso; omega
      refine x_iload dX6_least_31 4 rfl ?_
      refine x_aload_n dX6_least_33 0 rfl rfl ?_
      refine x_getR dX6_least_34 flX6_54 rfl rfl hW.2.2.1 ?_
      refine x_getR dX6_least_37 flX6_58 (shP0 hp) rfl hph2 ?_
      refine x_getI dX6_least_40 flX6_62 (shH0 hh2) rfl ?_
      rw [jh3]
      refine x_ic_ge (tgt := 58) dX6_least_43 (by decide) (by omega) (fun h43 => ?_) (fun h43 => ?_)
      · refine x_lconst 0 dX6_least_58 rfl ?_
        refine x_lstore (lv' := [(0, _), (1, _), (2, _), (3, _), (4, _)]) dX6_least_59 rfl rfl ?_
        refine x_iconst dX6_least_61 ?_
        refine x_istore (lv' := [(0, _), (1, _), (2, _), (3, _), (4, _), (6, _)]) dX6_least_62 rfl rfl ?_
        exact l0 0 (by omega)
      · exfalso; omega
  have main : I p 4 ≠ 0 → ∀ J K S, ((isW S p na nb nk ∧ S p 0 = some h ∧ isH S h ∧ RFw R S ∧ FIw I1 J ∧ (J 19 10 = 2 ∧ J 19 15 = 0 ∧ ∀ i, i ≠ 10 → i ≠ 15 → J 19 i = I1 19 i) ∧ (∀ c i, ¬ (c = 29 ∨ c = 30 ∨ c = 31) → K c i = L c i) ∧ PK J p h n κ) ∧ (∀ c i, 32 ≤ c → J c i = I1 c i) ∧ ∀ x : Nat, x < n → K na (x : Int) = if begb κ (sgX I1 p h x) = true then 1 else 0) → Rn G mtX6_least Q 28 [(0, mr 19), (1, mr p), (2, mi m), (3, mi f)] [] shX J K S := by
    rintro hnf J K S ⟨⟨x1, x2, x3, x4, x5, ⟨y1, y2, y3⟩, x7, x8⟩, e32, ev⟩
    have g : leI I L R p h n nk κ m f na nb 0 J K S := by
      refine ⟨x1, x2, x3, x4, fw0.tr x5, ⟨y1, y2, (y3 13 (by decide) (by decide)).trans i13, (y3 14 (by decide) (by decide)).trans i14, by rw [y3 12 (by decide) (by decide), i12]; exact m12⟩, x7, x8, fun x hx => ?_, fun s hs hw => ?_⟩
      · show LRL 0 (K na (x : Int)) (cbI κ (sgX J p h x))
        rw [ev x hx, sgX_d e32 (by omega) (by omega)]
        unfold cbI
        by_cases q : begb κ (sgX I1 p h x) = true
        · rw [if_pos q, if_pos q]
          exact Or.inr ⟨0, 0, by omega, by omega, by omega, by omega, by omega, by omega⟩
        · rw [if_neg q, if_neg q]
          exact Or.inl ⟨rfl, rfl⟩
      · have hw2 : 0 ≤ cbI κ s := hw
        refine sup_0 x8 s hs ?_
        show 0 < (if begb κ s then (1 : Int) else 0)
        unfold cbI at hw2
        split at hw2
        · rename_i q; rw [if_pos q]; decide
        · omega
    have z := lp hnf 0 (by omega) _ _ _ _ _ g
    refine x_iconst dX6_least_28 ?_
    refine x_istore (lv' := [(0, _), (1, _), (2, _), (3, _), (4, _)]) dX6_least_29 rfl rfl ?_
    exact z
  have main21 : I p 4 ≠ 0 → Rn G mtX6_least Q 21 [(0, mr 19), (1, mr p), (2, mi m), (3, mi f)] [] shX I1 L R := by
    intro hf4
    refine x_aload_n dX6_least_21 0 rfl rfl ?_
    refine x_aload_n dX6_least_22 1 rfl rfl ?_
    refine x_iconst dX6_least_23 ?_
    refine x_iconst dX6_least_24 ?_
    refine x_callVv (as := [_, _, _]) dX6_least_25 lvX6_50 rfl rfl rfl rfl rfl rfl rfl ⟨rfl, rfl⟩ (bg) (fun I25 L25 R25 hq25 => ?_)
    skip
    exact main hf4 _ _ _ hq25
  refine x_aload_n dX6_least_0 1 rfl rfl ?_
  refine x_getI dX6_least_1 flX6_44 (shP0 hp) rfl ?_
  refine x_if_ne (tgt := 11) dX6_least_4 (by decide) (by omega) (fun h4 => ?_) (fun h4 => ?_)
  · refine x_aload_n dX6_least_11 0 rfl rfl ?_
    refine x_iload_n dX6_least_12 2 rfl rfl ?_
    refine x_putI dX6_least_13 flX6_126 rfl rfl rfl ?_
    refine x_aload_n dX6_least_16 0 rfl rfl ?_
    refine x_iload_n dX6_least_17 3 rfl rfl ?_
    refine x_putI dX6_least_18 flX6_129 rfl rfl rfl ?_
    rw [← hI1]
    exact main21 h4
  · refine x_ldc2 (-1) dX6_least_7 lkX6_124 ?_
    refine x_lret dX6_least_10 rfl ?_
    rw [← hQ]
    refine ⟨_, rfl, ?_, FIw.rf I, ⟨m12, m15⟩, fun _ _ _ => rfl, RFw.rf R, na, nb, nk, tw⟩
    rw [if_pos h4]
end

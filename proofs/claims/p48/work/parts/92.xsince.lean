/-! THE CLASS: the Walks: the last minute from which a stuck board lets it be. -/
def mxF (K : MI) (na : Nat) : Nat → Int
  | 0 => 0
  | x + 1 => max (mxF K na x) (K na (x : Int))
theorem mxF_s {K : MI} {na : Nat} : ∀ n, (mxF K na n = 0 ∨ ∃ x : Nat, x < n ∧ mxF K na n = K na (x : Int)) ∧ 0 ≤ mxF K na n ∧ ∀ x : Nat, x < n → K na (x : Int) ≤ mxF K na n
  | 0 => ⟨Or.inl rfl, Int.le_refl _, fun x h => by omega⟩
  | n + 1 => by
    obtain ⟨h1, h2, h3⟩ := mxF_s (K := K) (na := na) n
    have e : mxF K na (n + 1) = max (mxF K na n) (K na (n : Int)) := rfl
    rw [e]
    refine ⟨?_, by omega, fun x hx => ?_⟩
    · by_cases q : mxF K na n ≤ K na (n : Int)
      · exact Or.inr ⟨n, by omega, by omega⟩
      · rcases h1 with h1 | ⟨x, hx, h1⟩
        · exact Or.inl (by omega)
        · exact Or.inr ⟨x, by omega, by omega⟩
    · by_cases q : x = n
      · rw [q]; omega
      · have := h3 x (by omega); omega
theorem MSR_d {κ I J : MI} {p h n : Nat} {d : Int} {f e b t : Nat} {K : Nat → Int} (e32 : ∀ c i, 32 ≤ c → J c i = I c i) (hp : 32 ≤ p) (hh : 32 ≤ h) (r : MSR κ I p h n d f e b t K) : MSR κ J p h n d f e b t K := fun x hx => by
  rw [sgX_d e32 hp hh]
  exact r x hx
theorem MSR.r {κ J : MI} {p h n : Nat} {d : Int} {f e b t : Nat} {K : Nat → Int} (r : MSR κ J p h n d f e b t K) {x : Nat} (hx : x < n) : 0 ≤ K x ∧ K x ≤ (e : Int) := by
  rcases r x hx with ⟨h1, -⟩ | ⟨s, ⟨-, -, h1, -⟩, h2, -⟩ <;> omega
/-- the states of minute t are marked -/
theorem MSR.mk {κ J L : MI} {p h n : Nat} {d : Int} {f e t : Nat} {K : Nat → Int} (hd : 0 ≤ d) (h36 : κ 0 36 = -9) (hft : f ≤ t) (r : MSR κ J p h n d f e t t K) (hset : t < e → ∀ j, j < n → (inX L j t = true ↔ 0 < Fr κ t (sgX J p h j))) : MSR κ J p h n d f e (t + 1) t (fun x => if t < e ∧ inX L x t = true then (t : Int) + 1 else K x) := by
  intro x hx
  have low := sk_low (κ := κ) (s := t) hd h36 t (Nat.le_refl _) (sgX J p h x)
  simp only
  by_cases q : t < e ∧ inX L x t = true
  · rw [if_pos q]
    refine Or.inr ⟨t, ⟨hft, by omega, q.1, low.mpr ((hset q.1 x hx).mp q.2)⟩, rfl, fun s' h => by have := h.2.1; omega⟩
  · rw [if_neg q]
    have eq : ∀ s, Psk κ d f e (t + 1) t (sgX J p h x) s ↔ Psk κ d f e t t (sgX J p h x) s := fun s => by
      constructor
      · rintro ⟨p1, p2, p3, p4⟩
        refine ⟨p1, ?_, p3, p4⟩
        by_cases z : s = t
        · subst z
          exact absurd ⟨p3, (hset p3 x hx).mpr (low.mp p4)⟩ q
        · omega
      · rintro ⟨p1, p2, p3, p4⟩
        exact ⟨p1, by omega, p3, p4⟩
    rcases r x hx with ⟨h1, h2⟩ | ⟨s, h1, h2, h3⟩
    · exact Or.inl ⟨h1, fun s z => h2 s ((eq s).mp z)⟩
    · exact Or.inr ⟨s, (eq s).mpr h1, h2, fun s' z => h3 s' ((eq s').mp z)⟩
def moI (I L : MI) (R : MR) (p h n nk : Nat) (κ : MI) (na nb : Nat) (J K : MI) (S : MR) : Prop :=
  isW S p na nb nk ∧ S p 0 = some h ∧ isH S h ∧ RFw R S ∧ FIw I J ∧ (J 19 10 = 3 ∧ J 19 15 = 0 ∧ rI (J 19 12)) ∧ (∀ c i, ¬ (c = 29 ∨ c = 30 ∨ c = 31) → K c i = L c i) ∧ PK J p h n κ
theorem moI.wp {I L : MI} {R : MR} {p h n nk : Nat} {κ : MI} {na nb : Nat} {J K : MI} {S : MR} (g : moI I L R p h n nk κ na nb J K S) : WP I L R J K S := by
  obtain ⟨x1, x2, x3, x4, x5, ⟨y1, y2, y3⟩, x7, x8⟩ := g
  exact ⟨x5, ⟨y3, by omega⟩, fun c i q => x7 c i (fun z => q (by omega)), x4, na, nb, nk, x1.t⟩
theorem moI.mp {I L : MI} {R : MR} {p h n nk : Nat} {κ : MI} {na nb : Nat} {J K : MI} {S : MR} (g : moI I L R p h n nk κ na nb J K S) (m : Nat) (f : Nat → Int → Int) : moI I L R p h n nk κ na nb J (mapL K na m f) S := by
  obtain ⟨x1, x2, x3, x4, x5, x6, x7, x8⟩ := g
  have hna := x1.2.2.2.2.2.2.1
  exact ⟨x1, x2, x3, x4, x5, x6, fun c i q => (mapL_ne (by omega) i).trans (x7 c i q), x8⟩
section
variable {G : GT} {I L : MI} {R : MR} {p h na nb nk : Nat}
theorem s_sweepM {κ J K : MI} {S : MR} {n t f e : Nat} {d : Int} (g : moI I L R p h n nk κ na nb J K S) (ht : (t : Int) < J h 3) (hd : 0 ≤ d) (h36 : κ 0 36 = -9) (hft : f ≤ t) (he : e ≤ 31) (hsup : ∀ s : Nat, (s : Int) ≤ J h 3 → SUP J p h n (nst κ) (Fr κ s)) (hk : ∀ t : Nat, f ≤ t → (t : Int) < J h 3 → hSk J κ p t d) (r : MSR κ J p h n d f e (t + 1) t (fun x => K na (x : Int))) :
    Sp G mtX6_sweep [mr 19, mi (t : Int)] shX J K S (qv (fun I' L' R' => moI I L R p h n nk κ nb na I' L' R' ∧ MSR κ I' p h n d f e (t + 1) (t + 1) (fun x => L' nb (x : Int)))) := by
  obtain ⟨hW, hph, hh, rw_, fw, ⟨m0, m15, m12⟩, fl, k⟩ := g
  have hp1 := hW.2.1.1
  have hh1 := hh.1
  have hn1 := hW.2.2.2.2.2.2.1
  have hn2 := hW.2.2.2.2.2.2.2.1
  have hlt := PK_last k
  have hp32 : 32 ≤ p := by omega
  have hh32 : 32 ≤ h := by omega
  refine (s_sweepG (G := G) hW hph hh k.1 ht (by omega) m12 (by omega) (fun q => by omega) (fun x hx => ?_)).mono (fun v I' L' R' hq => ?_)
  · have h1 : 0 ≤ K na (x : Int) ∧ K na (x : Int) ≤ (e : Int) := r.r hx
    exact ⟨fun _ => by omega, by omega⟩
  · obtain ⟨rfl, e1, e2, e4, e5, rfl⟩ := hq
    have e32 : ∀ c i, 32 ≤ c → I' c i = J c i := fun c i q => e1 c i (by omega)
    have st := most_step k ht hd h36 hft hsup hk r
    refine ⟨rfl, ⟨hW.sw, ?_, ?_, (rw_.up (by omega) _).up (by omega) _, fun c i q => (e1 c i q).trans (fw c i q), ⟨(e2 10 (by decide)).trans m0, (e2 15 (by decide)).trans m15, by rw [e2 12 (by decide)]; exact m12⟩, fun c i q => (e4 c i (by omega)).trans (fl c i q), PK_d e32 (by omega) (by omega) k⟩, MSR_d e32 (by omega) (by omega) (fun x hx => ?_)⟩
    · rw [m_up_ne (by omega), m_up_ne (by omega)]; exact hph
    · exact (((RFw.rf S).up (by omega) _).up (by omega) _).iH hh
    · have sx := st x hx
      have ev := e5 x hx
      rw [m0, if_neg (show ¬ (3 : Int) = 4 by decide), swV_3 hp32 hh32 m0] at ev
      have esy : syX J K p x (t + 1) = ftX J p (x : Int) ((t : Int) + 1) := by
        unfold syX
        rw [if_pos m15]
        rfl
      rw [esy] at ev
      have e6 : L' nb (x : Int) = if ftX J p (x : Int) ((t : Int) + 1) = true then (clS J p h (t : Int) (fun j => decide (K na (j : Int) ≠ 0)) n).foldl (fun w q => if q.2.1.toNat = x then max w (K na (q.1 : Int)) else w) 0 else 0 := by
        rw [ev]
        by_cases q : ftX J p (x : Int) ((t : Int) + 1) = true
        · rw [if_neg (fun z => z.2 q), if_pos q]
        · rw [if_pos ⟨by decide, q⟩, if_neg q]
      simp only [e6]
      exact sx

set_option maxHeartbeats 1000000 in
theorem s_X6_lastSince {κ : MI} {n f e : Nat} {d : Int} (hR : okR R) (tw : tW R na nb nk) (hp : isP R p) (hph : R p 0 = some h) (hh : isH R h) (k : PK I p h n κ) (m12 : rI (I 19 12)) (hd : 0 ≤ d) (h36 : κ 0 36 = -9) (hfl : f ≤ lst κ) (hel : e ≤ lst κ) (hsup : ∀ s : Nat, (s : Int) ≤ I h 3 → SUP I p h n (nst κ) (Fr κ s)) (hk : ∀ t : Nat, f ≤ t → (t : Int) < I h 3 → hSk I κ p t d) (hset : ∀ t : Nat, t < e → ∀ j : Nat, j < n → (inX L j t = true ↔ 0 < Fr κ t (sgX I p h j))) : Sp G mtX6_lastSince [mr 19, mr p, mi ↑f, mi ↑e] shX I L R (qi (fun z I' L' R' => ((z = -9 ∧ ∀ s : Nat, f ≤ s → s < e → ¬ (∃ x, x < nst κ ∧ 0 < Fr (skM κ d (s : Int)) (lst κ) x)) ∨ ∃ s : Nat, z = (s : Int) ∧ f ≤ s ∧ s < e ∧ (∃ x, x < nst κ ∧ 0 < Fr (skM κ d (s : Int)) (lst κ) x) ∧ ∀ s' : Nat, s < s' → s' < e → ¬ (∃ x, x < nst κ ∧ 0 < Fr (skM κ d (s' : Int)) (lst κ) x)) ∧ WP I L R I' L' R')) := by
  refine Sp.of pnX6_lastSince rfl ?_
  show Rn G mtX6_lastSince _ 0 [(0, mr 19), (1, mr p), (2, mi ↑f), (3, mi ↑e)] [] shX I L R
  generalize hQ : (qi (fun z I' L' R' => ((z = -9 ∧ ∀ s : Nat, f ≤ s → s < e → ¬ (∃ x, x < nst κ ∧ 0 < Fr (skM κ d (s : Int)) (lst κ) x)) ∨ ∃ s : Nat, z = (s : Int) ∧ f ≤ s ∧ s < e ∧ (∃ x, x < nst κ ∧ 0 < Fr (skM κ d (s : Int)) (lst κ) x) ∧ ∀ s' : Nat, s < s' → s' < e → ¬ (∃ x, x < nst κ ∧ 0 < Fr (skM κ d (s' : Int)) (lst κ) x)) ∧ WP I L R I' L' R')) = Q
  have hp1 := hp.1
  have hh1 := hh.1
  have hlt := PK_last k
  have hn2 := (PQ_n k.1).2
  obtain ⟨R0, hR0⟩ : ∃ R0, R0 = m_up R 19 9 (some p) := ⟨_, rfl⟩
  obtain ⟨J0, hJ0⟩ : ∃ J0, J0 = m_up (m_up I 19 10 3) 19 15 0 := ⟨_, rfl⟩
  have hW0 : isW R0 p na nb nk := by rw [hR0]; exact tw.w hR hp1
  have r0 : RFw R R0 := by rw [hR0]; exact (RFw.rf R).up (by omega) _
  have hph0 : R0 p 0 = some h := by rw [hR0, m_up_ne (by omega)]; exact hph
  have hh0 : isH R0 h := r0.iH hh
  have hna0 := hW0.2.2.2.2.2.2.1
  have j0e : ∀ c i, c ≠ 19 → J0 c i = I c i := fun c i q => by rw [hJ0, m_up_ne q, m_up_ne q]
  have k0 : PK J0 p h n κ := PK_d (fun c i q => j0e c i (by omega)) (by omega) (by omega) k
  have g0 : moI I L R p h n nk κ na nb J0 L R0 := ⟨hW0, hph0, hh0, r0, fun c i q => j0e c i (by omega), ⟨by rw [hJ0, m_up_nj (by decide), m_up_eq], by rw [hJ0, m_up_eq], by rw [hJ0, m_up_nj (by decide), m_up_nj (by decide)]; exact m12⟩, fun _ _ _ => rfl, k0⟩
  have lp : ∀ u : Nat, u ≤ lst κ + 1 - f → ∀ na nb J K S, moI I L R p h n nk κ na nb J K S → (u = 0 → ∀ x : Nat, x < n → K na (x : Int) = 0) → (0 < u → MSR κ J p h n d f e (f + u) (f + u - 1) (fun x => K na (x : Int))) → Rn G mtX6_lastSince Q 59 [(0, mr 19), (1, mr p), (2, mi (f : Int)), (3, mi (e : Int)), (4, mi (I h 3)), (5, mi ((f + u : Nat) : Int))] [] shX J K S := by
    refine lpn (lst κ + 1 - f) (fun u hu ih => ?_) ?_
    · intro na nb J K S g r0 r1
      have hW := g.1
      have hph2 := g.2.1
      have hh2 := g.2.2.1
      have hp2 := hW.2.1
      have fw := g.2.2.2.2.1
      have jh3 : J h 3 = I h 3 := fw h 3 (by omega)
      have k2 := g.2.2.2.2.2.2.2
      have hn3 : J p 3 = (n : Int) := k2.1.2.2.2.2.1
      have hna := hW.2.2.2.2.2.2.1
      have e32 : ∀ c i, 32 ≤ c → J c i = I c i := fun c i q => fw c i (by omega)
      have hsup2 : ∀ s : Nat, (s : Int) ≤ J h 3 → SUP J p h n (nst κ) (Fr κ s) := fun s hs s0 a b => by
        obtain ⟨j, hj, q⟩ := hsup s (by omega) s0 a b
        exact ⟨j, hj, by rw [sgX_d e32 (by omega) (by omega)]; exact q⟩
      have hk2 : ∀ t : Nat, f ≤ t → (t : Int) < J h 3 → hSk J κ p t d := fun t h1 h2 => by
        have := hk t h1 (by omega)
        unfold hSk at this ⊢
        rw [e32 p _ (by omega), e32 (p + 1) _ (by omega)]
        exact this
      obtain ⟨t, ht⟩ : ∃ t, t = f + u := ⟨_, rfl⟩
      rw [← ht] at r1 ⊢
      rw [show f + (u + 1) = t + 1 by omega] at ih
      have at80 : ∀ na nb J K S, moI I L R p h n nk κ na nb J K S → MSR κ J p h n d f e t t (fun x => K na (x : Int)) → Rn G mtX6_lastSince Q 80 [(0, mr 19), (1, mr p), (2, mi (f : Int)), (3, mi (e : Int)), (4, mi (I h 3)), (5, mi (t : Int))] [] shX J K S := by
        intro na nb J K S g r
        have hW := g.1
        have hph2 := g.2.1
        have hh2 := g.2.2.1
        have hp2 := hW.2.1
        have fw := g.2.2.2.2.1
        have jh3 : J h 3 = I h 3 := fw h 3 (by omega)
        have k2 := g.2.2.2.2.2.2.2
        have hn3 : J p 3 = (n : Int) := k2.1.2.2.2.2.1
        have hna := hW.2.2.2.2.2.2.1
        have e32 : ∀ c i, 32 ≤ c → J c i = I c i := fun c i q => fw c i (by omega)
        have hsup2 : ∀ s : Nat, (s : Int) ≤ J h 3 → SUP J p h n (nst κ) (Fr κ s) := fun s hs s0 a b => by
          obtain ⟨j, hj, q⟩ := hsup s (by omega) s0 a b
          exact ⟨j, hj, by rw [sgX_d e32 (by omega) (by omega)]; exact q⟩
        have hk2 : ∀ t : Nat, f ≤ t → (t : Int) < J h 3 → hSk J κ p t d := fun t h1 h2 => by
          have := hk t h1 (by omega)
          unfold hSk at this ⊢
          rw [e32 p _ (by omega), e32 (p + 1) _ (by omega)]
          exact this
        have hse : t < e → ∀ j, j < n → (inX K j t = true ↔ 0 < Fr κ t (sgX J p h j)) := fun q j hj => by
          rw [inX_c (L := L) (fun i => g.2.2.2.2.2.2.1 24 i (by omega)), sgX_d e32 (by omega) (by omega)]
          exact hset t q j hj
        have mk := MSR.mk (L := K) hd h36 (by omega) r hse
        obtain ⟨F, hF⟩ : ∃ F : Nat → Int → Int, F = fun x v => if inX K x t = true then (t : Int) + 1 else v := ⟨_, rfl⟩
        by_cases hte : t < e
        · have r2 : MSR κ J p h n d f e (t + 1) t (fun x => mapL K na n F na (x : Int)) := fun x hx => by
            have z := mk x hx
            simp only at z ⊢
            rw [mapL_in hx]
            have eF : F x (K na (x : Int)) = if t < e ∧ inX K x t = true then (t : Int) + 1 else K na (x : Int) := by
              rw [hF]
              by_cases q : inX K x t = true
              · simp only
                rw [if_pos q, if_pos ⟨hte, q⟩]
              · simp only
                rw [if_neg q, if_neg (fun y => q y.2)]
            rw [eF]
            exact z
          have l0 : ∀ x : Nat, x ≤ n → Rn G mtX6_lastSince Q 83 [(0, mr 19), (1, mr p), (2, mi (f : Int)), (3, mi (e : Int)), (4, mi (I h 3)), (5, mi (t : Int)), (6, mi (x : Int))] [] shX J (mapL K na x F) S := by
            refine lpn n (fun x hx ih0 => ?_) ?_
            · have hin : inX (mapL K na x F) x t = inX K x t := inX_c (fun i => mapL_ne (by omega) i) x t
              refine x_iload dX6_lastSince_83 5 rfl ?_
              refine x_iload_n dX6_lastSince_85 3 rfl rfl ?_
              refine x_ic_ge (tgt := 130) dX6_lastSince_86 (by decide) (by omega) (fun h86 => ?_) (fun h86 => ?_)
              · exfalso; omega
              · refine x_iload dX6_lastSince_89 6 rfl ?_
                refine x_aload_n dX6_lastSince_91 0 rfl rfl ?_
                refine x_getR dX6_lastSince_92 flX6_54 rfl rfl hW.2.2.1 ?_
                refine x_getI dX6_lastSince_95 flX6_85 (shP0 hp2) rfl ?_
                rw [hn3]
                refine x_ic_ge (tgt := 130) dX6_lastSince_98 (by decide) (by omega) (fun h98 => ?_) (fun h98 => ?_)
                · exfalso; omega
                · refine x_aload_n dX6_lastSince_101 0 rfl rfl ?_
                  refine x_iload dX6_lastSince_102 6 rfl ?_
                  refine x_iload dX6_lastSince_104 5 rfl ?_
                  refine x_callVi (as := [_, _]) dX6_lastSince_106 lvX6_138 rfl rfl rfl rfl rfl rfl rfl ⟨rfl, rfl⟩ (s_X6_isIn hW (by omega) (by omega)) (fun z106 I106 L106 R106 hq106 => ?_)
                  obtain ⟨rfl, rfl, rfl, rfl⟩ := hq106
                  rw [hin]
                  refine y_ifb_eq (tgt := 124) dX6_lastSince_109 (by decide) (fun h109 => ?_) (fun h109 => ?_)
                  · refine x_iinc (lv' := [(0, _), (1, _), (2, _), (3, _), (4, _), (5, _), (6, _)]) dX6_lastSince_124 6 rfl rfl rfl ?_
                    refine x_goto (tgt := 83) dX6_lastSince_127 (by decide) ?_
                    first
                    | (have hs := h109
                       first
                       | (have hy : inX K x t = true := hs
                          have hu := mapL_up K na x F
                          rw [show F x (K na (x : Int)) = (t : Int) + 1 by rw [hF]; exact if_pos hy] at hu
                          rw [hu]
                          exact ih0)
                       | (have hy : ¬ inX K x t = true := hs
                          rw [mapL_same K na x F (by rw [hF]; exact if_neg hy)]
                          exact ih0))
                  · refine x_aload_n dX6_lastSince_112 0 rfl rfl ?_
                    refine x_getR dX6_lastSince_113 flX6_35 rfl rfl hW.2.2.2.1 ?_
                    refine x_iload dX6_lastSince_116 6 rfl ?_
                    refine x_iload dX6_lastSince_118 5 rfl ?_
                    refine x_iconst dX6_lastSince_120 ?_
                    refine x_iadd dX6_lastSince_121 ?_
                    refine x_i2l dX6_lastSince_122 (by omega) ?_
                    refine x_last dX6_lastSince_123 (shW hW.2.2.2.2.2.2.1) (by omega) ?_
                    refine x_iinc (lv' := [(0, _), (1, _), (2, _), (3, _), (4, _), (5, _), (6, _)]) dX6_lastSince_124 6 rfl rfl rfl ?_
                    refine x_goto (tgt := 83) dX6_lastSince_127 (by decide) ?_
                    first
                    | (have hs := h109
                       first
                       | (have hy : inX K x t = true := hs
                          have hu := mapL_up K na x F
                          rw [show F x (K na (x : Int)) = (t : Int) + 1 by rw [hF]; exact if_pos hy] at hu
                          rw [hu]
                          exact ih0)
                       | (have hy : ¬ inX K x t = true := hs
                          rw [mapL_same K na x F (by rw [hF]; exact if_neg hy)]
                          exact ih0))
            · have g2 := g.mp n F
              refine x_iload dX6_lastSince_83 5 rfl ?_
              refine x_iload_n dX6_lastSince_85 3 rfl rfl ?_
              refine x_ic_ge (tgt := 130) dX6_lastSince_86 (by decide) (by omega) (fun h86 => ?_) (fun h86 => ?_)
              · refine x_iinc (lv' := [(0, _), (1, _), (2, _), (3, _), (4, _), (5, _), (6, _)]) dX6_lastSince_130 5 rfl rfl rfl ?_
                refine x_goto (tgt := 59) dX6_lastSince_133 (by decide) ?_
                refine x_top (lv' := [(0, _), (1, _), (2, _), (3, _), (4, _), (5, _)]) 6 rfl ?_
                first
                | (exfalso; omega)
                | exact ih _ _ _ _ _ g2 (fun q => by omega) (fun _ => r2)
              · refine x_iload dX6_lastSince_89 6 rfl ?_
                refine x_aload_n dX6_lastSince_91 0 rfl rfl ?_
                refine x_getR dX6_lastSince_92 flX6_54 rfl rfl hW.2.2.1 ?_
                refine x_getI dX6_lastSince_95 flX6_85 (shP0 hp2) rfl ?_
                rw [hn3]
                refine x_ic_ge (tgt := 130) dX6_lastSince_98 (by decide) (by omega) (fun h98 => ?_) (fun h98 => ?_)
                · refine x_iinc (lv' := [(0, _), (1, _), (2, _), (3, _), (4, _), (5, _), (6, _)]) dX6_lastSince_130 5 rfl rfl rfl ?_
                  refine x_goto (tgt := 59) dX6_lastSince_133 (by decide) ?_
                  refine x_top (lv' := [(0, _), (1, _), (2, _), (3, _), (4, _), (5, _)]) 6 rfl ?_
                  first
                  | (exfalso; omega)
                  | exact ih _ _ _ _ _ g2 (fun q => by omega) (fun _ => r2)
                · exfalso; omega
          have z := l0 0 (by omega)
          rw [mapL_0] at z
          refine x_iconst dX6_lastSince_80 ?_
          refine x_istore (lv' := [(0, _), (1, _), (2, _), (3, _), (4, _), (5, _), (6, _)]) dX6_lastSince_81 rfl rfl ?_
          exact z
        · have r2 : MSR κ J p h n d f e (t + 1) t (fun x => K na (x : Int)) := fun x hx => by
            have z := mk x hx
            simp only at z ⊢
            rw [if_neg (fun q => hte q.1)] at z
            exact z
          refine x_iconst dX6_lastSince_80 ?_
          refine x_istore (lv' := [(0, _), (1, _), (2, _), (3, _), (4, _), (5, _), (6, _)]) dX6_lastSince_81 rfl rfl ?_
          refine x_iload dX6_lastSince_83 5 rfl ?_
          refine x_iload_n dX6_lastSince_85 3 rfl rfl ?_
          refine x_ic_ge (tgt := 130) dX6_lastSince_86 (by decide) (by omega) (fun h86 => ?_) (fun h86 => ?_)
          · refine x_iinc (lv' := [(0, _), (1, _), (2, _), (3, _), (4, _), (5, _), (6, _)]) dX6_lastSince_130 5 rfl rfl rfl ?_
            refine x_goto (tgt := 59) dX6_lastSince_133 (by decide) ?_
            refine x_top (lv' := [(0, _), (1, _), (2, _), (3, _), (4, _), (5, _)]) 6 rfl ?_
            exact ih _ _ _ _ _ g (fun q => by omega) (fun _ => r2)
          · exfalso; omega
      have hsw : 0 < u → Sp G mtX6_sweep [mr 19, mi ((t : Int) - 1)] shX J K S (qv (fun I' L' R' => moI I L R p h n nk κ nb na I' L' R' ∧ MSR κ I' p h n d f e t t (fun x => L' nb (x : Int)))) := fun q => by
        have r1' := r1 q
        obtain ⟨v, rfl⟩ : ∃ v, t = v + 1 := ⟨t - 1, by omega⟩
        rw [show v + 1 - 1 = v by omega] at r1'
        have z := s_sweepM (G := G) g (by omega) hd h36 (by omega) (by omega) hsup2 hk2 r1'
        rw [show (v : Int) = ((v + 1 : Nat) : Int) - 1 by omega] at z
        exact z
      refine x_iload dX6_lastSince_59 5 rfl ?_
      refine x_iload dX6_lastSince_61 4 rfl ?_
      refine x_ic_gt (tgt := 136) dX6_lastSince_63 (by decide) (by omega) (fun h63 => ?_) (fun h63 => ?_)
      · exfalso; omega
      · refine x_iload dX6_lastSince_66 5 rfl ?_
        refine x_iload_n dX6_lastSince_68 2 rfl rfl ?_
        refine x_ic_le (tgt := 80) dX6_lastSince_69 (by decide) (by omega) (fun h69 => ?_) (fun h69 => ?_)
        · first
          | (have z := g77
             exact at80 _ _ _ _ _ g77 r77)
          | (have e0 : u = 0 := by omega
             have e1 : t = f := by omega
             refine at80 _ _ _ _ _ g (fun x hx => Or.inl ⟨r0 e0 x hx, fun s q => ?_⟩)
             have := q.1
             have := q.2.1
             omega)
        · refine x_aload_n dX6_lastSince_72 0 rfl rfl ?_
          refine x_iload dX6_lastSince_73 5 rfl ?_
          refine x_iconst dX6_lastSince_75 ?_
          refine x_isub dX6_lastSince_76 ?_
          refine x_callVv (as := [_]) dX6_lastSince_77 lvX6_68 rfl rfl rfl rfl rfl rfl rfl ⟨rfl, rfl⟩ (hsw (by omega)) (fun I77 L77 R77 hq77 => ?_)
          obtain ⟨g77, r77⟩ := hq77
          first
          | (have z := g77
             exact at80 _ _ _ _ _ g77 r77)
          | (have e0 : u = 0 := by omega
             have e1 : t = f := by omega
             refine at80 _ _ _ _ _ g (fun x hx => Or.inl ⟨r0 e0 x hx, fun s q => ?_⟩)
             have := q.1
             have := q.2.1
             omega)
    · intro na nb J K S g r0 r1
      have hW := g.1
      have hph2 := g.2.1
      have hh2 := g.2.2.1
      have hp2 := hW.2.1
      have fw := g.2.2.2.2.1
      have jh3 : J h 3 = I h 3 := fw h 3 (by omega)
      have k2 := g.2.2.2.2.2.2.2
      have hn3 : J p 3 = (n : Int) := k2.1.2.2.2.2.1
      have hna := hW.2.2.2.2.2.2.1
      have e32 : ∀ c i, 32 ≤ c → J c i = I c i := fun c i q => fw c i (by omega)
      have hsup2 : ∀ s : Nat, (s : Int) ≤ J h 3 → SUP J p h n (nst κ) (Fr κ s) := fun s hs s0 a b => by
        obtain ⟨j, hj, q⟩ := hsup s (by omega) s0 a b
        exact ⟨j, hj, by rw [sgX_d e32 (by omega) (by omega)]; exact q⟩
      have hk2 : ∀ t : Nat, f ≤ t → (t : Int) < J h 3 → hSk J κ p t d := fun t h1 h2 => by
        have := hk t h1 (by omega)
        unfold hSk at this ⊢
        rw [e32 p _ (by omega), e32 (p + 1) _ (by omega)]
        exact this
      have r := r1 (by omega)
      rw [show f + (lst κ + 1 - f) = lst κ + 1 by omega, show lst κ + 1 - 1 = lst κ by omega] at r
      rw [show f + (lst κ + 1 - f) = lst κ + 1 by omega]
      have hvx : ∀ x : Nat, x < n → 0 ≤ K na (x : Int) ∧ K na (x : Int) ≤ (e : Int) := fun x hx => r.r hx
      have hmx : ∀ x : Nat, x ≤ n → 0 ≤ mxF K na x ∧ mxF K na x ≤ (e : Int) := fun x => by
        induction x with
        | zero => intro _; show (0 : Int) ≤ 0 ∧ (0 : Int) ≤ (e : Int); omega
        | succ x ih =>
          intro hx
          have h1 := hvx x (by omega)
          have h2 := ih (by omega)
          show 0 ≤ max (mxF K na x) (K na (x : Int)) ∧ max (mxF K na x) (K na (x : Int)) ≤ (e : Int)
          omega
      obtain ⟨q1, q2, q3⟩ := mxF_s (K := K) (na := na) n
      have hmn := hmx n (Nat.le_refl _)
      -- a state at the end, by a state of the reference
      have fin : ∀ s : Nat, f ≤ s → s < e → (∃ x, x < nst κ ∧ 0 < Fr (skM κ d (s : Int)) (lst κ) x) → (s : Int) + 1 ≤ mxF K na n := by
        rintro s h1 h2 ⟨x, hx, hF⟩
        obtain ⟨j, hj, rfl⟩ := sk_sup k2 hd h36 (hsup2 s (by omega)) (fun t' a b => hk2 t' (by omega) b) (lst κ - s) (lst κ) (by omega) (by omega) x hx hF
        have z := q3 j hj
        rcases r j hj with ⟨-, y⟩ | ⟨s1, -, y2, y3⟩
        · exact absurd ⟨h1, by omega, h2, hF⟩ (y s)
        · have y4 := y3 s ⟨h1, by omega, h2, hF⟩
          have y2' : K na (j : Int) = (s1 : Int) + 1 := y2
          omega
      have no0 : mxF K na n = 0 → ∀ s : Nat, f ≤ s → s < e → ¬ (∃ x, x < nst κ ∧ 0 < Fr (skM κ d (s : Int)) (lst κ) x) := fun z s h1 h2 h3 => by
        have := fin s h1 h2 h3
        omega
      have yes : mxF K na n ≠ 0 → ∃ s : Nat, mxF K na n - 1 = (s : Int) ∧ f ≤ s ∧ s < e ∧ (∃ x, x < nst κ ∧ 0 < Fr (skM κ d (s : Int)) (lst κ) x) ∧ ∀ s' : Nat, s < s' → s' < e → ¬ (∃ x, x < nst κ ∧ 0 < Fr (skM κ d (s' : Int)) (lst κ) x) := fun z => by
        rcases q1 with q1 | ⟨x, hx, q1⟩
        · exact absurd q1 z
        · rcases r x hx with ⟨y, -⟩ | ⟨s, ⟨y1, y2, y3, y4⟩, y5, -⟩
          · have y' : K na (x : Int) = 0 := y
            omega
          · have y5' : K na (x : Int) = (s : Int) + 1 := y5
            refine ⟨s, by omega, y1, y3, ⟨_, (sgX_lt k2 hx).1, y4⟩, fun s' a b h => ?_⟩
            have := fin s' (by omega) b h
            omega
      have l0 : ∀ x : Nat, x ≤ n → Rn G mtX6_lastSince Q 142 [(0, mr 19), (1, mr p), (2, mi (f : Int)), (3, mi (e : Int)), (4, mi (I h 3)), (5, ml (mxF K na x)), (7, mi (x : Int))] [] shX J K S := by
        refine lpn n (fun x hx ih0 => ?_) ?_
        · have hv1 := hvx x hx
          have hv2 := hmx x (by omega)
          refine x_iload dX6_lastSince_142 6 rfl ?_
          refine x_aload_n dX6_lastSince_144 0 rfl rfl ?_
          refine x_getR dX6_lastSince_145 flX6_54 rfl rfl hW.2.2.1 ?_
          refine x_getI dX6_lastSince_148 flX6_85 (shP0 hp2) rfl ?_
          rw [hn3]
          refine x_ic_ge (tgt := 174) dX6_lastSince_151 (by decide) (by omega) (fun h151 => ?_) (fun h151 => ?_)
          · exfalso; omega
          · refine x_lload dX6_lastSince_154 5 rfl ?_
            refine x_aload_n dX6_lastSince_156 0 rfl rfl ?_
            refine x_getR dX6_lastSince_157 flX6_35 rfl rfl hW.2.2.2.1 ?_
            refine x_iload dX6_lastSince_160 6 rfl ?_
            refine x_lald dX6_lastSince_162 (shW hW.2.2.2.2.2.2.1) (by omega) ?_
            refine x_lmax dX6_lastSince_163 lvX6_142 rfl (by omega) ?_
            refine x_lstore (lv' := [(0, _), (1, _), (2, _), (3, _), (4, _), (5, _), (7, _)]) dX6_lastSince_166 rfl rfl ?_
            refine x_iinc (lv' := [(0, _), (1, _), (2, _), (3, _), (4, _), (5, _), (7, _)]) dX6_lastSince_168 6 rfl rfl rfl ?_
            refine x_goto (tgt := 142) dX6_lastSince_171 (by decide) ?_
            exact ih0
        · refine x_iload dX6_lastSince_142 6 rfl ?_
          refine x_aload_n dX6_lastSince_144 0 rfl rfl ?_
          refine x_getR dX6_lastSince_145 flX6_54 rfl rfl hW.2.2.1 ?_
          refine x_getI dX6_lastSince_148 flX6_85 (shP0 hp2) rfl ?_
          rw [hn3]
          refine x_ic_ge (tgt := 174) dX6_lastSince_151 (by decide) (by omega) (fun h151 => ?_) (fun h151 => ?_)
          · refine x_lload dX6_lastSince_174 5 rfl ?_
            refine x_lconst 0 dX6_lastSince_176 rfl ?_
            refine x_lc_eq (tgt := 190) dX6_lastSince_177 dX6_lastSince_178 (by decide) (by omega) (fun h177 => ?_) (fun h177 => ?_)
            · refine x_bipush dX6_lastSince_190 (by decide) ?_
              refine x_goto (tgt := 200) dX6_lastSince_192 (by decide) ?_
              refine x_iret dX6_lastSince_200 rfl ?_
              first
              | (exfalso; omega)
              | (rw [← hQ]
                 refine ⟨_, rfl, Or.inl ⟨rfl, no0 (by omega)⟩, g.wp⟩)
              | (rw [← hQ]
                 refine ⟨_, rfl, Or.inr (yes (by omega)), g.wp⟩)
            · refine x_lload dX6_lastSince_181 5 rfl ?_
              refine x_iload dX6_lastSince_183 4 rfl ?_
              refine x_i2l dX6_lastSince_185 (by omega) ?_
              refine x_lc_le (tgt := 195) dX6_lastSince_186 dX6_lastSince_187 (by decide) (by omega) (fun h186 => ?_) (fun h186 => ?_)
              · refine x_lload dX6_lastSince_195 5 rfl ?_
                refine x_l2i dX6_lastSince_197 ?_
                refine x_iconst dX6_lastSince_198 ?_
                refine x_isub dX6_lastSince_199 ?_
                refine x_iret dX6_lastSince_200 rfl ?_
                first
                | (exfalso; omega)
                | (rw [← hQ]
                   refine ⟨_, rfl, Or.inl ⟨rfl, no0 (by omega)⟩, g.wp⟩)
                | (rw [← hQ]
                   refine ⟨_, rfl, Or.inr (yes (by omega)), g.wp⟩)
              · refine x_bipush dX6_lastSince_190 (by decide) ?_
                refine x_goto (tgt := 200) dX6_lastSince_192 (by decide) ?_
                refine x_iret dX6_lastSince_200 rfl ?_
                first
                | (exfalso; omega)
                | (rw [← hQ]
                   refine ⟨_, rfl, Or.inl ⟨rfl, no0 (by omega)⟩, g.wp⟩)
                | (rw [← hQ]
                   refine ⟨_, rfl, Or.inr (yes (by omega)), g.wp⟩)
          · exfalso; omega
      refine x_iload dX6_lastSince_59 5 rfl ?_
      refine x_iload dX6_lastSince_61 4 rfl ?_
      refine x_ic_gt (tgt := 136) dX6_lastSince_63 (by decide) (by omega) (fun h63 => ?_) (fun h63 => ?_)
      · refine x_lconst 0 dX6_lastSince_136 rfl ?_
        refine x_lstore (lv' := [(0, _), (1, _), (2, _), (3, _), (4, _), (5, _)]) dX6_lastSince_137 rfl rfl ?_
        refine x_iconst dX6_lastSince_139 ?_
        refine x_istore (lv' := [(0, _), (1, _), (2, _), (3, _), (4, _), (5, _), (7, _)]) dX6_lastSince_140 rfl rfl ?_
        exact l0 0 (by omega)
      · exfalso; omega
  have lz : ∀ j : Nat, j ≤ n → Rn G mtX6_lastSince Q 18 [(0, mr 19), (1, mr p), (2, mi (f : Int)), (3, mi (e : Int)), (4, mi (j : Int))] [] shX J0 (mapL L na j (fun _ _ => 0)) R0 := by
    have g := g0.mp n (fun _ _ => 0)
    have hW := hW0
    have hph2 := hph0
    have hh2 := hh0
    have hp2 := hW0.2.1
    have hn3 : J0 p 3 = (n : Int) := k0.1.2.2.2.2.1
    have jh3 : J0 h 3 = I h 3 := j0e h 3 (by omega)
    refine lpn n (fun j hj ih => ?_) ?_
    · refine x_iload dX6_lastSince_18 4 rfl ?_
      refine x_aload_n dX6_lastSince_20 0 rfl rfl ?_
      refine x_getR dX6_lastSince_21 flX6_54 rfl rfl hW.2.2.1 ?_
      refine x_getI dX6_lastSince_24 flX6_85 (shP0 hp2) rfl ?_
      rw [hn3]
      refine x_ic_ge (tgt := 44) dX6_lastSince_27 (by decide) (by omega) (fun h27 => ?_) (fun h27 => ?_)
      · exfalso; omega
      · refine x_aload_n dX6_lastSince_30 0 rfl rfl ?_
        refine x_getR dX6_lastSince_31 flX6_35 rfl rfl hW.2.2.2.1 ?_
        refine x_iload dX6_lastSince_34 4 rfl ?_
        refine x_lconst 0 dX6_lastSince_36 rfl ?_
        refine x_last dX6_lastSince_37 (shW hW.2.2.2.2.2.2.1) (by omega) ?_
        refine x_iinc (lv' := [(0, _), (1, _), (2, _), (3, _), (4, _)]) dX6_lastSince_38 4 rfl rfl rfl ?_
        refine x_goto (tgt := 18) dX6_lastSince_41 (by decide) ?_
        rw [mapL_up L na j (fun _ _ => 0)]
        exact ih
    · refine x_iload dX6_lastSince_18 4 rfl ?_
      refine x_aload_n dX6_lastSince_20 0 rfl rfl ?_
      refine x_getR dX6_lastSince_21 flX6_54 rfl rfl hW.2.2.1 ?_
      refine x_getI dX6_lastSince_24 flX6_85 (shP0 hp2) rfl ?_
      rw [hn3]
      refine x_ic_ge (tgt := 44) dX6_lastSince_27 (by decide) (by omega) (fun h27 => ?_) (fun h27 => ?_)
      · refine x_aload_n dX6_lastSince_44 0 rfl rfl ?_
        refine x_getR dX6_lastSince_45 flX6_54 rfl rfl hW.2.2.1 ?_
        refine x_getR dX6_lastSince_48 flX6_58 (shP0 hp2) rfl hph2 ?_
        refine x_getI dX6_lastSince_51 flX6_62 (shH0 hh2) rfl ?_
        rw [jh3]
        refine x_istore (lv' := [(0, _), (1, _), (2, _), (3, _), (4, _)]) dX6_lastSince_54 rfl rfl ?_
        refine x_iload_n dX6_lastSince_56 2 rfl rfl ?_
        refine x_istore (lv' := [(0, _), (1, _), (2, _), (3, _), (4, _), (5, _)]) dX6_lastSince_57 rfl rfl ?_
        exact lp 0 (by omega) _ _ _ _ _ g (fun _ x hx => mapL_in hx) (fun q => by omega)
      · exfalso; omega
  have main15 : Rn G mtX6_lastSince Q 15 [(0, mr 19), (1, mr p), (2, mi (f : Int)), (3, mi (e : Int))] [] shX J0 L R0 := by
    have z := lz 0 (by omega)
    rw [mapL_0] at z
    refine x_iconst dX6_lastSince_15 ?_
    refine x_istore (lv' := [(0, _), (1, _), (2, _), (3, _), (4, _)]) dX6_lastSince_16 rfl rfl ?_
    exact z
  have main5 : Rn G mtX6_lastSince Q 5 [(0, mr 19), (1, mr p), (2, mi (f : Int)), (3, mi (e : Int))] [] shX I L R0 := by
    refine x_aload_n dX6_lastSince_5 0 rfl rfl ?_
    refine x_iconst dX6_lastSince_6 ?_
    refine x_putI dX6_lastSince_7 flX6_79 rfl rfl rfl ?_
    refine x_aload_n dX6_lastSince_10 0 rfl rfl ?_
    refine x_iconst dX6_lastSince_11 ?_
    refine x_putZ dX6_lastSince_12 flX6_135 rfl rfl rfl (Or.inl rfl) ?_
    rw [← hJ0]
    exact main15
  refine x_aload_n dX6_lastSince_0 0 rfl rfl ?_
  refine x_aload_n dX6_lastSince_1 1 rfl rfl ?_
  refine x_putR dX6_lastSince_2 flX6_54 rfl rfl rfl ?_
  rw [← hR0]
  exact main5
end

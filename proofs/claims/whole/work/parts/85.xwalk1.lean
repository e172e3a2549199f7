/-! THE CLASS: the Walks: the first walk. -/
/-- the first t of row c, by f -/
def wkM (I : MI) (c : Nat) (f : Nat → Int) (t : Nat) : MI := fun a i => if a = c ∧ 0 ≤ i ∧ i < (t : Int) then f i.toNat else I a i
theorem wkM_0 (I : MI) (c : Nat) (f : Nat → Int) : wkM I c f 0 = I := by
  funext a i
  unfold wkM
  rw [if_neg (by omega)]
theorem wkM_up {I J : MI} {c t : Nat} {f : Nat → Int} (hc : c < 19) (h : FIw (wkM I c f t) J) : FIw (wkM I c f (t + 1)) (m_up J c (t : Int) (f t)) := fun a i q => by
  have h1 := h a i q
  unfold wkM at h1 ⊢
  by_cases e : a = c ∧ i = (t : Int)
  · obtain ⟨rfl, rfl⟩ := e
    rw [m_up_eq, if_pos ⟨rfl, by omega, by omega⟩, Int.toNat_natCast]
  · unfold m_up
    rw [if_neg e, h1]
    by_cases e2 : a = c ∧ 0 ≤ i ∧ i < (t : Int)
    · rw [if_pos e2, if_pos ⟨e2.1, by omega, by omega⟩]
    · rw [if_neg e2, if_neg (by omega)]
def wsF (I K : MI) (p na : Nat) : Nat → Int
  | 0 => 0
  | x + 1 => if K na (x : Int) ≠ 0 then z_or (wsF I K p na x) (I (p + 7) (x : Int)) else wsF I K p na x
theorem tb_wsF {I K : MI} {p na b : Nat} : ∀ n, tb (wsF I K p na n) b = true ↔ ∃ x : Nat, x < n ∧ K na (x : Int) ≠ 0 ∧ tb (I (p + 7) (x : Int)) b = true
  | 0 => by
    unfold wsF
    rw [tb_0]
    exact ⟨fun q => Bool.noConfusion q, fun ⟨x, h, _⟩ => by omega⟩
  | n + 1 => by
    unfold wsF
    by_cases q : K na (n : Int) ≠ 0
    · rw [if_pos q, tb_or, Bool.or_eq_true, tb_wsF n]
      constructor
      · rintro (⟨x, h1, h2⟩ | h)
        · exact ⟨x, by omega, h2⟩
        · exact ⟨n, by omega, q, h⟩
      · rintro ⟨x, h1, h2, h3⟩
        by_cases e : x = n
        · subst e; exact Or.inr h3
        · exact Or.inl ⟨x, by omega, h2, h3⟩
    · rw [if_neg q, tb_wsF n]
      constructor
      · rintro ⟨x, h1, h2⟩
        exact ⟨x, by omega, h2⟩
      · rintro ⟨x, h1, h2, h3⟩
        by_cases e : x = n
        · subst e; exact absurd h2 q
        · exact ⟨x, by omega, h2, h3⟩
theorem lsX_at {b : Int} {r : Nat} (hr : r ≤ 5) (h1 : tb b r = true) (h2 : ∀ i, i < r → tb b i = false) : ∀ k i, k + i = 5 → i ≤ r → lsX b k i = (r : Int)
  | 0, i, e, hi => by
    unfold lsX
    omega
  | k + 1, i, e, hi => by
    unfold lsX
    by_cases q : i = r
    · rw [q, if_pos h1]
    · rw [if_neg (by rw [h2 i (by omega)]; decide)]
      exact lsX_at hr h1 h2 k (i + 1) (by omega) (by omega)
theorem leF_s {V : Nat → Int} {w : Nat} : ∀ n, (∀ s, s < n → 0 ≤ V s → leF V w n ≤ (rm s w : Int)) ∧ (leF V w n = 6 ∨ ∃ s, s < n ∧ 0 ≤ V s ∧ leF V w n = (rm s w : Int))
  | 0 => ⟨fun s h => by omega, Or.inl rfl⟩
  | n + 1 => by
    obtain ⟨h1, h2⟩ := leF_s (V := V) (w := w) n
    unfold leF
    by_cases q : 0 ≤ V n ∧ (rm n w : Int) < leF V w n
    · rw [if_pos q]
      refine ⟨fun s hs hv => ?_, Or.inr ⟨n, by omega, q.1, rfl⟩⟩
      by_cases e : s = n
      · subst e; exact Int.le_refl _
      · have := h1 s (by omega) hv; omega
    · rw [if_neg q]
      refine ⟨fun s hs hv => ?_, ?_⟩
      · by_cases e : s = n
        · subst e
          apply Classical.byContradiction
          intro z
          exact q ⟨hv, by omega⟩
        · exact h1 s (by omega) hv
      · rcases h2 with h2 | ⟨s, a, b, c⟩
        · exact Or.inl h2
        · exact Or.inr ⟨s, by omega, b, c⟩
theorem wy_sup {κ : MI} {w : Nat} : ∀ t s, 0 ≤ wyV κ w t s → alv κ t s = true
  | 0, s, h => by
    have h1 : 0 ≤ bgV κ 0 s := h
    unfold bgV at h1
    split at h1
    · assumption
    · omega
  | t + 1, s, h => by
    have h1 : 0 ≤ gW κ t (keF (wyV κ w t) w (leF (wyV κ w t) w (nst κ))) s := h
    obtain ⟨s0, c, -, -, -, -, c3, c4⟩ := gW_iff.mp h1
    rw [c4] at c3
    exact c3
theorem le_ne {κ : MI} {w : Nat} {V : Nat → Int} (hH : iHs κ) (hS : iSc κ) (h : ∃ s, s < nst κ ∧ 0 ≤ V s) : 0 ≤ leF V w (nst κ) ∧ leF V w (nst κ) < 6 ∧ ∃ s, s < nst κ ∧ 0 ≤ V s ∧ leF V w (nst κ) = (rm s w : Int) := by
  have hn := nst_le hH hS
  obtain ⟨s, h1, h2⟩ := h
  obtain ⟨a, b⟩ := leF_s (V := V) (w := w) (nst κ)
  have h3 := a s h1 h2
  have h4 := rm_lt (w := w) (s := s) (by omega)
  rcases b with b | ⟨s', b1, b2, b3⟩
  · omega
  · exact ⟨by omega, by omega, s', b1, b2, b3⟩
theorem wy_ne {κ : MI} {w : Nat} (hH : iHs κ) (hS : iSc κ) (h0 : fst0 κ = -9) : ∀ t, t ≤ lst κ → ∃ s, s < nst κ ∧ 0 ≤ wyV κ w t s
  | 0, _ => by
    obtain ⟨s, h1, h2⟩ := alv_some h0 (lst κ) 0 (by omega)
    refine ⟨s, h1, ?_⟩
    show 0 ≤ bgV κ 0 s
    unfold bgV
    rw [if_pos h2]
    exact Int.le_refl _
  | t + 1, ht => by
    have hn := nst_le hH hS
    obtain ⟨-, -, s, h1, h2, h3⟩ := le_ne (w := w) hH hS (wy_ne hH hS h0 t (by omega))
    obtain ⟨-, c, c1, c2, c3⟩ := (alv_s (by omega) h1).mp (wy_sup t s h2)
    refine ⟨nxt κ (t : Int) s c, nxt_lt hH (by omega) c, ?_⟩
    show 0 ≤ gW κ t (keF (wyV κ w t) w (leF (wyV κ w t) w (nst κ))) _
    refine gW_iff.mpr ⟨s, c, h1, ?_, c1, c2, c3, rfl⟩
    unfold keF
    rw [if_pos ⟨h2, h3.symm⟩]
    exact Int.le_refl _
theorem alI.bs {I I2 L : MI} {R : MR} {p h n nk : Nat} {κ : MI} {na nb : Nat} {J J2 K : MI} {S : MR} (g : alI I L R p h n nk κ na nb J K S) (f : FIw I2 J2) (e19 : ∀ i, J2 19 i = J 19 i) (e32 : ∀ c i, 32 ≤ c → J2 c i = J c i) : alI I2 L R p h n nk κ na nb J2 K S := by
  obtain ⟨x1, x2, x3, x4, x5, ⟨y1, y2, y3⟩, x7, x8, x9⟩ := g
  have hp := x1.2.1.1
  have hh := x3.1
  exact ⟨x1, x2, x3, x4, f, ⟨by rw [e19]; exact y1, by rw [e19]; exact y2, by rw [e19]; exact y3⟩, x7, PKR_d e32 (by omega) (by omega) x8, SETS_d e32 (by omega) (by omega) (fun _ => rfl) x9⟩
/-- keeping the states in which a walker is in one room -/
theorem ke_rel {κ J K : MI} {p h n t w na : Nat} {W : Nat → Int} {r : Int} (k : PKR J p h n κ) (hw : w < us κ) (hr : 0 ≤ r ∧ r < 6) (rl : RELn κ J p h n t (fun x => K na (x : Int)) W) : RELn κ J p h n t (fun x => mapL K na n (kpX J p (w : Int) r) na (x : Int)) (keF W w r) := by
  have u := PK_us k.1
  refine ⟨fun x hx => ?_, fun s hs q => ?_⟩
  · simp only
    rw [mapL_in hx]
    unfold kpX keF
    have hb : z_and (J (p + 7) (x : Int)) (z_shl 1 (6 * (w : Int) + r)) = 0 ↔ ¬ ((rm (sgX J p h x) w : Nat) : Int) = r := by
      rw [z_and_cm, z_and_no]
      have sr := sp_room k.1 hx hw (b := r.toNat) (by omega)
      constructor
      · intro z e
        have z2 := z (6 * w + r.toNat) (by omega) (by rw [tb_sh1 (by omega) (by omega), decide_eq_true_eq]; omega)
        rw [sr, decide_eq_false_iff_not] at z2
        exact z2 (by omega)
      · intro z b hb q
        rw [tb_sh1 (by omega) hb, decide_eq_true_eq] at q
        rw [show b = 6 * w + r.toNat by omega, sr, decide_eq_false_iff_not]
        intro e
        exact z (by omega)
    by_cases q : ((rm (sgX J p h x) w : Nat) : Int) = r
    · rw [if_neg (fun z => hb.mp z q)]
      have rx := rl.1 x hx
      refine ⟨rx.1, rx.2.trans ?_⟩
      constructor
      · intro z; rw [if_pos ⟨z, q⟩]; omega
      · intro z
        split at z
        · rename_i y; exact y.1
        · omega
    · rw [if_pos (hb.mpr q), if_neg (fun z => q z.2)]
      exact ⟨by omega, fun z => absurd rfl z, fun z => by omega⟩
  · unfold keF at q
    split at q
    · rename_i y; exact rl.2 s hs y.1
    · omega
/-- the least room -/
theorem ls_le {κ J K : MI} {p h n t w na : Nat} {W : Nat → Int} (k : PKR J p h n κ) (ht : (t : Int) ≤ J h 3) (hw : w < us κ) (rl : RELn κ J p h n t (fun x => K na (x : Int)) W) (hne : ∃ s, s < nst κ ∧ 0 ≤ W s) : lsX (z_and (z_shr (wsF J K p na n) (6 * (w : Int))) 63) 5 0 = leF W w (nst κ) := by
  have u := PK_us k.1
  obtain ⟨l1, l2, s, hs, hv, e⟩ := le_ne (w := w) k.1.2.1 k.1.2.2.1 hne
  have lm := (leF_s (V := W) (w := w) (nst κ)).1
  have bit : ∀ b, b < 6 → (tb (z_and (z_shr (wsF J K p na n) (6 * (w : Int))) 63) b = true ↔ ∃ x, x < n ∧ K na (x : Int) ≠ 0 ∧ b = rm (sgX J p h x) w) := fun b hb => by
    rw [tb_and, tb_63 (by omega), decide_eq_true hb, Bool.and_true, tb_shr (by omega) (by omega), show b + (6 * (w : Int)).toNat = 6 * w + b by omega, tb_wsF]
    constructor
    · rintro ⟨x, hx, z1, z2⟩
      rw [sp_room k.1 hx hw hb, decide_eq_true_eq] at z2
      exact ⟨x, hx, z1, z2⟩
    · rintro ⟨x, hx, z1, z2⟩
      refine ⟨x, hx, z1, ?_⟩
      rw [sp_room k.1 hx hw hb, decide_eq_true_eq]
      exact z2
  obtain ⟨r, hr⟩ : ∃ r : Nat, leF W w (nst κ) = (r : Int) := ⟨(leF W w (nst κ)).toNat, by omega⟩
  rw [hr]
  refine lsX_at (by omega) ?_ (fun i hi => ?_) 5 0 rfl (Nat.zero_le _)
  · obtain ⟨j, hj, rfl⟩ := alv_cl k ht hs (rl.2 s hs hv)
    exact (bit r (by omega)).mpr ⟨j, hj, (rl.1 j hj).2.mpr hv, by omega⟩
  · cases q : tb (z_and (z_shr (wsF J K p na n) (6 * (w : Int))) 63) i
    · rfl
    · obtain ⟨x, hx, z1, z2⟩ := (bit i (by omega)).mp q
      have := lm _ (sgX_lt k.1 hx).1 ((rl.1 x hx).2.mp z1)
      omega
section
variable {G : GT} {I L : MI} {R : MR} {p h na nb nk : Nat}

set_option maxHeartbeats 1000000 in
theorem s_X6_firstWalk {κ : MI} {n w c : Nat} {f : Nat → Int} (hR : okR R) (tw : tW R na nb nk) (hp : isP R p) (hph : R p 0 = some h) (hh : isH R h) (k : PKR I p h n κ) (m12 : rI (I 19 12)) (st : SETS κ I L p h n) (hw : w < us κ) (hc : shX[c]? = some (.inr (0, 40))) (hc2 : c < 19) (h9 : fst0 κ = -9) (hf : f = fun t => leF (wyV κ w t) w (nst κ)) : Sp G mtX6_firstWalk [mr 19, mr p, mi ↑w, mr c] shX I L R (qv (fun I' L' R' => WP (wkM I c f (lst κ + 1)) L R I' L' R')) := by
  refine Sp.of pnX6_firstWalk rfl ?_
  show Rn G mtX6_firstWalk _ 0 [(0, mr 19), (1, mr p), (2, mi ↑w), (3, mr c)] [] shX I L R
  generalize hQ : (qv (fun I' L' R' => WP (wkM I c f (lst κ + 1)) L R I' L' R')) = Q
  have hp1 := hp.1
  have hh1 := hh.1
  have hlt := PK_last k.1
  have u := PK_us k.1
  have hn2 := (PQ_n k.1.1).2
  have lp : ∀ t : Nat, t ≤ lst κ + 1 → ∀ na nb J K S, alI (wkM I c f t) L R p h n nk κ na nb J K S → (t = 0 → RELn κ J p h n 0 (fun x => K na (x : Int)) (bgV κ 0)) → (0 < t → RELn κ J p h n (t - 1) (fun x => K na (x : Int)) (keF (wyV κ w (t - 1)) w (f (t - 1)))) → Rn G mtX6_firstWalk Q 10 [(0, mr 19), (1, mr p), (2, mi (w : Int)), (3, mr c), (4, mi (t : Int))] [] shX J K S := by
    refine lpn (lst κ + 1) (fun t ht ih => ?_) ?_
    · intro na nb J K S g r0 r1
      have hW := g.1
      have hph2 := g.2.1
      have hh2 := g.2.2.1
      have hp2 := hW.2.1
      have f_ := g.2.2.2.2.1
      have jh3 : J h 3 = I h 3 := (f_ h 3 (by have := hh2.1; omega)).trans (by unfold wkM; rw [if_neg (by have := hh2.1; omega)])
      have k2 := g.2.2.2.2.2.2.2.1
      have hn3 : J p 3 = (n : Int) := k2.1.1.2.2.2.2.1
      have hna := hW.2.2.2.2.2.2.1
      have at38 : ∀ na nb J K S, alI (wkM I c f t) L R p h n nk κ na nb J K S → RELn κ J p h n t (fun x => K na (x : Int)) (wyV κ w t) → Rn G mtX6_firstWalk Q 38 [(0, mr 19), (1, mr p), (2, mi (w : Int)), (3, mr c), (4, mi (t : Int))] [] shX J K S := by
        intro na nb J K S g r
        have hW := g.1
        have hph2 := g.2.1
        have hh2 := g.2.2.1
        have hp2 := hW.2.1
        have f_ := g.2.2.2.2.1
        have jh3 : J h 3 = I h 3 := (f_ h 3 (by have := hh2.1; omega)).trans (by unfold wkM; rw [if_neg (by have := hh2.1; omega)])
        have k2 := g.2.2.2.2.2.2.2.1
        have hn3 : J p 3 = (n : Int) := k2.1.1.2.2.2.2.1
        have hna := hW.2.2.2.2.2.2.1
        have hne := wy_ne (w := w) k2.1.2.1 k2.1.2.2.1 h9 t (by omega)
        have ft : f t = leF (wyV κ w t) w (nst κ) := by rw [hf]
        obtain ⟨b1, b2, -⟩ := le_ne (w := w) k2.1.2.1 k2.1.2.2.1 hne
        have els := ls_le k2 (by omega) hw r hne
        rw [← ft] at els b1 b2
        have hvr : ∀ j : Nat, j < n → rL (K na (j : Int)) := fun j hj => by
          have := (r.1 j hj).1
          simp only at this
          omega
        have l0 : ∀ x : Nat, x ≤ n → Rn G mtX6_firstWalk Q 44 [(0, mr 19), (1, mr p), (2, mi (w : Int)), (3, mr c), (4, mi (t : Int)), (5, mi (wsF J K p na x)), (6, mi (x : Int))] [] shX J K S := by
          refine lpn n (fun x hx ih0 => ?_) ?_
          · have hvx := hvr x hx
            have es : wsF J K p na (x + 1) = if K na (x : Int) ≠ 0 then z_or (wsF J K p na x) (J (p + 7) (x : Int)) else wsF J K p na x := rfl
            refine x_iload dX6_firstWalk_44 6 rfl ?_
            refine x_aload_n dX6_firstWalk_46 0 rfl rfl ?_
            refine x_getR dX6_firstWalk_47 flX6_54 rfl rfl hW.2.2.1 ?_
            refine x_getI dX6_firstWalk_50 flX6_85 (shP0 hp2) rfl ?_
            rw [hn3]
            refine x_ic_ge (tgt := 89) dX6_firstWalk_53 (by decide) (by omega) (fun h53 => ?_) (fun h53 => ?_)
            · exfalso; omega
            · refine x_aload_n dX6_firstWalk_56 0 rfl rfl ?_
              refine x_getR dX6_firstWalk_57 flX6_35 rfl rfl hW.2.2.2.1 ?_
              refine x_iload dX6_firstWalk_60 6 rfl ?_
              refine x_lald dX6_firstWalk_62 (shW hW.2.2.2.2.2.2.1) (by omega) ?_
              refine x_lconst 0 dX6_firstWalk_63 rfl ?_
              refine x_lc_eq (tgt := 83) dX6_firstWalk_64 dX6_firstWalk_65 (by decide) (by omega) (fun h64 => ?_) (fun h64 => ?_)
              · refine x_iinc (lv' := [(0, _), (1, _), (2, _), (3, _), (4, _), (5, _), (6, _)]) dX6_firstWalk_83 6 rfl rfl rfl ?_
                refine x_goto (tgt := 44) dX6_firstWalk_86 (by decide) ?_
                first
                | (have hz : K na (x : Int) = 0 := h64
                   rw [if_neg (fun q => q hz)] at es
                   rw [es] at ih0
                   exact ih0)
                | (have hz : ¬ K na (x : Int) = 0 := h64
                   rw [if_pos hz] at es
                   rw [es] at ih0
                   exact ih0)
              · refine x_iload dX6_firstWalk_68 5 rfl ?_
                refine x_aload_n dX6_firstWalk_70 0 rfl rfl ?_
                refine x_getR dX6_firstWalk_71 flX6_54 rfl rfl hW.2.2.1 ?_
                refine x_getR dX6_firstWalk_74 flX6_88 (shP0 hp2) rfl hW.2.1.2.2.2.2.2.2.2 ?_
                refine x_iload dX6_firstWalk_77 6 rfl ?_
                refine x_iald dX6_firstWalk_79 (shP7 hW.2.1) (by omega) ?_
                refine x_ior dX6_firstWalk_80 ?_
                refine x_istore (lv' := [(0, _), (1, _), (2, _), (3, _), (4, _), (5, _), (6, _)]) dX6_firstWalk_81 rfl rfl ?_
                refine x_iinc (lv' := [(0, _), (1, _), (2, _), (3, _), (4, _), (5, _), (6, _)]) dX6_firstWalk_83 6 rfl rfl rfl ?_
                refine x_goto (tgt := 44) dX6_firstWalk_86 (by decide) ?_
                first
                | (have hz : K na (x : Int) = 0 := h64
                   rw [if_neg (fun q => q hz)] at es
                   rw [es] at ih0
                   exact ih0)
                | (have hz : ¬ K na (x : Int) = 0 := h64
                   rw [if_pos hz] at es
                   rw [es] at ih0
                   exact ih0)
          · have g2 := (g.bs (I2 := wkM I c f (t + 1)) (J2 := m_up J c (t : Int) (f t)) (wkM_up hc2 f_) (fun i => m_up_ne (by omega) i) (fun a i q => m_up_ne (by omega) i))
            have k3 := g2.2.2.2.2.2.2.2.1
            have hn4 : (m_up J c (t : Int) (f t)) p 3 = (n : Int) := k3.1.1.2.2.2.2.1
            have e32 : ∀ a i, 32 ≤ a → (m_up J c (t : Int) (f t)) a i = J a i := fun a i q => m_up_ne (by omega) i
            have r1' : RELn κ (m_up J c (t : Int) (f t)) p h n t (fun x => K na (x : Int)) (wyV κ w t) := ⟨fun x hx => by rw [sgX_d e32 (by have := hp2.1; omega) (by have := hh2.1; omega)]; exact r.1 x hx, r.2⟩
            have r2 := ke_rel (K := K) (na := na) k3 hw (r := f t) ⟨b1, b2⟩ r1'
            have g3 := g2.mp n (kpX (m_up J c (t : Int) (f t)) p (w : Int) (f t))
            refine x_iload dX6_firstWalk_44 6 rfl ?_
            refine x_aload_n dX6_firstWalk_46 0 rfl rfl ?_
            refine x_getR dX6_firstWalk_47 flX6_54 rfl rfl hW.2.2.1 ?_
            refine x_getI dX6_firstWalk_50 flX6_85 (shP0 hp2) rfl ?_
            rw [hn3]
            refine x_ic_ge (tgt := 89) dX6_firstWalk_53 (by decide) (by omega) (fun h53 => ?_) (fun h53 => ?_)
            · refine x_aload_n dX6_firstWalk_89 3 rfl rfl ?_
              refine x_iload dX6_firstWalk_90 4 rfl ?_
              refine x_iload dX6_firstWalk_92 5 rfl ?_
              refine x_iload_n dX6_firstWalk_94 2 rfl rfl ?_
              refine x_callNi (as := [_, _]) dX6_firstWalk_95 lvX6_116 rfl rfl rfl rfl ⟨rfl, rfl⟩ (s_X7_roomsOf) (fun z95 I95 L95 R95 hq95 => ?_)
              obtain ⟨rfl, rfl, rfl, rfl⟩ := hq95
              refine x_callNi (as := [_]) dX6_firstWalk_98 lvX6_120 rfl rfl rfl rfl ⟨rfl, rfl⟩ (s_X7_leastOf) (fun z98 I98 L98 R98 hq98 => ?_)
              obtain ⟨rfl, rfl, rfl, rfl⟩ := hq98
              rw [els]
              refine x_iast dX6_firstWalk_101 hc (by omega) ?_
              refine x_aload_n dX6_firstWalk_102 0 rfl rfl ?_
              refine x_iload_n dX6_firstWalk_103 2 rfl rfl ?_
              refine x_aload_n dX6_firstWalk_104 3 rfl rfl ?_
              refine x_iload dX6_firstWalk_105 4 rfl ?_
              refine y_iald dX6_firstWalk_107 hc (by omega) (rfl) ?_
              rw [m_up_eq]
              refine x_callVv (as := [_, _]) dX6_firstWalk_108 lvX6_112 rfl rfl rfl rfl rfl rfl rfl ⟨rfl, rfl⟩ (s_X6_keepIn hW hn4 hn2) (fun I108 L108 R108 hq108 => ?_)
              obtain ⟨rfl, rfl, rfl⟩ := hq108
              refine x_iinc (lv' := [(0, _), (1, _), (2, _), (3, _), (4, _), (5, _), (6, _)]) dX6_firstWalk_111 4 rfl rfl rfl ?_
              refine x_goto (tgt := 10) dX6_firstWalk_114 (by decide) ?_
              refine x_top (lv' := [(0, _), (1, _), (2, _), (3, _), (4, _)]) 5 rfl ?_
              exact ih _ _ _ _ _ g3 (fun q => by omega) (fun _ => r2)
            · exfalso; omega
        refine x_iconst dX6_firstWalk_38 ?_
        refine x_istore (lv' := [(0, _), (1, _), (2, _), (3, _), (4, _), (5, _)]) dX6_firstWalk_39 rfl rfl ?_
        refine x_iconst dX6_firstWalk_41 ?_
        refine x_istore (lv' := [(0, _), (1, _), (2, _), (3, _), (4, _), (5, _), (6, _)]) dX6_firstWalk_42 rfl rfl ?_
        exact l0 0 (by omega)
      have hsw : 0 < t → Sp G mtX6_sweep [mr 19, mi ((t : Int) - 1)] shX J K S (qv (fun I' L' R' => alI (wkM I c f t) L R p h n nk κ nb na I' L' R' ∧ RELn κ I' p h n t (fun x => L' nb (x : Int)) (gW κ (t - 1) (keF (wyV κ w (t - 1)) w (f (t - 1)))))) := fun q => by
        have z := s_sweepN (G := G) g (r1 q) (by omega)
        rw [show ((t - 1 : Nat) : Int) = (t : Int) - 1 by omega, show t - 1 + 1 = t by omega] at z
        exact z
      refine x_iload dX6_firstWalk_10 4 rfl ?_
      refine x_aload_n dX6_firstWalk_12 0 rfl rfl ?_
      refine x_getR dX6_firstWalk_13 flX6_54 rfl rfl hW.2.2.1 ?_
      refine x_getR dX6_firstWalk_16 flX6_58 (shP0 hp2) rfl hph2 ?_
      refine x_getI dX6_firstWalk_19 flX6_62 (shH0 hh2) rfl ?_
      rw [jh3]
      refine x_ic_gt (tgt := 117) dX6_firstWalk_22 (by decide) (by omega) (fun h22 => ?_) (fun h22 => ?_)
      · exfalso; omega
      · refine x_iload dX6_firstWalk_25 4 rfl ?_
        refine x_if_le (tgt := 38) dX6_firstWalk_27 (by decide) (by omega) (fun h27 => ?_) (fun h27 => ?_)
        · first
          | (have z := g35
             refine at38 _ _ _ _ _ g35 ?_
             obtain ⟨v, rfl⟩ : ∃ v, t = v + 1 := ⟨t - 1, by omega⟩
             have e : wyV κ w (v + 1) = gW κ v (keF (wyV κ w v) w (f v)) := by rw [hf]; rfl
             rw [e]
             exact r35)
          | (have e0 : t = 0 := by omega
             subst e0
             exact at38 _ _ _ _ _ g (r0 rfl))
        · refine x_aload_n dX6_firstWalk_30 0 rfl rfl ?_
          refine x_iload dX6_firstWalk_31 4 rfl ?_
          refine x_iconst dX6_firstWalk_33 ?_
          refine x_isub dX6_firstWalk_34 ?_
          refine x_callVv (as := [_]) dX6_firstWalk_35 lvX6_68 rfl rfl rfl rfl rfl rfl rfl ⟨rfl, rfl⟩ (hsw (by omega)) (fun I35 L35 R35 hq35 => ?_)
          obtain ⟨g35, r35⟩ := hq35
          first
          | (have z := g35
             refine at38 _ _ _ _ _ g35 ?_
             obtain ⟨v, rfl⟩ : ∃ v, t = v + 1 := ⟨t - 1, by omega⟩
             have e : wyV κ w (v + 1) = gW κ v (keF (wyV κ w v) w (f v)) := by rw [hf]; rfl
             rw [e]
             exact r35)
          | (have e0 : t = 0 := by omega
             subst e0
             exact at38 _ _ _ _ _ g (r0 rfl))
    · intro na nb J K S g r0 r1
      have hW := g.1
      have hph2 := g.2.1
      have hh2 := g.2.2.1
      have hp2 := hW.2.1
      have f_ := g.2.2.2.2.1
      have jh3 : J h 3 = I h 3 := (f_ h 3 (by have := hh2.1; omega)).trans (by unfold wkM; rw [if_neg (by have := hh2.1; omega)])
      have k2 := g.2.2.2.2.2.2.2.1
      have hn3 : J p 3 = (n : Int) := k2.1.1.2.2.2.2.1
      have hna := hW.2.2.2.2.2.2.1
      refine x_iload dX6_firstWalk_10 4 rfl ?_
      refine x_aload_n dX6_firstWalk_12 0 rfl rfl ?_
      refine x_getR dX6_firstWalk_13 flX6_54 rfl rfl hW.2.2.1 ?_
      refine x_getR dX6_firstWalk_16 flX6_58 (shP0 hp2) rfl hph2 ?_
      refine x_getI dX6_firstWalk_19 flX6_62 (shH0 hh2) rfl ?_
      rw [jh3]
      refine x_ic_gt (tgt := 117) dX6_firstWalk_22 (by decide) (by omega) (fun h22 => ?_) (fun h22 => ?_)
      · refine x_vret dX6_firstWalk_117 rfl ?_
        rw [← hQ]
        exact ⟨rfl, g.wp⟩
      · exfalso; omega
  refine x_aload_n dX6_firstWalk_0 0 rfl rfl ?_
  refine x_aload_n dX6_firstWalk_1 1 rfl rfl ?_
  refine x_iconst dX6_firstWalk_2 ?_
  refine x_iconst dX6_firstWalk_3 ?_
  refine x_callVv (as := [_, _, _]) dX6_firstWalk_4 lvX6_50 rfl rfl rfl rfl rfl rfl rfl ⟨rfl, rfl⟩ (s_beginN hR tw hp1 hph hh k m12 st) (fun I4 L4 R4 hq4 => ?_)
  obtain ⟨g4, r4⟩ := hq4
  refine x_iconst dX6_firstWalk_7 ?_
  refine x_istore (lv' := [(0, _), (1, _), (2, _), (3, _), (4, _)]) dX6_firstWalk_8 rfl rfl ?_
  exact lp 0 (by omega) _ _ _ _ _ (by rw [wkM_0]; exact g4) (fun _ => r4) (fun q => by omega)
end

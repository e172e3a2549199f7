/-! THE CLASS: the Moves listed. -/
def mvA (I : MI) (p h : Nat) (t : Int) (w s : Nat) : MVL := if (w : Int) < I p 1 then mvL I p h t w s else [(0, 0)]
def mvS (I : MI) (p h : Nat) (t : Int) (w : Nat) : Nat → Nat
  | 0 => 0
  | s + 1 => mvS I p h t w s + (mvA I p h t w s).length
def dSX (I : MI) (h : Nat) (x : Int) : Nat → Nat
  | 0 => 0
  | d + 1 => dSX I h x d + ((if I (h + 1) (d : Int) < x then 1 else 0) + (if I (h + 2) (d : Int) < x then 1 else 0))
theorem dSX_le (I : MI) (h : Nat) (x : Int) : ∀ d, dSX I h x d ≤ 2 * d
  | 0 => Nat.le_refl _
  | d + 1 => by have := dSX_le I h x d; unfold dSX; split <;> split <;> omega
theorem dmL_sum (I : MI) (p h : Nat) (t : Int) (w : Nat) (r : Int) : ∀ d, (dmL I p h t w r d).length + dSX I h r d ≤ dSX I h (r + 1) d
  | 0 => Nat.le_refl _
  | d + 1 => by
    have h1 := dmL_sum I p h t w r d
    have h2 : dmL I p h t w r (d + 1) = dmL I p h t w r d ++ (if gdX I p h t w r (d : Int) then [((bhX I h (d : Int) r + tdX I h w) * I (p + 6) (w : Int), z_shl 1 (d : Int))] else []) := rfl
    have h3 : ∀ x, dSX I h x (d + 1) = dSX I h x d + ((if I (h + 1) (d : Int) < x then 1 else 0) + (if I (h + 2) (d : Int) < x then 1 else 0)) := fun x => rfl
    rw [h2, List.length_append, h3, h3]
    by_cases hg : gdX I p h t w r (d : Int) = true
    · rw [if_pos hg]
      have h4 : I (h + 1) (d : Int) = r ∨ I (h + 2) (d : Int) = r := by
        unfold gdX at hg
        rw [Bool.and_eq_true, decide_eq_true_eq] at hg
        have := hg.1
        unfold bhX at this
        split at this
        · rename_i q; exact Or.inl q
        · split at this
          · rename_i q; exact Or.inr q
          · omega
      have h5 : ([((bhX I h (d : Int) r + tdX I h w) * I (p + 6) (w : Int), z_shl 1 (d : Int))] : MVL).length = 1 := rfl
      rw [h5]
      split <;> split <;> split <;> split <;> omega
    · rw [if_neg hg]
      have h5 : ([] : MVL).length = 0 := rfl
      rw [h5]
      split <;> split <;> split <;> split <;> omega
theorem mvS_r {I : MI} {p h : Nat} {t : Int} {w : Nat} (k : okP I h) (hw : (w : Int) < I p 1) : ∀ s : Nat, mvS I p h t w s ≤ s + dSX I h (min (s : Int) (I h 0)) (I h 1).toNat
  | 0 => by unfold mvS; omega
  | s + 1 => by
    have h1 := mvS_r (t := t) k hw s
    have h2 : mvS I p h t w (s + 1) = mvS I p h t w s + (mvA I p h t w s).length := rfl
    have h3 : mvA I p h t w s = mvL I p h t w s := if_pos hw
    have h4 : (stL I p t w (rmX I h (s : Int))).length ≤ 1 := by unfold stL; split <;> simp
    rw [h2, h3]
    unfold mvL
    rw [List.length_append]
    by_cases hs : I h 0 ≤ (s : Int)
    · rw [if_pos hs, show min ((s + 1 : Nat) : Int) (I h 0) = min (s : Int) (I h 0) by omega]
      have h5 : ([] : MVL).length = 0 := rfl
      omega
    · rw [if_neg hs]
      have h5 := dmL_sum I p h t w (rmX I h (s : Int)) (I h 1).toNat
      rw [show rmX I h (s : Int) = (s : Int) by unfold rmX; rw [if_pos (by omega)]] at h4 h5 ⊢
      rw [show min ((s + 1 : Nat) : Int) (I h 0) = (s : Int) + 1 by omega]
      rw [show min (s : Int) (I h 0) = (s : Int) by omega] at h1
      omega
theorem mvS_28 {I : MI} {p h : Nat} {t : Int} {w : Nat} (k : okP I h) (kd : okD I h) (hu : 0 ≤ I p 1 ∧ I p 1 ≤ I h 2) (s : Nat) (hs : (s : Int) ≤ stW I p h w) : mvS I p h t w s ≤ 28 := by
  have h1 := stW_r k hu w
  by_cases hw : (w : Int) < I p 1
  · have h2 := mvS_r (t := t) k hw s
    have h3 := dSX_le I h (min (s : Int) (I h 0)) (I h 1).toNat
    have h4 := kd.1
    omega
  · have h2 : stW I p h w = 1 := if_neg hw
    have h3 : mvA I p h t w 0 = [(0, 0)] := if_neg hw
    have : s = 0 ∨ s = 1 := by omega
    rcases this with rfl | rfl
    · unfold mvS; omega
    · have h4 : mvS I p h t w 1 = 0 + (mvA I p h t w 0).length := rfl
      rw [h4, h3]
      decide
theorem mvS_mono (I : MI) (p h : Nat) (t : Int) (w : Nat) : ∀ a b, a ≤ b → mvS I p h t w a ≤ mvS I p h t w b := by
  intro a b hab
  induction b with
  | zero => rw [show a = 0 by omega]; exact Nat.le_refl _
  | succ b ih =>
    by_cases q : a = b + 1
    · rw [q]; exact Nat.le_refl _
    · have h1 := ih (by omega)
      have h2 : mvS I p h t w (b + 1) = mvS I p h t w b + (mvA I p h t w b).length := rfl
      omega
section
variable {I J : MI} {p h : Nat} {t : Int} {w : Nat}
theorem dmL_c (hp : 24 ≤ p) (hh : 24 ≤ h) (e : ∀ c i, 24 ≤ c → J c i = I c i) (r : Int) : ∀ d, dmL J p h t w r d = dmL I p h t w r d
  | 0 => rfl
  | d + 1 => by
    have hb : bhX J h (d : Int) r = bhX I h (d : Int) r := by unfold bhX; rw [e (h + 1) _ (by omega), e (h + 2) _ (by omega)]
    have hg : gdX J p h t w r (d : Int) = gdX I p h t w r (d : Int) := by
      unfold gdX opX mgX
      rw [hb, e (p + 2) _ (by omega), e p _ (by omega), e (p + 1) _ (by omega), e (p + 4) _ (by omega)]
    have ht : tdX J h w = tdX I h w := by unfold tdX; rw [e (h + 3) _ (by omega), e h _ (by omega)]
    unfold dmL
    rw [dmL_c hp hh e r d, hg, hb, ht, e (p + 6) _ (by omega)]
theorem mvL_c (hp : 24 ≤ p) (hh : 24 ≤ h) (e : ∀ c i, 24 ≤ c → J c i = I c i) (s : Nat) : mvL J p h t w s = mvL I p h t w s := by
  have hr : rmX J h (s : Int) = rmX I h (s : Int) := by unfold rmX; rw [e h _ (by omega)]
  unfold mvL
  rw [hr, dmL_c hp hh e, e h 0 (by omega), e h 1 (by omega)]
  congr 1
  unfold stL mgX
  rw [e (p + 4) _ (by omega), e (p + 6) _ (by omega)]
end
theorem PL.fr {J J' : MI} {a m e : Nat} {l : MVL} (h : PL J a l) (f : FMv J J' m e) (hd : a + l.length ≤ m) : PL J' a l := by
  intro i q hq
  have hi : i < l.length := by
    apply Classical.byContradiction
    intro c
    rw [List.getElem?_eq_none (by omega)] at hq
    exact absurd hq (by simp)
  rw [f 22 _ (by omega), f 23 _ (by omega)]
  exact h i q hq
/-- the moves listed: of walkers below w wholly, of walker w up to state s -/
def MVs (I : MI) (p h : Nat) (t : Int) (w s : Nat) (J : MI) : Prop := (∀ c i, 24 ≤ c → J c i = I c i) ∧ (∀ c i, c < 21 → J c i = I c i) ∧
  (∀ v : Nat, v < w → (∀ x : Nat, (x : Int) ≤ stW I p h v → J 21 (13 * (v : Int) + (x : Int)) = ((28 * v + mvS I p h t v x : Nat) : Int)) ∧ ∀ x : Nat, (x : Int) < stW I p h v → PL J (28 * v + mvS I p h t v x) (mvA I p h t v x)) ∧
  (∀ x : Nat, x < s → J 21 (13 * (w : Int) + (x : Int)) = ((28 * w + mvS I p h t w x : Nat) : Int) ∧ PL J (28 * w + mvS I p h t w x) (mvA I p h t w x))
theorem okP_c {I J : MI} {h : Nat} (hh : 24 ≤ h) (e : ∀ c i, 24 ≤ c → J c i = I c i) (k : okP I h) : okP J h := by
  unfold okP at k ⊢
  rw [e h 0 hh, e h 2 hh]
  exact ⟨k.1, k.2.1, fun w hw => by rw [e (h + 3) _ (by omega)]; exact k.2.2 w hw⟩
theorem okD_c {I J : MI} {h : Nat} (hh : 24 ≤ h) (e : ∀ c i, 24 ≤ c → J c i = I c i) (k : okD I h) : okD J h := by
  unfold okD at k ⊢
  rw [e h 0 hh, e h 1 hh]
  exact ⟨k.1, fun w hw => by rw [e (h + 1) _ (by omega), e (h + 2) _ (by omega)]; exact k.2 w hw⟩
theorem mvs_step {I J J1 J2 : MI} {p h w s : Nat} {t : Int} (k : okP I h) (kd : okD I h) (hu : 0 ≤ I p 1 ∧ I p 1 ≤ I h 2) (g : MVs I p h t w s J) (hw : w < 3) (hs : (s : Int) < stW I p h w)
  (e1 : J1 = m_up J 21 ((w : Int) * 13 + (s : Int)) ((28 * w + mvS I p h t w s : Nat) : Int)) (e2 : PL J2 (28 * w + mvS I p h t w s) (mvA I p h t w s)) (e3 : FMv J1 J2 (28 * w + mvS I p h t w s) (28 * w + mvS I p h t w s + (mvA I p h t w s).length)) : MVs I p h t w (s + 1) J2 := by
  obtain ⟨g1, g2, g3, g4⟩ := g
  have hst := stW_r k hu
  have q : ∀ c i, c ≠ 21 → J1 c i = J c i := fun c i q => by rw [e1, m_up_ne q]
  have q2 : ∀ i, i ≠ (w : Int) * 13 + (s : Int) → J1 21 i = J 21 i := fun i q => by rw [e1, m_up_nj q]
  have r21 : ∀ i, J2 21 i = J1 21 i := fun i => e3 21 i (by omega)
  have f0 : FMv J J1 100 100 → True := fun _ => trivial
  have pl : ∀ a (l : MVL), PL J a l → a + l.length ≤ 28 * w + mvS I p h t w s → PL J2 a l := fun a l h1 h2 => by
    refine PL.fr (J := J1) ?_ e3 h2
    intro i x hx
    rw [q 22 _ (by decide), q 23 _ (by decide)]
    exact h1 i x hx
  refine ⟨fun c i hc => by rw [e3 c i (by omega), q c i (by omega)]; exact g1 c i hc, fun c i hc => by rw [e3 c i (by omega), q c i (by omega)]; exact g2 c i hc, fun v hv => ⟨fun x hx => ?_, fun x hx => ?_⟩, fun x hx => ?_⟩
  · have := hst v
    rw [r21, q2 _ (by omega)]
    exact (g3 v hv).1 x hx
  · have h28 := mvS_28 (t := t) k kd hu (w := v) (x + 1) (by omega)
    have hm1 : mvS I p h t v (x + 1) = mvS I p h t v x + (mvA I p h t v x).length := rfl
    exact pl _ _ ((g3 v hv).2 x hx) (by omega)
  · by_cases e : x = s
    · rw [e]
      refine ⟨?_, e2⟩
      rw [r21, e1, show 13 * (w : Int) + (s : Int) = (w : Int) * 13 + (s : Int) by omega, m_up_eq]
    · have hm1 : mvS I p h t w (x + 1) = mvS I p h t w x + (mvA I p h t w x).length := rfl
      have hm2 := mvS_mono I p h t w (x + 1) s (by omega)
      have h4 := g4 x (by omega)
      refine ⟨?_, pl _ _ h4.2 (by omega)⟩
      rw [r21, q2 _ (by omega)]
      exact h4.1
theorem mvs_end {I J : MI} {p h w n : Nat} {t : Int} (k : okP I h) (hu : 0 ≤ I p 1 ∧ I p 1 ≤ I h 2) (g : MVs I p h t w n J) (hn : stW I p h w = (n : Int)) : MVs I p h t (w + 1) 0 (m_up J 21 ((w : Int) * 13 + stW I p h w) ((28 * w + mvS I p h t w n : Nat) : Int)) := by
  obtain ⟨g1, g2, g3, g4⟩ := g
  have hst := stW_r k hu
  have pl : ∀ a (l : MVL), PL J a l → PL (m_up J 21 ((w : Int) * 13 + stW I p h w) ((28 * w + mvS I p h t w n : Nat) : Int)) a l := fun a l h1 i x hx => by
    rw [m_up_ne (by decide), m_up_ne (by decide)]
    exact h1 i x hx
  refine ⟨fun c i hc => by rw [m_up_ne (by omega)]; exact g1 c i hc, fun c i hc => by rw [m_up_ne (by omega)]; exact g2 c i hc, fun v hv => ?_, fun x hx => by omega⟩
  by_cases e : v = w
  · subst e
    refine ⟨fun x hx => ?_, fun x hx => pl _ _ (g4 x (by omega)).2⟩
    by_cases ex : x = n
    · rw [ex, hn, show 13 * (v : Int) + (n : Int) = (v : Int) * 13 + (n : Int) by omega, m_up_eq]
    · rw [m_up_nj (by omega)]
      exact (g4 x (by omega)).1
  · have := hst v
    refine ⟨fun x hx => ?_, fun x hx => pl _ _ ((g3 v (by omega)).2 x hx)⟩
    rw [m_up_nj (by omega)]
    exact (g3 v (by omega)).1 x hx
section
variable {G : GT} {I L : MI} {R : MR} {p h : Nat}

set_option maxHeartbeats 1500000 in
theorem s_X1_list {t : Int} (hR : okR R) (hp : isP R p) (hh : isH R h) (hph : R p 0 = some h) (k : okP I h) (kd : okD I h) (hu : 0 ≤ I p 1 ∧ I p 1 ≤ I h 2) (hsh : SHP p h I) (ht : 0 ≤ t ∧ t < 30) : Sp G mtX1_list [mr 20, mr p, mi t] shX I L R (qv (fun I' L' R' => MVs I p h t 3 0 I' ∧ L = L' ∧ R = R')) := by
  refine Sp.of pnX1_list rfl ?_
  show Rn G mtX1_list _ 0 [(0, mr 20), (1, mr p), (2, mi t)] [] shX I L R
  generalize hQ : (qv (fun I' L' R' => MVs I p h t 3 0 I' ∧ L = L' ∧ R = R')) = Q
  have hp1 := hp.1
  have hh1 := hh.1
  have hst := stW_r k hu
  obtain ⟨k1, k2, k3⟩ := id k
  obtain ⟨s1, s2, s3⟩ := id hsh
  have loop : ∀ w : Nat, w ≤ 3 → ∀ J, MVs I p h t w 0 J → Rn G mtX1_list Q 2 [(0, mr 20), (1, mr p), (2, mi t), (3, mi (w : Int))] [] shX J L R := by
    refine lpn 3 (fun w hw ih => ?_) ?_
    · intro J g
      have hsw := (s2 w hw).1
      have hss := hst w
      have inn : ∀ s : Nat, s ≤ (stW I p h w).toNat → ∀ J, MVs I p h t w s J → Rn G mtX1_list Q 16 [(0, mr 20), (1, mr p), (2, mi t), (3, mi (w : Int)), (4, mi ((28 * w + mvS I p h t w s : Nat) : Int)), (5, mi (s : Int))] [] shX J L R := by
        refine lpn _ (fun s hs ihs => ?_) ?_
        · intro J g
          have j5 : J (p + 5) (w : Int) = stW I p h w := (g.1 _ _ (by omega)).trans hsw
          have j1 : J p 1 = I p 1 := g.1 _ _ (by omega)
          have h28 := mvS_28 (t := t) k kd hu (w := w) (s + 1) (by omega)
          have hm1 : mvS I p h t w (s + 1) = mvS I p h t w s + (mvA I p h t w s).length := rfl
          refine x_iload dX1_list_16 5 rfl ?_
          refine x_aload_n dX1_list_18 1 rfl rfl ?_
          refine x_getR dX1_list_19 flX1_21 (shP0 hp) rfl hp.2.2.2.2.2.1 ?_
          refine x_iload_n dX1_list_22 3 rfl rfl ?_
          refine x_iald dX1_list_23 (shP5 hp) (by omega) ?_
          rw [j5]
          refine x_ic_ge (tgt := 77) dX1_list_24 (by decide) (by first | omega | exact z_and_r _ _ | exact z_or_r _ _ | exact z_xor_r _ _) (fun h24 => ?_) (fun h24 => ?_)
          · exfalso; omega
          · refine x_aload_n dX1_list_27 0 rfl rfl ?_
            refine x_getR dX1_list_28 flX1_9 rfl rfl (hR 20 0 21 rfl) ?_
            refine x_iload_n dX1_list_31 3 rfl rfl ?_
            refine x_bipush dX1_list_32 (by decide) ?_
            refine x_imul dX1_list_34 ?_
            refine x_iload dX1_list_35 5 rfl ?_
            refine x_iadd dX1_list_37 ?_
            refine x_iload dX1_list_38 4 rfl ?_
            refine x_iast dX1_list_40 rfl (by omega) ?_
            refine x_iload_n dX1_list_41 3 rfl rfl ?_
            refine x_aload_n dX1_list_42 1 rfl rfl ?_
            refine y_getI dX1_list_43 flX1_26 (shP0 hp) rfl (m_up_ne (by omega) _) ?_
            obtain ⟨J1, hJ1⟩ : ∃ J1, J1 = m_up J 21 ((w : Int) * 13 + (s : Int)) ((28 * w + mvS I p h t w s : Nat) : Int) := ⟨_, rfl⟩
            rw [← hJ1]
            have e24 : ∀ c i, 24 ≤ c → J1 c i = I c i := fun c i q => by rw [hJ1, m_up_ne (by omega)]; exact g.1 c i q
            have jk := okP_c (by omega) e24 k
            have jd := okD_c (by omega) e24 kd
            have jp1 : J1 p 1 = I p 1 := e24 _ _ (by omega)
            have jmv := mvL_c (t := t) (w := w) (p := p) (h := h) (by omega) (by omega) e24 s
            refine x_ic_ge (tgt := 63) dX1_list_46 (by decide) (by first | omega | exact z_and_r _ _ | exact z_or_r _ _ | exact z_xor_r _ _) (fun h46 => ?_) (fun h46 => ?_)
            · have ha : mvA I p h t w s = [(0, 0)] := if_neg (by omega)
              have hl1 : (mvA I p h t w s).length = 1 := by rw [ha]; rfl
              refine x_aload_n dX1_list_63 0 rfl rfl ?_
              refine x_iload dX1_list_64 4 rfl ?_
              refine x_callVi (as := [_]) dX1_list_66 lvX1_34 rfl rfl rfl rfl rfl rfl rfl ⟨rfl, rfl⟩ (s_X1_listAbsent hR (by omega)) (fun z66 I66 L66 R66 hq66 => ?_)
              obtain ⟨hz66, rfl, rfl, rfl⟩ := hq66
              refine x_istore (lv' := [(0, _), (1, _), (2, _), (3, _), (4, _), (5, _)]) dX1_list_69 rfl rfl ?_
              refine x_iinc (lv' := [(0, _), (1, _), (2, _), (3, _), (4, _), (5, _)]) dX1_list_71 5 rfl rfl rfl ?_
              refine x_goto (tgt := 16) dX1_list_74 (by decide) ?_
              first
              | (have hz := hz66
                 obtain ⟨y1, y2⟩ := PL.ad (J := J1) (I := J1) (m := 28 * w + mvS I p h t w s) (l := []) (fun i q hq => by simp at hq) (fun _ _ _ => rfl) 0 0
                 have hz9 : ([] ++ [(0, 0)] : MVL) = mvA I p h t w s := ha.symm
                 rw [hz9] at y1 y2
                 have hg := mvs_step k kd hu g hw (by omega) hJ1 y1 y2
                 have hi := ihs _ hg
                 rw [hm1, hl1] at hi
                 rw [hz]
                 exact hi)
              | (have hz := hz57
                 have hg := mvs_step k kd hu g hw (by omega) hJ1 y1 y2
                 have hi := ihs _ hg
                 rw [hm1, ← Nat.add_assoc] at hi
                 rw [hz]
                 exact hi)
            · have ha : mvA I p h t w s = mvL J1 p h t w s := by rw [jmv]; exact if_pos (by omega)
              have hsw2 : (s : Int) < 2 * J1 h 0 := by
                rw [e24 h 0 (by omega)]
                have hz : (s : Int) < stW I p h w := by omega
                unfold stW at hz
                rw [if_pos (by omega)] at hz
                have h3 := k3 w (by omega)
                have : I (h + 3) (w : Int) = 1 ∨ I (h + 3) (w : Int) = 2 := by omega
                rcases this with q | q <;> rw [q] at hz <;> omega
              refine x_aload_n dX1_list_49 0 rfl rfl ?_
              refine x_aload_n dX1_list_50 1 rfl rfl ?_
              refine x_iload_n dX1_list_51 2 rfl rfl ?_
              refine x_iload_n dX1_list_52 3 rfl rfl ?_
              refine x_iload dX1_list_53 5 rfl ?_
              refine x_iload dX1_list_55 4 rfl ?_
              refine x_callVi (as := [_, _, _, _, _]) dX1_list_57 lvX1_30 rfl rfl rfl rfl rfl rfl rfl ⟨rfl, rfl⟩ (s_X1_listState (m := 28 * w + mvS I p h t w s) hR hp hh hph jk jd ht hw (by rw [e24 h 2 (by omega)]; omega) hsw2 (by rw [← ha]; omega)) (fun z57 I57 L57 R57 hq57 => ?_)
              obtain ⟨hz57, y1, y2, rfl, rfl⟩ := hq57
              rw [← ha] at hz57 y1 y2
              refine x_goto (tgt := 69) dX1_list_60 (by decide) ?_
              refine x_istore (lv' := [(0, _), (1, _), (2, _), (3, _), (4, _), (5, _)]) dX1_list_69 rfl rfl ?_
              refine x_iinc (lv' := [(0, _), (1, _), (2, _), (3, _), (4, _), (5, _)]) dX1_list_71 5 rfl rfl rfl ?_
              refine x_goto (tgt := 16) dX1_list_74 (by decide) ?_
              first
              | (have hz := hz66
                 obtain ⟨y1, y2⟩ := PL.ad (J := J1) (I := J1) (m := 28 * w + mvS I p h t w s) (l := []) (fun i q hq => by simp at hq) (fun _ _ _ => rfl) 0 0
                 have hz9 : ([] ++ [(0, 0)] : MVL) = mvA I p h t w s := ha.symm
                 rw [hz9] at y1 y2
                 have hg := mvs_step k kd hu g hw (by omega) hJ1 y1 y2
                 have hi := ihs _ hg
                 rw [hm1, hl1] at hi
                 rw [hz]
                 exact hi)
              | (have hz := hz57
                 have hg := mvs_step k kd hu g hw (by omega) hJ1 y1 y2
                 have hi := ihs _ hg
                 rw [hm1, ← Nat.add_assoc] at hi
                 rw [hz]
                 exact hi)
        · intro J g
          have j5 : J (p + 5) (w : Int) = stW I p h w := (g.1 _ _ (by omega)).trans hsw
          have h28 := mvS_28 (t := t) k kd hu (w := w) (stW I p h w).toNat (by omega)
          refine x_iload dX1_list_16 5 rfl ?_
          refine x_aload_n dX1_list_18 1 rfl rfl ?_
          refine x_getR dX1_list_19 flX1_21 (shP0 hp) rfl hp.2.2.2.2.2.1 ?_
          refine x_iload_n dX1_list_22 3 rfl rfl ?_
          refine x_iald dX1_list_23 (shP5 hp) (by omega) ?_
          rw [j5]
          refine x_ic_ge (tgt := 77) dX1_list_24 (by decide) (by first | omega | exact z_and_r _ _ | exact z_or_r _ _ | exact z_xor_r _ _) (fun h24 => ?_) (fun h24 => ?_)
          · refine x_aload_n dX1_list_77 0 rfl rfl ?_
            refine x_getR dX1_list_78 flX1_9 rfl rfl (hR 20 0 21 rfl) ?_
            refine x_iload_n dX1_list_81 3 rfl rfl ?_
            refine x_bipush dX1_list_82 (by decide) ?_
            refine x_imul dX1_list_84 ?_
            refine x_aload_n dX1_list_85 1 rfl rfl ?_
            refine x_getR dX1_list_86 flX1_21 (shP0 hp) rfl hp.2.2.2.2.2.1 ?_
            refine x_iload_n dX1_list_89 3 rfl rfl ?_
            refine x_iald dX1_list_90 (shP5 hp) (by omega) ?_
            rw [j5]
            refine x_iadd dX1_list_91 ?_
            refine x_iload dX1_list_92 4 rfl ?_
            refine x_iast dX1_list_94 rfl (by omega) ?_
            refine x_iinc (lv' := [(0, _), (1, _), (2, _), (3, _), (4, _), (5, _)]) dX1_list_95 3 rfl rfl rfl ?_
            refine x_goto (tgt := 2) dX1_list_98 (by decide) ?_
            refine x_top (lv' := [(0, _), (1, _), (2, _), (3, _)]) 4 rfl ?_
            have hz : stW I p h w = (((stW I p h w).toNat : Nat) : Int) := by omega
            exact ih _ (mvs_end k hu g hz)
          · exfalso; omega
      refine x_iload_n dX1_list_2 3 rfl rfl ?_
      refine x_iconst dX1_list_3 ?_
      refine x_ic_ge (tgt := 101) dX1_list_4 (by decide) (by first | omega | exact z_and_r _ _ | exact z_or_r _ _ | exact z_xor_r _ _) (fun h4 => ?_) (fun h4 => ?_)
      · refine x_vret dX1_list_101 rfl ?_
        exfalso; omega
      · refine x_iload_n dX1_list_7 3 rfl rfl ?_
        refine x_bipush dX1_list_8 (by decide) ?_
        refine x_imul dX1_list_10 ?_
        refine x_istore (lv' := [(0, _), (1, _), (2, _), (3, _), (4, _)]) dX1_list_11 rfl rfl ?_
        refine x_iconst dX1_list_13 ?_
        refine x_istore (lv' := [(0, _), (1, _), (2, _), (3, _), (4, _), (5, _)]) dX1_list_14 rfl rfl ?_
        rw [show (w : Int) * 28 = ((28 * w + mvS I p h t w 0 : Nat) : Int) by unfold mvS; omega]
        exact inn 0 (by omega) J g
    · intro J g
      refine x_iload_n dX1_list_2 3 rfl rfl ?_
      refine x_iconst dX1_list_3 ?_
      refine x_ic_ge (tgt := 101) dX1_list_4 (by decide) (by first | omega | exact z_and_r _ _ | exact z_or_r _ _ | exact z_xor_r _ _) (fun h4 => ?_) (fun h4 => ?_)
      · refine x_vret dX1_list_101 rfl ?_
        rw [← hQ]
        exact ⟨rfl, g, rfl, rfl⟩
      · exfalso; omega
  refine x_iconst dX1_list_0 ?_
  refine x_istore_n (lv' := [(0, _), (1, _), (2, _), (3, _)]) dX1_list_1 rfl rfl rfl ?_
  exact loop 0 (by omega) I ⟨fun _ _ _ => rfl, fun _ _ _ => rfl, fun v hv => by omega, fun x hx => by omega⟩
end

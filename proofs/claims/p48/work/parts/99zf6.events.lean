/-! THE LAW'S OWN METHODS: events. -/
/-- a memory with this house; with these events -/
def HouB (M : MI) (hv : Int → Int) (R D W T : Nat) : Prop := (M 0 11 = R ∧ M 0 12 = D ∧ M 0 13 = W ∧ M 0 14 = T) ∧ (∀ e : Nat, e < D → M 7 (3 * (e : Int)) = hv (8 + 2 * (e : Int)) ∧ M 7 (3 * (e : Int) + 1) = hv (9 + 2 * (e : Int)) ∧ M 7 (3 * (e : Int) + 2) = bt_ hv e) ∧ ∀ w : Nat, w < W → M 8 (2 * (w : Int)) = hv (30 + (w : Int)) ∧ M 8 (2 * (w : Int) + 1) = z_shl 1 (R : Int) - 1
def EvA (M : MI) (ev : Int → Int) (n : Nat) : Prop := M 0 25 = n ∧ ∀ e : Nat, e < n → M 11 (4 * (e : Int) + 0) = ev (4 * (e : Int)) ∧ M 11 (4 * (e : Int) + 1) = ev (4 * (e : Int) + 1) ∧ M 11 (4 * (e : Int) + 2) = (if ev (4 * (e : Int)) = 3 ∨ ev (4 * (e : Int)) = 5 then ev (4 * (e : Int) + 2) else 0) ∧ M 11 (4 * (e : Int) + 3) = ev (4 * (e : Int) + 3)
def EvS (hv ev : Int → Int) (R D W T n : Nat) : Prop := ∀ e : Nat, e < n → EvO hv R D W T (ev (4 * (e : Int))) (ev (4 * (e : Int) + 1)) (ev (4 * (e : Int) + 2)) (ev (4 * (e : Int) + 3))
theorem HouM.b {M : MI} {hv : Int → Int} {R D W T : Nat} (h : HouM M hv R D W T) : HouB M hv R D W T ∧ M 0 25 = 0 := ⟨⟨⟨h.1.1, h.1.2.1, h.1.2.2.1, h.1.2.2.2.1⟩, h.2⟩, h.1.2.2.2.2⟩
theorem EvA.cg {M : MI} {ev ev' : Int → Int} {n : Nat} (h : EvA M ev n) (e : ∀ y : Int, y < 4 * (n : Int) → ev' y = ev y) : EvA M ev' n := by
  refine ⟨h.1, fun k hk => ?_⟩
  rw [e _ (by omega), e _ (by omega), e _ (by omega), e _ (by omega)]
  exact h.2 k hk
theorem EvS.cg {hv ev ev' : Int → Int} {R D W T n : Nat} (h : EvS hv ev R D W T n) (e : ∀ y : Int, y < 4 * (n : Int) → ev' y = ev y) : EvS hv ev' R D W T n := by
  intro k hk
  rw [e _ (by omega), e _ (by omega), e _ (by omega), e _ (by omega)]
  exact h k hk
theorem ev_add {M : MI} {hv : Int → Int} {R D W T n : Nat} {k a b t : Int} (hb : HouB M hv R D W T) (h25 : M 0 25 = n) (hn : n < 24) (ok : EvO hv R D W T k a b t) : (s_event k a b t M).1 = n ∧ (∀ c j, c ≠ 11 → ¬ (c = 0 ∧ j = 25) → (s_event k a b t M).2 c j = M c j) ∧ (s_event k a b t M).2 0 25 = ((n + 1 : Nat) : Int) ∧ ∀ y : Int, (s_event k a b t M).2 11 y = if y = 4 * (n : Int) + 3 then t else if y = 4 * (n : Int) + 2 then (if k = 3 ∨ k = 5 then b else 0) else if y = 4 * (n : Int) + 1 then a else if y = 4 * (n : Int) then k else M 11 y := by
  obtain ⟨⟨e11, e12, e13, e14⟩, hd, -⟩ := hb
  obtain ⟨k0, k1, k5, k2, k3, kb⟩ := ok
  have et : etQ M k a b t = true := by
    unfold etQ
    have c : k = 1 ∨ k = 2 ∨ k = 3 ∨ k = 4 ∨ k = 5 := by omega
    rcases c with rfl | rfl | rfl | rfl | rfl
    · obtain ⟨q1, q2, q3⟩ := k1 rfl
      have z := (hd a.toNat (by omega)).2.2
      rw [show ((a.toNat : Nat) : Int) = a by omega] at z
      rw [if_pos rfl, decide_eq_true_eq]
      exact ⟨⟨by omega, by rw [z]; exact q2⟩, by omega⟩
    · have := k2 (Or.inl rfl)
      rw [if_neg (by omega), if_pos rfl, decide_eq_true_eq]
      omega
    · have := k2 (Or.inr (Or.inl rfl))
      have := k3 rfl
      rw [if_neg (by omega), if_neg (by omega), if_pos rfl, decide_eq_true_eq]
      omega
    · have := k2 (Or.inr (Or.inr rfl))
      rw [if_neg (by omega), if_neg (by omega), if_neg (by omega), if_pos rfl, decide_eq_true_eq]
      omega
    · have := k5 rfl
      rw [if_neg (by omega), if_neg (by omega), if_neg (by omega), if_neg (by omega), if_pos rfl, decide_eq_true_eq]
      omega
  have e : s_event k a b t M = (M 0 25, cmE M k a (if k = 3 ∨ k = 5 then b else 0) t) := by
    unfold s_event
    rw [if_neg (by rw [et]; simp), if_neg (by omega)]
  rw [e]
  refine ⟨h25, fun c j h1 h2 => ?_, ?_, fun y => ?_⟩
  · show cmE M k a (if k = 3 ∨ k = 5 then b else 0) t c j = M c j
    unfold cmE
    rw [show ∀ f : MI, ∀ v, m_up f 0 25 v c j = f c j from fun f v => if_neg h2, m_up_ne h1, m_up_ne h1, m_up_ne h1, m_up_ne h1]
  · show cmE M k a (if k = 3 ∨ k = 5 then b else 0) t 0 25 = _
    unfold cmE
    rw [m_up_eq, h25]
    omega
  · show cmE M k a (if k = 3 ∨ k = 5 then b else 0) t 11 y = _
    unfold cmE
    rw [h25, m_up_ne (by decide)]
    unfold m_up
    simp only [true_and]
theorem ev_A {M : MI} {hv ev : Int → Int} {R D W T n : Nat} (hb : HouB M hv R D W T) (ea : EvA M ev n) (hn : n < 24) (ok : EvO hv R D W T (ev (4 * (n : Int))) (ev (4 * (n : Int) + 1)) (ev (4 * (n : Int) + 2)) (ev (4 * (n : Int) + 3))) : (s_event (ev (4 * (n : Int))) (ev (4 * (n : Int) + 1)) (ev (4 * (n : Int) + 2)) (ev (4 * (n : Int) + 3)) M).1 = n ∧ HouB (s_event (ev (4 * (n : Int))) (ev (4 * (n : Int) + 1)) (ev (4 * (n : Int) + 2)) (ev (4 * (n : Int) + 3)) M).2 hv R D W T ∧ EvA (s_event (ev (4 * (n : Int))) (ev (4 * (n : Int) + 1)) (ev (4 * (n : Int) + 2)) (ev (4 * (n : Int) + 3)) M).2 ev (n + 1) := by
  obtain ⟨h1, h2, h3, h4⟩ := ev_add hb ea.1 hn ok
  generalize (s_event (ev (4 * (n : Int))) (ev (4 * (n : Int) + 1)) (ev (4 * (n : Int) + 2)) (ev (4 * (n : Int) + 3)) M).2 = K at *
  refine ⟨h1, ?_, h3, fun e he => ?_⟩
  · obtain ⟨⟨a1, a2, a3, a4⟩, hd, hw⟩ := hb
    refine ⟨⟨by rw [h2 0 11 (by decide) (by decide)]; exact a1, by rw [h2 0 12 (by decide) (by decide)]; exact a2, by rw [h2 0 13 (by decide) (by decide)]; exact a3, by rw [h2 0 14 (by decide) (by decide)]; exact a4⟩, fun e he => ?_, fun w hw' => ?_⟩
    · rw [h2 7 _ (by decide) (by omega), h2 7 _ (by decide) (by omega), h2 7 _ (by decide) (by omega)]
      exact hd e he
    · rw [h2 8 _ (by decide) (by omega), h2 8 _ (by decide) (by omega)]
      exact hw w hw'
  · by_cases q : e = n
    · subst q
      rw [h4, h4, h4, h4]
      refine ⟨?_, ?_, ?_, ?_⟩
      · rw [if_neg (by omega), if_neg (by omega), if_neg (by omega), if_pos (by omega)]
      · rw [if_neg (by omega), if_neg (by omega), if_pos rfl]
      · rw [if_neg (by omega), if_pos rfl]
      · rw [if_pos rfl]
    · have f : ∀ y : Int, y < 4 * (n : Int) → K 11 y = M 11 y := fun y hy => by rw [h4, if_neg (by omega), if_neg (by omega), if_neg (by omega), if_neg (by omega)]
      rw [f _ (by omega), f _ (by omega), f _ (by omega), f _ (by omega)]
      exact ea.2 e (by omega)
theorem EvO_r {hv : Int → Int} {R D W T : Nat} {k a b t : Int} (hR : R ≤ 5) (hD : D ≤ 6) (hT : T ≤ 5) (h : EvO hv R D W T k a b t) : rI k ∧ rI a ∧ rI b ∧ rI t := by
  obtain ⟨k0, k1, k5, k2, k3, kb⟩ := h
  have c : k = 1 ∨ k = 5 ∨ (k = 2 ∨ k = 3 ∨ k = 4) := by omega
  rcases c with c | c | c
  · have := k1 c; omega
  · have := k5 c; omega
  · have := k2 c; omega
theorem EvS.s {hv ev : Int → Int} {R D W T n : Nat} (h : EvS hv ev R D W T n) (k : EvO hv R D W T (ev (4 * (n : Int))) (ev (4 * (n : Int) + 1)) (ev (4 * (n : Int) + 2)) (ev (4 * (n : Int) + 3))) : EvS hv ev R D W T (n + 1) := by
  intro e he
  by_cases q : e = n
  · subst q; exact k
  · exact h e (by omega)
/-- three blocks apart -/
theorem n_ap3 {r h e n k : Nat} (q1 : ap2 r h) (q2 : ap2 r e) (q3 : h ≠ e) : n_ap [(r, shX), (h, [.inr (0, n)]), (e, [.inr (0, k)])] := by
  have l0 : shX.length = 69 := rfl
  have l1 : ([.inr (0, n)] : MS).length = 1 := rfl
  have l2 : ([.inr (0, k)] : MS).length = 1 := rfl
  unfold ap2 at q1 q2
  intro i j p s hi hj hn k l hk hl
  rcases i with _ | _ | _ | i
  · rcases j with _ | _ | _ | j
    · exact absurd rfl hn
    · cases hi; cases hj
      simp only [l0, l1, l2] at hk hl ⊢
      omega
    · cases hi; cases hj
      simp only [l0, l1, l2] at hk hl ⊢
      omega
    · cases hj
  · rcases j with _ | _ | _ | j
    · cases hi; cases hj
      simp only [l0, l1, l2] at hk hl ⊢
      omega
    · exact absurd rfl hn
    · cases hi; cases hj
      simp only [l0, l1, l2] at hk hl ⊢
      omega
    · cases hj
  · rcases j with _ | _ | _ | j
    · cases hi; cases hj
      simp only [l0, l1, l2] at hk hl ⊢
      omega
    · cases hi; cases hj
      simp only [l0, l1, l2] at hk hl ⊢
      omega
    · exact absurd rfl hn
    · cases hj
  · cases hi

theorem c_events {G : GT} {a L r hh ee tr : Nat} {xs : Nat → Int32} {N0 : NM} {M0 Nn : MI} {R D W T : Nat} (hL : L ≤ 260) (har : a < r ∨ r + 69 ≤ a) (hah : a ≠ hh) (hae : a ≠ ee) (q1 : ap2 r hh) (q2 : ap2 r ee) (hhe : hh ≠ ee) (htr : tr ≤ 9) (ok : HOK ((N0 1).1 0) R D W T) (hC : CRn (N0 0) M0 Nn) (hM : HouM M0 ((N0 1).1 0) R D W T) : n_Spec G mtL_events (some (a, L, xs)) [mr r, mr a, mi 60, mr hh, mr ee, mi (tr : Int)] [(r, shX), (hh, [.inr (0, 64)]), (ee, [.inr (0, 48)])] N0 (fun v N => ∃ n : Nat, v = some (mi (n : Int)) ∧ n ≤ 9 ∧ N 1 = N0 1 ∧ EvS ((N0 1).1 0) ((N 2).1 0) R D W T n ∧ ∃ M, CRn (N 0) M Nn ∧ HouB M ((N0 1).1 0) R D W T ∧ EvA M ((N 2).1 0) n) := by
  refine n_Spec.of pnL_events rfl (fun i q h k hk => ?_) ?_
  · rcases i with _ | _ | _ | i
    · cases h
      have hk : k < 69 := hk
      show a ≠ r + k
      omega
    · cases h
      have hk : k < 1 := hk
      show a ≠ hh + k
      omega
    · cases h
      have hk : k < 1 := hk
      show a ≠ ee + k
      omega
    · cases h
  show n_Run G mtL_events _ _ (some (a, L, xs)) [(r, shX), (hh, [.inr (0, 64)]), (ee, [.inr (0, 48)])] 0 0 0 [(0, mr r), (1, mr a), (2, mi 60), (3, mr hh), (4, mr ee), (5, mi (tr : Int))] [] N0
  have hap := n_ap3 (n := 64) (k := 48) q1 q2 hhe
  generalize hQ : (fun (v : Option MV) (N : NM) => ∃ n : Nat, v = some (mi (n : Int)) ∧ n ≤ 9 ∧ N 1 = N0 1 ∧ EvS ((N0 1).1 0) ((N 2).1 0) R D W T n ∧ ∃ M, CRn (N 0) M Nn ∧ HouB M ((N0 1).1 0) R D W T ∧ EvA M ((N 2).1 0) n) = Q
  obtain ⟨hR, hD, hW, hT, -⟩ := id ok
  have lp : ∀ k : Nat, k ≤ tr → ∀ n : Nat, n ≤ k → ∀ N : NM, ∀ M, CRn (N 0) M Nn → HouB M ((N0 1).1 0) R D W T → EvA M ((N 2).1 0) n → EvS ((N0 1).1 0) ((N 2).1 0) R D W T n → N 1 = N0 1 → n_Run G mtL_events mtL_events.rm (n_Zc G mtL_events [(r, shX), (hh, [.inr (0, 64)]), (ee, [.inr (0, 48)])] Q) (some (a, L, xs)) [(r, shX), (hh, [.inr (0, 64)]), (ee, [.inr (0, 48)])] 0 0 6 [(0, mr r), (1, mr a), (2, mi 60), (3, mr hh), (4, mr ee), (5, mi (tr : Int)), (6, mi (n : Int)), (7, mi (k : Int))] [] N := by
    refine lpn tr (fun k hk ih => ?_) ?_
    · intro n hn N M hc hb ea es kN
      refine n_iload dL_events_6 7 rfl ?_
      refine n_iload dL_events_8 5 rfl ?_
      refine n_ic_ge (tgt := 86) dL_events_10 (by decide) (by omega) (fun h10 => ?_) (fun h10 => ?_)
      · exfalso; omega
      · refine n_aload_n dL_events_13 1 rfl rfl ?_
        refine n_iload_n dL_events_14 2 rfl rfl ?_
        refine n_iconst dL_events_15 ?_
        refine n_iload dL_events_16 7 rfl ?_
        refine n_imul dL_events_18 ?_
        refine n_iadd dL_events_19 ?_
        refine n_aload_n dL_events_20 3 rfl rfl ?_
        refine n_aload dL_events_21 4 rfl ?_
        refine n_iload dL_events_23 6 rfl ?_
        refine n_callS (ix := fun j => match j with | 0 => 1 | _ => 2) (as := [_, _, _, _, _]) dL_events_25 lvL_38 rfl ⟨rfl, rfl⟩ hap (fun j p hj => by rcases j with _ | _ | _ | j <;> first | exact hj | cases hj) (Or.inr rfl) (c_tells hL hah hae hhe (by omega) (by omega) (by show HOK ((N 1).1 0) R D W T; rw [kN]; exact ok)) (fun i j hi hj e => by rcases i with _ | _ | _ | i <;> rcases j with _ | _ | _ | j <;> first | rfl | exact absurd e (by decide) | (exfalso; simp at hi; done) | (exfalso; simp at hj; done) | (exfalso; simp at hi; omega) | (exfalso; simp at hj; omega)) rfl rfl rfl ⟨Nat.zero_le _, Nat.zero_le _⟩ (fun v25 C25 hq25 N25 hi25 ho25 => ?_)
        obtain ⟨z25, rfl, zz, t1, t2, t3⟩ := hq25
        have o0 : N25 0 = N 0 := ho25 0 (fun j hj => by rcases j with _ | _ | j <;> first | decide | (exfalso; simp at hj; done) | (exfalso; simp at hj; omega))
        have i1 : N25 1 = C25 0 := hi25 0 (by simp)
        have i2 : N25 2 = C25 1 := hi25 1 (by simp)
        have kN25 : N25 1 = N0 1 := i1.trans (t1.trans kN)
        have t2 : ∀ y : Int, y < 4 * (n : Int) → (N25 2).1 0 y = (N 2).1 0 y := fun y hy => by rw [i2]; exact t2 y hy
        have t3 : z25 = 1 → EvO ((N0 1).1 0) R D W T ((N25 2).1 0 (4 * (n : Int))) ((N25 2).1 0 (4 * (n : Int) + 1)) ((N25 2).1 0 (4 * (n : Int) + 2)) ((N25 2).1 0 (4 * (n : Int) + 3)) := fun q => by
          have := t3 q
          rw [i2, ← kN]
          exact this
        have ea2 := ea.cg t2
        have es1 := es.cg t2
        refine n_if_eq (tgt := 80) dL_events_28 (by decide) (by omega) (fun h28 => ?_) (fun h28 => ?_)
        · refine n_iinc (lv' := [(0, _), (1, _), (2, _), (3, _), (4, _), (5, _), (6, _), (7, _)]) dL_events_80 7 rfl rfl rfl ?_
          refine n_goto (tgt := 6) dL_events_83 (by decide) ?_
          first
          | exact ih (n + 1) (by omega) _ _ ⟨h, h', co66, cc66⟩ e2 e3 es2 kN25
          | exact ih n (by omega) _ M (by rw [o0]; exact hc) hb ea2 es1 kN25
        · have z1 : z25 = 1 := by omega
          have eo := t3 z1
          have er := EvO_r hR.2 hD.2 hT.2 eo
          obtain ⟨e1, e2, e3⟩ := ev_A hb ea2 (by omega) eo
          have es2 := es1.s eo
          obtain ⟨h, h', co, cc⟩ := hc
          rw [← o0] at co cc
          refine n_aload_n dL_events_31 0 rfl rfl ?_
          refine n_aload dL_events_32 4 rfl ?_
          refine n_iconst dL_events_34 ?_
          refine n_iload dL_events_35 6 rfl ?_
          refine n_imul dL_events_37 ?_
          refine n_iald (i := 2) (n := 48) dL_events_38 rfl (by omega) ?_
          refine n_aload dL_events_39 4 rfl ?_
          refine n_iconst dL_events_41 ?_
          refine n_iload dL_events_42 6 rfl ?_
          refine n_imul dL_events_44 ?_
          refine n_iconst dL_events_45 ?_
          refine n_iadd dL_events_46 ?_
          refine n_iald (i := 2) (n := 48) dL_events_47 rfl (by omega) ?_
          refine n_aload dL_events_48 4 rfl ?_
          refine n_iconst dL_events_50 ?_
          refine n_iload dL_events_51 6 rfl ?_
          refine n_imul dL_events_53 ?_
          refine n_iconst dL_events_54 ?_
          refine n_iadd dL_events_55 ?_
          refine n_iald (i := 2) (n := 48) dL_events_56 rfl (by omega) ?_
          refine n_aload dL_events_57 4 rfl ?_
          refine n_iconst dL_events_59 ?_
          refine n_iload dL_events_60 6 rfl ?_
          refine n_imul dL_events_62 ?_
          refine n_iconst dL_events_63 ?_
          refine n_iadd dL_events_64 ?_
          refine n_iald (i := 2) (n := 48) dL_events_65 rfl (by omega) ?_
          refine n_callVi (i := 0) (as := [_, _, _, _]) dL_events_66 lvL_42 rfl rfl ⟨rfl, rfl⟩ hap rfl (s_X7_event co cc er.1 er.2.1 er.2.2.1 er.2.2.2) (fun _ _ => rfl) rfl rfl rfl ⟨Nat.zero_le _, Nat.zero_le _⟩ (fun z66 I66 L66 R66 hq66 => ?_)
          obtain ⟨z66e, co66, cc66⟩ := hq66
          rw [e1] at z66e
          subst z66e
          have kN66 : True := trivial
          refine n_iload dL_events_69 6 rfl ?_
          refine n_ic_eq (tgt := 77) dL_events_71 (by decide) (by omega) (fun h71 => ?_) (fun h71 => ?_)
          · refine n_iinc (lv' := [(0, _), (1, _), (2, _), (3, _), (4, _), (5, _), (6, _), (7, _)]) dL_events_77 6 rfl rfl rfl ?_
            refine n_iinc (lv' := [(0, _), (1, _), (2, _), (3, _), (4, _), (5, _), (6, _), (7, _)]) dL_events_80 7 rfl rfl rfl ?_
            refine n_goto (tgt := 6) dL_events_83 (by decide) ?_
            first
            | exact ih (n + 1) (by omega) _ _ ⟨h, h', co66, cc66⟩ e2 e3 es2 kN25
            | exact ih n (by omega) _ M (by rw [o0]; exact hc) hb ea2 es1 kN25
          · exact absurd rfl h71
    · intro n hn N M hc hb ea es kN
      refine n_iload dL_events_6 7 rfl ?_
      refine n_iload dL_events_8 5 rfl ?_
      refine n_ic_ge (tgt := 86) dL_events_10 (by decide) (by omega) (fun h10 => ?_) (fun h10 => ?_)
      · refine n_iload dL_events_86 6 rfl ?_
        refine n_iret dL_events_88 rfl ?_
        rw [← hQ]
        exact ⟨n, rfl, by omega, kN, es, M, hc, hb, ea⟩
      · exfalso; omega
  refine n_iconst dL_events_0 ?_
  refine n_istore (lv' := [(0, _), (1, _), (2, _), (3, _), (4, _), (5, _), (6, _)]) dL_events_1 rfl rfl ?_
  refine n_iconst dL_events_3 ?_
  refine n_istore (lv' := [(0, _), (1, _), (2, _), (3, _), (4, _), (5, _), (6, _), (7, _)]) dL_events_4 rfl rfl ?_
  obtain ⟨hb0, h25⟩ := hM.b
  exact lp 0 (Nat.zero_le _) 0 (Nat.le_refl _) N0 M0 hC hb0 ⟨h25, fun e he => by omega⟩ (fun e he => by omega) rfl

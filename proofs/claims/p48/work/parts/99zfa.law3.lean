/-! THE LAW: both are told the night. -/
def mA (ev : Int → Int) (R : Nat) (e : Nat) : Int := if ev (4 * (e : Int)) = 1 ∨ ev (4 * (e : Int)) = 5 then ev (4 * (e : Int) + 1) else (R : Int) - 1 - ev (4 * (e : Int) + 1)
def mB (ev : Int → Int) (T : Nat) (e : Nat) : Int := if ev (4 * (e : Int)) = 5 then (T : Int) - 1 - ev (4 * (e : Int) + 3) else ev (4 * (e : Int) + 2)
def mT (ev : Int → Int) (T : Nat) (e : Nat) : Int := if ev (4 * (e : Int)) = 5 then (T : Int) - 1 - ev (4 * (e : Int) + 2) else if ev (4 * (e : Int)) = 1 then (T : Int) - 1 - ev (4 * (e : Int) + 3) else (T : Int) - ev (4 * (e : Int) + 3)
def EvB (M : MI) (ev : Int → Int) (R T n : Nat) : Prop := M 0 25 = n ∧ ∀ e : Nat, e < n → M 11 (4 * (e : Int) + 0) = ev (4 * (e : Int)) ∧ M 11 (4 * (e : Int) + 1) = mA ev R e ∧ M 11 (4 * (e : Int) + 2) = (if ev (4 * (e : Int)) = 3 ∨ ev (4 * (e : Int)) = 5 then mB ev T e else 0) ∧ M 11 (4 * (e : Int) + 3) = mT ev T e
def MG (hv gv : Int → Int) (R D W : Nat) : Prop := gv 4 = hv 4 ∧ (∀ e : Nat, e < D → gv (8 + 2 * (e : Int)) = (R : Int) - 1 - hv (9 + 2 * (e : Int)) ∧ gv (9 + 2 * (e : Int)) = (R : Int) - 1 - hv (8 + 2 * (e : Int))) ∧ ∀ w : Nat, w < W → gv (30 + (w : Int)) = hv (30 + (w : Int))
theorem EvO_m {hv gv ev : Int → Int} {R D W T e : Nat} (m : MG hv gv R D W) (hT : T ≤ 5) (h : EvO hv R D W T (ev (4 * (e : Int))) (ev (4 * (e : Int) + 1)) (ev (4 * (e : Int) + 2)) (ev (4 * (e : Int) + 3))) : EvO gv R D W T (ev (4 * (e : Int))) (mA ev R e) (mB ev T e) (mT ev T e) := by
  obtain ⟨k0, k1, k5, k2, k3, kb⟩ := h
  have bt : ∀ a : Nat, bt_ gv a = bt_ hv a := fun a => by unfold bt_; rw [m.1]
  unfold mA mB mT EvO
  generalize ev (4 * (e : Int)) = k at *
  have c : k = 1 ∨ k = 5 ∨ (k = 2 ∨ k = 3 ∨ k = 4) := by omega
  rcases c with c | c | c
  · obtain ⟨z1, z2, z3⟩ := k1 c
    rw [if_pos (show k = 1 ∨ k = 5 from Or.inl c), if_neg (show ¬ k = 5 by omega), if_neg (show ¬ k = 5 by omega), if_pos c]
    exact ⟨k0, fun _ => ⟨z1, by rw [bt]; exact z2, by omega⟩, fun _ => by omega, fun _ => by omega, fun _ => by omega, kb⟩
  · have := k5 c
    rw [if_pos (show k = 1 ∨ k = 5 from Or.inr c), if_pos c, if_pos c]
    exact ⟨k0, fun _ => by omega, fun _ => by omega, fun _ => by omega, fun _ => by omega, by omega⟩
  · have z := k2 c
    rw [if_neg (show ¬ (k = 1 ∨ k = 5) by omega), if_neg (show ¬ k = 5 by omega), if_neg (show ¬ k = 5 by omega), if_neg (show ¬ k = 1 by omega)]
    exact ⟨k0, fun _ => by omega, fun _ => by omega, fun _ => by omega, k3, kb⟩
theorem ev_B {M : MI} {hv ev : Int → Int} {R D W T n : Nat} (hb : HouB M hv R D W T) (ea : EvB M ev R T n) (hn : n < 24) (ok : EvO hv R D W T (ev (4 * (n : Int))) (mA ev R n) (mB ev T n) (mT ev T n)) : (s_event (ev (4 * (n : Int))) (mA ev R n) (mB ev T n) (mT ev T n) M).1 = n ∧ HouB (s_event (ev (4 * (n : Int))) (mA ev R n) (mB ev T n) (mT ev T n) M).2 hv R D W T ∧ EvB (s_event (ev (4 * (n : Int))) (mA ev R n) (mB ev T n) (mT ev T n) M).2 ev R T (n + 1) := by
  obtain ⟨h1, h2, h3, h4⟩ := ev_add hb ea.1 hn ok
  generalize (s_event (ev (4 * (n : Int))) (mA ev R n) (mB ev T n) (mT ev T n) M).2 = K at *
  refine ⟨h1, ?_, h3, fun e he => ?_⟩
  · obtain ⟨⟨a1, a2, a3, a4⟩, hd, hw⟩ := hb
    refine ⟨⟨by rw [h2 0 11 (by decide) (by decide)]; exact a1, by rw [h2 0 12 (by decide) (by decide)]; exact a2, by rw [h2 0 13 (by decide) (by decide)]; exact a3, by rw [h2 0 14 (by decide) (by decide)]; exact a4⟩, fun e he => ?_, fun w hw' => ?_⟩
    · rw [h2 7 _ (by decide) (by omega), h2 7 _ (by decide) (by omega), h2 7 _ (by decide) (by omega)]
      exact hd e he
    · rw [h2 8 _ (by decide) (by omega), h2 8 _ (by decide) (by omega)]
      exact hw w hw'
  · by_cases q : e = n
    · subst q
      rw [h4, h4, h4, h4]
      refine ⟨?_, ?_, ?_, ?_⟩
      · rw [if_neg (by omega), if_neg (by omega), if_neg (by omega), if_pos (by omega)]
      · rw [if_neg (by omega), if_neg (by omega), if_pos rfl]
      · rw [if_neg (by omega), if_pos rfl]
      · rw [if_pos rfl]
    · have f : ∀ y : Int, y < 4 * (n : Int) → K 11 y = M 11 y := fun y hy => by rw [h4, if_neg (by omega), if_neg (by omega), if_neg (by omega), if_neg (by omega)]
      rw [f _ (by omega), f _ (by omega), f _ (by omega), f _ (by omega)]
      exact ea.2 e (by omega)
theorem full_b : ∀ R : Nat, R < 6 → ∀ r : Nat, r < R → tb (z_shl 1 (R : Int) - 1) r = true := by decide
theorem mark5 {M : MI} {e n : Nat} (h25 : M 0 25 = n) (he : e < n) (h5 : M 11 (4 * (e : Int) + 0) = 5) : s_mark e 5 M = (M 11 (4 * (e : Int) + 2) - M 11 (4 * (e : Int) + 3) + 1, M) := by
  unfold s_mark
  rw [if_neg (by omega), if_neg (by rw [h5]; simp), if_neg (by decide), if_pos rfl]
/-- one is the mirror of the other -/
theorem pm_of {B B' : MM} {M Nn M' Nn' : MI} {hv gv ev : Int → Int} {R D W T n : Nat} (hc : CRn B M Nn) (hc' : CRn B' M' Nn') (hb : HouB M hv R D W T) (hb' : HouB M' gv R D W T) (ea : EvA M ev n) (eb : EvB M' ev R T n) (es : EvS hv ev R D W T n) (m : MG hv gv R D W) (hR : R ≤ 5) : PM M M' := by
  obtain ⟨h, h', co, -⟩ := hc
  obtain ⟨g, g', co', -⟩ := hc'
  have f1 := co.2.2.2.2.1
  have f2 := co'.2.2.2.2.1
  obtain ⟨⟨a1, a2, a3, a4⟩, ad, aw⟩ := hb
  obtain ⟨⟨b1, b2, b3, b4⟩, bd, bw⟩ := hb'
  refine ⟨⟨f1.1, f1.2.1, f1.2.2.1⟩, ⟨f2.1, f2.2.1, f2.2.2.1⟩, ⟨b1.trans a1.symm, b2.trans a2.symm, b3.trans a3.symm, b4.trans a4.symm, eb.1.trans ea.1.symm⟩, fun e he => ?_, fun w hw => ?_, fun e he => ?_⟩
  · rw [a2] at he
    obtain ⟨u1, u2, u3⟩ := ad e (by omega)
    obtain ⟨v1, v2, v3⟩ := bd e (by omega)
    obtain ⟨m1, m2⟩ := m.2.1 e (by omega)
    rw [a1, u1, u2, u3, v1, v2, v3, m1, m2]
    refine ⟨rfl, rfl, ?_⟩
    unfold bt_
    rw [m.1]
  · rw [a3] at hw
    obtain ⟨u1, u2⟩ := aw w (by omega)
    obtain ⟨v1, v2⟩ := bw w (by omega)
    refine ⟨by rw [u1, v1]; exact m.2.2 w (by omega), fun r hr => ?_⟩
    rw [a1] at hr
    rw [u2, v2]
    exact ⟨full_b R (by omega) r (by omega), full_b R (by omega) r (by omega)⟩
  · rw [ea.1] at he
    obtain ⟨u1, u2, u3, u4⟩ := ea.2 e (by omega)
    obtain ⟨v1, v2, v3, v4⟩ := eb.2 e (by omega)
    obtain ⟨k0, k1, k5, k2, k3, kb⟩ := es e (by omega)
    unfold EvM
    rw [u1, u2, u3, u4, v1, v2, v3, v4, a1, a4]
    unfold mA mB mT
    generalize ev (4 * (e : Int)) = k at *
    have c : k = 1 ∨ k = 5 ∨ k = 3 ∨ (k = 2 ∨ k = 4) := by omega
    rcases c with c | c | c | c
    · rw [if_pos (show k = 1 ∨ k = 5 from Or.inl c), if_neg (show ¬ (k = 3 ∨ k = 5) by omega), if_neg (show ¬ (k = 3 ∨ k = 5) by omega), if_neg (show ¬ k = 5 by omega), if_pos c]
      exact ⟨rfl, fun _ => rfl, fun _ => by omega, fun _ => rfl, fun _ => by omega, fun _ => by omega⟩
    · rw [if_pos (show k = 1 ∨ k = 5 from Or.inr c), if_pos (show k = 3 ∨ k = 5 from Or.inr c), if_pos (show k = 3 ∨ k = 5 from Or.inr c), if_pos c, if_pos c]
      exact ⟨rfl, fun _ => rfl, fun _ => by omega, fun _ => by omega, fun _ => ⟨rfl, rfl⟩, fun _ => by omega⟩
    · rw [if_neg (show ¬ (k = 1 ∨ k = 5) by omega), if_pos (show k = 3 ∨ k = 5 from Or.inl c), if_pos (show k = 3 ∨ k = 5 from Or.inl c), if_neg (show ¬ k = 5 by omega), if_neg (show ¬ k = 5 by omega), if_neg (show ¬ k = 1 by omega)]
      exact ⟨rfl, fun _ => by omega, fun _ => ⟨rfl, rfl⟩, fun _ => by omega, fun _ => by omega, fun _ => rfl⟩
    · rw [if_neg (show ¬ (k = 1 ∨ k = 5) by omega), if_neg (show ¬ (k = 3 ∨ k = 5) by omega), if_neg (show ¬ (k = 3 ∨ k = 5) by omega), if_neg (show ¬ k = 5 by omega), if_neg (show ¬ k = 1 by omega)]
      exact ⟨rfl, fun _ => by omega, fun _ => ⟨rfl, rfl⟩, fun _ => by omega, fun _ => by omega, fun _ => by omega⟩

section
variable {G : GT} {sc : NC} {a ro rq hh gg ee : Nat} {R D W T n : Nat} {ok : Bool}
theorem lw_258 (hap : n_ap [(ro, shX), (rq, shX), (hh, [.inr (0, 64)]), (gg, [.inr (0, 64)]), (ee, [.inr (0, 48)])]) (hB : 2 ≤ R ∧ R ≤ 5 ∧ 1 ≤ D ∧ D ≤ 6 ∧ 1 ≤ W ∧ W ≤ 3 ∧ 1 ≤ T ∧ T ≤ 5 ∧ n ≤ 9) {hv gv ev : Int → Int} {M Nn Nn' : MI} (ok : HOK hv R D W T) (mg : MG hv gv R D W) (es : EvS hv ev R D W T n) (hb : HouB M hv R D W T) (ea : EvA M ev n) : ∀ k : Nat, k ≤ n → ∀ {N : NM} {M' : MI}, CRn (N 0) M Nn → CRn (N 1) M' Nn' → HouB M' gv R D W T → EvB M' ev R T k → (N 2).1 0 = hv → (N 4).1 0 = ev → n_Run G mtL_law room_1 n_Zl sc [(ro, shX), (rq, shX), (hh, [.inr (0, 64)]), (gg, [.inr (0, 64)]), (ee, [.inr (0, 48)])] 600000 7302250 258 [(0, mr a), (1, mr ro), (2, mr rq), (3, mr hh), (4, mr gg), (5, mr ee), (6, mi (W : Int)), (7, mi (T : Int)), (8, mi (R : Int)), (9, mi (n : Int)), (10, mi (k : Int))] [] N := by
  refine lpn n (fun k hk ih => ?_) ?_
  · intro N M' hc hq hb' eb hhv hev
    have eo := es k hk
    have em := EvO_m mg (by omega) eo
    have er := EvO_r (by omega) (by omega) (by omega) em
    obtain ⟨e1, e2, e3⟩ := ev_B hb' eb (by omega) em
    obtain ⟨k0, k1, k5, k2, k3, kb⟩ := eo
    have l2 : ∀ x : Int, n_Run G mtL_law room_1 n_Zl sc [(ro, shX), (rq, shX), (hh, [.inr (0, 64)]), (gg, [.inr (0, 64)]), (ee, [.inr (0, 48)])] 600000 7302250 419 [(0, mr a), (1, mr ro), (2, mr rq), (3, mr hh), (4, mr gg), (5, mr ee), (6, mi (W : Int)), (7, mi (T : Int)), (8, mi (R : Int)), (9, mi (n : Int)), (10, mi (k : Int)), (11, mi (ev (4 * (k : Int)))), (12, mi x), (13, mi (mA ev R k)), (14, mi (mT ev T k)), (15, mi (mB ev T k))] [] N := by
      intro x
      refine n_aload_n dL_law_419 2 rfl rfl ?_
      refine n_iload dL_law_420 11 rfl ?_
      refine n_iload dL_law_422 13 rfl ?_
      refine n_iload dL_law_424 15 rfl ?_
      refine n_iload dL_law_426 14 rfl ?_
      refine n_callWi (i := 1) (as := [_, _, _, _]) dL_law_428 lvL_42 rfl rfl ⟨rfl, rfl⟩ hap rfl (x_event hq er.1 er.2.1 er.2.2.1 er.2.2.2) (fun _ _ => rfl) rfl rfl rfl ⟨Nat.le_of_ble_eq_true rfl, Nat.le_of_ble_eq_true rfl⟩ (fun z428 N428 hq428 ho428 => ?_)
      obtain ⟨e428, c428⟩ := hq428
      refine n_iload dL_law_431 10 rfl ?_
      refine n_neF (tgt := 459) dL_law_433 (by decide) (by rw [e428]; exact e1) ?_
      refine n_iload dL_law_436 11 rfl ?_
      refine n_iconst dL_law_438 ?_
      refine n_ic_ne (tgt := 461) dL_law_439 (by decide) (by omega) (fun h439 => ?_) (fun h439 => ?_)
      · refine n_iinc (lv' := [(0, _), (1, _), (2, _), (3, _), (4, _), (5, _), (6, _), (7, _), (8, _), (9, _), (10, _), (11, _), (12, _), (13, _), (14, _), (15, _)]) dL_law_461 10 rfl rfl rfl ?_
        refine n_goto (tgt := 258) dL_law_464 (by decide) ?_
        refine n_top (lv' := [(0, _), (1, _), (2, _), (3, _), (4, _), (5, _), (6, _), (7, _), (8, _), (9, _), (10, _)]) 11 rfl ?_
        first
        | exact ih hc1 hq1 e2 e3 (by rw [ho453 2 (by decide), ho446 2 (by decide), ho428 2 (by decide)]; exact hhv) (by rw [ho453 4 (by decide), ho446 4 (by decide), ho428 4 (by decide)]; exact hev)
        | exact ih (by rw [ho428 0 (by decide)]; exact hc) c428 e2 e3 (by rw [ho428 2 (by decide)]; exact hhv) (by rw [ho428 4 (by decide)]; exact hev)
      · have h5 : ev (4 * (k : Int)) = 5 := h439
        have hcN : CRn (N428 0) M Nn := by rw [ho428 0 (by decide)]; exact hc
        obtain ⟨u1, u2, u3, u4⟩ := ea.2 k hk
        obtain ⟨v1, v2, v3, v4⟩ := e3.2 k (Nat.lt_succ_self k)
        have mk1 := mark5 ea.1 hk (by rw [u1]; exact h5)
        have mk2 := mark5 e3.1 (Nat.lt_succ_self k) (by rw [v1]; exact h5)
        refine n_aload_n dL_law_442 1 rfl rfl ?_
        refine n_iload dL_law_443 10 rfl ?_
        refine n_iconst dL_law_445 ?_
        refine n_callWi (i := 0) (as := [_, _]) dL_law_446 lvL_70 rfl rfl ⟨rfl, rfl⟩ hap rfl (x_mark (M := M) hcN (by omega) (by omega)) (fun _ _ => rfl) rfl rfl rfl ⟨Nat.le_of_ble_eq_true rfl, Nat.le_of_ble_eq_true rfl⟩ (fun z446 N446 hq446 ho446 => ?_)
        obtain ⟨e446, c446⟩ := hq446
        refine n_aload_n dL_law_449 2 rfl rfl ?_
        rw [mk1] at c446
        have hc1 := c446
        have hqN := c428
        rw [← ho446 1 (by decide)] at hqN
        refine n_iload dL_law_450 10 rfl ?_
        refine n_iconst dL_law_452 ?_
        refine n_callWi (i := 1) (as := [_, _]) dL_law_453 lvL_70 rfl rfl ⟨rfl, rfl⟩ hap rfl (x_mark hqN (by omega) (by omega)) (fun _ _ => rfl) rfl rfl rfl ⟨Nat.le_of_ble_eq_true rfl, Nat.le_of_ble_eq_true rfl⟩ (fun z453 N453 hq453 ho453 => ?_)
        obtain ⟨e453, c453⟩ := hq453
        rw [mk2] at c453
        have hq1 := c453
        have hc1 : CRn (N453 0) M Nn := by rw [ho453 0 (by decide)]; exact hc1
        refine n_eqT (tgt := 461) dL_law_456 (by decide) (by rw [e446, e453, mk1, mk2]; show M 11 _ - M 11 _ + 1 = _ - _ + 1; rw [u3, u4, v3, v4, if_pos (Or.inr h5), if_pos (Or.inr h5)]; unfold mB mT; rw [if_pos h5, if_pos h5]; omega) ?_
        refine n_iinc (lv' := [(0, _), (1, _), (2, _), (3, _), (4, _), (5, _), (6, _), (7, _), (8, _), (9, _), (10, _), (11, _), (12, _), (13, _), (14, _), (15, _)]) dL_law_461 10 rfl rfl rfl ?_
        refine n_goto (tgt := 258) dL_law_464 (by decide) ?_
        refine n_top (lv' := [(0, _), (1, _), (2, _), (3, _), (4, _), (5, _), (6, _), (7, _), (8, _), (9, _), (10, _)]) 11 rfl ?_
        first
        | exact ih hc1 hq1 e2 e3 (by rw [ho453 2 (by decide), ho446 2 (by decide), ho428 2 (by decide)]; exact hhv) (by rw [ho453 4 (by decide), ho446 4 (by decide), ho428 4 (by decide)]; exact hev)
        | exact ih (by rw [ho428 0 (by decide)]; exact hc) c428 e2 e3 (by rw [ho428 2 (by decide)]; exact hhv) (by rw [ho428 4 (by decide)]; exact hev)
    have l3 : ∀ x a' t' b' : Int, a' = mA ev R k → t' = mT ev T k → b' = mB ev T k → n_Run G mtL_law room_1 n_Zl sc [(ro, shX), (rq, shX), (hh, [.inr (0, 64)]), (gg, [.inr (0, 64)]), (ee, [.inr (0, 48)])] 600000 7302250 419 [(0, mr a), (1, mr ro), (2, mr rq), (3, mr hh), (4, mr gg), (5, mr ee), (6, mi (W : Int)), (7, mi (T : Int)), (8, mi (R : Int)), (9, mi (n : Int)), (10, mi (k : Int)), (11, mi (ev (4 * (k : Int)))), (12, mi x), (13, mi a'), (14, mi t'), (15, mi b')] [] N := fun x a' t' b' h1 h2 h3 => by
      rw [h1, h2, h3]
      exact l2 x
    refine n_iload dL_law_258 10 rfl ?_
    refine n_iload dL_law_260 9 rfl ?_
    refine n_ic_ge (tgt := 467) dL_law_262 (by decide) (by omega) (fun h262 => ?_) (fun h262 => ?_)
    · exfalso; omega
    · refine n_aload dL_law_265 5 rfl ?_
      refine n_iconst dL_law_267 ?_
      refine n_iload dL_law_268 10 rfl ?_
      refine n_imul dL_law_270 ?_
      refine n_ialdv (i := 4) (n := 48) dL_law_271 rfl (by omega) (congrFun hev _) ?_
      refine n_istore (lv' := [(0, _), (1, _), (2, _), (3, _), (4, _), (5, _), (6, _), (7, _), (8, _), (9, _), (10, _), (11, _)]) dL_law_272 rfl rfl ?_
      refine n_iload dL_law_274 11 rfl ?_
      refine n_iconst dL_law_276 ?_
      refine n_ic_eq (tgt := 286) dL_law_277 (by decide) (by omega) (fun h277 => ?_) (fun h277 => ?_)
      · refine n_iconst dL_law_286 ?_
        refine n_goto (tgt := 291) dL_law_287 (by decide) ?_
        refine n_istore (lv' := [(0, _), (1, _), (2, _), (3, _), (4, _), (5, _), (6, _), (7, _), (8, _), (9, _), (10, _), (11, _), (12, _)]) dL_law_291 rfl rfl ?_
        refine n_iload dL_law_293 12 rfl ?_
        refine n_if_eq (tgt := 310) dL_law_295 (by decide) (by omega) (fun h295 => ?_) (fun h295 => ?_)
        · exfalso; omega
        · refine n_aload dL_law_298 5 rfl ?_
          refine n_iconst dL_law_300 ?_
          refine n_iload dL_law_301 10 rfl ?_
          refine n_imul dL_law_303 ?_
          refine n_iconst dL_law_304 ?_
          refine n_iadd dL_law_305 ?_
          refine n_ialdv (i := 4) (n := 48) dL_law_306 rfl (by omega) (congrFun hev _) ?_
          refine n_goto (tgt := 324) dL_law_307 (by decide) ?_
          refine n_istore (lv' := [(0, _), (1, _), (2, _), (3, _), (4, _), (5, _), (6, _), (7, _), (8, _), (9, _), (10, _), (11, _), (12, _), (13, _)]) dL_law_324 rfl rfl ?_
          refine n_iload dL_law_326 11 rfl ?_
          refine n_iconst dL_law_328 ?_
          refine n_ic_ne (tgt := 349) dL_law_329 (by decide) (by omega) (fun h329 => ?_) (fun h329 => ?_)
          · refine n_iload dL_law_349 12 rfl ?_
            refine n_if_eq (tgt := 371) dL_law_351 (by decide) (by omega) (fun h351 => ?_) (fun h351 => ?_)
            · exfalso; omega
            · refine n_iload dL_law_354 7 rfl ?_
              refine n_iconst dL_law_356 ?_
              refine n_isub dL_law_357 ?_
              refine n_aload dL_law_358 5 rfl ?_
              refine n_iconst dL_law_360 ?_
              refine n_iload dL_law_361 10 rfl ?_
              refine n_imul dL_law_363 ?_
              refine n_iconst dL_law_364 ?_
              refine n_iadd dL_law_365 ?_
              refine n_ialdv (i := 4) (n := 48) dL_law_366 rfl (by omega) (congrFun hev _) ?_
              refine n_isub dL_law_367 ?_
              refine n_goto (tgt := 383) dL_law_368 (by decide) ?_
              refine n_istore (lv' := [(0, _), (1, _), (2, _), (3, _), (4, _), (5, _), (6, _), (7, _), (8, _), (9, _), (10, _), (11, _), (12, _), (13, _), (14, _)]) dL_law_383 rfl rfl ?_
              refine n_iload dL_law_385 11 rfl ?_
              refine n_iconst dL_law_387 ?_
              refine n_ic_ne (tgt := 408) dL_law_388 (by decide) (by omega) (fun h388 => ?_) (fun h388 => ?_)
              · refine n_aload dL_law_408 5 rfl ?_
                refine n_iconst dL_law_410 ?_
                refine n_iload dL_law_411 10 rfl ?_
                refine n_imul dL_law_413 ?_
                refine n_iconst dL_law_414 ?_
                refine n_iadd dL_law_415 ?_
                refine n_ialdv (i := 4) (n := 48) dL_law_416 rfl (by omega) (congrFun hev _) ?_
                refine n_istore (lv' := [(0, _), (1, _), (2, _), (3, _), (4, _), (5, _), (6, _), (7, _), (8, _), (9, _), (10, _), (11, _), (12, _), (13, _), (14, _), (15, _)]) dL_law_417 rfl rfl ?_
                refine l3 _ _ _ _ ?_ ?_ ?_
                · unfold mA; (repeat' split) <;> omega
                · unfold mT; (repeat' split) <;> omega
                · unfold mB; (repeat' split) <;> omega
              · refine n_iload dL_law_391 7 rfl ?_
                refine n_iconst dL_law_393 ?_
                refine n_isub dL_law_394 ?_
                refine n_aload dL_law_395 5 rfl ?_
                refine n_iconst dL_law_397 ?_
                refine n_iload dL_law_398 10 rfl ?_
                refine n_imul dL_law_400 ?_
                refine n_iconst dL_law_401 ?_
                refine n_iadd dL_law_402 ?_
                refine n_ialdv (i := 4) (n := 48) dL_law_403 rfl (by omega) (congrFun hev _) ?_
                refine n_isub dL_law_404 ?_
                refine n_goto (tgt := 417) dL_law_405 (by decide) ?_
                refine n_istore (lv' := [(0, _), (1, _), (2, _), (3, _), (4, _), (5, _), (6, _), (7, _), (8, _), (9, _), (10, _), (11, _), (12, _), (13, _), (14, _), (15, _)]) dL_law_417 rfl rfl ?_
                refine l3 _ _ _ _ ?_ ?_ ?_
                · unfold mA; (repeat' split) <;> omega
                · unfold mT; (repeat' split) <;> omega
                · unfold mB; (repeat' split) <;> omega
          · refine n_iload dL_law_332 7 rfl ?_
            refine n_iconst dL_law_334 ?_
            refine n_isub dL_law_335 ?_
            refine n_aload dL_law_336 5 rfl ?_
            refine n_iconst dL_law_338 ?_
            refine n_iload dL_law_339 10 rfl ?_
            refine n_imul dL_law_341 ?_
            refine n_iconst dL_law_342 ?_
            refine n_iadd dL_law_343 ?_
            refine n_ialdv (i := 4) (n := 48) dL_law_344 rfl (by omega) (congrFun hev _) ?_
            refine n_isub dL_law_345 ?_
            refine n_goto (tgt := 383) dL_law_346 (by decide) ?_
            refine n_istore (lv' := [(0, _), (1, _), (2, _), (3, _), (4, _), (5, _), (6, _), (7, _), (8, _), (9, _), (10, _), (11, _), (12, _), (13, _), (14, _)]) dL_law_383 rfl rfl ?_
            refine n_iload dL_law_385 11 rfl ?_
            refine n_iconst dL_law_387 ?_
            refine n_ic_ne (tgt := 408) dL_law_388 (by decide) (by omega) (fun h388 => ?_) (fun h388 => ?_)
            · refine n_aload dL_law_408 5 rfl ?_
              refine n_iconst dL_law_410 ?_
              refine n_iload dL_law_411 10 rfl ?_
              refine n_imul dL_law_413 ?_
              refine n_iconst dL_law_414 ?_
              refine n_iadd dL_law_415 ?_
              refine n_ialdv (i := 4) (n := 48) dL_law_416 rfl (by omega) (congrFun hev _) ?_
              refine n_istore (lv' := [(0, _), (1, _), (2, _), (3, _), (4, _), (5, _), (6, _), (7, _), (8, _), (9, _), (10, _), (11, _), (12, _), (13, _), (14, _), (15, _)]) dL_law_417 rfl rfl ?_
              refine l3 _ _ _ _ ?_ ?_ ?_
              · unfold mA; (repeat' split) <;> omega
              · unfold mT; (repeat' split) <;> omega
              · unfold mB; (repeat' split) <;> omega
            · refine n_iload dL_law_391 7 rfl ?_
              refine n_iconst dL_law_393 ?_
              refine n_isub dL_law_394 ?_
              refine n_aload dL_law_395 5 rfl ?_
              refine n_iconst dL_law_397 ?_
              refine n_iload dL_law_398 10 rfl ?_
              refine n_imul dL_law_400 ?_
              refine n_iconst dL_law_401 ?_
              refine n_iadd dL_law_402 ?_
              refine n_ialdv (i := 4) (n := 48) dL_law_403 rfl (by omega) (congrFun hev _) ?_
              refine n_isub dL_law_404 ?_
              refine n_goto (tgt := 417) dL_law_405 (by decide) ?_
              refine n_istore (lv' := [(0, _), (1, _), (2, _), (3, _), (4, _), (5, _), (6, _), (7, _), (8, _), (9, _), (10, _), (11, _), (12, _), (13, _), (14, _), (15, _)]) dL_law_417 rfl rfl ?_
              refine l3 _ _ _ _ ?_ ?_ ?_
              · unfold mA; (repeat' split) <;> omega
              · unfold mT; (repeat' split) <;> omega
              · unfold mB; (repeat' split) <;> omega
      · refine n_iload dL_law_280 11 rfl ?_
        refine n_iconst dL_law_282 ?_
        refine n_ic_ne (tgt := 290) dL_law_283 (by decide) (by omega) (fun h283 => ?_) (fun h283 => ?_)
        · refine n_iconst dL_law_290 ?_
          refine n_istore (lv' := [(0, _), (1, _), (2, _), (3, _), (4, _), (5, _), (6, _), (7, _), (8, _), (9, _), (10, _), (11, _), (12, _)]) dL_law_291 rfl rfl ?_
          refine n_iload dL_law_293 12 rfl ?_
          refine n_if_eq (tgt := 310) dL_law_295 (by decide) (by omega) (fun h295 => ?_) (fun h295 => ?_)
          · refine n_iload dL_law_310 8 rfl ?_
            refine n_iconst dL_law_312 ?_
            refine n_isub dL_law_313 ?_
            refine n_aload dL_law_314 5 rfl ?_
            refine n_iconst dL_law_316 ?_
            refine n_iload dL_law_317 10 rfl ?_
            refine n_imul dL_law_319 ?_
            refine n_iconst dL_law_320 ?_
            refine n_iadd dL_law_321 ?_
            refine n_ialdv (i := 4) (n := 48) dL_law_322 rfl (by omega) (congrFun hev _) ?_
            refine n_isub dL_law_323 ?_
            refine n_istore (lv' := [(0, _), (1, _), (2, _), (3, _), (4, _), (5, _), (6, _), (7, _), (8, _), (9, _), (10, _), (11, _), (12, _), (13, _)]) dL_law_324 rfl rfl ?_
            refine n_iload dL_law_326 11 rfl ?_
            refine n_iconst dL_law_328 ?_
            refine n_ic_ne (tgt := 349) dL_law_329 (by decide) (by omega) (fun h329 => ?_) (fun h329 => ?_)
            · refine n_iload dL_law_349 12 rfl ?_
              refine n_if_eq (tgt := 371) dL_law_351 (by decide) (by omega) (fun h351 => ?_) (fun h351 => ?_)
              · refine n_iload dL_law_371 7 rfl ?_
                refine n_aload dL_law_373 5 rfl ?_
                refine n_iconst dL_law_375 ?_
                refine n_iload dL_law_376 10 rfl ?_
                refine n_imul dL_law_378 ?_
                refine n_iconst dL_law_379 ?_
                refine n_iadd dL_law_380 ?_
                refine n_ialdv (i := 4) (n := 48) dL_law_381 rfl (by omega) (congrFun hev _) ?_
                refine n_isub dL_law_382 ?_
                refine n_istore (lv' := [(0, _), (1, _), (2, _), (3, _), (4, _), (5, _), (6, _), (7, _), (8, _), (9, _), (10, _), (11, _), (12, _), (13, _), (14, _)]) dL_law_383 rfl rfl ?_
                refine n_iload dL_law_385 11 rfl ?_
                refine n_iconst dL_law_387 ?_
                refine n_ic_ne (tgt := 408) dL_law_388 (by decide) (by omega) (fun h388 => ?_) (fun h388 => ?_)
                · refine n_aload dL_law_408 5 rfl ?_
                  refine n_iconst dL_law_410 ?_
                  refine n_iload dL_law_411 10 rfl ?_
                  refine n_imul dL_law_413 ?_
                  refine n_iconst dL_law_414 ?_
                  refine n_iadd dL_law_415 ?_
                  refine n_ialdv (i := 4) (n := 48) dL_law_416 rfl (by omega) (congrFun hev _) ?_
                  refine n_istore (lv' := [(0, _), (1, _), (2, _), (3, _), (4, _), (5, _), (6, _), (7, _), (8, _), (9, _), (10, _), (11, _), (12, _), (13, _), (14, _), (15, _)]) dL_law_417 rfl rfl ?_
                  refine l3 _ _ _ _ ?_ ?_ ?_
                  · unfold mA; (repeat' split) <;> omega
                  · unfold mT; (repeat' split) <;> omega
                  · unfold mB; (repeat' split) <;> omega
                · refine n_iload dL_law_391 7 rfl ?_
                  refine n_iconst dL_law_393 ?_
                  refine n_isub dL_law_394 ?_
                  refine n_aload dL_law_395 5 rfl ?_
                  refine n_iconst dL_law_397 ?_
                  refine n_iload dL_law_398 10 rfl ?_
                  refine n_imul dL_law_400 ?_
                  refine n_iconst dL_law_401 ?_
                  refine n_iadd dL_law_402 ?_
                  refine n_ialdv (i := 4) (n := 48) dL_law_403 rfl (by omega) (congrFun hev _) ?_
                  refine n_isub dL_law_404 ?_
                  refine n_goto (tgt := 417) dL_law_405 (by decide) ?_
                  refine n_istore (lv' := [(0, _), (1, _), (2, _), (3, _), (4, _), (5, _), (6, _), (7, _), (8, _), (9, _), (10, _), (11, _), (12, _), (13, _), (14, _), (15, _)]) dL_law_417 rfl rfl ?_
                  refine l3 _ _ _ _ ?_ ?_ ?_
                  · unfold mA; (repeat' split) <;> omega
                  · unfold mT; (repeat' split) <;> omega
                  · unfold mB; (repeat' split) <;> omega
              · exfalso; omega
            · refine n_iload dL_law_332 7 rfl ?_
              refine n_iconst dL_law_334 ?_
              refine n_isub dL_law_335 ?_
              refine n_aload dL_law_336 5 rfl ?_
              refine n_iconst dL_law_338 ?_
              refine n_iload dL_law_339 10 rfl ?_
              refine n_imul dL_law_341 ?_
              refine n_iconst dL_law_342 ?_
              refine n_iadd dL_law_343 ?_
              refine n_ialdv (i := 4) (n := 48) dL_law_344 rfl (by omega) (congrFun hev _) ?_
              refine n_isub dL_law_345 ?_
              refine n_goto (tgt := 383) dL_law_346 (by decide) ?_
              refine n_istore (lv' := [(0, _), (1, _), (2, _), (3, _), (4, _), (5, _), (6, _), (7, _), (8, _), (9, _), (10, _), (11, _), (12, _), (13, _), (14, _)]) dL_law_383 rfl rfl ?_
              refine n_iload dL_law_385 11 rfl ?_
              refine n_iconst dL_law_387 ?_
              refine n_ic_ne (tgt := 408) dL_law_388 (by decide) (by omega) (fun h388 => ?_) (fun h388 => ?_)
              · refine n_aload dL_law_408 5 rfl ?_
                refine n_iconst dL_law_410 ?_
                refine n_iload dL_law_411 10 rfl ?_
                refine n_imul dL_law_413 ?_
                refine n_iconst dL_law_414 ?_
                refine n_iadd dL_law_415 ?_
                refine n_ialdv (i := 4) (n := 48) dL_law_416 rfl (by omega) (congrFun hev _) ?_
                refine n_istore (lv' := [(0, _), (1, _), (2, _), (3, _), (4, _), (5, _), (6, _), (7, _), (8, _), (9, _), (10, _), (11, _), (12, _), (13, _), (14, _), (15, _)]) dL_law_417 rfl rfl ?_
                refine l3 _ _ _ _ ?_ ?_ ?_
                · unfold mA; (repeat' split) <;> omega
                · unfold mT; (repeat' split) <;> omega
                · unfold mB; (repeat' split) <;> omega
              · refine n_iload dL_law_391 7 rfl ?_
                refine n_iconst dL_law_393 ?_
                refine n_isub dL_law_394 ?_
                refine n_aload dL_law_395 5 rfl ?_
                refine n_iconst dL_law_397 ?_
                refine n_iload dL_law_398 10 rfl ?_
                refine n_imul dL_law_400 ?_
                refine n_iconst dL_law_401 ?_
                refine n_iadd dL_law_402 ?_
                refine n_ialdv (i := 4) (n := 48) dL_law_403 rfl (by omega) (congrFun hev _) ?_
                refine n_isub dL_law_404 ?_
                refine n_goto (tgt := 417) dL_law_405 (by decide) ?_
                refine n_istore (lv' := [(0, _), (1, _), (2, _), (3, _), (4, _), (5, _), (6, _), (7, _), (8, _), (9, _), (10, _), (11, _), (12, _), (13, _), (14, _), (15, _)]) dL_law_417 rfl rfl ?_
                refine l3 _ _ _ _ ?_ ?_ ?_
                · unfold mA; (repeat' split) <;> omega
                · unfold mT; (repeat' split) <;> omega
                · unfold mB; (repeat' split) <;> omega
          · exfalso; omega
        · refine n_iconst dL_law_286 ?_
          refine n_goto (tgt := 291) dL_law_287 (by decide) ?_
          refine n_istore (lv' := [(0, _), (1, _), (2, _), (3, _), (4, _), (5, _), (6, _), (7, _), (8, _), (9, _), (10, _), (11, _), (12, _)]) dL_law_291 rfl rfl ?_
          refine n_iload dL_law_293 12 rfl ?_
          refine n_if_eq (tgt := 310) dL_law_295 (by decide) (by omega) (fun h295 => ?_) (fun h295 => ?_)
          · exfalso; omega
          · refine n_aload dL_law_298 5 rfl ?_
            refine n_iconst dL_law_300 ?_
            refine n_iload dL_law_301 10 rfl ?_
            refine n_imul dL_law_303 ?_
            refine n_iconst dL_law_304 ?_
            refine n_iadd dL_law_305 ?_
            refine n_ialdv (i := 4) (n := 48) dL_law_306 rfl (by omega) (congrFun hev _) ?_
            refine n_goto (tgt := 324) dL_law_307 (by decide) ?_
            refine n_istore (lv' := [(0, _), (1, _), (2, _), (3, _), (4, _), (5, _), (6, _), (7, _), (8, _), (9, _), (10, _), (11, _), (12, _), (13, _)]) dL_law_324 rfl rfl ?_
            refine n_iload dL_law_326 11 rfl ?_
            refine n_iconst dL_law_328 ?_
            refine n_ic_ne (tgt := 349) dL_law_329 (by decide) (by omega) (fun h329 => ?_) (fun h329 => ?_)
            · refine n_iload dL_law_349 12 rfl ?_
              refine n_if_eq (tgt := 371) dL_law_351 (by decide) (by omega) (fun h351 => ?_) (fun h351 => ?_)
              · exfalso; omega
              · refine n_iload dL_law_354 7 rfl ?_
                refine n_iconst dL_law_356 ?_
                refine n_isub dL_law_357 ?_
                refine n_aload dL_law_358 5 rfl ?_
                refine n_iconst dL_law_360 ?_
                refine n_iload dL_law_361 10 rfl ?_
                refine n_imul dL_law_363 ?_
                refine n_iconst dL_law_364 ?_
                refine n_iadd dL_law_365 ?_
                refine n_ialdv (i := 4) (n := 48) dL_law_366 rfl (by omega) (congrFun hev _) ?_
                refine n_isub dL_law_367 ?_
                refine n_goto (tgt := 383) dL_law_368 (by decide) ?_
                refine n_istore (lv' := [(0, _), (1, _), (2, _), (3, _), (4, _), (5, _), (6, _), (7, _), (8, _), (9, _), (10, _), (11, _), (12, _), (13, _), (14, _)]) dL_law_383 rfl rfl ?_
                refine n_iload dL_law_385 11 rfl ?_
                refine n_iconst dL_law_387 ?_
                refine n_ic_ne (tgt := 408) dL_law_388 (by decide) (by omega) (fun h388 => ?_) (fun h388 => ?_)
                · refine n_aload dL_law_408 5 rfl ?_
                  refine n_iconst dL_law_410 ?_
                  refine n_iload dL_law_411 10 rfl ?_
                  refine n_imul dL_law_413 ?_
                  refine n_iconst dL_law_414 ?_
                  refine n_iadd dL_law_415 ?_
                  refine n_ialdv (i := 4) (n := 48) dL_law_416 rfl (by omega) (congrFun hev _) ?_
                  refine n_istore (lv' := [(0, _), (1, _), (2, _), (3, _), (4, _), (5, _), (6, _), (7, _), (8, _), (9, _), (10, _), (11, _), (12, _), (13, _), (14, _), (15, _)]) dL_law_417 rfl rfl ?_
                  refine l3 _ _ _ _ ?_ ?_ ?_
                  · unfold mA; (repeat' split) <;> omega
                  · unfold mT; (repeat' split) <;> omega
                  · unfold mB; (repeat' split) <;> omega
                · refine n_iload dL_law_391 7 rfl ?_
                  refine n_iconst dL_law_393 ?_
                  refine n_isub dL_law_394 ?_
                  refine n_aload dL_law_395 5 rfl ?_
                  refine n_iconst dL_law_397 ?_
                  refine n_iload dL_law_398 10 rfl ?_
                  refine n_imul dL_law_400 ?_
                  refine n_iconst dL_law_401 ?_
                  refine n_iadd dL_law_402 ?_
                  refine n_ialdv (i := 4) (n := 48) dL_law_403 rfl (by omega) (congrFun hev _) ?_
                  refine n_isub dL_law_404 ?_
                  refine n_goto (tgt := 417) dL_law_405 (by decide) ?_
                  refine n_istore (lv' := [(0, _), (1, _), (2, _), (3, _), (4, _), (5, _), (6, _), (7, _), (8, _), (9, _), (10, _), (11, _), (12, _), (13, _), (14, _), (15, _)]) dL_law_417 rfl rfl ?_
                  refine l3 _ _ _ _ ?_ ?_ ?_
                  · unfold mA; (repeat' split) <;> omega
                  · unfold mT; (repeat' split) <;> omega
                  · unfold mB; (repeat' split) <;> omega
            · refine n_iload dL_law_332 7 rfl ?_
              refine n_iconst dL_law_334 ?_
              refine n_isub dL_law_335 ?_
              refine n_aload dL_law_336 5 rfl ?_
              refine n_iconst dL_law_338 ?_
              refine n_iload dL_law_339 10 rfl ?_
              refine n_imul dL_law_341 ?_
              refine n_iconst dL_law_342 ?_
              refine n_iadd dL_law_343 ?_
              refine n_ialdv (i := 4) (n := 48) dL_law_344 rfl (by omega) (congrFun hev _) ?_
              refine n_isub dL_law_345 ?_
              refine n_goto (tgt := 383) dL_law_346 (by decide) ?_
              refine n_istore (lv' := [(0, _), (1, _), (2, _), (3, _), (4, _), (5, _), (6, _), (7, _), (8, _), (9, _), (10, _), (11, _), (12, _), (13, _), (14, _)]) dL_law_383 rfl rfl ?_
              refine n_iload dL_law_385 11 rfl ?_
              refine n_iconst dL_law_387 ?_
              refine n_ic_ne (tgt := 408) dL_law_388 (by decide) (by omega) (fun h388 => ?_) (fun h388 => ?_)
              · refine n_aload dL_law_408 5 rfl ?_
                refine n_iconst dL_law_410 ?_
                refine n_iload dL_law_411 10 rfl ?_
                refine n_imul dL_law_413 ?_
                refine n_iconst dL_law_414 ?_
                refine n_iadd dL_law_415 ?_
                refine n_ialdv (i := 4) (n := 48) dL_law_416 rfl (by omega) (congrFun hev _) ?_
                refine n_istore (lv' := [(0, _), (1, _), (2, _), (3, _), (4, _), (5, _), (6, _), (7, _), (8, _), (9, _), (10, _), (11, _), (12, _), (13, _), (14, _), (15, _)]) dL_law_417 rfl rfl ?_
                refine l3 _ _ _ _ ?_ ?_ ?_
                · unfold mA; (repeat' split) <;> omega
                · unfold mT; (repeat' split) <;> omega
                · unfold mB; (repeat' split) <;> omega
              · refine n_iload dL_law_391 7 rfl ?_
                refine n_iconst dL_law_393 ?_
                refine n_isub dL_law_394 ?_
                refine n_aload dL_law_395 5 rfl ?_
                refine n_iconst dL_law_397 ?_
                refine n_iload dL_law_398 10 rfl ?_
                refine n_imul dL_law_400 ?_
                refine n_iconst dL_law_401 ?_
                refine n_iadd dL_law_402 ?_
                refine n_ialdv (i := 4) (n := 48) dL_law_403 rfl (by omega) (congrFun hev _) ?_
                refine n_isub dL_law_404 ?_
                refine n_goto (tgt := 417) dL_law_405 (by decide) ?_
                refine n_istore (lv' := [(0, _), (1, _), (2, _), (3, _), (4, _), (5, _), (6, _), (7, _), (8, _), (9, _), (10, _), (11, _), (12, _), (13, _), (14, _), (15, _)]) dL_law_417 rfl rfl ?_
                refine l3 _ _ _ _ ?_ ?_ ?_
                · unfold mA; (repeat' split) <;> omega
                · unfold mT; (repeat' split) <;> omega
                · unfold mB; (repeat' split) <;> omega
  · intro N M' hc hq hb' eb hhv hev
    refine n_iload dL_law_258 10 rfl ?_
    refine n_iload dL_law_260 9 rfl ?_
    refine n_ic_ge (tgt := 467) dL_law_262 (by decide) (by omega) (fun h262 => ?_) (fun h262 => ?_)
    · refine n_top (lv' := [(0, _), (1, _), (2, _), (3, _), (4, _), (5, _), (6, _), (7, _), (8, _), (9, _)]) 10 rfl ?_
      refine lw_467 (ok := okA M) hap hB (M := M) (Nn := Nn) (M' := M') (Nn' := Nn') ⟨⟨hc, hq⟩, pm_of hc hq hb hb' ea eb es mg (by omega), ⟨hb.1.1, hb.1.2.1, hb.1.2.2.1, hb.1.2.2.2, ea.1⟩, rfl, ?_⟩
      rw [hhv]
      exact ok.2.2.2.2.1.2.1
    · exfalso; omega
end

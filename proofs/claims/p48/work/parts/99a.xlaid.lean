/-! CLASS AND REFERENCE: the Plan laid is the scene. -/
theorem an_18 : ∀ r : Nat, r < 6 → tb 16515072 (18 + r) = true := by decide
theorem an_lo : ∀ r : Nat, r < 18 → tb 16515072 r = false := by decide
theorem anX_18 {I : MI} {h r : Nat} (hr : r < 6) : ∀ u, tb (anX I h u) (18 + r) = true
  | 0 => an_18 r hr
  | u + 1 => by
    unfold anX
    rw [tb_or, anX_18 hr u]
    rfl
theorem bgX_18 {I : MI} {h r : Nat} (hr : r < 6) : ∀ u, tb (bgX I h u) (18 + r) = true
  | 0 => an_18 r hr
  | u + 1 => by
    unfold bgX
    rw [tb_or, bgX_18 hr u]
    rfl
theorem anX_w {I : MI} {h w r : Nat} (h0 : 1 ≤ I h 0 ∧ I h 0 ≤ 6) (hr : (r : Int) < I h 0) : ∀ u, u ≤ 3 → w < u → tb (anX I h u) (6 * w + r) = true
  | 0, _, hw => by omega
  | u + 1, hu, hw => by
    unfold anX
    rw [tb_or, Bool.or_eq_true]
    by_cases e : w = u
    · subst e
      right
      rw [tb_shl (by omega) (by omega), Bool.and_eq_true, decide_eq_true_eq, show 6 * w + r - (6 * (w : Int)).toNat = r by omega, tb_low (by omega) (by omega), decide_eq_true_eq]
      omega
    · exact Or.inl (anX_w h0 hr u (by omega) (by omega))
theorem bgX_w {I : MI} {h w r : Nat} (hb : ∀ v : Nat, v < 3 → v ≤ w → ∀ x, 6 ≤ x → x < 32 → tb (I (h + 4) (v : Int)) x = false) (hr : r < 6) (hw : w < 3) : ∀ u, u ≤ 3 → (tb (bgX I h u) (6 * w + r) = true ↔ w < u ∧ tb (I (h + 4) (w : Int)) r = true)
  | 0, _ => by
    unfold bgX
    rw [an_lo _ (by omega)]
    exact ⟨fun z => Bool.noConfusion z, fun z => absurd z.1 (by omega)⟩
  | u + 1, hu => by
    have ih := bgX_w hb hr hw u (by omega)
    unfold bgX
    rw [tb_or, Bool.or_eq_true, ih, tb_shl (by omega) (by omega), Bool.and_eq_true, decide_eq_true_eq]
    by_cases e : w = u
    · subst e
      rw [show 6 * w + r - (6 * (w : Int)).toNat = r by omega]
      constructor
      · rintro (z | z)
        · exact ⟨by omega, z.2⟩
        · exact ⟨by omega, z.2⟩
      · rintro ⟨-, z⟩
        exact Or.inr ⟨by omega, z⟩
    · by_cases y : w < u
      · constructor
        · rintro (z | z)
          · exact ⟨by omega, z.2⟩
          · omega
        · rintro ⟨z1, z2⟩
          exact Or.inl ⟨y, z2⟩
      · constructor
        · rintro (z | ⟨z1, z2⟩)
          · omega
          · rw [hb u (by omega) (by omega) _ (by omega) (by omega)] at z2
            exact Bool.noConfusion z2
        · rintro ⟨z1, z2⟩
          omega
theorem tb_64 {x : Int} (h : 0 ≤ x ∧ x < 64) {k : Nat} (h6 : 6 ≤ k) (hk : k < 32) : tb x k = false := by
  rw [tb_int (by omega)]
  have h1 : 2 ^ 6 ≤ 2 ^ k := Nat.pow_le_pow_right (by omega) h6
  exact Nat.testBit_lt_two_pow (by omega)
theorem SHP_e {I J : MI} {p h : Nat} (e1 : J p 1 = I p 1) (e3 : J p 3 = I p 3) (e : ∀ c i, c = p + 5 ∨ c = p + 6 ∨ c = p + 7 → J c i = I c i) (h0 : J h 0 = I h 0) (h3 : ∀ i, J (h + 3) i = I (h + 3) i) (s : SHP p h I) : SHP p h J := by
  refine ⟨?_, fun w hw => ?_, fun a b c ha hb hc => ?_⟩
  · rw [e3, std_c e1 h0 h3]
    exact s.1
  · rw [e _ _ (Or.inl rfl), e _ _ (Or.inr (Or.inl rfl)), std_c e1 h0 h3, stW_c e1 h0 h3]
    exact s.2.1 w hw
  · rw [stW_c e1 h0 h3] at ha hb hc
    rw [stW_c e1 h0 h3, stW_c e1 h0 h3, e _ _ (Or.inr (Or.inr rfl))]
    have z := s.2.2 a b c ha hb hc
    rw [z]
    unfold sp3
    rw [spX_c e1 h0, spX_c e1 h0, spX_c e1 h0]
section
variable {I M J0 : MI} {p h nn : Nat} {k v : Int}
/-- behind each event taken -/
theorem lay_ev (hp : p = 42 ∨ p = 50) (hh : h = 32 ∨ h = 37) (hn : nn = 58 ∨ nn = 63) (hH : iHs M) (hE : iEvs M) (hEL : iEvL M) (hr : HRL I M h) (nr : NRL I M nn) (hk : 0 ≤ k ∧ k ≤ M 0 13) (mk : MK p h k v I J0) (wo : Int) : ∀ e : Nat, (e : Int) ≤ M 0 25 →
    (∀ t : Nat, (t : Int) ≤ M 0 14 → TKR (tkF J0 p nn wo e) (scn (pm M) wo k e) p k t) ∧ tkF J0 p nn wo e p 4 = b01 (al (gdF (pm M) wo k) e = true) := by
  obtain ⟨m1, m2, m4, m5, m6, m7⟩ := mk
  obtain ⟨⟨q0, q1, q2, q3, q4⟩, q5, q6⟩ := hr
  obtain ⟨c1, c2, c3, c4, c5, c6⟩ := id hH
  have pm7 : ∀ j, pm M 7 j = M 7 j := fun j => pm_at (by unfold per; omega)
  have pm8 : ∀ j, pm M 8 j = M 8 j := fun j => pm_at (by unfold per; omega)
  have pm11 : ∀ j, pm M 11 j = M 11 j := fun j => pm_at (by unfold per; omega)
  have p11 : pm M 0 11 = M 0 11 := pm_at (by unfold per; omega)
  have p12 : pm M 0 12 = M 0 12 := pm_at (by unfold per; omega)
  have s0 : ∀ e j, (j = 11 ∨ j = 12) → scn (pm M) wo k e 0 j = pm M 0 j := fun e j hj => by
    rw [scn_0]; unfold sc0; rw [if_pos rfl, if_neg (by omega), if_neg (by omega), if_neg (by omega), if_neg (by omega)]
  have j1 : J0 p 1 = k := by rw [m1]; omega
  intro e
  induction e with
  | zero =>
    intro _
    refine ⟨fun t ht => ?_, ?_⟩
    · have z := m6 t (by omega)
      have a13 : ∀ c : Nat, c = 13 ∨ c = 14 ∨ c = 15 ∨ c = 16 → ∀ j, scn (pm M) wo k 0 c j = 0 := fun c hc j => by
        show sc0 (pm M) k c j = 0
        unfold sc0
        rw [if_neg (by omega), if_pos hc]
      have a17 : ∀ j, scn (pm M) wo k 0 17 j = -1 := fun j => rfl
      have a8 : ∀ j, scn (pm M) wo k 0 8 j = M 8 j := fun j => (scn_ot (by omega) j 0).trans (pm8 j)
      have ku : (min k (I h 2)).toNat = k.toNat := by omega
      show TKR J0 _ p k t
      unfold TKR
      rw [a13 13 (by omega), a13 14 (by omega), a13 15 (by omega), a13 16 (by omega), s0 0 11 (Or.inl rfl), p11]
      simp only [a17, a8]
      rw [z.1, z.2.1, z.2.2.1, z.2.2.2, ku]
      refine ⟨rfl, rfl, rfl, fun x _ _ => tb_0 x, fun r hr => ?_, fun w r hw hr => ?_, fun x _ hx => ?_⟩
      · split
        · exact bgX_18 hr _
        · exact anX_18 hr _
      · have hbg := (q6 w (by omega)).2
        by_cases e : t = 0
        · rw [if_pos e, bgX_w (fun v hv hvw x hx6 hx => ?_) (by omega) (by omega) _ (by omega), tb_0, hbg]
          · constructor
            · rintro ⟨z1, z2⟩
              exact ⟨rfl, Or.inl trivial, fun _ => z2⟩
            · rintro ⟨-, -, z2⟩
              exact ⟨by omega, z2 e⟩
          · rw [(q6 v (by omega)).2]
            have := c6 (v : Int) (by omega) (by omega)
            exact tb_64 (by omega) hx6 hx
        · rw [if_neg e, anX_w (by omega) (by omega) _ (by omega) (by omega), tb_0]
          exact ⟨fun _ => ⟨rfl, Or.inl trivial, fun z => absurd z e⟩, fun _ => rfl⟩
      · rw [tb_0] at hx
        exact Bool.noConfusion hx
    · exact m4.trans (b01_t rfl)
  | succ e ih =>
    intro he
    obtain ⟨i1, i2⟩ := ih (by omega)
    have n1 : ∀ c i, c = nn + 1 ∨ c = nn + 2 ∨ c = nn + 3 ∨ c = nn + 4 → J0 c i = I c i := fun c i q => m7 c i (by omega)
    obtain ⟨f1, f2, f3, f4⟩ := nr.2 e (by omega)
    have tk : tkF J0 p nn wo (e + 1) = if tb wo e = true then tkF J0 p nn wo e else tkE (tkF J0 p nn wo e) p (M 11 (4 * (e : Int) + 0)) (z_shl 1 (M 11 (4 * (e : Int) + 1))) (M 11 (4 * (e : Int) + 2)) (M 11 (4 * (e : Int) + 3)) := by
      rw [← f1, ← f2, ← f3, ← f4, ← n1 (nn + 1) _ (by omega), ← n1 (nn + 2) _ (by omega), ← n1 (nn + 3) _ (by omega), ← n1 (nn + 4) _ (by omega)]
      rfl
    have s11 : ∀ j, scn (pm M) wo k e 11 j = M 11 j := fun j => (scn_ot (by omega) j e).trans (pm11 j)
    have s7 : ∀ j, scn (pm M) wo k e 7 j = M 7 j := fun j => (scn_ot (by omega) j e).trans (pm7 j)
    have sn : scn (pm M) wo k (e + 1) = if tb wo e = true then scn (pm M) wo k e else ntM (M 11 (4 * (e : Int) + 0)) (M 11 (4 * (e : Int) + 1)) (M 11 (4 * (e : Int) + 2)) (M 11 (4 * (e : Int) + 3)) (scn (pm M) wo k e) := by
      rw [← s11 (4 * (e : Int) + 0), ← s11 (4 * (e : Int) + 1), ← s11 (4 * (e : Int) + 2), ← s11 (4 * (e : Int) + 3)]
      rfl
    have ag : al (gdF (pm M) wo k) (e + 1) = (al (gdF (pm M) wo k) e && (tb wo e || !(decide (M 11 (4 * (e : Int) + 0) = 3)) || decide (M 11 (4 * (e : Int) + 2) < k))) := by
      rw [← pm11 (4 * (e : Int) + 0), ← pm11 (4 * (e : Int) + 2)]
      rfl
    by_cases q : tb wo e = true
    · rw [tk, sn, ag, if_pos q, if_pos q, q]
      refine ⟨i1, ?_⟩
      rw [Bool.true_or, Bool.true_or, Bool.and_true]
      exact i2
    · rw [tk, sn, ag, if_neg q, if_neg q]
      have hv := hE.2 e (by omega)
      have hl := hEL (e : Int) (by omega) (by omega)
      obtain ⟨v1, v2, v3, v4, v5, v6⟩ := hv
      obtain ⟨l1, l2, l3, l4, l5⟩ := hl
      have t1 : tkF J0 p nn wo e p 1 = k := (tkF_fr J0 p nn wo e (by omega) (by omega)).trans j1
      refine ⟨fun t ht => tk_step ⟨by omega, by omega⟩ (by rw [s0 e 11 (Or.inl rfl), p11]; exact c1) t1 ⟨v1, v2, v3, v4, v5, v6, fun z => ?_, fun z => ?_⟩ (by omega) (i1 t ht), ?_⟩
      · rw [s0 e 12 (Or.inr rfl), p12, s7]
        exact ⟨(l1 (Or.inl z)).1, l2 z⟩
      · rw [s0 e 11 (Or.inl rfl), p11]
        exact (l4 z).1
      · have hf : tb wo e = false := by cases y : tb wo e; rfl; exact absurd y q
        rw [hf, Bool.false_or]
        by_cases y : M 11 (4 * (e : Int) + 0) = 3
        · by_cases y2 : M 11 (4 * (e : Int) + 2) < k
          · have e4 : tkE (tkF J0 p nn wo e) p (M 11 (4 * (e : Int) + 0)) (z_shl 1 (M 11 (4 * (e : Int) + 1))) (M 11 (4 * (e : Int) + 2)) (M 11 (4 * (e : Int) + 3)) p 4 = tkF J0 p nn wo e p 4 := by
              unfold tkE
              rw [if_neg (by omega), if_neg (by omega), if_pos y, if_neg (show ¬ tkF J0 p nn wo e p 1 ≤ M 11 (4 * (e : Int) + 2) by omega), m_up_ne (by omega)]
            rw [e4, decide_eq_true y2, Bool.or_true, Bool.and_true]
            exact i2
          · have e4 : tkE (tkF J0 p nn wo e) p (M 11 (4 * (e : Int) + 0)) (z_shl 1 (M 11 (4 * (e : Int) + 1))) (M 11 (4 * (e : Int) + 2)) (M 11 (4 * (e : Int) + 3)) p 4 = 0 := by
              unfold tkE
              rw [if_neg (by omega), if_neg (by omega), if_pos y, if_pos (show tkF J0 p nn wo e p 1 ≤ M 11 (4 * (e : Int) + 2) by omega), m_up_eq]
            rw [e4, decide_eq_true y, decide_eq_false y2, Bool.not_true, Bool.false_or, Bool.and_false]
            exact b01_f (fun z => Bool.noConfusion z)
        · have e4 : tkE (tkF J0 p nn wo e) p (M 11 (4 * (e : Int) + 0)) (z_shl 1 (M 11 (4 * (e : Int) + 1))) (M 11 (4 * (e : Int) + 2)) (M 11 (4 * (e : Int) + 3)) p 4 = tkF J0 p nn wo e p 4 := by
            unfold tkE
            split
            · rw [m_up_ne (by omega)]
            · split
              · rw [m_up_ne (by omega)]
              · split
                · rw [m_up_ne (by omega)]
                · exact shF_fr _ p _ _ _ _ _ (by omega)
          rw [e4, decide_eq_false y, Bool.not_false, Bool.true_or, Bool.and_true]
          exact i2
/-- what no plan touches stays -/
theorem lay_fr (mk : MK p h k v I J0) (wo : Int) (e : Nat) (c : Nat) (i : Int) (hc : ¬ (p ≤ c ∧ c ≤ p + 7)) : tkF J0 p nn wo e c i = I c i := (tkF_fr J0 p nn wo e (by omega) (by omega)).trans (mk.2.2.2.2.2 c i hc)
theorem lay_PK (hp : p = 42 ∨ p = 50) (hh : h = 32 ∨ h = 37) (hn : nn = 58 ∨ nn = 63) (hH : iHs M) (hE : iEvs M) (hEL : iEvL M) (hr : HRL I M h) (nr : NRL I M nn) (hk : 0 ≤ k ∧ k ≤ M 0 13) (mk : MK p h k v I J0) (wo : Int) {J : MI} (hJ : J = tkF J0 p nn wo (J0 nn 0).toNat) :
    (∃ n, PK J p h n (kap M wo k)) ∧ J p 4 = b01 (gd M wo k = true) ∧ J p 2 = v ∧ (∀ t x : Nat, (t : Int) ≤ M 0 14 → x < 32 → tb (kap M wo k 13 (t : Int)) x = true → (x : Int) < M 0 12 ∧ M 7 (3 * (x : Int) + 2) = 1) := by
  have lv := lay_ev hp hh hn hH hE hEL hr nr hk mk wo (M 0 25).toNat (by have := hE.1; omega)
  have fr := fun c i hc => lay_fr (nn := nn) mk wo (M 0 25).toNat c i hc
  have tf := fun {c : Nat} {i : Int} (h1 : ¬ (c = p ∧ i = 4)) (h2 : ¬ (p + 1 ≤ c ∧ c ≤ p + 4)) => tkF_fr J0 p nn wo (M 0 25).toNat h1 h2
  have jn : (J0 nn 0).toNat = (M 0 25).toNat := by rw [mk.2.2.2.2.2 nn 0 (by omega), nr.1]
  rw [jn] at hJ
  rw [← hJ] at lv fr
  have tf2 : ∀ {c : Nat} {i : Int}, ¬ (c = p ∧ i = 4) → ¬ (p + 1 ≤ c ∧ c ≤ p + 4) → J c i = J0 c i := fun {c i} h1 h2 => by rw [hJ]; exact tf h1 h2
  obtain ⟨m1, m2, m4, m5, m6, m7⟩ := mk
  obtain ⟨⟨q0, q1, q2, q3, q4⟩, q5, q6⟩ := hr
  obtain ⟨c1, c2, c3, c4, c5, c6⟩ := id hH
  have pm7 : ∀ j, pm M 7 j = M 7 j := fun j => pm_at (by unfold per; omega)
  have kp7 : ∀ j, kap M wo k 7 j = M 7 j := fun j => kap_per (by unfold per; omega)
  have kp8 : ∀ j, kap M wo k 8 j = M 8 j := fun j => kap_per (by unfold per; omega)
  have k11 : kap M wo k 0 11 = M 0 11 := kap_per (by unfold per; omega)
  have k12 : kap M wo k 0 12 = M 0 12 := kap_per (by unfold per; omega)
  have k14 : kap M wo k 0 14 = M 0 14 := kap_per (by unfold per; omega)
  have k34 : kap M wo k 0 34 = k := by unfold kap; rw [scn_0]; unfold sc0; simp
  have fh : ∀ c i, (c = h ∨ c = h + 1 ∨ c = h + 2 ∨ c = h + 3 ∨ c = h + 4) → J c i = I c i := fun c i hc => fr c i (by omega)
  have j1 : J p 1 = k := by rw [tf2 (by omega) (by omega), m1]; omega
  have j3 : J p 3 = J0 p 3 := tf2 (by omega) (by omega)
  have okp : okP J h := by
    unfold okP
    rw [fh h 0 (by omega), fh h 2 (by omega), q0, q2]
    refine ⟨c1, c3, fun w hw => ?_⟩
    rw [fh (h + 3) _ (by omega), (q6 w hw).1]
    have := (c6 (w : Int) (by omega) hw).1
    omega
  have shp : SHP p h J := SHP_e (I := J0) (by rw [tf2 (by omega) (by omega)]) j3 (fun c i hc => tf2 (by omega) (by omega)) (by rw [fh h 0 (by omega), m7 h 0 (by omega)]) (fun i => by rw [fh (h + 3) i (by omega), m7 (h + 3) i (by omega)]) m5
  have hu : 0 ≤ J p 1 ∧ J p 1 ≤ J h 2 := by rw [j1, fh h 2 (by omega), q2]; exact hk
  have hs : 1 ≤ J p 3 := by rw [shp.1]; exact (std_r okp hu 3).1
  have sm : ∀ x : Int, rI x → (∀ b : Nat, b < 32 → tb x b = true → (b : Int) < M 0 12) → 0 ≤ x ∧ x < 256 := fun x hx q => sm8_r ⟨hx, fun b h8 hb => by
    cases y : tb x b
    · rfl
    · have := q b hb y
      omega⟩
  have tbo : ∀ b : Nat, b < 32 → tb (orf (bdF M) (M 0 12).toNat) b = true → (b : Int) < M 0 12 := fun b hb y => by
    obtain ⟨d, hd, y⟩ := (tb_orf _).mp y
    unfold bdF at y
    split at y
    · rw [tb_sh1 (by omega) hb, decide_eq_true_eq] at y
      omega
    · rw [tb_0] at y
      exact Bool.noConfusion y
  have d13 : ∀ t x : Nat, (t : Int) ≤ M 0 14 → x < 32 → tb (kap M wo k 13 (t : Int)) x = true → (x : Int) < M 0 12 ∧ M 7 (3 * (x : Int) + 2) = 1 := fun t x ht hx y => by
    have z := (lv.1 t ht).2.2.2.2.2.2 x hx y
    rw [← k12, ← kp7]
    exact z
  refine ⟨⟨(J p 3).toNat, ⟨shp, okp, ?_, hu, by omega, ?_, ?_, fun t ht => ?_⟩, kap_H hH wo k, kap_S hE hk, by rw [j1, k34], ⟨by rw [fh h 0 (by omega), q0, k11], by rw [fh h 1 (by omega), q1, k12], by rw [fh h 3 (by omega), q3, k14]⟩, fun d hd => ?_, fun w hw => ?_, fun t ht => ?_⟩, lv.2, by rw [tf2 (by omega) (by omega)]; exact m2, d13⟩
  · unfold okD
    rw [fh h 0 (by omega), fh h 1 (by omega), q0, q1]
    refine ⟨c2, fun d hd => ?_⟩
    rw [fh (h + 1) _ (by omega), fh (h + 2) _ (by omega), (q5 d hd).1, (q5 d hd).2]
    have := c5 (d : Int) (by omega) hd
    omega
  · rw [fh h 3 (by omega), q3]
    exact c4
  · rw [fh h 4 (by omega), q4]
    exact sm _ (orf_r _ _) tbo
  · rw [fh h 3 (by omega), q3] at ht
    rw [(lv.1 t (by omega)).1]
    exact sm _ (scn_r (by omega) _ _) (fun b hb y => (d13 t b (by omega) hb y).1)
  · rw [fh h 1 (by omega), q1] at hd
    rw [fh (h + 1) _ (by omega), fh (h + 2) _ (by omega), kp7, kp7]
    exact q5 d hd
  · rw [fh (h + 3) _ (by omega), kp8]
    exact (q6 w (by rw [j1] at hw; omega)).1
  · rw [fh h 3 (by omega), q3] at ht
    obtain ⟨r1, r2, r3, r4, r5, r6, r7⟩ := lv.1 t ht
    refine ⟨r1, r2, r3, r4, r5, fun w r hw hr => ?_⟩
    rw [j1] at hw
    rw [fh h 0 (by omega), q0] at hr
    exact r6 w r hw (by
      have e : scn (pm M) wo k (M 0 25).toNat 0 11 = M 0 11 := k11
      rw [e]
      exact hr)
/-- with every board heard -/
theorem lay_PKR {J : MI} {n : Nat} {wo : Int} (hk : PK J p h n (kap M wo k)) (h2 : J p 2 = orf (bdF M) (M 0 12).toNat) (hd : ∀ t x : Nat, (t : Int) ≤ M 0 14 → x < 32 → tb (kap M wo k 13 (t : Int)) x = true → (x : Int) < M 0 12 ∧ M 7 (3 * (x : Int) + 2) = 1) (hH : iHs M) : PKR J p h n (kap M wo k) := by
  have hl := PK_last hk
  have k14 : kap M wo k 0 14 = M 0 14 := kap_per (by unfold per; omega)
  have hl2 : ((lst (kap M wo k) : Nat) : Int) = M 0 14 := by have := hH.2.2.2.1; unfold lst; rw [k14]; omega
  have p12 : pm M 0 12 = M 0 12 := pm_at (by unfold per; omega)
  have ob : orf (bdF (pm M)) (M 0 12).toNat = orf (bdF M) (M 0 12).toNat := by
    have : bdF (pm M) = bdF M := by
      funext d
      unfold bdF
      rw [pm_at (by unfold per; omega)]
    rw [this]
  have k35 : kap M wo k 0 35 = orf (bdF M) (M 0 12).toNat := by
    unfold kap; rw [scn_0]; unfold sc0
    rw [if_pos rfl, if_neg (by decide), if_pos rfl, p12, ob]
  have k36 : kap M wo k 0 36 = -9 := by unfold kap; rw [scn_0]; unfold sc0; simp
  refine ⟨hk, fun t ht => ⟨?_, ?_⟩⟩
  · unfold byK
    rw [k36, if_neg (by omega), k35, h2]
  · have r1 := (hk.2.2.2.2.2.2.2 t (by omega)).1
    rw [r1, h2]
    have hS := hk.2.2.1
    refine tb_ext (z_and_r _ _) ?_ (fun b hb => ?_)
    · exact (hS.2.2.2.2 (t : Int) (by omega) (by have := hH.2.2.2.1; omega)).1
    · rw [tb_and]
      cases y : tb (kap M wo k 13 (t : Int)) b
      · rfl
      · rw [Bool.true_and, tb_orf]
        obtain ⟨z1, z2⟩ := hd t b (by omega) hb y
        refine ⟨b, by omega, ?_⟩
        unfold bdF
        rw [if_pos z2, tb_sh1 (by omega) hb, decide_eq_true_eq]
        omega
end
